/-! the reference: all rungs; ways and mends told -/
theorem rfN_cg2 {r r2 : Nat → Nat → Int32} {H b : Nat} (h1 : r2 33 = r 33) (h2 : r2 29 = r 29) : rfN r2 H b = rfN r H b := by
  have e1 : thF r2 = thF r := by funext i; unfold thF; rw [h1]
  have e2 : spF r2 b = spF r b := by funext i; unfold spF; rw [h2]
  unfold rfN
  rw [e1, e2]
theorem FAR_nl2 {k : Nat} (h : k ≤ 30) : ¬ FAR ≤ nI k := FAR_nle h
theorem FAR_le2 {k : Nat} (h : k ≤ 30) : nI k ≤ FAR := nI_le (b := 268435456) (by omega) (by omega)
section LZ
variable {st : Nat → Nat} {n s b k0 m : Nat} {md : Bool} {c : Nat → Int32} {mb : Nat → Option Nat} {n1 n2 : Nat} {sh : List Nat} {f : Nat → Int64} {l1 l2 l3 : Option Value}
theorem lay_loop {F : Int32} {H : Nat} (h : okS st n) (hn : n ≤ 5) (hc : c 2806 = nI H) (hH : H ≤ 20) : ∀ j i r w l4 l5 l6 l7, i + j = H → CM st n c r → rfN r H 0 = F → RelA st n md i (Fw st n md (bt F) i) (w 39) (r 41) → ∃ r2 w2, (∀ q, q ≠ 41 → q ≠ 42 → r2 q = r q) ∧ RelA st n md H (Fw st n md (bt F) H) (w2 39) (r2 41) ∧ ∀ X d Q, Wp X (d + 2) 162 59 [some (.ref 28), l1, some (.int (nI (6 ^ n))), some (.int (nI (i + 1))), l4, l5, l6, l7] [] (G c r w mb n1 n2 sh) Q = Q none (G c r2 w2 mb n1 n2 sh) := by
  intro j
  induction j with
  | zero =>
    intro i r w l4 l5 l6 l7 hi hC hF hR
    obtain rfl : i = H := by omega
    have e : nI i < nI (i + 1) := nI_lt (by omega) (by omega)
    refine ⟨r, w, fun _ _ _ => rfl, hR, fun X d Q => ?_⟩
    rw [s162_59]
    simp only [s162_0, s162_1, s162_2, s162_5, s162_6, s162_9, s162_12, s162_13, s162_14, s162_16, s162_17, s162_20, s162_21, s162_24, s162_25, s162_26, s162_29, s162_30, s162_33, s162_34, s162_35, s162_36, s162_39, s162_40, s162_41, s162_44, s162_45, s162_48, s162_50, s162_51, s162_54, s162_57, s162_58, s162_60, s162_61, s162_64, s162_67, s162_68, s162_69, s162_72, s162_73, s162_74, s162_75, s162_78, s162_80, s162_81, s162_85, s162_86, s162_89, s162_90, s162_93, s162_95, s162_96, s162_97, s162_98, s162_101, s162_103, s162_105, s162_106, s162_109, s162_112, s162_113, s162_117, s162_118, s162_121, s162_122, s162_126, s162_127, s162_130, s162_133, s162_134, s162_137, s162_139, s162_140, s162_142, s162_145, s162_146, s162_148, s162_150, s162_153, s162_155, s162_157, s162_158, s162_161, s162_162, s162_164, s162_166, s162_167, s162_170, s162_172, s162_175, s162_176, s162_179, s162_181, s162_182, s162_185, s162_186, s162_187, s162_190, s162_192, s162_193, s162_195, s162_196, s162_199, s162_201, s162_204, s162_205, s162_208, s162_209, s162_210, s162_213, s162_216, s162_219, s162_222, s162_225, s162_226, s162_230, s162_231, s162_234, s162_235, s162_238, s162_240, s162_241, s162_244, s162_246, s162_247, s162_248, s162_249, s162_252, s162_254, s162_255, s162_258, s162_260, s162_261, s162_262, s162_265, s162_268, s162_271, s162_274, zb0, zb1, ob_some, tl_s, tl_n, nk_i, nk_r, nk_n, nk_0, pk_us, pk_un, va_up_self, va_up_ne, ne_eq, Nat.reduceEqDiff, not_false_eq_true, true_and, and_true, eq_self, z11, z00, bI_z, gf_0_0, gf_0_1, gf_0_2, gf_0_3, gf_0_4, gf_0_5, gf_0_6, rcv_0, rcO_0, gf_1_0, gf_1_1, sf_1_1, gf_1_2, gf_1_3, gf_1_4, gf_1_5, sf_1_5, gf_1_6, sf_1_6, gf_1_7, sf_1_7, gf_1_8, sf_1_8, gf_1_9, sf_1_9, gf_1_10, sf_1_10, gf_1_11, sf_1_11, rcv_1, rcO_1, gf_6_0, sf_6_0, gf_6_1, sf_6_1, gf_6_2, sf_6_2, gf_6_3, sf_6_3, gf_6_4, gf_6_5, rcv_6, rcO_6, gf_9_0, gf_9_1, sf_9_1, rcv_9, rcO_9, gf_12_0, sf_12_0, gf_12_1, sf_12_1, gf_12_2, gf_12_3, rcv_12, rcO_12, gf_15_0, sf_15_0, gf_15_1, sf_15_1, gf_15_2, gf_15_3, rcv_15, rcO_15, gf_18_0, sf_18_0, gf_18_1, sf_18_1, gf_18_2, gf_18_3, gf_18_4, gf_18_5, sf_18_5, gf_18_6, sf_18_6, gf_18_7, sf_18_7, gf_18_8, sf_18_8, rcv_18, rcO_18, gf_24_0, gf_24_1, gf_24_2, sf_24_2, rcv_24, rcO_24, gf_28_0, gf_28_1, gf_28_2, gf_28_3, sf_28_3, gf_28_4, gf_28_5, sf_28_5, gf_28_6, sf_28_6, gf_28_7, gf_28_8, gf_28_9, gf_28_10, gf_28_11, gf_28_12, gf_28_13, sf_28_13, gf_28_14, sf_28_14, gf_28_15, sf_28_15, gf_28_16, sf_28_16, gf_28_17, sf_28_17, gf_28_18, sf_28_18, gf_28_19, gf_28_20, gf_28_21, gf_28_22, gf_28_23, gf_28_24, sf_28_24, gf_28_25, rcv_28, rcO_28, aI_2, aW_2, sI_2, aI_3, aW_3, sI_3, aI_4, aW_4, sI_4, aI_5, aW_5, sI_5, aI_7, aW_7, sI_7, aI_8, aW_8, sI_8, aI_13, aW_13, sI_13, aI_14, aW_14, sI_14, aI_16, aW_16, sI_16, aI_17, aW_17, sI_17, aI_21, aW_21, sI_21, aI_22, aW_22, sI_22, aI_23, aW_23, sI_23, aI_25, aW_25, sI_25, aI_26, aW_26, sI_26, aI_29, aW_29, sI_29, aI_31, aW_31, sI_31, aI_32, aW_32, sI_32, aI_33, aW_33, sI_33, aI_34, aW_34, sI_34, aI_35, aW_35, sI_35, aI_36, aW_36, sI_36, aI_37, aW_37, sI_37, aI_38, aW_38, sI_38, aI_41, aW_41, sI_41, aI_42, aW_42, sI_42, aI_43, aW_43, sI_43, aL_19, sL_19, aL_20, sL_20, aL_27, sL_27, aL_39, sL_39, aL_40, sL_40, aL_44, sL_44, aB_30, aZ_30, sZ_30, aQ_10, aQ_11, sQ_10, hc, e, true_implies, false_implies, not_true_eq_false, not_false_eq_true, and_self, true_and, and_true]
  | succ j ih =>
    intro i r w l4 l5 l6 l7 hi hC hF hR
    have e : ¬ nI H < nI (i + 1) := nI_nlt (by omega) (by omega)
    have es : nI (i + 1) - 1 = nI i := by
      rw [Int32.sub_eq_add_neg]
      exact pk_m1 i
    obtain ⟨r2, w2, f1, f2, f3, f4⟩ := lclear_loop (c := c) (mb := mb) (n1 := n1) (n2 := n2) (sh := sh) (l1 := l1) (l3 := some (.int (nI (i + 1)))) hn (6 ^ n) 0 r w (by omega) (fun q hq => absurd hq (Nat.not_lt_zero q))
    have hZ : RelA st n md (i + 1) (fun _ => 0) (w2 40) (r2 42) := RelA_z h f3
    obtain ⟨r3, w3, l8, l9, g1, g2, g3, g4⟩ := states_loop (frr := bt F i) (f := Fw st n md (bt F) i) (Gf := Fw st n md (bt F) (i + 1)) (c := c) (mb := mb) (n1 := n1) (n2 := n2) (sh := sh) (l1 := l1) (l3 := some (.int (nI (i + 1)))) h hn (show i ≤ 20 by omega) (6 ^ n) 0 0 r2 w2 _ l6 l7 (by omega) (hC.cg (f1 43 (by decide)) (f1 36 (by decide)) (f1 37 (by decide))) (by rw [f2 39 (by decide), f1 41 (by decide)]; exact hR) hZ (by omega) (fun s hs => absurd hs (Nat.not_lt_zero s)) (fun s _ _ => Nat.zero_le _) rfl
    obtain ⟨r4, w4, t1, t2, t3, t4⟩ := lcopy_loop (c := c) (mb := mb) (n1 := n1) (n2 := n2) (sh := sh) (l1 := l1) hn (6 ^ n) 0 r3 w3 (by omega) (fun q hq => absurd hq (Nat.not_lt_zero q))
    have a1 : ∀ q, q ≠ 41 → q ≠ 42 → r4 q = r q := fun q h1 h2 => (t1 q h1).trans ((g1 q h2).trans (f1 q h2))
    have hR4 : RelA st n md (i + 1) (Fw st n md (bt F) (i + 1)) (w4 39) (r4 41) := by
      refine g3.cg h (fun m hm => ?_)
      rw [(t3 m hm).1, (t3 m hm).2, t2 40 (by decide), t1 42 (by decide)]
      exact ⟨rfl, rfl⟩
    obtain ⟨r5, w5, u1, u2, u3⟩ := ih (i + 1) r4 w4 (some (.int (bI (bt F i)))) (some (.int (nI (6 ^ n)))) l8 l9 (by omega) (hC.cg (a1 43 (by decide) (by decide)) (a1 36 (by decide) (by decide)) (a1 37 (by decide) (by decide))) (by rw [rfN_cg2 (a1 33 (by decide) (by decide)) (a1 29 (by decide) (by decide))]; exact hF) hR4
    refine ⟨r5, w5, fun q h1 h2 => (u1 q h1 h2).trans (a1 q h1 h2), u2, fun X d Q => ?_⟩
    rw [s162_59]
    simp only [s162_0, s162_1, s162_2, s162_5, s162_6, s162_9, s162_12, s162_13, s162_14, s162_16, s162_17, s162_20, s162_21, s162_24, s162_25, s162_26, s162_29, s162_30, s162_33, s162_34, s162_35, s162_36, s162_39, s162_40, s162_41, s162_44, s162_45, s162_48, s162_50, s162_51, s162_54, s162_57, s162_58, s162_60, s162_61, s162_64, s162_67, s162_68, s162_69, s162_72, s162_73, s162_74, s162_75, s162_78, s162_80, s162_81, s162_85, s162_86, s162_89, s162_90, s162_93, s162_95, s162_96, s162_97, s162_98, s162_101, s162_103, s162_105, s162_106, s162_109, s162_112, s162_113, s162_117, s162_118, s162_121, s162_122, s162_126, s162_127, s162_130, s162_133, s162_134, s162_137, s162_139, s162_140, s162_142, s162_145, s162_146, s162_148, s162_150, s162_153, s162_155, s162_157, s162_158, s162_161, s162_162, s162_164, s162_166, s162_167, s162_170, s162_172, s162_175, s162_176, s162_179, s162_181, s162_182, s162_185, s162_186, s162_187, s162_190, s162_192, s162_193, s162_195, s162_196, s162_199, s162_201, s162_204, s162_205, s162_208, s162_209, s162_210, s162_213, s162_216, s162_219, s162_222, s162_225, s162_226, s162_230, s162_231, s162_234, s162_235, s162_238, s162_240, s162_241, s162_244, s162_246, s162_247, s162_248, s162_249, s162_252, s162_254, s162_255, s162_258, s162_260, s162_261, s162_262, s162_265, s162_268, s162_271, s162_274, zb0, zb1, ob_some, tl_s, tl_n, nk_i, nk_r, nk_n, nk_0, pk_us, pk_un, va_up_self, va_up_ne, ne_eq, Nat.reduceEqDiff, not_false_eq_true, true_and, and_true, eq_self, z11, z00, bI_z, gf_0_0, gf_0_1, gf_0_2, gf_0_3, gf_0_4, gf_0_5, gf_0_6, rcv_0, rcO_0, gf_1_0, gf_1_1, sf_1_1, gf_1_2, gf_1_3, gf_1_4, gf_1_5, sf_1_5, gf_1_6, sf_1_6, gf_1_7, sf_1_7, gf_1_8, sf_1_8, gf_1_9, sf_1_9, gf_1_10, sf_1_10, gf_1_11, sf_1_11, rcv_1, rcO_1, gf_6_0, sf_6_0, gf_6_1, sf_6_1, gf_6_2, sf_6_2, gf_6_3, sf_6_3, gf_6_4, gf_6_5, rcv_6, rcO_6, gf_9_0, gf_9_1, sf_9_1, rcv_9, rcO_9, gf_12_0, sf_12_0, gf_12_1, sf_12_1, gf_12_2, gf_12_3, rcv_12, rcO_12, gf_15_0, sf_15_0, gf_15_1, sf_15_1, gf_15_2, gf_15_3, rcv_15, rcO_15, gf_18_0, sf_18_0, gf_18_1, sf_18_1, gf_18_2, gf_18_3, gf_18_4, gf_18_5, sf_18_5, gf_18_6, sf_18_6, gf_18_7, sf_18_7, gf_18_8, sf_18_8, rcv_18, rcO_18, gf_24_0, gf_24_1, gf_24_2, sf_24_2, rcv_24, rcO_24, gf_28_0, gf_28_1, gf_28_2, gf_28_3, sf_28_3, gf_28_4, gf_28_5, sf_28_5, gf_28_6, sf_28_6, gf_28_7, gf_28_8, gf_28_9, gf_28_10, gf_28_11, gf_28_12, gf_28_13, sf_28_13, gf_28_14, sf_28_14, gf_28_15, sf_28_15, gf_28_16, sf_28_16, gf_28_17, sf_28_17, gf_28_18, sf_28_18, gf_28_19, gf_28_20, gf_28_21, gf_28_22, gf_28_23, gf_28_24, sf_28_24, gf_28_25, rcv_28, rcO_28, aI_2, aW_2, sI_2, aI_3, aW_3, sI_3, aI_4, aW_4, sI_4, aI_5, aW_5, sI_5, aI_7, aW_7, sI_7, aI_8, aW_8, sI_8, aI_13, aW_13, sI_13, aI_14, aW_14, sI_14, aI_16, aW_16, sI_16, aI_17, aW_17, sI_17, aI_21, aW_21, sI_21, aI_22, aW_22, sI_22, aI_23, aW_23, sI_23, aI_25, aW_25, sI_25, aI_26, aW_26, sI_26, aI_29, aW_29, sI_29, aI_31, aW_31, sI_31, aI_32, aW_32, sI_32, aI_33, aW_33, sI_33, aI_34, aW_34, sI_34, aI_35, aW_35, sI_35, aI_36, aW_36, sI_36, aI_37, aW_37, sI_37, aI_38, aW_38, sI_38, aI_41, aW_41, sI_41, aI_42, aW_42, sI_42, aI_43, aW_43, sI_43, aL_19, sL_19, aL_20, sL_20, aL_27, sL_27, aL_39, sL_39, aL_40, sL_40, aL_44, sL_44, aB_30, aZ_30, sZ_30, aQ_10, aQ_11, sQ_10, hc, e, es, c_rfree0 hc hH, hF, c_has, hs_bt F (show i < 32 by omega), true_implies, false_implies, not_true_eq_false, not_false_eq_true, and_self, true_and, and_true]
    rw [show (0 : Int32) = nI 0 from rfl, f4, g4, show (0 : Int32) = nI 0 from rfl, t4, nI_1]
    exact u3 X d Q
theorem m_lay {x F : Int32} {M H : Nat} {rc ld : Nat → Nat} {r : Nat → Nat → Int32} {w : Nat → Nat → Int64} (hM : M ≤ 5) (hx : ∀ i, M ≤ i → bt x i = false) (hc13 : c 2813 = nI M) (hmm : ∀ k, k < M → rsN r k = nI (sd (rc k) (ld k)) ∧ 1 ≤ sd (rc k) (ld k) ∧ sd (rc k) (ld k) ≤ 6) (hc : c 2806 = nI H) (hH : H ≤ 20) (hF : rfN r H 0 = F) : ∃ c2 r2 w2, (∀ q, q ≠ 2824 → c2 q = c q) ∧ (∀ q, q ≠ 41 → q ≠ 42 → q ≠ 43 → r2 q = r q) ∧ c2 2824 = nI (cnt (bt x) 5) ∧ RelA (chS x rc ld) (cnt (bt x) 5) md H (Fw (chS x rc ld) (cnt (bt x) 5) md (bt F) H) (w2 39) (r2 41) ∧ ∀ X d K, Cl X (d + 2) 162 [.ref 28, .int x] (G c r w mb n1 n2 sh) K = K none (G c2 r2 w2 mb n1 n2 sh) := by
  obtain ⟨h, hn⟩ := ch_ok2 (rc := rc) (ld := ld) hM hx (fun k hk => (hmm k hk).2)
  have e5 : cnt (bt x) 5 = cnt (bt x) M := cnt_ext hM hx
  obtain ⟨c2, r2, f1, f2, f3, f4, f5⟩ := m_choose (x := x) (w := w) (mb := mb) (n1 := n1) (n2 := n2) (sh := sh) (r := r) hM hc13
  rw [← e5] at f3 f4
  have hC : CM (chS x rc ld) (cnt (bt x) 5) c2 r2 := by
    refine ⟨f3, fun k hk => ?_⟩
    have hlt : k < cnt (bt x) 20 := Nat.lt_of_lt_of_le hk (cnt_mono (bt x) (by omega))
    have sp := pos_spec hlt
    have hpM : pos (bt x) k < M := by
      rcases Nat.lt_or_ge (pos (bt x) k) M with q | q
      · exact q
      · rw [hx _ q] at sp
        cases sp.2.1
    refine ⟨pos (bt x) k, by omega, f4 k hk, ?_⟩
    have := (hmm _ hpM).1
    unfold rsN at this ⊢
    rw [f2 36 (by decide), f2 37 (by decide)]
    exact this
  obtain ⟨r3, w3, g1, g2, g3, g4⟩ := linit_loop (c := c2) (mb := mb) (n1 := n1) (n2 := n2) (sh := sh) (l1 := some (.int x)) hn (6 ^ (cnt (bt x) 5)) 0 r2 w (by omega) (fun q hq => absurd hq (Nat.not_lt_zero q))
  obtain ⟨r4, w4, t1, t2, t3⟩ := lay_loop (md := md) (F := F) (mb := mb) (n1 := n1) (n2 := n2) (sh := sh) (l1 := some (.int x)) h hn ((f1 2806 (by decide)).trans hc) hH H 0 r3 w3 none none none none (by omega) (hC.cg (g1 43 (by decide)) (g1 36 (by decide)) (g1 37 (by decide))) (by rw [rfN_cg2 (r := r) ((g1 33 (by decide)).trans (f2 33 (by decide))) ((g1 29 (by decide)).trans (f2 29 (by decide)))]; exact hF) (RelA_0 h g3)
  refine ⟨c2, r4, w4, f1, fun q h1 h2 h3 => (t1 q h1 h2).trans ((g1 q h1).trans (f2 q h3)), f3, t2, fun X d K => ?_⟩
  rw [e162]
  simp only [s162_0, s162_1, s162_2, s162_5, s162_6, s162_9, s162_12, s162_13, s162_14, s162_16, s162_17, s162_20, s162_21, s162_24, s162_25, s162_26, s162_29, s162_30, s162_33, s162_34, s162_35, s162_36, s162_39, s162_40, s162_41, s162_44, s162_45, s162_48, s162_50, s162_51, s162_54, s162_57, s162_58, s162_60, s162_61, s162_64, s162_67, s162_68, s162_69, s162_72, s162_73, s162_74, s162_75, s162_78, s162_80, s162_81, s162_85, s162_86, s162_89, s162_90, s162_93, s162_95, s162_96, s162_97, s162_98, s162_101, s162_103, s162_105, s162_106, s162_109, s162_112, s162_113, s162_117, s162_118, s162_121, s162_122, s162_126, s162_127, s162_130, s162_133, s162_134, s162_137, s162_139, s162_140, s162_142, s162_145, s162_146, s162_148, s162_150, s162_153, s162_155, s162_157, s162_158, s162_161, s162_162, s162_164, s162_166, s162_167, s162_170, s162_172, s162_175, s162_176, s162_179, s162_181, s162_182, s162_185, s162_186, s162_187, s162_190, s162_192, s162_193, s162_195, s162_196, s162_199, s162_201, s162_204, s162_205, s162_208, s162_209, s162_210, s162_213, s162_216, s162_219, s162_222, s162_225, s162_226, s162_230, s162_231, s162_234, s162_235, s162_238, s162_240, s162_241, s162_244, s162_246, s162_247, s162_248, s162_249, s162_252, s162_254, s162_255, s162_258, s162_260, s162_261, s162_262, s162_265, s162_268, s162_271, s162_274, zb0, zb1, ob_some, tl_s, tl_n, nk_i, nk_r, nk_n, nk_0, pk_us, pk_un, va_up_self, va_up_ne, ne_eq, Nat.reduceEqDiff, not_false_eq_true, true_and, and_true, eq_self, z11, z00, bI_z, gf_0_0, gf_0_1, gf_0_2, gf_0_3, gf_0_4, gf_0_5, gf_0_6, rcv_0, rcO_0, gf_1_0, gf_1_1, sf_1_1, gf_1_2, gf_1_3, gf_1_4, gf_1_5, sf_1_5, gf_1_6, sf_1_6, gf_1_7, sf_1_7, gf_1_8, sf_1_8, gf_1_9, sf_1_9, gf_1_10, sf_1_10, gf_1_11, sf_1_11, rcv_1, rcO_1, gf_6_0, sf_6_0, gf_6_1, sf_6_1, gf_6_2, sf_6_2, gf_6_3, sf_6_3, gf_6_4, gf_6_5, rcv_6, rcO_6, gf_9_0, gf_9_1, sf_9_1, rcv_9, rcO_9, gf_12_0, sf_12_0, gf_12_1, sf_12_1, gf_12_2, gf_12_3, rcv_12, rcO_12, gf_15_0, sf_15_0, gf_15_1, sf_15_1, gf_15_2, gf_15_3, rcv_15, rcO_15, gf_18_0, sf_18_0, gf_18_1, sf_18_1, gf_18_2, gf_18_3, gf_18_4, gf_18_5, sf_18_5, gf_18_6, sf_18_6, gf_18_7, sf_18_7, gf_18_8, sf_18_8, rcv_18, rcO_18, gf_24_0, gf_24_1, gf_24_2, sf_24_2, rcv_24, rcO_24, gf_28_0, gf_28_1, gf_28_2, gf_28_3, sf_28_3, gf_28_4, gf_28_5, sf_28_5, gf_28_6, sf_28_6, gf_28_7, gf_28_8, gf_28_9, gf_28_10, gf_28_11, gf_28_12, gf_28_13, sf_28_13, gf_28_14, sf_28_14, gf_28_15, sf_28_15, gf_28_16, sf_28_16, gf_28_17, sf_28_17, gf_28_18, sf_28_18, gf_28_19, gf_28_20, gf_28_21, gf_28_22, gf_28_23, gf_28_24, sf_28_24, gf_28_25, rcv_28, rcO_28, aI_2, aW_2, sI_2, aI_3, aW_3, sI_3, aI_4, aW_4, sI_4, aI_5, aW_5, sI_5, aI_7, aW_7, sI_7, aI_8, aW_8, sI_8, aI_13, aW_13, sI_13, aI_14, aW_14, sI_14, aI_16, aW_16, sI_16, aI_17, aW_17, sI_17, aI_21, aW_21, sI_21, aI_22, aW_22, sI_22, aI_23, aW_23, sI_23, aI_25, aW_25, sI_25, aI_26, aW_26, sI_26, aI_29, aW_29, sI_29, aI_31, aW_31, sI_31, aI_32, aW_32, sI_32, aI_33, aW_33, sI_33, aI_34, aW_34, sI_34, aI_35, aW_35, sI_35, aI_36, aW_36, sI_36, aI_37, aW_37, sI_37, aI_38, aW_38, sI_38, aI_41, aW_41, sI_41, aI_42, aW_42, sI_42, aI_43, aW_43, sI_43, aL_19, sL_19, aL_20, sL_20, aL_27, sL_27, aL_39, sL_39, aL_40, sL_40, aL_44, sL_44, aB_30, aZ_30, sZ_30, aQ_10, aQ_11, sQ_10, f5, f3, c_power (show cnt (bt x) 5 < 1000 by omega)]
  rw [show (0 : Int32) = nI 0 from rfl, g4]
  exact t3 X d K
theorem sm_eq {cn : Nat → Int64} {cs : Nat → Int32} (h : okS st n) (hR : RelA st n false b f cn cs) : ∀ m p, m ≤ 6 ^ n → p ≤ Wt st n → (∀ s, s < p → JJ st n s < m) → (∀ s, p ≤ s → s < Wt st n → m ≤ JJ st n s) → smL cn m = smL f p := by
  intro m
  induction m with
  | zero =>
    intro p _ hp h1 _
    have : p = 0 := by
      rcases Nat.eq_zero_or_pos p with q | q
      · exact q
      · exact absurd (h1 0 q) (Nat.not_lt_zero _)
    rw [this]
    rfl
  | succ m ih =>
    intro p hm hp h1 h2
    show smL cn m + cn m = smL f p
    by_cases q : 0 < p ∧ JJ st n (p - 1) = m
    · obtain ⟨q1, q2⟩ := q
      have := ih (p - 1) (by omega) (by omega) (fun s hs => by have := JJ_mono h (show s < p - 1 by omega) (by omega); omega) (fun s hs1 hs2 => by
        by_cases e : s = p - 1
        · rw [e]; omega
        · have := JJ_mono h (show p - 1 < s by omega) hs2; omega)
      rw [this]
      have hE := hR.1 (p - 1) (by omega)
      have hE2 : cn (JJ st n (p - 1)) = f (p - 1) := hE.1
      rw [q2] at hE2
      rw [hE2, show p = (p - 1) + 1 by omega]
      rfl
    · have hne : ∀ s, s < Wt st n → JJ st n s ≠ m := by
        intro s hs e
        rcases Nat.lt_or_ge s p with z | z
        · by_cases e2 : s = p - 1
          · exact q ⟨by omega, by rw [← e2]; exact e⟩
          · have := JJ_mono h (show s < p - 1 by omega) (by omega)
            have := h1 (p - 1) (by omega)
            omega
        · have := h2 s z hs; omega
      have := ih p (by omega) hp (fun s hs => by have := h1 s hs; have := hne s (by omega); omega) (fun s hs1 hs2 => by have := h2 s hs1 hs2; omega)
      rw [this, (hR.2 m (by omega) hne).2]
      exact Int64.add_zero _
theorem sm_all {cn : Nat → Int64} {cs : Nat → Int32} (h : okS st n) (hR : RelA st n false b f cn cs) : smL cn (6 ^ n) = smL f (Wt st n) := sm_eq h hR _ _ (Nat.le_refl _) (Nat.le_refl _) (fun s _ => JJ_lt h) (fun s h1 h2 => by omega)
def mnI (cs : Nat → Int32) : Nat → Int32
  | 0 => FAR
  | k + 1 => if mnI cs k ≤ cs k then mnI cs k else cs k
theorem E_min {x y : Int64} {u v : Int32} (hb : b ≤ 20) (h1 : RelE true b y 0 v) (h2 : RelE true b x 0 u) : RelE true b (lesN y x) 0 (if v ≤ u then v else u) := by
  unfold RelE at h1 h2 ⊢
  simp only [if_true] at h1 h2 ⊢
  unfold lesN
  rcases h1 with ⟨h1, h3⟩ | ⟨k, h1, h3, h4⟩
  · rw [h1, h3, if_pos (Or.inl rfl), Int64.zero_add]
    rcases h2 with ⟨h2, h5⟩ | ⟨k, h2, h5, h6⟩
    · rw [h2, h5, if_pos (Int32.le_refl _)]
      exact Or.inl ⟨rfl, rfl⟩
    · rw [h5, h6, if_neg (FAR_nl2 (show k ≤ 30 by omega))]
      exact Or.inr ⟨k, h2, rfl, rfl⟩
  · have hy0 : ¬ y = 0 := by rw [h3]; exact lN_ne (by omega) (by omega)
    rcases h2 with ⟨h2, h5⟩ | ⟨k2, h2, h5, h6⟩
    · rw [if_pos (Or.inr h2), h2, h5, h4, if_pos (FAR_le2 (show k ≤ 30 by omega)), Int64.add_zero]
      exact Or.inr ⟨k, h1, h3, rfl⟩
    · have hx0 : ¬ x = 0 := by rw [h5]; exact lN_ne (by omega) (by omega)
      rw [if_neg (show ¬ (y = 0 ∨ x = 0) from fun q => q.elim hy0 hx0), h3, h4, h5, h6]
      by_cases hle : k ≤ k2
      · rw [if_pos (nI_le hle (by omega)), if_neg (fun q => by have := (pk_lLT (by omega) (by omega)).mp q; omega)]
        exact Or.inr ⟨k, h1, rfl, rfl⟩
      · rw [if_neg (nI_ge (by omega) (by omega)), if_pos ((pk_lLT (by omega) (by omega)).mpr (by omega))]
        exact Or.inr ⟨k2, h2, rfl, rfl⟩
theorem E_c0 {x c1 : Int64} {u : Int32} (h : RelE true b x c1 u) : RelE true b x 0 u := h
theorem E_FAR {x : Int64} {u : Int32} (hb : b ≤ 20) (h : RelE true b x 0 u) : (if u ≤ FAR then u else FAR) = u := by
  unfold RelE at h
  simp only [if_true] at h
  rcases h with ⟨_, h⟩ | ⟨k, h1, _, h⟩
  · rw [h, if_pos (Int32.le_refl _)]
  · rw [h, if_pos (FAR_le2 (show k ≤ 30 by omega))]
theorem mn_eq {cn : Nat → Int64} {cs : Nat → Int32} (hb : b ≤ 20) (h : okS st n) (hR : RelA st n true b f cn cs) : ∀ m p, m ≤ 6 ^ n → p ≤ Wt st n → (∀ s, s < p → JJ st n s < m) → (∀ s, p ≤ s → s < Wt st n → m ≤ JJ st n s) → RelE true b (mnL f p) 0 (mnI cs m) := by
  intro m
  induction m with
  | zero =>
    intro p _ hp h1 _
    have : p = 0 := by
      rcases Nat.eq_zero_or_pos p with q | q
      · exact q
      · exact absurd (h1 0 q) (Nat.not_lt_zero _)
    rw [this]
    exact Or.inl ⟨rfl, rfl⟩
  | succ m ih =>
    intro p hm hp h1 h2
    show RelE true b (mnL f p) 0 (if mnI cs m ≤ cs m then mnI cs m else cs m)
    by_cases q : 0 < p ∧ JJ st n (p - 1) = m
    · obtain ⟨q1, q2⟩ := q
      have := ih (p - 1) (by omega) (by omega) (fun s hs => by have := JJ_mono h (show s < p - 1 by omega) (by omega); omega) (fun s hs1 hs2 => by
        by_cases e : s = p - 1
        · rw [e]; omega
        · have := JJ_mono h (show p - 1 < s by omega) hs2; omega)
      have hE := E_c0 (hR.1 (p - 1) (by omega))
      rw [q2] at hE
      have := E_min hb this hE
      rw [show p = (p - 1) + 1 by omega]
      exact this
    · have hne : ∀ s, s < Wt st n → JJ st n s ≠ m := by
        intro s hs e
        rcases Nat.lt_or_ge s p with z | z
        · by_cases e2 : s = p - 1
          · exact q ⟨by omega, by rw [← e2]; exact e⟩
          · have := JJ_mono h (show s < p - 1 by omega) (by omega)
            have := h1 (p - 1) (by omega)
            omega
        · have := h2 s z hs; omega
      have := ih p (by omega) hp (fun s hs => by have := h1 s hs; have := hne s (by omega); omega) (fun s hs1 hs2 => by have := h2 s hs1 hs2; omega)
      rw [(hR.2 m (by omega) hne).1, E_FAR hb this]
      exact this
theorem mn_all {cn : Nat → Int64} {cs : Nat → Int32} (hb : b ≤ 20) (h : okS st n) (hR : RelA st n true b f cn cs) : (if mnI cs (6 ^ n) = FAR then -1 else mnI cs (6 ^ n)) = (mnL f (Wt st n)).toInt32 - 1 := by
  have := mn_eq hb h hR (6 ^ n) (Wt st n) (Nat.le_refl _) (Nat.le_refl _) (fun s _ => JJ_lt h) (fun s h1 h2 => by omega)
  unfold RelE at this
  simp only [if_true] at this
  rcases this with ⟨h1, h2⟩ | ⟨k, h1, h2, h3⟩
  · rw [h1, h2, if_pos rfl]
    decide
  · rw [h2, h3, if_neg (FAR_ne (by omega))]
    exact ((by decide +kernel : ∀ k, k < 21 → (lN (k + 1)).toInt32 - 1 = nI k) k (by omega)).symm
end LZ
