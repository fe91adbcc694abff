/-! the class's crowd: who is chosen, the rows, all rungs -/
theorem gv1_cg {st : Nat → Nat} {n s i N : Nat} {md : Bool} {v : Int64} {g g2 : Nat → Int64} (hN : sW st (dd st s i) n < N) (h : ∀ q, q < N → g q = g2 q) : ∀ q, q < N → gv1 st n s i md v g q = gv1 st n s i md v g2 q := by
  intro q hq
  unfold gv1 vp_updL
  rw [h _ hN]
  split
  · rfl
  · exact h q hq
theorem vB_lt {st : Nat → Nat} {n s i : Nat} (hb : vB st n s i = true) : sW st (dd st s i) n < Wt st n := sW_lt (of_decide_eq_true hb)
theorem gvL_cg {st : Nat → Nat} {n s : Nat} {md : Bool} {v : Int64} : ∀ j i (g g2 : Nat → Int64), (∀ q, q < Wt st n → g q = g2 q) → ∀ q, q < Wt st n → gvL st n s md v j i g q = gvL st n s md v j i g2 q
  | 0, _, _, _, h => h
  | j + 1, i, g, g2, h => by
    show ∀ q, q < Wt st n → gvL st n s md v j (i + 1) (if vB st n s i then gv1 st n s i md v g else g) q = gvL st n s md v j (i + 1) (if vB st n s i then gv1 st n s i md v g2 else g2) q
    apply gvL_cg j (i + 1)
    intro q hq
    cases hb : vB st n s i with
    | true => exact gv1_cg (vB_lt hb) h q hq
    | false => exact h q hq
theorem gvA_cg {st : Nat → Nat} {n s : Nat} {md fr : Bool} {v : Int64} {g g2 : Nat → Int64} (h : ∀ q, q < Wt st n → g q = g2 q) : ∀ q, q < Wt st n → gvA st n s md fr v g q = gvA st n s md fr v g2 q := by
  have h1 : ∀ q, q < Wt st n → (if vB st n s 99 then gv1 st n s 99 md v g else g) q = (if vB st n s 99 then gv1 st n s 99 md v g2 else g2) q := by
    intro q hq
    cases hb : vB st n s 99 with
    | true => exact gv1_cg (vB_lt hb) h q hq
    | false => exact h q hq
  unfold gvA
  split
  · exact gvL_cg n 0 _ _ h1
  · exact h1
theorem nxC_cg2 {st : Nat → Nat} {n : Nat} {md fr : Bool} {f : Nat → Int64} : ∀ j s (g g2 : Nat → Int64), (∀ q, q < Wt st n → g q = g2 q) → ∀ q, q < Wt st n → nxC st n md fr j s f g q = nxC st n md fr j s f g2 q
  | 0, _, _, _, h => h
  | j + 1, s, g, g2, h => by
    show ∀ q, q < Wt st n → nxC st n md fr j (s + 1) f (if f s = 0 then g else gvA st n s md fr (f s) g) q = nxC st n md fr j (s + 1) f (if f s = 0 then g2 else gvA st n s md fr (f s) g2) q
    apply nxC_cg2 j (s + 1)
    intro q hq
    split
    · exact h q hq
    · exact gvA_cg h q hq
def Fw (st : Nat → Nat) (n : Nat) (md : Bool) (fr : Nat → Bool) : Nat → Nat → Int64
  | 0 => fun q => if q = 0 then 1 else 0
  | i + 1 => nxC st n md (fr i) (Wt st n) 0 (Fw st n md fr i) (fun _ => 0)
def chS (x : Int32) (rc ld : Nat → Nat) (j : Nat) : Nat := sd (rc (pos (bt x) j)) (ld (pos (bt x) j))
theorem G_newL {c : Nat → Int32} {r : Nat → Nat → Int32} {w : Nat → Nat → Int64} {mb : Nat → Option Nat} {n1 n2 : Nat} {sh : List Nat} : G c r w mb n1 n2 sh ++ [.inl (1, 7776, .inr (.inl (fun _ => 0)))] = G c r (va_up w (45 + sh.length) (fun _ => 0)) mb n1 n2 (sh ++ [1]) := by
  refine G_app (Gf_up (fun p hp => if_neg (by omega)) (fun _ _ => rfl)) ?_ ?_
  · unfold dyn
    apply List.ext_getElem?
    intro i
    rw [List.getElem?_mapIdx, List.getElem?_mapIdx]
    cases hs : sh[i]? with
    | none => rfl
    | some s =>
      have := (List.getElem?_eq_some_iff.mp hs).1
      exact congrArg some (dcl_up (if_neg (by omega)) (fun _ _ => rfl))
  · show (Sum.inl (1, 7776, Sum.inr (Sum.inl (va_up w (45 + sh.length) (fun _ => 0) (45 + sh.length)))) : va_E) = _
    rw [show va_up w (45 + sh.length) (fun _ => (0 : Int64)) (45 + sh.length) = fun _ => 0 from if_pos rfl]
section W5
variable {x : Int32} {M : Nat} {pp ss rc ld : Nat → Nat} {w : Nat → Nat → Int64} {mb : Nat → Option Nat} {n1 n2 : Nat} {sh : List Nat}
theorem enrol_loop (hM : M ≤ 5) (hx : ∀ i, M ≤ i → bt x i = false) : ∀ j i c r l4, i + j = 5 → c 901 = nI M → (∀ k, k < M → mb k = some (pp k) ∧ isC sh (pp k) (ss k) ∧ stN c (pp k) = nI (sd (rc k) (ld k)) ∧ 1 ≤ sd (rc k) (ld k) ∧ sd (rc k) (ld k) ≤ 6) → CG (chS x rc ld) (cnt (bt x) i) c r → ∃ c2 r2, (∀ q, q ≠ 1805 → q ≠ 1806 → q ≠ 1807 → c2 q = c q) ∧ (∀ q, q ≠ 21 → q ≠ 22 → r2 q = r q) ∧ CG (chS x rc ld) (cnt (bt x) 5) c2 r2 ∧ ∀ X d Q, Wp X (d + 2) 15 17 [some (.ref 18), some (.ref 9), some (.int x), some (.int (nI i)), l4] [] (G c r w mb n1 n2 sh) Q = Q none (G c2 r2 w mb n1 n2 sh) := by
  intro j
  induction j with
  | zero =>
    intro i c r l4 hi hc hm hG
    obtain rfl : i = 5 := by omega
    have e : (5 : Int32) ≤ nI 5 := by decide
    refine ⟨c, r, fun _ _ _ _ => rfl, fun _ _ _ => rfl, hG, fun X d Q => ?_⟩
    rw [s15_17]
    simp only [s15_0, s15_1, s15_2, s15_5, s15_6, s15_7, s15_10, s15_11, s15_12, s15_15, s15_16, s15_18, s15_19, s15_22, s15_22n, s15_23, s15_24, s15_27, s15_27n, s15_29, s15_29n, s15_31n, s15_31, s15_34, s15_35, s15_36, s15_37, s15_38, s15_39, s15_40, s15_43, s15_44, s15_47, s15_48, s15_51, s15_51n, s15_53, s15_56, s15_57, s15_58, s15_61, s15_62, s15_65, s15_66, s15_69, s15_70, s15_71, s15_72, s15_75, s15_76, s15_79, s15_80, s15_83, s15_84, s15_85, s15_88, s15_89, s15_92, s15_93, s15_96, s15_97, s15_98, s15_101, s15_102, s15_103, s15_106, s15_107, s15_108, s15_111, s15_114, s15_117, zb0, zb1, ob_some, tl_s, tl_n, nk_i, nk_r, nk_n, nk_0, pk_us, pk_un, va_up_self, va_up_ne, ne_eq, Nat.reduceEqDiff, not_false_eq_true, true_and, and_true, eq_self, z11, z00, bI_z, gf_0_0, gf_0_1, gf_0_2, gf_0_3, gf_0_4, gf_0_5, gf_0_6, rcv_0, rcO_0, gf_1_0, gf_1_1, sf_1_1, gf_1_2, gf_1_3, gf_1_4, gf_1_5, sf_1_5, gf_1_6, sf_1_6, gf_1_7, sf_1_7, gf_1_8, sf_1_8, gf_1_9, sf_1_9, gf_1_10, sf_1_10, gf_1_11, sf_1_11, rcv_1, rcO_1, gf_6_0, sf_6_0, gf_6_1, sf_6_1, gf_6_2, sf_6_2, gf_6_3, sf_6_3, gf_6_4, gf_6_5, rcv_6, rcO_6, gf_9_0, gf_9_1, sf_9_1, rcv_9, rcO_9, gf_12_0, sf_12_0, gf_12_1, sf_12_1, gf_12_2, gf_12_3, rcv_12, rcO_12, gf_15_0, sf_15_0, gf_15_1, sf_15_1, gf_15_2, gf_15_3, rcv_15, rcO_15, gf_18_0, sf_18_0, gf_18_1, sf_18_1, gf_18_2, gf_18_3, gf_18_4, gf_18_5, sf_18_5, gf_18_6, sf_18_6, gf_18_7, sf_18_7, gf_18_8, sf_18_8, rcv_18, rcO_18, gf_24_0, gf_24_1, gf_24_2, sf_24_2, rcv_24, rcO_24, gf_28_0, gf_28_1, gf_28_2, gf_28_3, sf_28_3, gf_28_4, gf_28_5, sf_28_5, gf_28_6, sf_28_6, gf_28_7, gf_28_8, gf_28_9, gf_28_10, gf_28_11, gf_28_12, gf_28_13, sf_28_13, gf_28_14, sf_28_14, gf_28_15, sf_28_15, gf_28_16, sf_28_16, gf_28_17, sf_28_17, gf_28_18, sf_28_18, gf_28_19, gf_28_20, gf_28_21, gf_28_22, gf_28_23, gf_28_24, sf_28_24, gf_28_25, rcv_28, rcO_28, aI_2, aW_2, sI_2, aI_3, aW_3, sI_3, aI_4, aW_4, sI_4, aI_5, aW_5, sI_5, aI_7, aW_7, sI_7, aI_8, aW_8, sI_8, aI_13, aW_13, sI_13, aI_14, aW_14, sI_14, aI_16, aW_16, sI_16, aI_17, aW_17, sI_17, aI_21, aW_21, sI_21, aI_22, aW_22, sI_22, aI_23, aW_23, sI_23, aI_25, aW_25, sI_25, aI_26, aW_26, sI_26, aI_29, aW_29, sI_29, aI_31, aW_31, sI_31, aI_32, aW_32, sI_32, aI_33, aW_33, sI_33, aI_34, aW_34, sI_34, aI_35, aW_35, sI_35, aI_36, aW_36, sI_36, aI_37, aW_37, sI_37, aI_38, aW_38, sI_38, aI_41, aW_41, sI_41, aI_42, aW_42, sI_42, aI_43, aW_43, sI_43, aL_19, sL_19, aL_20, sL_20, aL_27, sL_27, aL_39, sL_39, aL_40, sL_40, aL_44, sL_44, aB_30, aZ_30, sZ_30, aQ_10, aQ_11, sQ_10, e, true_implies, false_implies, not_true_eq_false, not_false_eq_true, and_self, true_and, and_true]
  | succ j ih =>
    intro i c r l4 hi hc hm hG
    have e : ¬ (5 : Int32) ≤ nI i := nI_ge (b := 5) (by omega) (by omega)
    have ec : cnt (bt x) (i + 1) = cnt (bt x) i + (if bt x i then 1 else 0) := rfl
    by_cases hiM : i < M
    · obtain ⟨m1, m2, m3, m4, m5⟩ := hm i hiM
      have h45 := m2.1
      cases hb : bt x i with
      | true =>
        have hcl := cnt_le (bt x) i
        have hpos : pos (bt x) (cnt (bt x) i) = i := by
          have hlt : cnt (bt x) i < cnt (bt x) 20 := cnt_lt (bt x) (show i < 20 by omega) hb
          have sp := pos_spec hlt
          exact cnt_un (bt x) sp.2.1 hb sp.2.2
        have hch : chS x rc ld (cnt (bt x) i) = sd (rc i) (ld i) := by unfold chS; rw [hpos]
        obtain ⟨g1, g2, g3, g4⟩ := hG
        generalize hmm : cnt (bt x) i = m at *
        rw [hb, if_pos rfl] at ec
        have i1 := inb_nI (show m < 5 by omega) (by omega)
        have z1 := nI_clamp (show m < 2 ^ 31 by omega)
        have hG2 : CG (chS x rc ld) (m + 1) (upd (upd (upd c 1807 (nI (sW (chS x rc ld) (fun _ => 1) m + Wt (chS x rc ld) m))) 1806 (nI (Wt (chS x rc ld) m * sd (rc i) (ld i)))) 1805 (nI (m + 1))) (va_up (va_up r 21 (upd (r 21) m (nI (sd (rc i) (ld i))))) 22 (upd (r 22) m (nI (Wt (chS x rc ld) m)))) := by
          refine ⟨pk_us, ?_, ?_, fun k hk => ?_⟩
          · rw [pk_un (by omega), pk_us]
            show _ = nI (Wt (chS x rc ld) m * chS x rc ld m)
            rw [hch]
          · rw [pk_un (by omega), pk_un (by omega), pk_us]
            show _ = nI (sW (chS x rc ld) (fun _ => 1) m + 1 * Wt (chS x rc ld) m)
            rw [Nat.one_mul]
          · show upd (r 21) m (nI (sd (rc i) (ld i))) k = nI (chS x rc ld k) ∧ upd (r 22) m (nI (Wt (chS x rc ld) m)) k = nI (Wt (chS x rc ld) k)
            by_cases ek : k = m
            · rw [ek, pk_us, pk_us, hch]
              exact ⟨rfl, rfl⟩
            · rw [pk_un ek, pk_un ek]
              exact g4 k (by omega)
        have hm2 : ∀ k, k < M → mb k = some (pp k) ∧ isC sh (pp k) (ss k) ∧ stN (upd (upd (upd c 1807 (nI (sW (chS x rc ld) (fun _ => 1) m + Wt (chS x rc ld) m))) 1806 (nI (Wt (chS x rc ld) m * sd (rc i) (ld i)))) 1805 (nI (m + 1))) (pp k) = nI (sd (rc k) (ld k)) ∧ 1 ≤ sd (rc k) (ld k) ∧ sd (rc k) (ld k) ≤ 6 := by
          intro k hk
          obtain ⟨o1, o2, o3, o4⟩ := hm k hk
          have := o2.1
          refine ⟨o1, o2, ?_, o4⟩
          unfold stN
          rw [pk_un (by omega), pk_un (by omega), pk_un (by omega), pk_un (by omega), pk_un (by omega), pk_un (by omega)]
          exact o3
        obtain ⟨c2, r2, f1, f2, f3, f4⟩ := ih (i + 1) _ _ (some (.ref (pp i))) (by omega) (by rw [pk_un (by omega), pk_un (by omega), pk_un (by omega)]; exact hc) hm2 (by rw [ec]; exact hG2)
        refine ⟨c2, r2, fun q h1 h2 h3 => ?_, fun q h1 h2 => (f2 q h1 h2).trans ((if_neg h2).trans (if_neg h1)), f3, fun X d Q => ?_⟩
        · rw [f1 q h1 h2 h3, pk_un h1, pk_un h2, pk_un h3]
        · rw [s15_17]
          simp only [s15_0, s15_1, s15_2, s15_5, s15_6, s15_7, s15_10, s15_11, s15_12, s15_15, s15_16, s15_18, s15_19, s15_22, s15_22n, s15_23, s15_24, s15_27, s15_27n, s15_29, s15_29n, s15_31n, s15_31, s15_34, s15_35, s15_36, s15_37, s15_38, s15_39, s15_40, s15_43, s15_44, s15_47, s15_48, s15_51, s15_51n, s15_53, s15_56, s15_57, s15_58, s15_61, s15_62, s15_65, s15_66, s15_69, s15_70, s15_71, s15_72, s15_75, s15_76, s15_79, s15_80, s15_83, s15_84, s15_85, s15_88, s15_89, s15_92, s15_93, s15_96, s15_97, s15_98, s15_101, s15_102, s15_103, s15_106, s15_107, s15_108, s15_111, s15_114, s15_117, zb0, zb1, ob_some, tl_s, tl_n, nk_i, nk_r, nk_n, nk_0, pk_us, pk_un, va_up_self, va_up_ne, ne_eq, Nat.reduceEqDiff, not_false_eq_true, true_and, and_true, eq_self, z11, z00, bI_z, gf_0_0, gf_0_1, gf_0_2, gf_0_3, gf_0_4, gf_0_5, gf_0_6, rcv_0, rcO_0, gf_1_0, gf_1_1, sf_1_1, gf_1_2, gf_1_3, gf_1_4, gf_1_5, sf_1_5, gf_1_6, sf_1_6, gf_1_7, sf_1_7, gf_1_8, sf_1_8, gf_1_9, sf_1_9, gf_1_10, sf_1_10, gf_1_11, sf_1_11, rcv_1, rcO_1, gf_6_0, sf_6_0, gf_6_1, sf_6_1, gf_6_2, sf_6_2, gf_6_3, sf_6_3, gf_6_4, gf_6_5, rcv_6, rcO_6, gf_9_0, gf_9_1, sf_9_1, rcv_9, rcO_9, gf_12_0, sf_12_0, gf_12_1, sf_12_1, gf_12_2, gf_12_3, rcv_12, rcO_12, gf_15_0, sf_15_0, gf_15_1, sf_15_1, gf_15_2, gf_15_3, rcv_15, rcO_15, gf_18_0, sf_18_0, gf_18_1, sf_18_1, gf_18_2, gf_18_3, gf_18_4, gf_18_5, sf_18_5, gf_18_6, sf_18_6, gf_18_7, sf_18_7, gf_18_8, sf_18_8, rcv_18, rcO_18, gf_24_0, gf_24_1, gf_24_2, sf_24_2, rcv_24, rcO_24, gf_28_0, gf_28_1, gf_28_2, gf_28_3, sf_28_3, gf_28_4, gf_28_5, sf_28_5, gf_28_6, sf_28_6, gf_28_7, gf_28_8, gf_28_9, gf_28_10, gf_28_11, gf_28_12, gf_28_13, sf_28_13, gf_28_14, sf_28_14, gf_28_15, sf_28_15, gf_28_16, sf_28_16, gf_28_17, sf_28_17, gf_28_18, sf_28_18, gf_28_19, gf_28_20, gf_28_21, gf_28_22, gf_28_23, gf_28_24, sf_28_24, gf_28_25, rcv_28, rcO_28, aI_2, aW_2, sI_2, aI_3, aW_3, sI_3, aI_4, aW_4, sI_4, aI_5, aW_5, sI_5, aI_7, aW_7, sI_7, aI_8, aW_8, sI_8, aI_13, aW_13, sI_13, aI_14, aW_14, sI_14, aI_16, aW_16, sI_16, aI_17, aW_17, sI_17, aI_21, aW_21, sI_21, aI_22, aW_22, sI_22, aI_23, aW_23, sI_23, aI_25, aW_25, sI_25, aI_26, aW_26, sI_26, aI_29, aW_29, sI_29, aI_31, aW_31, sI_31, aI_32, aW_32, sI_32, aI_33, aW_33, sI_33, aI_34, aW_34, sI_34, aI_35, aW_35, sI_35, aI_36, aW_36, sI_36, aI_37, aW_37, sI_37, aI_38, aW_38, sI_38, aI_41, aW_41, sI_41, aI_42, aW_42, sI_42, aI_43, aW_43, sI_43, aL_19, sL_19, aL_20, sL_20, aL_27, sL_27, aL_39, sL_39, aL_40, sL_40, aL_44, sL_44, aB_30, aZ_30, sZ_30, aQ_10, aQ_11, sQ_10, e, y_mem hc hM hiM m1, sh_bit x (show i < 32 by omega), hb, bI_t, g1, g2, g3, i1, z1, v_stride m2, m3, nI_add, nI_mul, nI_1, true_implies, false_implies, not_true_eq_false, not_false_eq_true, and_self, true_and, and_true, zqm5_m1, zqm5_0, zqm5_1, zqm5_2, zqm5_3, zqm5_4, zqm4_m1, zqm4_0, zqm4_1, zqm4_2, zqm4_3, zqm4_4, zqm3_m1, zqm3_0, zqm3_1, zqm3_2, zqm3_3, zqm3_4, zqm2_m1, zqm2_0, zqm2_1, zqm2_2, zqm2_3, zqm2_4, zqm1_m5, zqm1_m4, zqm1_m3, zqm1_m2, zqm1_0, zqm1_1, zqm1_2, zqm1_3, zqm1_4, zqm1_5, zqm1_6, zqm1_7, zqm1_8, zqm1_9, zq0_m5, zq0_m4, zq0_m3, zq0_m2, zq0_m1, zq0_1, zq0_2, zq0_3, zq0_4, zq0_5, zq0_6, zq0_7, zq0_8, zq0_9, zq1_m5, zq1_m4, zq1_m3, zq1_m2, zq1_m1, zq1_0, zq1_2, zq1_3, zq1_4, zq1_5, zq1_6, zq1_7, zq1_8, zq1_9, zq2_m5, zq2_m4, zq2_m3, zq2_m2, zq2_m1, zq2_0, zq2_1, zq2_3, zq2_4, zq2_5, zq2_6, zq2_7, zq2_8, zq2_9, zq3_m5, zq3_m4, zq3_m3, zq3_m2, zq3_m1, zq3_0, zq3_1, zq3_2, zq3_4, zq3_5, zq3_6, zq3_7, zq3_8, zq3_9, zq4_m5, zq4_m4, zq4_m3, zq4_m2, zq4_m1, zq4_0, zq4_1, zq4_2, zq4_3, zq4_5, zq4_6, zq4_7, zq4_8, zq4_9, zq5_m1, zq5_0, zq5_1, zq5_2, zq5_3, zq5_4, zq6_m1, zq6_0, zq6_1, zq6_2, zq6_3, zq6_4, zq7_m1, zq7_0, zq7_1, zq7_2, zq7_3, zq7_4, zq8_m1, zq8_0, zq8_1, zq8_2, zq8_3, zq8_4, zq9_m1, zq9_0, zq9_1, zq9_2, zq9_3, zq9_4]
          exact f4 X d Q
      | false =>
        rw [hb] at ec
        simp only [if_false, Bool.false_eq_true, Nat.add_zero] at ec
        obtain ⟨c2, r2, f1, f2, f3, f4⟩ := ih (i + 1) c r (some (.ref (pp i))) (by omega) hc hm (by rw [ec]; exact hG)
        refine ⟨c2, r2, f1, f2, f3, fun X d Q => ?_⟩
        rw [s15_17]
        simp only [s15_0, s15_1, s15_2, s15_5, s15_6, s15_7, s15_10, s15_11, s15_12, s15_15, s15_16, s15_18, s15_19, s15_22, s15_22n, s15_23, s15_24, s15_27, s15_27n, s15_29, s15_29n, s15_31n, s15_31, s15_34, s15_35, s15_36, s15_37, s15_38, s15_39, s15_40, s15_43, s15_44, s15_47, s15_48, s15_51, s15_51n, s15_53, s15_56, s15_57, s15_58, s15_61, s15_62, s15_65, s15_66, s15_69, s15_70, s15_71, s15_72, s15_75, s15_76, s15_79, s15_80, s15_83, s15_84, s15_85, s15_88, s15_89, s15_92, s15_93, s15_96, s15_97, s15_98, s15_101, s15_102, s15_103, s15_106, s15_107, s15_108, s15_111, s15_114, s15_117, zb0, zb1, ob_some, tl_s, tl_n, nk_i, nk_r, nk_n, nk_0, pk_us, pk_un, va_up_self, va_up_ne, ne_eq, Nat.reduceEqDiff, not_false_eq_true, true_and, and_true, eq_self, z11, z00, bI_z, gf_0_0, gf_0_1, gf_0_2, gf_0_3, gf_0_4, gf_0_5, gf_0_6, rcv_0, rcO_0, gf_1_0, gf_1_1, sf_1_1, gf_1_2, gf_1_3, gf_1_4, gf_1_5, sf_1_5, gf_1_6, sf_1_6, gf_1_7, sf_1_7, gf_1_8, sf_1_8, gf_1_9, sf_1_9, gf_1_10, sf_1_10, gf_1_11, sf_1_11, rcv_1, rcO_1, gf_6_0, sf_6_0, gf_6_1, sf_6_1, gf_6_2, sf_6_2, gf_6_3, sf_6_3, gf_6_4, gf_6_5, rcv_6, rcO_6, gf_9_0, gf_9_1, sf_9_1, rcv_9, rcO_9, gf_12_0, sf_12_0, gf_12_1, sf_12_1, gf_12_2, gf_12_3, rcv_12, rcO_12, gf_15_0, sf_15_0, gf_15_1, sf_15_1, gf_15_2, gf_15_3, rcv_15, rcO_15, gf_18_0, sf_18_0, gf_18_1, sf_18_1, gf_18_2, gf_18_3, gf_18_4, gf_18_5, sf_18_5, gf_18_6, sf_18_6, gf_18_7, sf_18_7, gf_18_8, sf_18_8, rcv_18, rcO_18, gf_24_0, gf_24_1, gf_24_2, sf_24_2, rcv_24, rcO_24, gf_28_0, gf_28_1, gf_28_2, gf_28_3, sf_28_3, gf_28_4, gf_28_5, sf_28_5, gf_28_6, sf_28_6, gf_28_7, gf_28_8, gf_28_9, gf_28_10, gf_28_11, gf_28_12, gf_28_13, sf_28_13, gf_28_14, sf_28_14, gf_28_15, sf_28_15, gf_28_16, sf_28_16, gf_28_17, sf_28_17, gf_28_18, sf_28_18, gf_28_19, gf_28_20, gf_28_21, gf_28_22, gf_28_23, gf_28_24, sf_28_24, gf_28_25, rcv_28, rcO_28, aI_2, aW_2, sI_2, aI_3, aW_3, sI_3, aI_4, aW_4, sI_4, aI_5, aW_5, sI_5, aI_7, aW_7, sI_7, aI_8, aW_8, sI_8, aI_13, aW_13, sI_13, aI_14, aW_14, sI_14, aI_16, aW_16, sI_16, aI_17, aW_17, sI_17, aI_21, aW_21, sI_21, aI_22, aW_22, sI_22, aI_23, aW_23, sI_23, aI_25, aW_25, sI_25, aI_26, aW_26, sI_26, aI_29, aW_29, sI_29, aI_31, aW_31, sI_31, aI_32, aW_32, sI_32, aI_33, aW_33, sI_33, aI_34, aW_34, sI_34, aI_35, aW_35, sI_35, aI_36, aW_36, sI_36, aI_37, aW_37, sI_37, aI_38, aW_38, sI_38, aI_41, aW_41, sI_41, aI_42, aW_42, sI_42, aI_43, aW_43, sI_43, aL_19, sL_19, aL_20, sL_20, aL_27, sL_27, aL_39, sL_39, aL_40, sL_40, aL_44, sL_44, aB_30, aZ_30, sZ_30, aQ_10, aQ_11, sQ_10, e, y_mem hc hM hiM m1, sh_bit x (show i < 32 by omega), hb, bI_f, nI_1, true_implies, false_implies, not_true_eq_false, not_false_eq_true, and_self, true_and, and_true, zqm5_m1, zqm5_0, zqm5_1, zqm5_2, zqm5_3, zqm5_4, zqm4_m1, zqm4_0, zqm4_1, zqm4_2, zqm4_3, zqm4_4, zqm3_m1, zqm3_0, zqm3_1, zqm3_2, zqm3_3, zqm3_4, zqm2_m1, zqm2_0, zqm2_1, zqm2_2, zqm2_3, zqm2_4, zqm1_m5, zqm1_m4, zqm1_m3, zqm1_m2, zqm1_0, zqm1_1, zqm1_2, zqm1_3, zqm1_4, zqm1_5, zqm1_6, zqm1_7, zqm1_8, zqm1_9, zq0_m5, zq0_m4, zq0_m3, zq0_m2, zq0_m1, zq0_1, zq0_2, zq0_3, zq0_4, zq0_5, zq0_6, zq0_7, zq0_8, zq0_9, zq1_m5, zq1_m4, zq1_m3, zq1_m2, zq1_m1, zq1_0, zq1_2, zq1_3, zq1_4, zq1_5, zq1_6, zq1_7, zq1_8, zq1_9, zq2_m5, zq2_m4, zq2_m3, zq2_m2, zq2_m1, zq2_0, zq2_1, zq2_3, zq2_4, zq2_5, zq2_6, zq2_7, zq2_8, zq2_9, zq3_m5, zq3_m4, zq3_m3, zq3_m2, zq3_m1, zq3_0, zq3_1, zq3_2, zq3_4, zq3_5, zq3_6, zq3_7, zq3_8, zq3_9, zq4_m5, zq4_m4, zq4_m3, zq4_m2, zq4_m1, zq4_0, zq4_1, zq4_2, zq4_3, zq4_5, zq4_6, zq4_7, zq4_8, zq4_9, zq5_m1, zq5_0, zq5_1, zq5_2, zq5_3, zq5_4, zq6_m1, zq6_0, zq6_1, zq6_2, zq6_3, zq6_4, zq7_m1, zq7_0, zq7_1, zq7_2, zq7_3, zq7_4, zq8_m1, zq8_0, zq8_1, zq8_2, zq8_3, zq8_4, zq9_m1, zq9_0, zq9_1, zq9_2, zq9_3, zq9_4]
        exact f4 X d Q
    · have hb := hx i (by omega)
      rw [hb] at ec
      simp only [if_false, Bool.false_eq_true, Nat.add_zero] at ec
      obtain ⟨c2, r2, f1, f2, f3, f4⟩ := ih (i + 1) c r (some .null) (by omega) hc hm (by rw [ec]; exact hG)
      refine ⟨c2, r2, f1, f2, f3, fun X d Q => ?_⟩
      rw [s15_17]
      simp only [s15_0, s15_1, s15_2, s15_5, s15_6, s15_7, s15_10, s15_11, s15_12, s15_15, s15_16, s15_18, s15_19, s15_22, s15_22n, s15_23, s15_24, s15_27, s15_27n, s15_29, s15_29n, s15_31n, s15_31, s15_34, s15_35, s15_36, s15_37, s15_38, s15_39, s15_40, s15_43, s15_44, s15_47, s15_48, s15_51, s15_51n, s15_53, s15_56, s15_57, s15_58, s15_61, s15_62, s15_65, s15_66, s15_69, s15_70, s15_71, s15_72, s15_75, s15_76, s15_79, s15_80, s15_83, s15_84, s15_85, s15_88, s15_89, s15_92, s15_93, s15_96, s15_97, s15_98, s15_101, s15_102, s15_103, s15_106, s15_107, s15_108, s15_111, s15_114, s15_117, zb0, zb1, ob_some, tl_s, tl_n, nk_i, nk_r, nk_n, nk_0, pk_us, pk_un, va_up_self, va_up_ne, ne_eq, Nat.reduceEqDiff, not_false_eq_true, true_and, and_true, eq_self, z11, z00, bI_z, gf_0_0, gf_0_1, gf_0_2, gf_0_3, gf_0_4, gf_0_5, gf_0_6, rcv_0, rcO_0, gf_1_0, gf_1_1, sf_1_1, gf_1_2, gf_1_3, gf_1_4, gf_1_5, sf_1_5, gf_1_6, sf_1_6, gf_1_7, sf_1_7, gf_1_8, sf_1_8, gf_1_9, sf_1_9, gf_1_10, sf_1_10, gf_1_11, sf_1_11, rcv_1, rcO_1, gf_6_0, sf_6_0, gf_6_1, sf_6_1, gf_6_2, sf_6_2, gf_6_3, sf_6_3, gf_6_4, gf_6_5, rcv_6, rcO_6, gf_9_0, gf_9_1, sf_9_1, rcv_9, rcO_9, gf_12_0, sf_12_0, gf_12_1, sf_12_1, gf_12_2, gf_12_3, rcv_12, rcO_12, gf_15_0, sf_15_0, gf_15_1, sf_15_1, gf_15_2, gf_15_3, rcv_15, rcO_15, gf_18_0, sf_18_0, gf_18_1, sf_18_1, gf_18_2, gf_18_3, gf_18_4, gf_18_5, sf_18_5, gf_18_6, sf_18_6, gf_18_7, sf_18_7, gf_18_8, sf_18_8, rcv_18, rcO_18, gf_24_0, gf_24_1, gf_24_2, sf_24_2, rcv_24, rcO_24, gf_28_0, gf_28_1, gf_28_2, gf_28_3, sf_28_3, gf_28_4, gf_28_5, sf_28_5, gf_28_6, sf_28_6, gf_28_7, gf_28_8, gf_28_9, gf_28_10, gf_28_11, gf_28_12, gf_28_13, sf_28_13, gf_28_14, sf_28_14, gf_28_15, sf_28_15, gf_28_16, sf_28_16, gf_28_17, sf_28_17, gf_28_18, sf_28_18, gf_28_19, gf_28_20, gf_28_21, gf_28_22, gf_28_23, gf_28_24, sf_28_24, gf_28_25, rcv_28, rcO_28, aI_2, aW_2, sI_2, aI_3, aW_3, sI_3, aI_4, aW_4, sI_4, aI_5, aW_5, sI_5, aI_7, aW_7, sI_7, aI_8, aW_8, sI_8, aI_13, aW_13, sI_13, aI_14, aW_14, sI_14, aI_16, aW_16, sI_16, aI_17, aW_17, sI_17, aI_21, aW_21, sI_21, aI_22, aW_22, sI_22, aI_23, aW_23, sI_23, aI_25, aW_25, sI_25, aI_26, aW_26, sI_26, aI_29, aW_29, sI_29, aI_31, aW_31, sI_31, aI_32, aW_32, sI_32, aI_33, aW_33, sI_33, aI_34, aW_34, sI_34, aI_35, aW_35, sI_35, aI_36, aW_36, sI_36, aI_37, aW_37, sI_37, aI_38, aW_38, sI_38, aI_41, aW_41, sI_41, aI_42, aW_42, sI_42, aI_43, aW_43, sI_43, aL_19, sL_19, aL_20, sL_20, aL_27, sL_27, aL_39, sL_39, aL_40, sL_40, aL_44, sL_44, aB_30, aZ_30, sZ_30, aQ_10, aQ_11, sQ_10, e, n_mem hc (Or.inr (nI_le (show M ≤ i by omega) (show i < 2 ^ 31 by omega))), nI_1, true_implies, false_implies, not_true_eq_false, not_false_eq_true, and_self, true_and, and_true, zqm5_m1, zqm5_0, zqm5_1, zqm5_2, zqm5_3, zqm5_4, zqm4_m1, zqm4_0, zqm4_1, zqm4_2, zqm4_3, zqm4_4, zqm3_m1, zqm3_0, zqm3_1, zqm3_2, zqm3_3, zqm3_4, zqm2_m1, zqm2_0, zqm2_1, zqm2_2, zqm2_3, zqm2_4, zqm1_m5, zqm1_m4, zqm1_m3, zqm1_m2, zqm1_0, zqm1_1, zqm1_2, zqm1_3, zqm1_4, zqm1_5, zqm1_6, zqm1_7, zqm1_8, zqm1_9, zq0_m5, zq0_m4, zq0_m3, zq0_m2, zq0_m1, zq0_1, zq0_2, zq0_3, zq0_4, zq0_5, zq0_6, zq0_7, zq0_8, zq0_9, zq1_m5, zq1_m4, zq1_m3, zq1_m2, zq1_m1, zq1_0, zq1_2, zq1_3, zq1_4, zq1_5, zq1_6, zq1_7, zq1_8, zq1_9, zq2_m5, zq2_m4, zq2_m3, zq2_m2, zq2_m1, zq2_0, zq2_1, zq2_3, zq2_4, zq2_5, zq2_6, zq2_7, zq2_8, zq2_9, zq3_m5, zq3_m4, zq3_m3, zq3_m2, zq3_m1, zq3_0, zq3_1, zq3_2, zq3_4, zq3_5, zq3_6, zq3_7, zq3_8, zq3_9, zq4_m5, zq4_m4, zq4_m3, zq4_m2, zq4_m1, zq4_0, zq4_1, zq4_2, zq4_3, zq4_5, zq4_6, zq4_7, zq4_8, zq4_9, zq5_m1, zq5_0, zq5_1, zq5_2, zq5_3, zq5_4, zq6_m1, zq6_0, zq6_1, zq6_2, zq6_3, zq6_4, zq7_m1, zq7_0, zq7_1, zq7_2, zq7_3, zq7_4, zq8_m1, zq8_0, zq8_1, zq8_2, zq8_3, zq8_4, zq9_m1, zq9_0, zq9_1, zq9_2, zq9_3, zq9_4]
      exact f4 X d Q
theorem c_enrol {c : Nat → Int32} {r : Nat → Nat → Int32} (hM : M ≤ 5) (hx : ∀ i, M ≤ i → bt x i = false) (hc : c 901 = nI M) (hm : ∀ k, k < M → mb k = some (pp k) ∧ isC sh (pp k) (ss k) ∧ stN c (pp k) = nI (sd (rc k) (ld k)) ∧ 1 ≤ sd (rc k) (ld k) ∧ sd (rc k) (ld k) ≤ 6) : ∃ c2 r2, (∀ q, q ≠ 1805 → q ≠ 1806 → q ≠ 1807 → c2 q = c q) ∧ (∀ q, q ≠ 21 → q ≠ 22 → r2 q = r q) ∧ CG (chS x rc ld) (cnt (bt x) 5) c2 r2 ∧ ∀ X d K, Cl X (d + 2) 15 [.ref 18, .ref 9, .int x] (G c r w mb n1 n2 sh) K = K none (G c2 r2 w mb n1 n2 sh) := by
  have hm2 : ∀ k, k < M → mb k = some (pp k) ∧ isC sh (pp k) (ss k) ∧ stN (upd (upd (upd c 1805 0) 1806 1) 1807 0) (pp k) = nI (sd (rc k) (ld k)) ∧ 1 ≤ sd (rc k) (ld k) ∧ sd (rc k) (ld k) ≤ 6 := by
    intro k hk
    obtain ⟨o1, o2, o3, o4⟩ := hm k hk
    have := o2.1
    refine ⟨o1, o2, ?_, o4⟩
    unfold stN
    rw [pk_un (by omega), pk_un (by omega), pk_un (by omega), pk_un (by omega), pk_un (by omega), pk_un (by omega)]
    exact o3
  obtain ⟨c2, r2, f1, f2, f3, f4⟩ := enrol_loop (w := w) (n1 := n1) (n2 := n2) hM hx 5 0 (upd (upd (upd c 1805 0) 1806 1) 1807 0) r none (by omega) (by rw [pk_un (by omega), pk_un (by omega), pk_un (by omega)]; exact hc) hm2 ⟨rfl, rfl, rfl, fun k hk => absurd hk (Nat.not_lt_zero k)⟩
  refine ⟨c2, r2, fun q h1 h2 h3 => by rw [f1 q h1 h2 h3, pk_un h3, pk_un h2, pk_un h1], f2, f3, fun X d K => ?_⟩
  rw [e15]
  simp only [s15_0, s15_1, s15_2, s15_5, s15_6, s15_7, s15_10, s15_11, s15_12, s15_15, s15_16, s15_18, s15_19, s15_22, s15_22n, s15_23, s15_24, s15_27, s15_27n, s15_29, s15_29n, s15_31n, s15_31, s15_34, s15_35, s15_36, s15_37, s15_38, s15_39, s15_40, s15_43, s15_44, s15_47, s15_48, s15_51, s15_51n, s15_53, s15_56, s15_57, s15_58, s15_61, s15_62, s15_65, s15_66, s15_69, s15_70, s15_71, s15_72, s15_75, s15_76, s15_79, s15_80, s15_83, s15_84, s15_85, s15_88, s15_89, s15_92, s15_93, s15_96, s15_97, s15_98, s15_101, s15_102, s15_103, s15_106, s15_107, s15_108, s15_111, s15_114, s15_117, zb0, zb1, ob_some, tl_s, tl_n, nk_i, nk_r, nk_n, nk_0, pk_us, pk_un, va_up_self, va_up_ne, ne_eq, Nat.reduceEqDiff, not_false_eq_true, true_and, and_true, eq_self, z11, z00, bI_z, gf_0_0, gf_0_1, gf_0_2, gf_0_3, gf_0_4, gf_0_5, gf_0_6, rcv_0, rcO_0, gf_1_0, gf_1_1, sf_1_1, gf_1_2, gf_1_3, gf_1_4, gf_1_5, sf_1_5, gf_1_6, sf_1_6, gf_1_7, sf_1_7, gf_1_8, sf_1_8, gf_1_9, sf_1_9, gf_1_10, sf_1_10, gf_1_11, sf_1_11, rcv_1, rcO_1, gf_6_0, sf_6_0, gf_6_1, sf_6_1, gf_6_2, sf_6_2, gf_6_3, sf_6_3, gf_6_4, gf_6_5, rcv_6, rcO_6, gf_9_0, gf_9_1, sf_9_1, rcv_9, rcO_9, gf_12_0, sf_12_0, gf_12_1, sf_12_1, gf_12_2, gf_12_3, rcv_12, rcO_12, gf_15_0, sf_15_0, gf_15_1, sf_15_1, gf_15_2, gf_15_3, rcv_15, rcO_15, gf_18_0, sf_18_0, gf_18_1, sf_18_1, gf_18_2, gf_18_3, gf_18_4, gf_18_5, sf_18_5, gf_18_6, sf_18_6, gf_18_7, sf_18_7, gf_18_8, sf_18_8, rcv_18, rcO_18, gf_24_0, gf_24_1, gf_24_2, sf_24_2, rcv_24, rcO_24, gf_28_0, gf_28_1, gf_28_2, gf_28_3, sf_28_3, gf_28_4, gf_28_5, sf_28_5, gf_28_6, sf_28_6, gf_28_7, gf_28_8, gf_28_9, gf_28_10, gf_28_11, gf_28_12, gf_28_13, sf_28_13, gf_28_14, sf_28_14, gf_28_15, sf_28_15, gf_28_16, sf_28_16, gf_28_17, sf_28_17, gf_28_18, sf_28_18, gf_28_19, gf_28_20, gf_28_21, gf_28_22, gf_28_23, gf_28_24, sf_28_24, gf_28_25, rcv_28, rcO_28, aI_2, aW_2, sI_2, aI_3, aW_3, sI_3, aI_4, aW_4, sI_4, aI_5, aW_5, sI_5, aI_7, aW_7, sI_7, aI_8, aW_8, sI_8, aI_13, aW_13, sI_13, aI_14, aW_14, sI_14, aI_16, aW_16, sI_16, aI_17, aW_17, sI_17, aI_21, aW_21, sI_21, aI_22, aW_22, sI_22, aI_23, aW_23, sI_23, aI_25, aW_25, sI_25, aI_26, aW_26, sI_26, aI_29, aW_29, sI_29, aI_31, aW_31, sI_31, aI_32, aW_32, sI_32, aI_33, aW_33, sI_33, aI_34, aW_34, sI_34, aI_35, aW_35, sI_35, aI_36, aW_36, sI_36, aI_37, aW_37, sI_37, aI_38, aW_38, sI_38, aI_41, aW_41, sI_41, aI_42, aW_42, sI_42, aI_43, aW_43, sI_43, aL_19, sL_19, aL_20, sL_20, aL_27, sL_27, aL_39, sL_39, aL_40, sL_40, aL_44, sL_44, aB_30, aZ_30, sZ_30, aQ_10, aQ_11, sQ_10]
  exact f4 X d K
theorem room_loop {c : Nat → Int32} {r : Nat → Nat → Int32} {N LN : Nat} (hA1 : LA n1 sh LN) (hA2 : LA n2 sh LN) (hne : n1 ≠ n2) (hN : N ≤ LN) (hc : c 1806 = nI N) : ∀ j k w, k + j = N → ∃ w2, (∀ q, q ≠ n1 → q ≠ n2 → w2 q = w q) ∧ (∀ q, q < k → w2 n1 q = w n1 q ∧ w2 n2 q = w n2 q) ∧ (∀ q, k ≤ q → q < N → w2 n1 q = 0 ∧ w2 n2 q = 0) ∧ ∀ X d Q, Wp X d 16 32 [some (.ref 18), some (.int (nI k))] [] (G c r w mb n1 n2 sh) Q = Q none (G c r w2 mb n1 n2 sh) := by
  have hLN2 : LN < 10000 := by
    rcases hA1 with ⟨_, q⟩ | ⟨_, _, _, q⟩ <;> omega
  intro j
  induction j with
  | zero =>
    intro k w hk
    obtain rfl : k = N := by omega
    have e : nI k ≤ nI k := Int32.le_refl _
    refine ⟨w, fun _ _ _ => rfl, fun _ _ => ⟨rfl, rfl⟩, fun q h1 h2 => by omega, fun X d Q => ?_⟩
    rw [s16_32]
    simp only [s16_0, s16_1, s16_4, s16_5, s16_8, s16_9, s16_12, s16_13, s16_16, s16_18, s16_21, s16_22, s16_25, s16_27, s16_30, s16_31, s16_33, s16_34, s16_37, s16_40, s16_41, s16_44, s16_45, s16_46, s16_47, s16_48, s16_51, s16_52, s16_53, s16_54, s16_57, s16_60, zb0, zb1, ob_some, tl_s, tl_n, nk_i, nk_r, nk_n, nk_0, pk_us, pk_un, va_up_self, va_up_ne, ne_eq, Nat.reduceEqDiff, not_false_eq_true, true_and, and_true, eq_self, z11, z00, bI_z, gf_0_0, gf_0_1, gf_0_2, gf_0_3, gf_0_4, gf_0_5, gf_0_6, rcv_0, rcO_0, gf_1_0, gf_1_1, sf_1_1, gf_1_2, gf_1_3, gf_1_4, gf_1_5, sf_1_5, gf_1_6, sf_1_6, gf_1_7, sf_1_7, gf_1_8, sf_1_8, gf_1_9, sf_1_9, gf_1_10, sf_1_10, gf_1_11, sf_1_11, rcv_1, rcO_1, gf_6_0, sf_6_0, gf_6_1, sf_6_1, gf_6_2, sf_6_2, gf_6_3, sf_6_3, gf_6_4, gf_6_5, rcv_6, rcO_6, gf_9_0, gf_9_1, sf_9_1, rcv_9, rcO_9, gf_12_0, sf_12_0, gf_12_1, sf_12_1, gf_12_2, gf_12_3, rcv_12, rcO_12, gf_15_0, sf_15_0, gf_15_1, sf_15_1, gf_15_2, gf_15_3, rcv_15, rcO_15, gf_18_0, sf_18_0, gf_18_1, sf_18_1, gf_18_2, gf_18_3, gf_18_4, gf_18_5, sf_18_5, gf_18_6, sf_18_6, gf_18_7, sf_18_7, gf_18_8, sf_18_8, rcv_18, rcO_18, gf_24_0, gf_24_1, gf_24_2, sf_24_2, rcv_24, rcO_24, gf_28_0, gf_28_1, gf_28_2, gf_28_3, sf_28_3, gf_28_4, gf_28_5, sf_28_5, gf_28_6, sf_28_6, gf_28_7, gf_28_8, gf_28_9, gf_28_10, gf_28_11, gf_28_12, gf_28_13, sf_28_13, gf_28_14, sf_28_14, gf_28_15, sf_28_15, gf_28_16, sf_28_16, gf_28_17, sf_28_17, gf_28_18, sf_28_18, gf_28_19, gf_28_20, gf_28_21, gf_28_22, gf_28_23, gf_28_24, sf_28_24, gf_28_25, rcv_28, rcO_28, aI_2, aW_2, sI_2, aI_3, aW_3, sI_3, aI_4, aW_4, sI_4, aI_5, aW_5, sI_5, aI_7, aW_7, sI_7, aI_8, aW_8, sI_8, aI_13, aW_13, sI_13, aI_14, aW_14, sI_14, aI_16, aW_16, sI_16, aI_17, aW_17, sI_17, aI_21, aW_21, sI_21, aI_22, aW_22, sI_22, aI_23, aW_23, sI_23, aI_25, aW_25, sI_25, aI_26, aW_26, sI_26, aI_29, aW_29, sI_29, aI_31, aW_31, sI_31, aI_32, aW_32, sI_32, aI_33, aW_33, sI_33, aI_34, aW_34, sI_34, aI_35, aW_35, sI_35, aI_36, aW_36, sI_36, aI_37, aW_37, sI_37, aI_38, aW_38, sI_38, aI_41, aW_41, sI_41, aI_42, aW_42, sI_42, aI_43, aW_43, sI_43, aL_19, sL_19, aL_20, sL_20, aL_27, sL_27, aL_39, sL_39, aL_40, sL_40, aL_44, sL_44, aB_30, aZ_30, sZ_30, aQ_10, aQ_11, sQ_10, hc, e, true_implies, false_implies, not_true_eq_false, not_false_eq_true, and_self, true_and, and_true]
  | succ j ih =>
    intro k w hk
    have e : ¬ nI N ≤ nI k := nI_ge (by omega) (by omega)
    have i1 := inb_nI (show k < LN by omega) (by omega)
    have z1 := nI_clamp (show k < 2 ^ 31 by omega)
    obtain ⟨w1, hw1⟩ : ∃ w1, va_up w n1 (vp_updL (w n1) k 0) = w1 := ⟨_, rfl⟩
    obtain ⟨w3, hw3⟩ : ∃ w3, va_up w1 n2 (vp_updL (w1 n2) k 0) = w3 := ⟨_, rfl⟩
    have w12 : w1 n2 = w n2 := by rw [← hw1]; exact if_neg (fun q => hne q.symm)
    have w31 : w3 n1 = vp_updL (w n1) k 0 := by rw [← hw3, ← hw1]; exact (if_neg hne).trans (if_pos rfl)
    have w32 : w3 n2 = vp_updL (w n2) k 0 := by rw [← hw3, ← w12]; exact if_pos rfl
    obtain ⟨w2, f1, f2, f3, f4⟩ := ih (k + 1) w3 (by omega)
    refine ⟨w2, fun q h1 h2 => ?_, fun q hq => ?_, fun q h1 h2 => ?_, fun X d Q => ?_⟩
    · rw [f1 q h1 h2, ← hw3, ← hw1]
      exact (if_neg h2).trans (if_neg h1)
    · have := f2 q (by omega)
      rw [w31, w32, pk_uLn (by omega), pk_uLn (by omega)] at this
      exact this
    · by_cases eq : q = k
      · have := f2 q (by omega)
        rw [w31, w32, eq, pk_uLs, pk_uLs, ← eq] at this
        exact this
      · exact f3 q (by omega) h2
    · rw [s16_32]
      simp only [s16_0, s16_1, s16_4, s16_5, s16_8, s16_9, s16_12, s16_13, s16_16, s16_18, s16_21, s16_22, s16_25, s16_27, s16_30, s16_31, s16_33, s16_34, s16_37, s16_40, s16_41, s16_44, s16_45, s16_46, s16_47, s16_48, s16_51, s16_52, s16_53, s16_54, s16_57, s16_60, zb0, zb1, ob_some, tl_s, tl_n, nk_i, nk_r, nk_n, nk_0, pk_us, pk_un, va_up_self, va_up_ne, ne_eq, Nat.reduceEqDiff, not_false_eq_true, true_and, and_true, eq_self, z11, z00, bI_z, gf_0_0, gf_0_1, gf_0_2, gf_0_3, gf_0_4, gf_0_5, gf_0_6, rcv_0, rcO_0, gf_1_0, gf_1_1, sf_1_1, gf_1_2, gf_1_3, gf_1_4, gf_1_5, sf_1_5, gf_1_6, sf_1_6, gf_1_7, sf_1_7, gf_1_8, sf_1_8, gf_1_9, sf_1_9, gf_1_10, sf_1_10, gf_1_11, sf_1_11, rcv_1, rcO_1, gf_6_0, sf_6_0, gf_6_1, sf_6_1, gf_6_2, sf_6_2, gf_6_3, sf_6_3, gf_6_4, gf_6_5, rcv_6, rcO_6, gf_9_0, gf_9_1, sf_9_1, rcv_9, rcO_9, gf_12_0, sf_12_0, gf_12_1, sf_12_1, gf_12_2, gf_12_3, rcv_12, rcO_12, gf_15_0, sf_15_0, gf_15_1, sf_15_1, gf_15_2, gf_15_3, rcv_15, rcO_15, gf_18_0, sf_18_0, gf_18_1, sf_18_1, gf_18_2, gf_18_3, gf_18_4, gf_18_5, sf_18_5, gf_18_6, sf_18_6, gf_18_7, sf_18_7, gf_18_8, sf_18_8, rcv_18, rcO_18, gf_24_0, gf_24_1, gf_24_2, sf_24_2, rcv_24, rcO_24, gf_28_0, gf_28_1, gf_28_2, gf_28_3, sf_28_3, gf_28_4, gf_28_5, sf_28_5, gf_28_6, sf_28_6, gf_28_7, gf_28_8, gf_28_9, gf_28_10, gf_28_11, gf_28_12, gf_28_13, sf_28_13, gf_28_14, sf_28_14, gf_28_15, sf_28_15, gf_28_16, sf_28_16, gf_28_17, sf_28_17, gf_28_18, sf_28_18, gf_28_19, gf_28_20, gf_28_21, gf_28_22, gf_28_23, gf_28_24, sf_28_24, gf_28_25, rcv_28, rcO_28, aI_2, aW_2, sI_2, aI_3, aW_3, sI_3, aI_4, aW_4, sI_4, aI_5, aW_5, sI_5, aI_7, aW_7, sI_7, aI_8, aW_8, sI_8, aI_13, aW_13, sI_13, aI_14, aW_14, sI_14, aI_16, aW_16, sI_16, aI_17, aW_17, sI_17, aI_21, aW_21, sI_21, aI_22, aW_22, sI_22, aI_23, aW_23, sI_23, aI_25, aW_25, sI_25, aI_26, aW_26, sI_26, aI_29, aW_29, sI_29, aI_31, aW_31, sI_31, aI_32, aW_32, sI_32, aI_33, aW_33, sI_33, aI_34, aW_34, sI_34, aI_35, aW_35, sI_35, aI_36, aW_36, sI_36, aI_37, aW_37, sI_37, aI_38, aW_38, sI_38, aI_41, aW_41, sI_41, aI_42, aW_42, sI_42, aI_43, aW_43, sI_43, aL_19, sL_19, aL_20, sL_20, aL_27, sL_27, aL_39, sL_39, aL_40, sL_40, aL_44, sL_44, aB_30, aZ_30, sZ_30, aQ_10, aQ_11, sQ_10, hc, e, hA1.ar, hA1.st, hA2.ar, hA2.st, i1, z1, hw1, hw3, nI_1, true_implies, false_implies, not_true_eq_false, not_false_eq_true, and_self, true_and, and_true]
      exact f4 X d Q
end W5
