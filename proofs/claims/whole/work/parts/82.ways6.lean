/-! the class's crowd: all rungs, ways and mends -/
def smL (F : Nat → Int64) : Nat → Int64
  | 0 => 0
  | k + 1 => smL F k + F k
def mnL (F : Nat → Int64) : Nat → Int64
  | 0 => 0
  | k + 1 => lesN (mnL F k) (F k)
section W7
variable {c : Nat → Int32} {mb : Nat → Option Nat} {sh : List Nat} {LN H n : Nat} {st : Nat → Nat} {x : Int32}
theorem goup_loop {md : Bool} (h : okS st n) (hn : n ≤ 5) (hm : c 1808 = bI md) (hc : c 600 = nI H) (hH : H ≤ 20) (hLN : Wt st n ≤ LN) : ∀ j i r w m1 m2 l5, i + j = H → LA m1 sh LN → LA m2 sh LN → m1 ≠ m2 → CG st n c r → (∀ q, q < Wt st n → w m1 q = Fw st n md (bt (frN c)) i q) → (∀ q, q < Wt st n → w m2 q = 0) → ∃ r2 w2 k1 k2, (∀ q, q ≠ 23 → r2 q = r q) ∧ ((k1 = m1 ∧ k2 = m2) ∨ (k1 = m2 ∧ k2 = m1)) ∧ (∀ q, q < Wt st n → w2 k1 q = Fw st n md (bt (frN c)) H q) ∧ ∀ X d Q, Wp X (d + 5) 14 20 [some (.ref 18), some (.ref 9), some (.int x), some (.ref 6), some (.int (nI (i + 1))), l5] [] (G c r w mb m1 m2 sh) Q = Q none (G c r2 w2 mb k1 k2 sh) := by
  intro j
  induction j with
  | zero =>
    intro i r w m1 m2 l5 hi hA1 hA2 hne hG hf hz
    obtain rfl : i = H := by omega
    have e : nI i < nI (i + 1) := nI_lt (by omega) (by omega)
    refine ⟨r, w, m1, m2, fun _ _ => rfl, Or.inl ⟨rfl, rfl⟩, hf, fun X d Q => ?_⟩
    rw [s14_20]
    simp only [s14_0, s14_1, s14_1n, s14_2, s14_3, s14_6, s14_7, s14_10, s14_11, s14_14, s14_15, s14_16, s14_17, s14_18, s14_22, s14_22n, s14_23, s14_26, s14_29, s14_30, s14_30n, s14_31, s14_34, s14_36, s14_39, s14_42, s14_43, s14_46, s14_46n, s14_48, s14_49, s14_50, s14_53, s14_56, s14_57, s14_57n, s14_59, s14_62, s14_65, s14_68, zb0, zb1, ob_some, tl_s, tl_n, nk_i, nk_r, nk_n, nk_0, pk_us, pk_un, va_up_self, va_up_ne, ne_eq, Nat.reduceEqDiff, not_false_eq_true, true_and, and_true, eq_self, z11, z00, bI_z, gf_0_0, gf_0_1, gf_0_2, gf_0_3, gf_0_4, gf_0_5, gf_0_6, rcv_0, rcO_0, gf_1_0, gf_1_1, sf_1_1, gf_1_2, gf_1_3, gf_1_4, gf_1_5, sf_1_5, gf_1_6, sf_1_6, gf_1_7, sf_1_7, gf_1_8, sf_1_8, gf_1_9, sf_1_9, gf_1_10, sf_1_10, gf_1_11, sf_1_11, rcv_1, rcO_1, gf_6_0, sf_6_0, gf_6_1, sf_6_1, gf_6_2, sf_6_2, gf_6_3, sf_6_3, gf_6_4, gf_6_5, rcv_6, rcO_6, gf_9_0, gf_9_1, sf_9_1, rcv_9, rcO_9, gf_12_0, sf_12_0, gf_12_1, sf_12_1, gf_12_2, gf_12_3, rcv_12, rcO_12, gf_15_0, sf_15_0, gf_15_1, sf_15_1, gf_15_2, gf_15_3, rcv_15, rcO_15, gf_18_0, sf_18_0, gf_18_1, sf_18_1, gf_18_2, gf_18_3, gf_18_4, gf_18_5, sf_18_5, gf_18_6, sf_18_6, gf_18_7, sf_18_7, gf_18_8, sf_18_8, rcv_18, rcO_18, gf_24_0, gf_24_1, gf_24_2, sf_24_2, rcv_24, rcO_24, gf_28_0, gf_28_1, gf_28_2, gf_28_3, sf_28_3, gf_28_4, gf_28_5, sf_28_5, gf_28_6, sf_28_6, gf_28_7, gf_28_8, gf_28_9, gf_28_10, gf_28_11, gf_28_12, gf_28_13, sf_28_13, gf_28_14, sf_28_14, gf_28_15, sf_28_15, gf_28_16, sf_28_16, gf_28_17, sf_28_17, gf_28_18, sf_28_18, gf_28_19, gf_28_20, gf_28_21, gf_28_22, gf_28_23, gf_28_24, sf_28_24, gf_28_25, rcv_28, rcO_28, aI_2, aW_2, sI_2, aI_3, aW_3, sI_3, aI_4, aW_4, sI_4, aI_5, aW_5, sI_5, aI_7, aW_7, sI_7, aI_8, aW_8, sI_8, aI_13, aW_13, sI_13, aI_14, aW_14, sI_14, aI_16, aW_16, sI_16, aI_17, aW_17, sI_17, aI_21, aW_21, sI_21, aI_22, aW_22, sI_22, aI_23, aW_23, sI_23, aI_25, aW_25, sI_25, aI_26, aW_26, sI_26, aI_29, aW_29, sI_29, aI_31, aW_31, sI_31, aI_32, aW_32, sI_32, aI_33, aW_33, sI_33, aI_34, aW_34, sI_34, aI_35, aW_35, sI_35, aI_36, aW_36, sI_36, aI_37, aW_37, sI_37, aI_38, aW_38, sI_38, aI_41, aW_41, sI_41, aI_42, aW_42, sI_42, aI_43, aW_43, sI_43, aL_19, sL_19, aL_20, sL_20, aL_27, sL_27, aL_39, sL_39, aL_40, sL_40, aL_44, sL_44, aB_30, aZ_30, sZ_30, aQ_10, aQ_11, sQ_10, hc, e, true_implies, false_implies, not_true_eq_false, not_false_eq_true, and_self, true_and, and_true]
  | succ j ih =>
    intro i r w m1 m2 l5 hi hA1 hA2 hne hG hf hz
    have e : ¬ nI H < nI (i + 1) := nI_nlt (by omega) (by omega)
    obtain ⟨r1, w1, a1, a2, a3, a4, a5⟩ := c_pass2 (fr := bt (frN c) i) (mb := mb) (w := w) h hn hm hA1 hA2 hne hLN hG
    have hG1 : CG st n c r1 := by
      obtain ⟨g1, g2, g3, g4⟩ := hG
      refine ⟨g1, g2, g3, ?_⟩
      rw [a1 21 (by omega), a1 22 (by omega)]
      exact g4
    have hF : ∀ q, q < Wt st n → w1 m2 q = Fw st n md (bt (frN c)) (i + 1) q := by
      intro q hq
      rw [a4, nxC_cg (f2 := Fw st n md (bt (frN c)) i) (Wt st n) 0 (w m2) (fun q _ h2 => hf q (by omega))]
      exact nxC_cg2 (Wt st n) 0 (w m2) (fun _ => 0) hz q hq
    obtain ⟨r2, w2, k1, k2, f1, f2, f3, f4⟩ := ih (i + 1) r1 w1 m2 m1 (some (.ref m1)) (by omega) hA2 hA1 (fun q => hne q.symm) hG1 hF a3
    refine ⟨r2, w2, k1, k2, fun q hq => (f1 q hq).trans (a1 q hq), f2.symm, f3, fun X d Q => ?_⟩
    rw [s14_20]
    simp only [s14_0, s14_1, s14_1n, s14_2, s14_3, s14_6, s14_7, s14_10, s14_11, s14_14, s14_15, s14_16, s14_17, s14_18, s14_22, s14_22n, s14_23, s14_26, s14_29, s14_30, s14_30n, s14_31, s14_34, s14_36, s14_39, s14_42, s14_43, s14_46, s14_46n, s14_48, s14_49, s14_50, s14_53, s14_56, s14_57, s14_57n, s14_59, s14_62, s14_65, s14_68, zb0, zb1, ob_some, tl_s, tl_n, nk_i, nk_r, nk_n, nk_0, pk_us, pk_un, va_up_self, va_up_ne, ne_eq, Nat.reduceEqDiff, not_false_eq_true, true_and, and_true, eq_self, z11, z00, bI_z, gf_0_0, gf_0_1, gf_0_2, gf_0_3, gf_0_4, gf_0_5, gf_0_6, rcv_0, rcO_0, gf_1_0, gf_1_1, sf_1_1, gf_1_2, gf_1_3, gf_1_4, gf_1_5, sf_1_5, gf_1_6, sf_1_6, gf_1_7, sf_1_7, gf_1_8, sf_1_8, gf_1_9, sf_1_9, gf_1_10, sf_1_10, gf_1_11, sf_1_11, rcv_1, rcO_1, gf_6_0, sf_6_0, gf_6_1, sf_6_1, gf_6_2, sf_6_2, gf_6_3, sf_6_3, gf_6_4, gf_6_5, rcv_6, rcO_6, gf_9_0, gf_9_1, sf_9_1, rcv_9, rcO_9, gf_12_0, sf_12_0, gf_12_1, sf_12_1, gf_12_2, gf_12_3, rcv_12, rcO_12, gf_15_0, sf_15_0, gf_15_1, sf_15_1, gf_15_2, gf_15_3, rcv_15, rcO_15, gf_18_0, sf_18_0, gf_18_1, sf_18_1, gf_18_2, gf_18_3, gf_18_4, gf_18_5, sf_18_5, gf_18_6, sf_18_6, gf_18_7, sf_18_7, gf_18_8, sf_18_8, rcv_18, rcO_18, gf_24_0, gf_24_1, gf_24_2, sf_24_2, rcv_24, rcO_24, gf_28_0, gf_28_1, gf_28_2, gf_28_3, sf_28_3, gf_28_4, gf_28_5, sf_28_5, gf_28_6, sf_28_6, gf_28_7, gf_28_8, gf_28_9, gf_28_10, gf_28_11, gf_28_12, gf_28_13, sf_28_13, gf_28_14, sf_28_14, gf_28_15, sf_28_15, gf_28_16, sf_28_16, gf_28_17, sf_28_17, gf_28_18, sf_28_18, gf_28_19, gf_28_20, gf_28_21, gf_28_22, gf_28_23, gf_28_24, sf_28_24, gf_28_25, rcv_28, rcO_28, aI_2, aW_2, sI_2, aI_3, aW_3, sI_3, aI_4, aW_4, sI_4, aI_5, aW_5, sI_5, aI_7, aW_7, sI_7, aI_8, aW_8, sI_8, aI_13, aW_13, sI_13, aI_14, aW_14, sI_14, aI_16, aW_16, sI_16, aI_17, aW_17, sI_17, aI_21, aW_21, sI_21, aI_22, aW_22, sI_22, aI_23, aW_23, sI_23, aI_25, aW_25, sI_25, aI_26, aW_26, sI_26, aI_29, aW_29, sI_29, aI_31, aW_31, sI_31, aI_32, aW_32, sI_32, aI_33, aW_33, sI_33, aI_34, aW_34, sI_34, aI_35, aW_35, sI_35, aI_36, aW_36, sI_36, aI_37, aW_37, sI_37, aI_38, aW_38, sI_38, aI_41, aW_41, sI_41, aI_42, aW_42, sI_42, aI_43, aW_43, sI_43, aL_19, sL_19, aL_20, sL_20, aL_27, sL_27, aL_39, sL_39, aL_40, sL_40, aL_44, sL_44, aB_30, aZ_30, sZ_30, aQ_10, aQ_11, sQ_10, hc, e, c_free, c_holds, nI_pred, hs_bt (frN c) (show i < 32 by omega), a5, nI_1, true_implies, false_implies, not_true_eq_false, not_false_eq_true, and_self, true_and, and_true, zqm5_m1, zqm5_0, zqm5_1, zqm5_2, zqm5_3, zqm5_4, zqm4_m1, zqm4_0, zqm4_1, zqm4_2, zqm4_3, zqm4_4, zqm3_m1, zqm3_0, zqm3_1, zqm3_2, zqm3_3, zqm3_4, zqm2_m1, zqm2_0, zqm2_1, zqm2_2, zqm2_3, zqm2_4, zqm1_m5, zqm1_m4, zqm1_m3, zqm1_m2, zqm1_0, zqm1_1, zqm1_2, zqm1_3, zqm1_4, zqm1_5, zqm1_6, zqm1_7, zqm1_8, zqm1_9, zq0_m5, zq0_m4, zq0_m3, zq0_m2, zq0_m1, zq0_1, zq0_2, zq0_3, zq0_4, zq0_5, zq0_6, zq0_7, zq0_8, zq0_9, zq1_m5, zq1_m4, zq1_m3, zq1_m2, zq1_m1, zq1_0, zq1_2, zq1_3, zq1_4, zq1_5, zq1_6, zq1_7, zq1_8, zq1_9, zq2_m5, zq2_m4, zq2_m3, zq2_m2, zq2_m1, zq2_0, zq2_1, zq2_3, zq2_4, zq2_5, zq2_6, zq2_7, zq2_8, zq2_9, zq3_m5, zq3_m4, zq3_m3, zq3_m2, zq3_m1, zq3_0, zq3_1, zq3_2, zq3_4, zq3_5, zq3_6, zq3_7, zq3_8, zq3_9, zq4_m5, zq4_m4, zq4_m3, zq4_m2, zq4_m1, zq4_0, zq4_1, zq4_2, zq4_3, zq4_5, zq4_6, zq4_7, zq4_8, zq4_9, zq5_m1, zq5_0, zq5_1, zq5_2, zq5_3, zq5_4, zq6_m1, zq6_0, zq6_1, zq6_2, zq6_3, zq6_4, zq7_m1, zq7_0, zq7_1, zq7_2, zq7_3, zq7_4, zq8_m1, zq8_0, zq8_1, zq8_2, zq8_3, zq8_4, zq9_m1, zq9_0, zq9_1, zq9_2, zq9_3, zq9_4]
    exact f4 X d Q
theorem LA_nn {n1 n2 : Nat} {LN : Nat} (h : IvN n1 n2 sh) (hl : sh.length < 800000) : ∃ LN, LA n1 sh LN ∧ LA n2 sh LN ∧ n1 ≠ n2 := by
  rcases h with ⟨⟨rfl, rfl⟩ | ⟨rfl, rfl⟩, _⟩ | ⟨h1, h2, h3, h4, h5, _⟩
  · exact ⟨216, Or.inl ⟨Or.inl rfl, rfl⟩, Or.inl ⟨Or.inr rfl, rfl⟩, by omega⟩
  · exact ⟨216, Or.inl ⟨Or.inr rfl, rfl⟩, Or.inl ⟨Or.inl rfl, rfl⟩, by omega⟩
  · have l4 := (List.getElem?_eq_some_iff.mp h4).1
    have l5 := (List.getElem?_eq_some_iff.mp h5).1
    exact ⟨7776, Or.inr ⟨h1, by omega, h4, rfl⟩, Or.inr ⟨h2, by omega, h5, rfl⟩, h3⟩
variable {M : Nat} {pp ss rc ld : Nat → Nat} {n1 n2 : Nat} {w : Nat → Nat → Int64} {r : Nat → Nat → Int32}
theorem ch_ok2 (hM : M ≤ 5) (hx : ∀ i, M ≤ i → bt x i = false) (hm : ∀ k, k < M → 1 ≤ sd (rc k) (ld k) ∧ sd (rc k) (ld k) ≤ 6) : okS (chS x rc ld) (cnt (bt x) 5) ∧ cnt (bt x) 5 ≤ 5 := by
  refine ⟨fun k hk => ?_, cnt_le _ _⟩
  have hlt : k < cnt (bt x) 20 := Nat.lt_of_lt_of_le hk (cnt_mono (bt x) (by omega))
  have sp := pos_spec hlt
  have hpM : pos (bt x) k < M := by
    rcases Nat.lt_or_ge (pos (bt x) k) M with q | q
    · exact q
    · rw [hx _ q] at sp
      cases sp.2.1
  exact hm _ hpM
theorem c_goUp {md : Bool} (hM : M ≤ 5) (hx : ∀ i, M ≤ i → bt x i = false) (hc9 : c 901 = nI M) (hmm : ∀ k, k < M → mb k = some (pp k) ∧ isC sh (pp k) (ss k) ∧ stN c (pp k) = nI (sd (rc k) (ld k)) ∧ 1 ≤ sd (rc k) (ld k) ∧ sd (rc k) (ld k) ≤ 6) (hm : c 1808 = bI md) (hc : c 600 = nI H) (hH : H ≤ 20) (hA1 : LA n1 sh LN) (hA2 : LA n2 sh LN) (hne : n1 ≠ n2) (hl : sh.length < 800000) : ∃ c2 r2 w2 k1 k2 sh2 LN2, (∀ q, q ≠ 1805 → q ≠ 1806 → q ≠ 1807 → c2 q = c q) ∧ (∀ q, q ≠ 21 → q ≠ 22 → q ≠ 23 → r2 q = r q) ∧ GRW n1 n2 sh k1 k2 sh2 ∧ LA k1 sh2 LN2 ∧ Wt (chS x rc ld) (cnt (bt x) 5) ≤ LN2 ∧ c2 1806 = nI (Wt (chS x rc ld) (cnt (bt x) 5)) ∧ (∀ q, q < Wt (chS x rc ld) (cnt (bt x) 5) → w2 k1 q = Fw (chS x rc ld) (cnt (bt x) 5) md (bt (frN c)) H q) ∧ ∀ X d K, Cl X (d + 6) 14 [.ref 18, .ref 9, .int x, .ref 6] (G c r w mb n1 n2 sh) K = K none (G c2 r2 w2 mb k1 k2 sh2) := by
  obtain ⟨hok, hn5⟩ := ch_ok2 hM hx (fun k hk => (hmm k hk).2.2.2)
  obtain ⟨c2, r1, a1, a2, a3, a4⟩ := c_enrol (w := w) (n1 := n1) (n2 := n2) (r := r) hM hx hc9 hmm
  have hW6 := Wt_le hok _ (Nat.le_refl _)
  have h65 : (6 : Nat) ^ (cnt (bt x) 5) ≤ 6 ^ 5 := Nat.pow_le_pow_right (by omega) hn5
  have hWp := Wt_pos hok _ (Nat.le_refl _)
  obtain ⟨m1, m2, sh2, w1, LN2, b1, b2, b3, b4, b5, b6, b7⟩ := c_room (r := r1) (w := w) (mb := mb) hA1 hA2 hne (show Wt (chS x rc ld) (cnt (bt x) 5) ≤ 7776 by omega) a3.2.1 hl
  have hLN : LN2 < 10000 := by
    rcases b1 with ⟨_, q⟩ | ⟨_, _, _, q⟩ <;> omega
  obtain ⟨w3, hw3⟩ : ∃ w3, va_up w1 m1 (vp_updL (w1 m1) 0 1) = w3 := ⟨_, rfl⟩
  have hfr : frN c2 = frN c := by
    unfold frN whN
    rw [a1 600 (by omega) (by omega) (by omega), a1 602 (by omega) (by omega) (by omega), a1 603 (by omega) (by omega) (by omega)]
  obtain ⟨r2, w2, k1, k2, f1, f2, f3, f4⟩ := goup_loop (mb := mb) (x := x) (md := md) hok hn5 ((a1 1808 (by omega) (by omega) (by omega)).trans hm) ((a1 600 (by omega) (by omega) (by omega)).trans hc) hH b4 H 0 r1 w3 m1 m2 none (by omega) b1 b2 b3 a3 (fun q hq => by
    rw [← hw3]
    show va_up w1 m1 (vp_updL (w1 m1) 0 1) m1 q = if q = 0 then 1 else 0
    rw [show va_up w1 m1 (vp_updL (w1 m1) 0 1) m1 = vp_updL (w1 m1) 0 1 from if_pos rfl]
    unfold vp_updL
    split
    · rfl
    · exact (b6 q hq).1) (fun q hq => by
    rw [← hw3, show va_up w1 m1 (vp_updL (w1 m1) 0 1) m2 = w1 m2 from if_neg (fun z => b3 z.symm)]
    exact (b6 q hq).2)
  refine ⟨c2, r2, w2, k1, k2, sh2, LN2, a1, fun q h1 h2 h3 => (f1 q h3).trans (a2 q h1 h2), ?_, ?_, b4, a3.2.1, ?_, fun X d K => ?_⟩
  · rcases b5 with ⟨b5, q⟩ | ⟨q0, b5, q⟩
    · refine Or.inl ⟨?_, q⟩
      rcases f2 with ⟨rfl, rfl⟩ | ⟨rfl, rfl⟩ <;> rcases b5 with ⟨rfl, rfl⟩ | ⟨rfl, rfl⟩ <;> simp
    · refine Or.inr ⟨q0, ?_, q⟩
      rcases f2 with ⟨rfl, rfl⟩ | ⟨rfl, rfl⟩ <;> rcases b5 with ⟨rfl, rfl⟩ | ⟨rfl, rfl⟩ <;> simp
  · rcases f2 with ⟨rfl, rfl⟩ | ⟨rfl, rfl⟩
    · exact b1
    · exact b2
  · rw [hfr] at f3
    exact f3
  · have i0 : inb 0 LN2 = true := inb_nI (k := 0) (by omega) (by omega)
    have z0 : (0 : Int32).toNatClampNeg = 0 := by decide
    rw [e14]
    simp only [s14_0, s14_1, s14_1n, s14_2, s14_3, s14_6, s14_7, s14_10, s14_11, s14_14, s14_15, s14_16, s14_17, s14_18, s14_22, s14_22n, s14_23, s14_26, s14_29, s14_30, s14_30n, s14_31, s14_34, s14_36, s14_39, s14_42, s14_43, s14_46, s14_46n, s14_48, s14_49, s14_50, s14_53, s14_56, s14_57, s14_57n, s14_59, s14_62, s14_65, s14_68, zb0, zb1, ob_some, tl_s, tl_n, nk_i, nk_r, nk_n, nk_0, pk_us, pk_un, va_up_self, va_up_ne, ne_eq, Nat.reduceEqDiff, not_false_eq_true, true_and, and_true, eq_self, z11, z00, bI_z, gf_0_0, gf_0_1, gf_0_2, gf_0_3, gf_0_4, gf_0_5, gf_0_6, rcv_0, rcO_0, gf_1_0, gf_1_1, sf_1_1, gf_1_2, gf_1_3, gf_1_4, gf_1_5, sf_1_5, gf_1_6, sf_1_6, gf_1_7, sf_1_7, gf_1_8, sf_1_8, gf_1_9, sf_1_9, gf_1_10, sf_1_10, gf_1_11, sf_1_11, rcv_1, rcO_1, gf_6_0, sf_6_0, gf_6_1, sf_6_1, gf_6_2, sf_6_2, gf_6_3, sf_6_3, gf_6_4, gf_6_5, rcv_6, rcO_6, gf_9_0, gf_9_1, sf_9_1, rcv_9, rcO_9, gf_12_0, sf_12_0, gf_12_1, sf_12_1, gf_12_2, gf_12_3, rcv_12, rcO_12, gf_15_0, sf_15_0, gf_15_1, sf_15_1, gf_15_2, gf_15_3, rcv_15, rcO_15, gf_18_0, sf_18_0, gf_18_1, sf_18_1, gf_18_2, gf_18_3, gf_18_4, gf_18_5, sf_18_5, gf_18_6, sf_18_6, gf_18_7, sf_18_7, gf_18_8, sf_18_8, rcv_18, rcO_18, gf_24_0, gf_24_1, gf_24_2, sf_24_2, rcv_24, rcO_24, gf_28_0, gf_28_1, gf_28_2, gf_28_3, sf_28_3, gf_28_4, gf_28_5, sf_28_5, gf_28_6, sf_28_6, gf_28_7, gf_28_8, gf_28_9, gf_28_10, gf_28_11, gf_28_12, gf_28_13, sf_28_13, gf_28_14, sf_28_14, gf_28_15, sf_28_15, gf_28_16, sf_28_16, gf_28_17, sf_28_17, gf_28_18, sf_28_18, gf_28_19, gf_28_20, gf_28_21, gf_28_22, gf_28_23, gf_28_24, sf_28_24, gf_28_25, rcv_28, rcO_28, aI_2, aW_2, sI_2, aI_3, aW_3, sI_3, aI_4, aW_4, sI_4, aI_5, aW_5, sI_5, aI_7, aW_7, sI_7, aI_8, aW_8, sI_8, aI_13, aW_13, sI_13, aI_14, aW_14, sI_14, aI_16, aW_16, sI_16, aI_17, aW_17, sI_17, aI_21, aW_21, sI_21, aI_22, aW_22, sI_22, aI_23, aW_23, sI_23, aI_25, aW_25, sI_25, aI_26, aW_26, sI_26, aI_29, aW_29, sI_29, aI_31, aW_31, sI_31, aI_32, aW_32, sI_32, aI_33, aW_33, sI_33, aI_34, aW_34, sI_34, aI_35, aW_35, sI_35, aI_36, aW_36, sI_36, aI_37, aW_37, sI_37, aI_38, aW_38, sI_38, aI_41, aW_41, sI_41, aI_42, aW_42, sI_42, aI_43, aW_43, sI_43, aL_19, sL_19, aL_20, sL_20, aL_27, sL_27, aL_39, sL_39, aL_40, sL_40, aL_44, sL_44, aB_30, aZ_30, sZ_30, aQ_10, aQ_11, sQ_10, a4, b7, b1.ar, b1.st, i0, z0, hw3, true_implies, false_implies, not_true_eq_false, not_false_eq_true, and_self, true_and, and_true]
    exact f4 X (d + 1) K
end W7
