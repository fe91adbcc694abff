/-! the class's ways and mends; the relation of the states' rows -/
theorem smL_cg {f g : Nat → Int64} : ∀ {k : Nat}, (∀ q, q < k → f q = g q) → smL f k = smL g k
  | 0, _ => rfl
  | k + 1, h => by
    show smL f k + f k = smL g k + g k
    rw [smL_cg (fun q hq => h q (by omega)), h k (by omega)]
theorem mnL_cg {f g : Nat → Int64} : ∀ {k : Nat}, (∀ q, q < k → f q = g q) → mnL f k = mnL g k
  | 0, _ => rfl
  | k + 1, h => by
    show lesN (mnL f k) (f k) = lesN (mnL g k) (g k)
    rw [mnL_cg (fun q hq => h q (by omega)), h k (by omega)]
section W8
variable {X : XS} {d : Nat} {K Q : Option Value → AH → Prop} {c : Nat → Int32} {r : Nat → Nat → Int32} {w : Nat → Nat → Int64} {mb : Nat → Option Nat} {n1 n2 : Nat} {sh : List Nat} {N LN : Nat} {l1 l2 l3 : Option Value}
theorem ws_loop (hA : LA n1 sh LN) (hN : N ≤ LN) (hc : c 1806 = nI N) : ∀ j k, k + j = N → Wp X d 12 18 [some (.ref 18), l1, l2, some (.ref 6), some (.long (smL (w n1) k)), none, some (.int (nI k))] [] (G c r w mb n1 n2 sh) Q = Q (some (.long (smL (w n1) N))) (G c r w mb n1 n2 sh) := by
  have hLN : LN < 10000 := by
    rcases hA with ⟨_, q⟩ | ⟨_, _, _, q⟩ <;> omega
  intro j
  induction j with
  | zero =>
    intro k hk
    obtain rfl : k = N := by omega
    have e : nI k ≤ nI k := Int32.le_refl _
    rw [s12_18]
    simp only [s12_0, s12_1, s12_2, s12_5, s12_6, s12_6n, s12_7, s12_8, s12_8n, s12_9, s12_12, s12_13, s12_15, s12_16, s12_20, s12_21, s12_24, s12_27, s12_29, s12_30, s12_33, s12_35, s12_36, s12_37, s12_39, s12_42, s12_45, s12_47, zb0, zb1, ob_some, tl_s, tl_n, nk_i, nk_r, nk_n, nk_0, pk_us, pk_un, va_up_self, va_up_ne, ne_eq, Nat.reduceEqDiff, not_false_eq_true, true_and, and_true, eq_self, z11, z00, bI_z, gf_0_0, gf_0_1, gf_0_2, gf_0_3, gf_0_4, gf_0_5, gf_0_6, rcv_0, rcO_0, gf_1_0, gf_1_1, sf_1_1, gf_1_2, gf_1_3, gf_1_4, gf_1_5, sf_1_5, gf_1_6, sf_1_6, gf_1_7, sf_1_7, gf_1_8, sf_1_8, gf_1_9, sf_1_9, gf_1_10, sf_1_10, gf_1_11, sf_1_11, rcv_1, rcO_1, gf_6_0, sf_6_0, gf_6_1, sf_6_1, gf_6_2, sf_6_2, gf_6_3, sf_6_3, gf_6_4, gf_6_5, rcv_6, rcO_6, gf_9_0, gf_9_1, sf_9_1, rcv_9, rcO_9, gf_12_0, sf_12_0, gf_12_1, sf_12_1, gf_12_2, gf_12_3, rcv_12, rcO_12, gf_15_0, sf_15_0, gf_15_1, sf_15_1, gf_15_2, gf_15_3, rcv_15, rcO_15, gf_18_0, sf_18_0, gf_18_1, sf_18_1, gf_18_2, gf_18_3, gf_18_4, gf_18_5, sf_18_5, gf_18_6, sf_18_6, gf_18_7, sf_18_7, gf_18_8, sf_18_8, rcv_18, rcO_18, gf_24_0, gf_24_1, gf_24_2, sf_24_2, rcv_24, rcO_24, gf_28_0, gf_28_1, gf_28_2, gf_28_3, sf_28_3, gf_28_4, gf_28_5, sf_28_5, gf_28_6, sf_28_6, gf_28_7, gf_28_8, gf_28_9, gf_28_10, gf_28_11, gf_28_12, gf_28_13, sf_28_13, gf_28_14, sf_28_14, gf_28_15, sf_28_15, gf_28_16, sf_28_16, gf_28_17, sf_28_17, gf_28_18, sf_28_18, gf_28_19, gf_28_20, gf_28_21, gf_28_22, gf_28_23, gf_28_24, sf_28_24, gf_28_25, rcv_28, rcO_28, aI_2, aW_2, sI_2, aI_3, aW_3, sI_3, aI_4, aW_4, sI_4, aI_5, aW_5, sI_5, aI_7, aW_7, sI_7, aI_8, aW_8, sI_8, aI_13, aW_13, sI_13, aI_14, aW_14, sI_14, aI_16, aW_16, sI_16, aI_17, aW_17, sI_17, aI_21, aW_21, sI_21, aI_22, aW_22, sI_22, aI_23, aW_23, sI_23, aI_25, aW_25, sI_25, aI_26, aW_26, sI_26, aI_29, aW_29, sI_29, aI_31, aW_31, sI_31, aI_32, aW_32, sI_32, aI_33, aW_33, sI_33, aI_34, aW_34, sI_34, aI_35, aW_35, sI_35, aI_36, aW_36, sI_36, aI_37, aW_37, sI_37, aI_38, aW_38, sI_38, aI_41, aW_41, sI_41, aI_42, aW_42, sI_42, aI_43, aW_43, sI_43, aL_19, sL_19, aL_20, sL_20, aL_27, sL_27, aL_39, sL_39, aL_40, sL_40, aL_44, sL_44, aB_30, aZ_30, sZ_30, aQ_10, aQ_11, sQ_10, hc, e, true_implies, false_implies, not_true_eq_false, not_false_eq_true, and_self, true_and, and_true]
  | succ j ih =>
    intro k hk
    have e : ¬ nI N ≤ nI k := nI_ge (by omega) (by omega)
    have i1 := inb_nI (show k < LN by omega) (by omega)
    have z1 := nI_clamp (show k < 2 ^ 31 by omega)
    rw [s12_18]
    simp only [s12_0, s12_1, s12_2, s12_5, s12_6, s12_6n, s12_7, s12_8, s12_8n, s12_9, s12_12, s12_13, s12_15, s12_16, s12_20, s12_21, s12_24, s12_27, s12_29, s12_30, s12_33, s12_35, s12_36, s12_37, s12_39, s12_42, s12_45, s12_47, zb0, zb1, ob_some, tl_s, tl_n, nk_i, nk_r, nk_n, nk_0, pk_us, pk_un, va_up_self, va_up_ne, ne_eq, Nat.reduceEqDiff, not_false_eq_true, true_and, and_true, eq_self, z11, z00, bI_z, gf_0_0, gf_0_1, gf_0_2, gf_0_3, gf_0_4, gf_0_5, gf_0_6, rcv_0, rcO_0, gf_1_0, gf_1_1, sf_1_1, gf_1_2, gf_1_3, gf_1_4, gf_1_5, sf_1_5, gf_1_6, sf_1_6, gf_1_7, sf_1_7, gf_1_8, sf_1_8, gf_1_9, sf_1_9, gf_1_10, sf_1_10, gf_1_11, sf_1_11, rcv_1, rcO_1, gf_6_0, sf_6_0, gf_6_1, sf_6_1, gf_6_2, sf_6_2, gf_6_3, sf_6_3, gf_6_4, gf_6_5, rcv_6, rcO_6, gf_9_0, gf_9_1, sf_9_1, rcv_9, rcO_9, gf_12_0, sf_12_0, gf_12_1, sf_12_1, gf_12_2, gf_12_3, rcv_12, rcO_12, gf_15_0, sf_15_0, gf_15_1, sf_15_1, gf_15_2, gf_15_3, rcv_15, rcO_15, gf_18_0, sf_18_0, gf_18_1, sf_18_1, gf_18_2, gf_18_3, gf_18_4, gf_18_5, sf_18_5, gf_18_6, sf_18_6, gf_18_7, sf_18_7, gf_18_8, sf_18_8, rcv_18, rcO_18, gf_24_0, gf_24_1, gf_24_2, sf_24_2, rcv_24, rcO_24, gf_28_0, gf_28_1, gf_28_2, gf_28_3, sf_28_3, gf_28_4, gf_28_5, sf_28_5, gf_28_6, sf_28_6, gf_28_7, gf_28_8, gf_28_9, gf_28_10, gf_28_11, gf_28_12, gf_28_13, sf_28_13, gf_28_14, sf_28_14, gf_28_15, sf_28_15, gf_28_16, sf_28_16, gf_28_17, sf_28_17, gf_28_18, sf_28_18, gf_28_19, gf_28_20, gf_28_21, gf_28_22, gf_28_23, gf_28_24, sf_28_24, gf_28_25, rcv_28, rcO_28, aI_2, aW_2, sI_2, aI_3, aW_3, sI_3, aI_4, aW_4, sI_4, aI_5, aW_5, sI_5, aI_7, aW_7, sI_7, aI_8, aW_8, sI_8, aI_13, aW_13, sI_13, aI_14, aW_14, sI_14, aI_16, aW_16, sI_16, aI_17, aW_17, sI_17, aI_21, aW_21, sI_21, aI_22, aW_22, sI_22, aI_23, aW_23, sI_23, aI_25, aW_25, sI_25, aI_26, aW_26, sI_26, aI_29, aW_29, sI_29, aI_31, aW_31, sI_31, aI_32, aW_32, sI_32, aI_33, aW_33, sI_33, aI_34, aW_34, sI_34, aI_35, aW_35, sI_35, aI_36, aW_36, sI_36, aI_37, aW_37, sI_37, aI_38, aW_38, sI_38, aI_41, aW_41, sI_41, aI_42, aW_42, sI_42, aI_43, aW_43, sI_43, aL_19, sL_19, aL_20, sL_20, aL_27, sL_27, aL_39, sL_39, aL_40, sL_40, aL_44, sL_44, aB_30, aZ_30, sZ_30, aQ_10, aQ_11, sQ_10, hc, e, hA.ar, i1, z1, nI_1, true_implies, false_implies, not_true_eq_false, not_false_eq_true, and_self, true_and, and_true]
    exact ih (k + 1) (by omega)
theorem ms_loop (hA : LA n1 sh LN) (hN : N ≤ LN) (hc : c 1806 = nI N) : ∀ j k, k + j = N → Wp X (d + 2) 13 18 [some (.ref 18), l1, l2, some (.ref 6), some (.long (mnL (w n1) k)), none, some (.int (nI k))] [] (G c r w mb n1 n2 sh) Q = Q (some (.int ((mnL (w n1) N).toInt32 - 1))) (G c r w mb n1 n2 sh) := by
  have hLN : LN < 10000 := by
    rcases hA with ⟨_, q⟩ | ⟨_, _, _, q⟩ <;> omega
  intro j
  induction j with
  | zero =>
    intro k hk
    obtain rfl : k = N := by omega
    have e : nI k ≤ nI k := Int32.le_refl _
    rw [s13_18]
    simp only [s13_0, s13_1, s13_2, s13_5, s13_6, s13_6n, s13_7, s13_8, s13_8n, s13_9, s13_12, s13_13, s13_15, s13_16, s13_20, s13_21, s13_24, s13_27, s13_29, s13_30, s13_33, s13_35, s13_36, s13_39, s13_41, s13_44, s13_47, s13_49, s13_50, s13_51, s13_52, zb0, zb1, ob_some, tl_s, tl_n, nk_i, nk_r, nk_n, nk_0, pk_us, pk_un, va_up_self, va_up_ne, ne_eq, Nat.reduceEqDiff, not_false_eq_true, true_and, and_true, eq_self, z11, z00, bI_z, gf_0_0, gf_0_1, gf_0_2, gf_0_3, gf_0_4, gf_0_5, gf_0_6, rcv_0, rcO_0, gf_1_0, gf_1_1, sf_1_1, gf_1_2, gf_1_3, gf_1_4, gf_1_5, sf_1_5, gf_1_6, sf_1_6, gf_1_7, sf_1_7, gf_1_8, sf_1_8, gf_1_9, sf_1_9, gf_1_10, sf_1_10, gf_1_11, sf_1_11, rcv_1, rcO_1, gf_6_0, sf_6_0, gf_6_1, sf_6_1, gf_6_2, sf_6_2, gf_6_3, sf_6_3, gf_6_4, gf_6_5, rcv_6, rcO_6, gf_9_0, gf_9_1, sf_9_1, rcv_9, rcO_9, gf_12_0, sf_12_0, gf_12_1, sf_12_1, gf_12_2, gf_12_3, rcv_12, rcO_12, gf_15_0, sf_15_0, gf_15_1, sf_15_1, gf_15_2, gf_15_3, rcv_15, rcO_15, gf_18_0, sf_18_0, gf_18_1, sf_18_1, gf_18_2, gf_18_3, gf_18_4, gf_18_5, sf_18_5, gf_18_6, sf_18_6, gf_18_7, sf_18_7, gf_18_8, sf_18_8, rcv_18, rcO_18, gf_24_0, gf_24_1, gf_24_2, sf_24_2, rcv_24, rcO_24, gf_28_0, gf_28_1, gf_28_2, gf_28_3, sf_28_3, gf_28_4, gf_28_5, sf_28_5, gf_28_6, sf_28_6, gf_28_7, gf_28_8, gf_28_9, gf_28_10, gf_28_11, gf_28_12, gf_28_13, sf_28_13, gf_28_14, sf_28_14, gf_28_15, sf_28_15, gf_28_16, sf_28_16, gf_28_17, sf_28_17, gf_28_18, sf_28_18, gf_28_19, gf_28_20, gf_28_21, gf_28_22, gf_28_23, gf_28_24, sf_28_24, gf_28_25, rcv_28, rcO_28, aI_2, aW_2, sI_2, aI_3, aW_3, sI_3, aI_4, aW_4, sI_4, aI_5, aW_5, sI_5, aI_7, aW_7, sI_7, aI_8, aW_8, sI_8, aI_13, aW_13, sI_13, aI_14, aW_14, sI_14, aI_16, aW_16, sI_16, aI_17, aW_17, sI_17, aI_21, aW_21, sI_21, aI_22, aW_22, sI_22, aI_23, aW_23, sI_23, aI_25, aW_25, sI_25, aI_26, aW_26, sI_26, aI_29, aW_29, sI_29, aI_31, aW_31, sI_31, aI_32, aW_32, sI_32, aI_33, aW_33, sI_33, aI_34, aW_34, sI_34, aI_35, aW_35, sI_35, aI_36, aW_36, sI_36, aI_37, aW_37, sI_37, aI_38, aW_38, sI_38, aI_41, aW_41, sI_41, aI_42, aW_42, sI_42, aI_43, aW_43, sI_43, aL_19, sL_19, aL_20, sL_20, aL_27, sL_27, aL_39, sL_39, aL_40, sL_40, aL_44, sL_44, aB_30, aZ_30, sZ_30, aQ_10, aQ_11, sQ_10, hc, e, true_implies, false_implies, not_true_eq_false, not_false_eq_true, and_self, true_and, and_true]
  | succ j ih =>
    intro k hk
    have e : ¬ nI N ≤ nI k := nI_ge (by omega) (by omega)
    have i1 := inb_nI (show k < LN by omega) (by omega)
    have z1 := nI_clamp (show k < 2 ^ 31 by omega)
    rw [s13_18]
    simp only [s13_0, s13_1, s13_2, s13_5, s13_6, s13_6n, s13_7, s13_8, s13_8n, s13_9, s13_12, s13_13, s13_15, s13_16, s13_20, s13_21, s13_24, s13_27, s13_29, s13_30, s13_33, s13_35, s13_36, s13_39, s13_41, s13_44, s13_47, s13_49, s13_50, s13_51, s13_52, zb0, zb1, ob_some, tl_s, tl_n, nk_i, nk_r, nk_n, nk_0, pk_us, pk_un, va_up_self, va_up_ne, ne_eq, Nat.reduceEqDiff, not_false_eq_true, true_and, and_true, eq_self, z11, z00, bI_z, gf_0_0, gf_0_1, gf_0_2, gf_0_3, gf_0_4, gf_0_5, gf_0_6, rcv_0, rcO_0, gf_1_0, gf_1_1, sf_1_1, gf_1_2, gf_1_3, gf_1_4, gf_1_5, sf_1_5, gf_1_6, sf_1_6, gf_1_7, sf_1_7, gf_1_8, sf_1_8, gf_1_9, sf_1_9, gf_1_10, sf_1_10, gf_1_11, sf_1_11, rcv_1, rcO_1, gf_6_0, sf_6_0, gf_6_1, sf_6_1, gf_6_2, sf_6_2, gf_6_3, sf_6_3, gf_6_4, gf_6_5, rcv_6, rcO_6, gf_9_0, gf_9_1, sf_9_1, rcv_9, rcO_9, gf_12_0, sf_12_0, gf_12_1, sf_12_1, gf_12_2, gf_12_3, rcv_12, rcO_12, gf_15_0, sf_15_0, gf_15_1, sf_15_1, gf_15_2, gf_15_3, rcv_15, rcO_15, gf_18_0, sf_18_0, gf_18_1, sf_18_1, gf_18_2, gf_18_3, gf_18_4, gf_18_5, sf_18_5, gf_18_6, sf_18_6, gf_18_7, sf_18_7, gf_18_8, sf_18_8, rcv_18, rcO_18, gf_24_0, gf_24_1, gf_24_2, sf_24_2, rcv_24, rcO_24, gf_28_0, gf_28_1, gf_28_2, gf_28_3, sf_28_3, gf_28_4, gf_28_5, sf_28_5, gf_28_6, sf_28_6, gf_28_7, gf_28_8, gf_28_9, gf_28_10, gf_28_11, gf_28_12, gf_28_13, sf_28_13, gf_28_14, sf_28_14, gf_28_15, sf_28_15, gf_28_16, sf_28_16, gf_28_17, sf_28_17, gf_28_18, sf_28_18, gf_28_19, gf_28_20, gf_28_21, gf_28_22, gf_28_23, gf_28_24, sf_28_24, gf_28_25, rcv_28, rcO_28, aI_2, aW_2, sI_2, aI_3, aW_3, sI_3, aI_4, aW_4, sI_4, aI_5, aW_5, sI_5, aI_7, aW_7, sI_7, aI_8, aW_8, sI_8, aI_13, aW_13, sI_13, aI_14, aW_14, sI_14, aI_16, aW_16, sI_16, aI_17, aW_17, sI_17, aI_21, aW_21, sI_21, aI_22, aW_22, sI_22, aI_23, aW_23, sI_23, aI_25, aW_25, sI_25, aI_26, aW_26, sI_26, aI_29, aW_29, sI_29, aI_31, aW_31, sI_31, aI_32, aW_32, sI_32, aI_33, aW_33, sI_33, aI_34, aW_34, sI_34, aI_35, aW_35, sI_35, aI_36, aW_36, sI_36, aI_37, aW_37, sI_37, aI_38, aW_38, sI_38, aI_41, aW_41, sI_41, aI_42, aW_42, sI_42, aI_43, aW_43, sI_43, aL_19, sL_19, aL_20, sL_20, aL_27, sL_27, aL_39, sL_39, aL_40, sL_40, aL_44, sL_44, aB_30, aZ_30, sZ_30, aQ_10, aQ_11, sQ_10, hc, e, hA.ar, i1, z1, c_lesser, nI_1, true_implies, false_implies, not_true_eq_false, not_false_eq_true, and_self, true_and, and_true]
    exact ih (k + 1) (by omega)
variable {x : Int32} {M H : Nat} {pp ss rc ld : Nat → Nat}
theorem c_waysOf (hM : M ≤ 5) (hx : ∀ i, M ≤ i → bt x i = false) (hc9 : c 901 = nI M) (hmm : ∀ k, k < M → mb k = some (pp k) ∧ isC sh (pp k) (ss k) ∧ stN c (pp k) = nI (sd (rc k) (ld k)) ∧ 1 ≤ sd (rc k) (ld k) ∧ sd (rc k) (ld k) ≤ 6) (hc : c 600 = nI H) (hH : H ≤ 20) (hA1 : LA n1 sh LN) (hA2 : LA n2 sh LN) (hne : n1 ≠ n2) (hl : sh.length < 800000) : ∃ c2 r2 w2 k1 k2 sh2, (∀ q, q ≠ 1805 → q ≠ 1806 → q ≠ 1807 → q ≠ 1808 → c2 q = c q) ∧ (∀ q, q ≠ 21 → q ≠ 22 → q ≠ 23 → r2 q = r q) ∧ GRW n1 n2 sh k1 k2 sh2 ∧ ∀ X d K, Cl X (d + 7) 12 [.ref 18, .ref 9, .int x, .ref 6] (G c r w mb n1 n2 sh) K = K (some (.long (smL (Fw (chS x rc ld) (cnt (bt x) 5) false (bt (frN c)) H) (Wt (chS x rc ld) (cnt (bt x) 5))))) (G c2 r2 w2 mb k1 k2 sh2) := by
  have hmm2 : ∀ k, k < M → mb k = some (pp k) ∧ isC sh (pp k) (ss k) ∧ stN (upd c 1808 0) (pp k) = nI (sd (rc k) (ld k)) ∧ 1 ≤ sd (rc k) (ld k) ∧ sd (rc k) (ld k) ≤ 6 := by
    intro k hk
    obtain ⟨o1, o2, o3, o4⟩ := hmm k hk
    have := o2.1
    refine ⟨o1, o2, ?_, o4⟩
    unfold stN
    rw [pk_un (by omega), pk_un (by omega)]
    exact o3
  obtain ⟨c2, r2, w2, k1, k2, sh2, LN2, f1, f2, f3, f4, f5, f6, f7, f8⟩ := c_goUp (c := upd c 1808 0) (r := r) (w := w) (md := false) hM hx ((pk_un (by omega)).trans hc9) hmm2 pk_us ((pk_un (by omega)).trans hc) hH hA1 hA2 hne hl
  have hfr : frN (upd c 1808 0) = frN c := rfl
  rw [hfr] at f7
  refine ⟨c2, r2, w2, k1, k2, sh2, fun q h1 h2 h3 h4 => (f1 q h1 h2 h3).trans (pk_un h4), f2, f3, fun X d K => ?_⟩
  rw [e12]
  simp only [s12_0, s12_1, s12_2, s12_5, s12_6, s12_6n, s12_7, s12_8, s12_8n, s12_9, s12_12, s12_13, s12_15, s12_16, s12_20, s12_21, s12_24, s12_27, s12_29, s12_30, s12_33, s12_35, s12_36, s12_37, s12_39, s12_42, s12_45, s12_47, zb0, zb1, ob_some, tl_s, tl_n, nk_i, nk_r, nk_n, nk_0, pk_us, pk_un, va_up_self, va_up_ne, ne_eq, Nat.reduceEqDiff, not_false_eq_true, true_and, and_true, eq_self, z11, z00, bI_z, gf_0_0, gf_0_1, gf_0_2, gf_0_3, gf_0_4, gf_0_5, gf_0_6, rcv_0, rcO_0, gf_1_0, gf_1_1, sf_1_1, gf_1_2, gf_1_3, gf_1_4, gf_1_5, sf_1_5, gf_1_6, sf_1_6, gf_1_7, sf_1_7, gf_1_8, sf_1_8, gf_1_9, sf_1_9, gf_1_10, sf_1_10, gf_1_11, sf_1_11, rcv_1, rcO_1, gf_6_0, sf_6_0, gf_6_1, sf_6_1, gf_6_2, sf_6_2, gf_6_3, sf_6_3, gf_6_4, gf_6_5, rcv_6, rcO_6, gf_9_0, gf_9_1, sf_9_1, rcv_9, rcO_9, gf_12_0, sf_12_0, gf_12_1, sf_12_1, gf_12_2, gf_12_3, rcv_12, rcO_12, gf_15_0, sf_15_0, gf_15_1, sf_15_1, gf_15_2, gf_15_3, rcv_15, rcO_15, gf_18_0, sf_18_0, gf_18_1, sf_18_1, gf_18_2, gf_18_3, gf_18_4, gf_18_5, sf_18_5, gf_18_6, sf_18_6, gf_18_7, sf_18_7, gf_18_8, sf_18_8, rcv_18, rcO_18, gf_24_0, gf_24_1, gf_24_2, sf_24_2, rcv_24, rcO_24, gf_28_0, gf_28_1, gf_28_2, gf_28_3, sf_28_3, gf_28_4, gf_28_5, sf_28_5, gf_28_6, sf_28_6, gf_28_7, gf_28_8, gf_28_9, gf_28_10, gf_28_11, gf_28_12, gf_28_13, sf_28_13, gf_28_14, sf_28_14, gf_28_15, sf_28_15, gf_28_16, sf_28_16, gf_28_17, sf_28_17, gf_28_18, sf_28_18, gf_28_19, gf_28_20, gf_28_21, gf_28_22, gf_28_23, gf_28_24, sf_28_24, gf_28_25, rcv_28, rcO_28, aI_2, aW_2, sI_2, aI_3, aW_3, sI_3, aI_4, aW_4, sI_4, aI_5, aW_5, sI_5, aI_7, aW_7, sI_7, aI_8, aW_8, sI_8, aI_13, aW_13, sI_13, aI_14, aW_14, sI_14, aI_16, aW_16, sI_16, aI_17, aW_17, sI_17, aI_21, aW_21, sI_21, aI_22, aW_22, sI_22, aI_23, aW_23, sI_23, aI_25, aW_25, sI_25, aI_26, aW_26, sI_26, aI_29, aW_29, sI_29, aI_31, aW_31, sI_31, aI_32, aW_32, sI_32, aI_33, aW_33, sI_33, aI_34, aW_34, sI_34, aI_35, aW_35, sI_35, aI_36, aW_36, sI_36, aI_37, aW_37, sI_37, aI_38, aW_38, sI_38, aI_41, aW_41, sI_41, aI_42, aW_42, sI_42, aI_43, aW_43, sI_43, aL_19, sL_19, aL_20, sL_20, aL_27, sL_27, aL_39, sL_39, aL_40, sL_40, aL_44, sL_44, aB_30, aZ_30, sZ_30, aQ_10, aQ_11, sQ_10, f8]
  refine (ws_loop f4 f5 f6 (Wt (chS x rc ld) (cnt (bt x) 5)) 0 (by omega)).trans ?_
  rw [smL_cg f7]
theorem c_mendsOf (hM : M ≤ 5) (hx : ∀ i, M ≤ i → bt x i = false) (hc9 : c 901 = nI M) (hmm : ∀ k, k < M → mb k = some (pp k) ∧ isC sh (pp k) (ss k) ∧ stN c (pp k) = nI (sd (rc k) (ld k)) ∧ 1 ≤ sd (rc k) (ld k) ∧ sd (rc k) (ld k) ≤ 6) (hc : c 600 = nI H) (hH : H ≤ 20) (hA1 : LA n1 sh LN) (hA2 : LA n2 sh LN) (hne : n1 ≠ n2) (hl : sh.length < 800000) : ∃ c2 r2 w2 k1 k2 sh2, (∀ q, q ≠ 1805 → q ≠ 1806 → q ≠ 1807 → q ≠ 1808 → c2 q = c q) ∧ (∀ q, q ≠ 21 → q ≠ 22 → q ≠ 23 → r2 q = r q) ∧ GRW n1 n2 sh k1 k2 sh2 ∧ ∀ X d K, Cl X (d + 7) 13 [.ref 18, .ref 9, .int x, .ref 6] (G c r w mb n1 n2 sh) K = K (some (.int ((mnL (Fw (chS x rc ld) (cnt (bt x) 5) true (bt (frN c)) H) (Wt (chS x rc ld) (cnt (bt x) 5))).toInt32 - 1))) (G c2 r2 w2 mb k1 k2 sh2) := by
  have hmm2 : ∀ k, k < M → mb k = some (pp k) ∧ isC sh (pp k) (ss k) ∧ stN (upd c 1808 1) (pp k) = nI (sd (rc k) (ld k)) ∧ 1 ≤ sd (rc k) (ld k) ∧ sd (rc k) (ld k) ≤ 6 := by
    intro k hk
    obtain ⟨o1, o2, o3, o4⟩ := hmm k hk
    have := o2.1
    refine ⟨o1, o2, ?_, o4⟩
    unfold stN
    rw [pk_un (by omega), pk_un (by omega)]
    exact o3
  obtain ⟨c2, r2, w2, k1, k2, sh2, LN2, f1, f2, f3, f4, f5, f6, f7, f8⟩ := c_goUp (c := upd c 1808 1) (r := r) (w := w) (md := true) hM hx ((pk_un (by omega)).trans hc9) hmm2 pk_us ((pk_un (by omega)).trans hc) hH hA1 hA2 hne hl
  have hfr : frN (upd c 1808 1) = frN c := rfl
  rw [hfr] at f7
  refine ⟨c2, r2, w2, k1, k2, sh2, fun q h1 h2 h3 h4 => (f1 q h1 h2 h3).trans (pk_un h4), f2, f3, fun X d K => ?_⟩
  rw [e13]
  simp only [s13_0, s13_1, s13_2, s13_5, s13_6, s13_6n, s13_7, s13_8, s13_8n, s13_9, s13_12, s13_13, s13_15, s13_16, s13_20, s13_21, s13_24, s13_27, s13_29, s13_30, s13_33, s13_35, s13_36, s13_39, s13_41, s13_44, s13_47, s13_49, s13_50, s13_51, s13_52, zb0, zb1, ob_some, tl_s, tl_n, nk_i, nk_r, nk_n, nk_0, pk_us, pk_un, va_up_self, va_up_ne, ne_eq, Nat.reduceEqDiff, not_false_eq_true, true_and, and_true, eq_self, z11, z00, bI_z, gf_0_0, gf_0_1, gf_0_2, gf_0_3, gf_0_4, gf_0_5, gf_0_6, rcv_0, rcO_0, gf_1_0, gf_1_1, sf_1_1, gf_1_2, gf_1_3, gf_1_4, gf_1_5, sf_1_5, gf_1_6, sf_1_6, gf_1_7, sf_1_7, gf_1_8, sf_1_8, gf_1_9, sf_1_9, gf_1_10, sf_1_10, gf_1_11, sf_1_11, rcv_1, rcO_1, gf_6_0, sf_6_0, gf_6_1, sf_6_1, gf_6_2, sf_6_2, gf_6_3, sf_6_3, gf_6_4, gf_6_5, rcv_6, rcO_6, gf_9_0, gf_9_1, sf_9_1, rcv_9, rcO_9, gf_12_0, sf_12_0, gf_12_1, sf_12_1, gf_12_2, gf_12_3, rcv_12, rcO_12, gf_15_0, sf_15_0, gf_15_1, sf_15_1, gf_15_2, gf_15_3, rcv_15, rcO_15, gf_18_0, sf_18_0, gf_18_1, sf_18_1, gf_18_2, gf_18_3, gf_18_4, gf_18_5, sf_18_5, gf_18_6, sf_18_6, gf_18_7, sf_18_7, gf_18_8, sf_18_8, rcv_18, rcO_18, gf_24_0, gf_24_1, gf_24_2, sf_24_2, rcv_24, rcO_24, gf_28_0, gf_28_1, gf_28_2, gf_28_3, sf_28_3, gf_28_4, gf_28_5, sf_28_5, gf_28_6, sf_28_6, gf_28_7, gf_28_8, gf_28_9, gf_28_10, gf_28_11, gf_28_12, gf_28_13, sf_28_13, gf_28_14, sf_28_14, gf_28_15, sf_28_15, gf_28_16, sf_28_16, gf_28_17, sf_28_17, gf_28_18, sf_28_18, gf_28_19, gf_28_20, gf_28_21, gf_28_22, gf_28_23, gf_28_24, sf_28_24, gf_28_25, rcv_28, rcO_28, aI_2, aW_2, sI_2, aI_3, aW_3, sI_3, aI_4, aW_4, sI_4, aI_5, aW_5, sI_5, aI_7, aW_7, sI_7, aI_8, aW_8, sI_8, aI_13, aW_13, sI_13, aI_14, aW_14, sI_14, aI_16, aW_16, sI_16, aI_17, aW_17, sI_17, aI_21, aW_21, sI_21, aI_22, aW_22, sI_22, aI_23, aW_23, sI_23, aI_25, aW_25, sI_25, aI_26, aW_26, sI_26, aI_29, aW_29, sI_29, aI_31, aW_31, sI_31, aI_32, aW_32, sI_32, aI_33, aW_33, sI_33, aI_34, aW_34, sI_34, aI_35, aW_35, sI_35, aI_36, aW_36, sI_36, aI_37, aW_37, sI_37, aI_38, aW_38, sI_38, aI_41, aW_41, sI_41, aI_42, aW_42, sI_42, aI_43, aW_43, sI_43, aL_19, sL_19, aL_20, sL_20, aL_27, sL_27, aL_39, sL_39, aL_40, sL_40, aL_44, sL_44, aB_30, aZ_30, sZ_30, aQ_10, aQ_11, sQ_10, f8]
  refine (ms_loop (d := d + 5) f4 f5 f6 (Wt (chS x rc ld) (cnt (bt x) 5)) 0 (by omega)).trans ?_
  rw [mnL_cg f7]
end W8
def FAR : Int32 := 268435456
def RelE (md : Bool) (b : Nat) (x cn : Int64) (cs : Int32) : Prop := if md then ((x = 0 ∧ cs = FAR) ∨ ∃ k, k ≤ b ∧ x = lN (k + 1) ∧ cs = nI k) else (cn = x ∧ ((cs = FAR ∧ x = 0) ∨ ∃ k, k ≤ b ∧ cs = nI k))
theorem FAR_ne {k : Nat} (h : k ≤ 30) : ¬ nI k = FAR := fun q => by
  have := (nI_eq (b := 268435456) (by omega) (by omega)).mp q
  omega
theorem FAR_lt {k : Nat} (h : k ≤ 30) : nI k < FAR := nI_lt (b := 268435456) (by omega) (by omega)
/-- what a state's worth does to another's -/
def vvC (md fr : Bool) (g x : Int64) : Int64 := if x = 0 then g else if fr || md then rV md g (if fr then x else x + 1) else g
theorem E_up {md : Bool} {b b2 : Nat} {x cn : Int64} {cs : Int32} (h : RelE md b x cn cs) (hb : b ≤ b2) : RelE md b2 x cn cs := by
  unfold RelE at h ⊢
  cases md with
  | true =>
    rcases h with h | ⟨k, h1, h2⟩
    · exact Or.inl h
    · exact Or.inr ⟨k, by omega, h2⟩
  | false =>
    refine ⟨h.1, ?_⟩
    rcases h.2 with q | ⟨k, h1, h2⟩
    · exact Or.inl q
    · exact Or.inr ⟨k, by omega, h2⟩
theorem E_put {md fr : Bool} {b k0 : Nat} {g nc x cn : Int64} {nk cs : Int32} (hb : b ≤ 20) (hg : RelE md (b + 1) g nc nk) (hx : RelE md b x cn cs) (hk : k0 ≤ b) (hcs : cs = nI k0) : RelE md (b + 1) (vvC md fr g x) (nc + (if fr then cn else 0)) (if nk ≤ nI k0 + (if fr then 0 else 1) then nk else nI k0 + (if fr then 0 else 1)) := by
  obtain ⟨d, hd, hd1⟩ : ∃ d : Nat, d ≤ 1 ∧ nI k0 + (if fr then 0 else 1) = nI (k0 + d) ∧ (d = if fr then 0 else 1) := by
    cases fr with
    | true => exact ⟨0, by omega, Int32.add_zero _, rfl⟩
    | false => exact ⟨1, by omega, nI_1 k0, rfl⟩
  rw [hd1.1]
  unfold RelE at hg hx ⊢
  cases md with
  | true =>
    simp only [if_true] at hg hx ⊢
    rcases hx with ⟨_, hx⟩ | ⟨k, h1, h2, h3⟩
    · rw [hcs] at hx
      exact absurd hx (FAR_ne (by omega))
    · rw [hcs] at h3
      have hkk : k0 = k := (nI_eq (by omega) (by omega)).mp h3
      subst hkk
      have hx0 : ¬ x = 0 := by rw [h2]; exact lN_ne (by omega) (by omega)
      have hv : (if fr then x else x + 1) = lN (k0 + d + 1) := by
        rw [h2, hd1.2]
        cases fr with
        | true => rfl
        | false => exact lN_1 (k0 + 1)
      unfold vvC
      rw [if_neg hx0, Bool.or_true, if_pos rfl, hv]
      unfold rV lesN
      rw [if_pos rfl]
      rcases hg with ⟨g1, g2⟩ | ⟨m, g1, g2, g3⟩
      · rw [if_pos (Or.inl g1), g1, g2, if_neg (fun q => by
          have := Int32.le_iff_toInt_le.mp q
          have := Int32.lt_iff_toInt_lt.mp (FAR_lt (k := k0 + d) (by omega))
          omega)]
        refine Or.inr ⟨k0 + d, by omega, ?_, rfl⟩
        rw [← lN_0, lN_add, Nat.zero_add]
      · have hg0 : ¬ g = 0 := by rw [g2]; exact lN_ne (by omega) (by omega)
        have hv0 : ¬ lN (k0 + d + 1) = 0 := lN_ne (by omega) (by omega)
        rw [if_neg (show ¬ (g = 0 ∨ lN (k0 + d + 1) = 0) from fun q => q.elim hg0 hv0), g2, g3]
        by_cases hle : m ≤ k0 + d
        · rw [if_pos (nI_le hle (by omega)), if_neg (fun q => by have := (pk_lLT (by omega) (by omega)).mp q; omega)]
          exact Or.inr ⟨m, g1, rfl, rfl⟩
        · rw [if_neg (nI_ge (by omega) (by omega)), if_pos ((pk_lLT (by omega) (by omega)).mpr (by omega))]
          exact Or.inr ⟨k0 + d, by omega, rfl, rfl⟩
  | false =>
    simp only [if_false, Bool.false_eq_true] at hg hx ⊢
    obtain ⟨g1, g2⟩ := hg
    obtain ⟨x1, x2⟩ := hx
    refine ⟨?_, ?_⟩
    · unfold vvC rV
      simp only [Bool.or_false, if_false, Bool.false_eq_true]
      cases fr with
      | true =>
        simp only [if_true]
        rw [g1, x1]
        split
        · next q => rw [q]; exact Int64.add_zero g
        · rfl
      | false =>
        simp only [if_false, Bool.false_eq_true]
        rw [g1]
        split <;> exact Int64.add_zero g
    · rcases g2 with ⟨g2, _⟩ | ⟨m, g2, g3⟩
      · rw [g2, if_neg (fun q => by
          have := Int32.le_iff_toInt_le.mp q
          have := Int32.lt_iff_toInt_lt.mp (FAR_lt (k := k0 + d) (by omega))
          omega)]
        exact Or.inr ⟨k0 + d, by omega, rfl⟩
      · rw [g3]
        by_cases hle : m ≤ k0 + d
        · rw [if_pos (nI_le hle (by omega))]
          exact Or.inr ⟨m, g2, rfl⟩
        · rw [if_neg (nI_ge (by omega) (by omega))]
          exact Or.inr ⟨k0 + d, by omega, rfl⟩
