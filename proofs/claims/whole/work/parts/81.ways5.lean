/-! the class's crowd: room, all rungs, ways and mends -/
def GRW (n1 n2 : Nat) (sh : List Nat) (m1 m2 : Nat) (sh2 : List Nat) : Prop := (((m1 = n1 ∧ m2 = n2) ∨ (m1 = n2 ∧ m2 = n1)) ∧ sh2 = sh) ∨ (n1 < 45 ∧ ((m1 = 45 + sh.length ∧ m2 = 46 + sh.length) ∨ (m1 = 46 + sh.length ∧ m2 = 45 + sh.length)) ∧ sh2 = sh ++ [1, 1])
section W6
variable {c : Nat → Int32} {r : Nat → Nat → Int32} {w : Nat → Nat → Int64} {mb : Nat → Option Nat} {n1 n2 : Nat} {sh : List Nat} {N LN : Nat}
theorem c_room (hA1 : LA n1 sh LN) (hA2 : LA n2 sh LN) (hne : n1 ≠ n2) (hN : N ≤ 7776) (hc : c 1806 = nI N) (hl : sh.length < 800000) : ∃ m1 m2 sh2 w2 LN2, LA m1 sh2 LN2 ∧ LA m2 sh2 LN2 ∧ m1 ≠ m2 ∧ N ≤ LN2 ∧ GRW n1 n2 sh m1 m2 sh2 ∧ (∀ q, q < N → w2 m1 q = 0 ∧ w2 m2 q = 0) ∧ ∀ X d K, Cl X d 16 [.ref 18] (G c r w mb n1 n2 sh) K = K none (G c r w2 mb m1 m2 sh2) := by
  have hLN2 : LN < 10000 := by
    rcases hA1 with ⟨_, q⟩ | ⟨_, _, _, q⟩ <;> omega
  have eN : Int32.ofNat LN = nI LN := rfl
  by_cases h : N ≤ LN
  · have e1 : nI N ≤ nI LN := nI_le h (by omega)
    obtain ⟨w2, f1, f2, f3, f4⟩ := room_loop (r := r) (mb := mb) hA1 hA2 hne h hc N 0 w (by omega)
    refine ⟨n1, n2, sh, w2, LN, hA1, hA2, hne, h, Or.inl ⟨Or.inl ⟨rfl, rfl⟩, rfl⟩, fun q hq => f3 q (Nat.zero_le q) hq, fun X d K => ?_⟩
    rw [e16]
    simp only [s16_0, s16_1, s16_4, s16_5, s16_8, s16_9, s16_12, s16_13, s16_16, s16_18, s16_21, s16_22, s16_25, s16_27, s16_30, s16_31, s16_33, s16_34, s16_37, s16_40, s16_41, s16_44, s16_45, s16_46, s16_47, s16_48, s16_51, s16_52, s16_53, s16_54, s16_57, s16_60, zb0, zb1, ob_some, tl_s, tl_n, nk_i, nk_r, nk_n, nk_0, pk_us, pk_un, va_up_self, va_up_ne, ne_eq, Nat.reduceEqDiff, not_false_eq_true, true_and, and_true, eq_self, z11, z00, bI_z, gf_0_0, gf_0_1, gf_0_2, gf_0_3, gf_0_4, gf_0_5, gf_0_6, rcv_0, rcO_0, gf_1_0, gf_1_1, sf_1_1, gf_1_2, gf_1_3, gf_1_4, gf_1_5, sf_1_5, gf_1_6, sf_1_6, gf_1_7, sf_1_7, gf_1_8, sf_1_8, gf_1_9, sf_1_9, gf_1_10, sf_1_10, gf_1_11, sf_1_11, rcv_1, rcO_1, gf_6_0, sf_6_0, gf_6_1, sf_6_1, gf_6_2, sf_6_2, gf_6_3, sf_6_3, gf_6_4, gf_6_5, rcv_6, rcO_6, gf_9_0, gf_9_1, sf_9_1, rcv_9, rcO_9, gf_12_0, sf_12_0, gf_12_1, sf_12_1, gf_12_2, gf_12_3, rcv_12, rcO_12, gf_15_0, sf_15_0, gf_15_1, sf_15_1, gf_15_2, gf_15_3, rcv_15, rcO_15, gf_18_0, sf_18_0, gf_18_1, sf_18_1, gf_18_2, gf_18_3, gf_18_4, gf_18_5, sf_18_5, gf_18_6, sf_18_6, gf_18_7, sf_18_7, gf_18_8, sf_18_8, rcv_18, rcO_18, gf_24_0, gf_24_1, gf_24_2, sf_24_2, rcv_24, rcO_24, gf_28_0, gf_28_1, gf_28_2, gf_28_3, sf_28_3, gf_28_4, gf_28_5, sf_28_5, gf_28_6, sf_28_6, gf_28_7, gf_28_8, gf_28_9, gf_28_10, gf_28_11, gf_28_12, gf_28_13, sf_28_13, gf_28_14, sf_28_14, gf_28_15, sf_28_15, gf_28_16, sf_28_16, gf_28_17, sf_28_17, gf_28_18, sf_28_18, gf_28_19, gf_28_20, gf_28_21, gf_28_22, gf_28_23, gf_28_24, sf_28_24, gf_28_25, rcv_28, rcO_28, aI_2, aW_2, sI_2, aI_3, aW_3, sI_3, aI_4, aW_4, sI_4, aI_5, aW_5, sI_5, aI_7, aW_7, sI_7, aI_8, aW_8, sI_8, aI_13, aW_13, sI_13, aI_14, aW_14, sI_14, aI_16, aW_16, sI_16, aI_17, aW_17, sI_17, aI_21, aW_21, sI_21, aI_22, aW_22, sI_22, aI_23, aW_23, sI_23, aI_25, aW_25, sI_25, aI_26, aW_26, sI_26, aI_29, aW_29, sI_29, aI_31, aW_31, sI_31, aI_32, aW_32, sI_32, aI_33, aW_33, sI_33, aI_34, aW_34, sI_34, aI_35, aW_35, sI_35, aI_36, aW_36, sI_36, aI_37, aW_37, sI_37, aI_38, aW_38, sI_38, aI_41, aW_41, sI_41, aI_42, aW_42, sI_42, aI_43, aW_43, sI_43, aL_19, sL_19, aL_20, sL_20, aL_27, sL_27, aL_39, sL_39, aL_40, sL_40, aL_44, sL_44, aB_30, aZ_30, sZ_30, aQ_10, aQ_11, sQ_10, hc, hA1.n, eN, e1, true_implies, false_implies, not_true_eq_false, not_false_eq_true, and_self, true_and, and_true]
    exact f4 X d K
  · have e1 : ¬ nI N ≤ nI LN := nI_ge (by omega) (by omega)
    have hsm : n1 < 45 := by
      rcases hA1 with ⟨q | q, _⟩ | ⟨_, _, _, q⟩ <;> omega
    have hB1 : LA (45 + sh.length) (sh ++ [1] ++ [1]) 7776 := by
      refine Or.inr ⟨by omega, by omega, ?_, rfl⟩
      rw [Nat.add_sub_cancel_left]
      simp
    have hB2 : LA (45 + (sh ++ [1]).length) (sh ++ [1] ++ [1]) 7776 := by
      refine Or.inr ⟨by omega, by rw [List.length_append]; simp; omega, ?_, rfl⟩
      rw [Nat.add_sub_cancel_left]
      simp
    have hlen : (sh ++ [1]).length = sh.length + 1 := by simp
    have lim1 : (45 + sh.length < lim) = True := eq_true (by unfold lim; omega)
    have lim2 : (45 + (sh ++ [1]).length < lim) = True := eq_true (by unfold lim; omega)
    obtain ⟨w2, f1, f2, f3, f4⟩ := room_loop (r := r) (mb := mb) hB1 hB2 (by omega) (show N ≤ 7776 by omega) hc N 0 (va_up (va_up w (45 + sh.length) (fun _ => 0)) (45 + (sh ++ [1]).length) (fun _ => 0)) (by omega)
    refine ⟨45 + sh.length, 45 + (sh ++ [1]).length, sh ++ [1] ++ [1], w2, 7776, hB1, hB2, by omega, hN, Or.inr ⟨hsm, Or.inl ⟨rfl, by omega⟩, by simp⟩, fun q hq => f3 q (Nat.zero_le q) hq, fun X d K => ?_⟩
    have g1 := fun n1 n2 => G_newL (c := c) (r := r) (w := w) (mb := mb) (n1 := n1) (n2 := n2) (sh := sh)
    have g2 := fun n1 n2 => G_newL (c := c) (r := r) (w := va_up w (45 + sh.length) (fun _ => 0)) (mb := mb) (n1 := n1) (n2 := n2) (sh := sh ++ [1])
    have z7 : (7776 : Int32).toNatClampNeg = 7776 := by decide
    have p7 : ¬ (7776 : Int32) < 0 := by decide
    have l6 : (7776 ≤ 60000) = True := eq_true (by decide)
    rw [e16]
    simp only [s16_0, s16_1, s16_4, s16_5, s16_8, s16_9, s16_12, s16_13, s16_16, s16_18, s16_21, s16_22, s16_25, s16_27, s16_30, s16_31, s16_33, s16_34, s16_37, s16_40, s16_41, s16_44, s16_45, s16_46, s16_47, s16_48, s16_51, s16_52, s16_53, s16_54, s16_57, s16_60, zb0, zb1, ob_some, tl_s, tl_n, nk_i, nk_r, nk_n, nk_0, pk_us, pk_un, va_up_self, va_up_ne, ne_eq, Nat.reduceEqDiff, not_false_eq_true, true_and, and_true, eq_self, z11, z00, bI_z, gf_0_0, gf_0_1, gf_0_2, gf_0_3, gf_0_4, gf_0_5, gf_0_6, rcv_0, rcO_0, gf_1_0, gf_1_1, sf_1_1, gf_1_2, gf_1_3, gf_1_4, gf_1_5, sf_1_5, gf_1_6, sf_1_6, gf_1_7, sf_1_7, gf_1_8, sf_1_8, gf_1_9, sf_1_9, gf_1_10, sf_1_10, gf_1_11, sf_1_11, rcv_1, rcO_1, gf_6_0, sf_6_0, gf_6_1, sf_6_1, gf_6_2, sf_6_2, gf_6_3, sf_6_3, gf_6_4, gf_6_5, rcv_6, rcO_6, gf_9_0, gf_9_1, sf_9_1, rcv_9, rcO_9, gf_12_0, sf_12_0, gf_12_1, sf_12_1, gf_12_2, gf_12_3, rcv_12, rcO_12, gf_15_0, sf_15_0, gf_15_1, sf_15_1, gf_15_2, gf_15_3, rcv_15, rcO_15, gf_18_0, sf_18_0, gf_18_1, sf_18_1, gf_18_2, gf_18_3, gf_18_4, gf_18_5, sf_18_5, gf_18_6, sf_18_6, gf_18_7, sf_18_7, gf_18_8, sf_18_8, rcv_18, rcO_18, gf_24_0, gf_24_1, gf_24_2, sf_24_2, rcv_24, rcO_24, gf_28_0, gf_28_1, gf_28_2, gf_28_3, sf_28_3, gf_28_4, gf_28_5, sf_28_5, gf_28_6, sf_28_6, gf_28_7, gf_28_8, gf_28_9, gf_28_10, gf_28_11, gf_28_12, gf_28_13, sf_28_13, gf_28_14, sf_28_14, gf_28_15, sf_28_15, gf_28_16, sf_28_16, gf_28_17, sf_28_17, gf_28_18, sf_28_18, gf_28_19, gf_28_20, gf_28_21, gf_28_22, gf_28_23, gf_28_24, sf_28_24, gf_28_25, rcv_28, rcO_28, aI_2, aW_2, sI_2, aI_3, aW_3, sI_3, aI_4, aW_4, sI_4, aI_5, aW_5, sI_5, aI_7, aW_7, sI_7, aI_8, aW_8, sI_8, aI_13, aW_13, sI_13, aI_14, aW_14, sI_14, aI_16, aW_16, sI_16, aI_17, aW_17, sI_17, aI_21, aW_21, sI_21, aI_22, aW_22, sI_22, aI_23, aW_23, sI_23, aI_25, aW_25, sI_25, aI_26, aW_26, sI_26, aI_29, aW_29, sI_29, aI_31, aW_31, sI_31, aI_32, aW_32, sI_32, aI_33, aW_33, sI_33, aI_34, aW_34, sI_34, aI_35, aW_35, sI_35, aI_36, aW_36, sI_36, aI_37, aW_37, sI_37, aI_38, aW_38, sI_38, aI_41, aW_41, sI_41, aI_42, aW_42, sI_42, aI_43, aW_43, sI_43, aL_19, sL_19, aL_20, sL_20, aL_27, sL_27, aL_39, sL_39, aL_40, sL_40, aL_44, sL_44, aB_30, aZ_30, sZ_30, aQ_10, aQ_11, sQ_10, hc, hA1.n, eN, e1, G_length, lim1, lim2, z7, p7, l6, g1, g2, true_implies, false_implies, not_true_eq_false, not_false_eq_true, and_self, true_and, and_true]
    exact f4 X d K
end W6
