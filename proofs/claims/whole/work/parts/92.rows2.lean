/-! the reference's rows -/
def IMG (x x2 P : Int32) : Prop := (∀ i, bt x2 i = (bt x i && bt P (cnt (bt x) i))) ∧ (∀ i, 5 ≤ i → bt x i = false) ∧ ∀ a, cnt (bt x) 5 ≤ a → bt P a = false
section IM
variable {x x2 P : Int32} {d : Nat}
theorem IMG_cnt (h : IMG x x2 P) : ∀ i, cnt (bt x2) i = cnt (bt P) (cnt (bt x) i)
  | 0 => rfl
  | i + 1 => by
    have ih := IMG_cnt h i
    show cnt (bt x2) i + (if bt x2 i then 1 else 0) = cnt (bt P) (cnt (bt x) i + (if bt x i then 1 else 0))
    rw [h.1 i, ih]
    cases bt x i with
    | false => rfl
    | true => rfl
theorem IMG.c5 (h : IMG x x2 P) : cnt (bt P) 20 = cnt (bt x2) 5 := by
  have := cnt_le (bt x) 5
  rw [IMG_cnt h 5]
  exact cnt_ext (by omega) h.2.2
theorem IMG_pos (h : IMG x x2 P) (hd : d < cnt (bt x2) 5) : pos (bt P) d < cnt (bt x) 5 ∧ bt P (pos (bt P) d) = true ∧ pos (bt x) (pos (bt P) d) < 5 ∧ bt x (pos (bt x) (pos (bt P) d)) = true ∧ cnt (bt x) (pos (bt x) (pos (bt P) d)) = pos (bt P) d ∧ pos (bt x2) d = pos (bt x) (pos (bt P) d) ∧ bt x2 (pos (bt x2) d) = true := by
  have s1 := pos_spec (g := bt P) (k := d) (by rw [h.c5]; exact hd)
  have h1 : pos (bt P) d < cnt (bt x) 5 := by
    rcases Nat.lt_or_ge (pos (bt P) d) (cnt (bt x) 5) with q | q
    · exact q
    · rw [h.2.2 _ q] at s1
      cases s1.2.1
  have s2 := pos_spec (g := bt x) (k := pos (bt P) d) (Nat.lt_of_lt_of_le h1 (cnt_mono (bt x) (by omega)))
  have h2 : pos (bt x) (pos (bt P) d) < 5 := by
    rcases Nat.lt_or_ge (pos (bt x) (pos (bt P) d)) 5 with q | q
    · exact q
    · rw [h.2.1 _ q] at s2
      cases s2.2.1
  have hb : bt x2 (pos (bt x) (pos (bt P) d)) = true := by
    rw [h.1, s2.2.1, s2.2.2, s1.2.1]
    rfl
  have hc : cnt (bt x2) (pos (bt x) (pos (bt P) d)) = d := by
    rw [IMG_cnt h, s2.2.2, s1.2.2]
  have hp : pos (bt x2) d = pos (bt x) (pos (bt P) d) := by
    have := pos_at (x := x2) (by omega) hb
    rw [hc] at this
    exact this
  exact ⟨h1, s1.2.1, h2, s2.2.1, s2.2.2, hp, by rw [hp]; exact hb⟩
theorem IMG.del (h : IMG x x2 P) {i a : Nat} (hi : i < 5) (ha : a < 5) (hb : bt x i = true) (hc : cnt (bt x) i = a) : IMG x (dlt x2 i) (dlt P a) := by
  refine ⟨fun k => ?_, h.2.1, fun q hq => bt_dlt2 (by omega) (h.2.2 q hq)⟩
  rcases Nat.lt_or_ge k 5 with hk | hk
  · have := cnt_le (bt x) k
    rw [bt_dlt (by omega) (by omega), bt_dlt (by omega) (by omega), h.1 k]
    cases hx : bt x k with
    | false => rfl
    | true =>
      have e : decide (k = i) = decide (cnt (bt x) k = a) := by
        by_cases q : k = i
        · rw [decide_eq_true q, q, decide_eq_true hc]
        · rw [decide_eq_false q, decide_eq_false (fun z => q (cnt_un (bt x) hx hb (z.trans hc.symm)))]
      rw [e]
      rfl
  · rw [h.2.1 k hk]
    refine bt_dlt2 (by omega) ?_
    rw [h.1 k, h.2.1 k hk]
    rfl
theorem IMG.all (hx : ∀ i, 5 ≤ i → bt x i = false) : IMG x x ((1 <<< (nI (cnt (bt x) 5) &&& 31)) - 1) := by
  have hN := cnt_le (bt x) 5
  refine ⟨fun i => ?_, hx, fun a ha => ?_⟩
  · rcases Nat.lt_or_ge i 5 with hi | hi
    · have := cnt_le (bt x) i
      rw [bt_mask _ (by omega) _ (by omega)]
      cases hb : bt x i with
      | false => rfl
      | true => rw [decide_eq_true (cnt_lt (bt x) hi hb)]; rfl
    · rw [hx i hi]
      rfl
  · rcases Nat.lt_or_ge a 32 with q | q
    · rw [bt_mask _ (by omega) _ q]
      exact decide_eq_false (by omega)
    · exact b_big q
end IM
theorem fct_le : ∀ k, k < 6 → fct k ≤ 120 := by decide
theorem fct_dv {t : Nat} (h : 0 < t) : fct t / t = fct (t - 1) := by
  obtain ⟨s, rfl⟩ : ∃ s, t = s + 1 := ⟨t - 1, by omega⟩
  show (s + 1) * fct s / (s + 1) = fct s
  exact Nat.mul_div_cancel_left _ (Nat.succ_pos s)
section MR
variable {X : XS} {d N j : Nat} {Q K : Option Value → AH → Prop} {c : Nat → Int32} {r : Nat → Nat → Int32} {w : Nat → Nat → Int64} {mb : Nat → Option Nat} {n1 n2 : Nat} {sh : List Nat} {x v : Int32}
theorem size_loop (hN1 : 1 ≤ N) (hN : N ≤ 5) (hc : c 2824 = nI N) {l0 l1 l2 l3 l4 : Int32} : ∀ q t, 1 ≤ t → t + q = max 1 (N - 1) → Wp X d 167 21 [some (.ref 28), some (.int l1), some (.int l2), some (.int l3), some (.int l4), some (.int l0), some (.int (nI (fct t))), some (.int (nI (t + 1)))] [] (G c r w mb n1 n2 sh) Q = Wp X d 167 46 [some (.ref 28), some (.int l1), some (.int l2), some (.int l3), some (.int l4), some (.int l0), some (.int (nI (fct (N - 1)))), some (.int 0)] [] (G c r w mb n1 n2 sh) Q := by
  intro q
  induction q with
  | zero =>
    intro t ht hq
    have e : nI N ≤ nI (t + 1) := nI_le (by omega) (by omega)
    have ef : fct t = fct (N - 1) := by
      by_cases h1 : N = 1
      · subst h1
        obtain rfl : t = 1 := by omega
        rfl
      · congr 1; omega
    rw [s167_21]
    simp only [s167_0, s167_1, s167_2, s167_5, s167_6, s167_7, s167_8, s167_9, s167_10, s167_12, s167_13, s167_15, s167_16, s167_18, s167_19, s167_23, s167_24, s167_27, s167_30, s167_32, s167_34, s167_35, s167_37, s167_40, s167_43, s167_44, s167_48, s167_49, s167_52, s167_53, s167_55, s167_57, s167_58, s167_61, s167_62, s167_63, s167_65, s167_67, s167_69, s167_70, s167_72, s167_73, s167_74, s167_76, s167_77, s167_78, s167_79, s167_80, s167_81, s167_82, s167_85, s167_86, s167_87, s167_89, s167_90, s167_93, s167_95, s167_96, s167_99, s167_100, s167_101, s167_103, s167_104, s167_105, s167_108, s167_109, s167_111, s167_114, s167_117, s167_118, s167_121, s167_123, s167_124, zb0, zb1, ob_some, tl_s, tl_n, nk_i, nk_r, nk_n, nk_0, pk_us, pk_un, va_up_self, va_up_ne, ne_eq, Nat.reduceEqDiff, not_false_eq_true, true_and, and_true, eq_self, z11, z00, bI_z, gf_0_0, gf_0_1, gf_0_2, gf_0_3, gf_0_4, gf_0_5, gf_0_6, rcv_0, rcO_0, gf_1_0, gf_1_1, sf_1_1, gf_1_2, gf_1_3, gf_1_4, gf_1_5, sf_1_5, gf_1_6, sf_1_6, gf_1_7, sf_1_7, gf_1_8, sf_1_8, gf_1_9, sf_1_9, gf_1_10, sf_1_10, gf_1_11, sf_1_11, rcv_1, rcO_1, gf_6_0, sf_6_0, gf_6_1, sf_6_1, gf_6_2, sf_6_2, gf_6_3, sf_6_3, gf_6_4, gf_6_5, rcv_6, rcO_6, gf_9_0, gf_9_1, sf_9_1, rcv_9, rcO_9, gf_12_0, sf_12_0, gf_12_1, sf_12_1, gf_12_2, gf_12_3, rcv_12, rcO_12, gf_15_0, sf_15_0, gf_15_1, sf_15_1, gf_15_2, gf_15_3, rcv_15, rcO_15, gf_18_0, sf_18_0, gf_18_1, sf_18_1, gf_18_2, gf_18_3, gf_18_4, gf_18_5, sf_18_5, gf_18_6, sf_18_6, gf_18_7, sf_18_7, gf_18_8, sf_18_8, rcv_18, rcO_18, gf_24_0, gf_24_1, gf_24_2, sf_24_2, rcv_24, rcO_24, gf_28_0, gf_28_1, gf_28_2, gf_28_3, sf_28_3, gf_28_4, gf_28_5, sf_28_5, gf_28_6, sf_28_6, gf_28_7, gf_28_8, gf_28_9, gf_28_10, gf_28_11, gf_28_12, gf_28_13, sf_28_13, gf_28_14, sf_28_14, gf_28_15, sf_28_15, gf_28_16, sf_28_16, gf_28_17, sf_28_17, gf_28_18, sf_28_18, gf_28_19, gf_28_20, gf_28_21, gf_28_22, gf_28_23, gf_28_24, sf_28_24, gf_28_25, rcv_28, rcO_28, aI_2, aW_2, sI_2, aI_3, aW_3, sI_3, aI_4, aW_4, sI_4, aI_5, aW_5, sI_5, aI_7, aW_7, sI_7, aI_8, aW_8, sI_8, aI_13, aW_13, sI_13, aI_14, aW_14, sI_14, aI_16, aW_16, sI_16, aI_17, aW_17, sI_17, aI_21, aW_21, sI_21, aI_22, aW_22, sI_22, aI_23, aW_23, sI_23, aI_25, aW_25, sI_25, aI_26, aW_26, sI_26, aI_29, aW_29, sI_29, aI_31, aW_31, sI_31, aI_32, aW_32, sI_32, aI_33, aW_33, sI_33, aI_34, aW_34, sI_34, aI_35, aW_35, sI_35, aI_36, aW_36, sI_36, aI_37, aW_37, sI_37, aI_38, aW_38, sI_38, aI_41, aW_41, sI_41, aI_42, aW_42, sI_42, aI_43, aW_43, sI_43, aL_19, sL_19, aL_20, sL_20, aL_27, sL_27, aL_39, sL_39, aL_40, sL_40, aL_44, sL_44, aB_30, aZ_30, sZ_30, aQ_10, aQ_11, sQ_10, hc, e, ef, true_implies, false_implies, not_true_eq_false, not_false_eq_true, and_self, true_and, and_true]
  | succ q ih =>
    intro t ht hq
    have e : ¬ nI N ≤ nI (t + 1) := nI_ge (by omega) (by omega)
    have em : nI (fct t) * nI (t + 1) = nI (fct (t + 1)) := by
      rw [nI_mul, Nat.mul_comm]
      rfl
    rw [s167_21]
    simp only [s167_0, s167_1, s167_2, s167_5, s167_6, s167_7, s167_8, s167_9, s167_10, s167_12, s167_13, s167_15, s167_16, s167_18, s167_19, s167_23, s167_24, s167_27, s167_30, s167_32, s167_34, s167_35, s167_37, s167_40, s167_43, s167_44, s167_48, s167_49, s167_52, s167_53, s167_55, s167_57, s167_58, s167_61, s167_62, s167_63, s167_65, s167_67, s167_69, s167_70, s167_72, s167_73, s167_74, s167_76, s167_77, s167_78, s167_79, s167_80, s167_81, s167_82, s167_85, s167_86, s167_87, s167_89, s167_90, s167_93, s167_95, s167_96, s167_99, s167_100, s167_101, s167_103, s167_104, s167_105, s167_108, s167_109, s167_111, s167_114, s167_117, s167_118, s167_121, s167_123, s167_124, zb0, zb1, ob_some, tl_s, tl_n, nk_i, nk_r, nk_n, nk_0, pk_us, pk_un, va_up_self, va_up_ne, ne_eq, Nat.reduceEqDiff, not_false_eq_true, true_and, and_true, eq_self, z11, z00, bI_z, gf_0_0, gf_0_1, gf_0_2, gf_0_3, gf_0_4, gf_0_5, gf_0_6, rcv_0, rcO_0, gf_1_0, gf_1_1, sf_1_1, gf_1_2, gf_1_3, gf_1_4, gf_1_5, sf_1_5, gf_1_6, sf_1_6, gf_1_7, sf_1_7, gf_1_8, sf_1_8, gf_1_9, sf_1_9, gf_1_10, sf_1_10, gf_1_11, sf_1_11, rcv_1, rcO_1, gf_6_0, sf_6_0, gf_6_1, sf_6_1, gf_6_2, sf_6_2, gf_6_3, sf_6_3, gf_6_4, gf_6_5, rcv_6, rcO_6, gf_9_0, gf_9_1, sf_9_1, rcv_9, rcO_9, gf_12_0, sf_12_0, gf_12_1, sf_12_1, gf_12_2, gf_12_3, rcv_12, rcO_12, gf_15_0, sf_15_0, gf_15_1, sf_15_1, gf_15_2, gf_15_3, rcv_15, rcO_15, gf_18_0, sf_18_0, gf_18_1, sf_18_1, gf_18_2, gf_18_3, gf_18_4, gf_18_5, sf_18_5, gf_18_6, sf_18_6, gf_18_7, sf_18_7, gf_18_8, sf_18_8, rcv_18, rcO_18, gf_24_0, gf_24_1, gf_24_2, sf_24_2, rcv_24, rcO_24, gf_28_0, gf_28_1, gf_28_2, gf_28_3, sf_28_3, gf_28_4, gf_28_5, sf_28_5, gf_28_6, sf_28_6, gf_28_7, gf_28_8, gf_28_9, gf_28_10, gf_28_11, gf_28_12, gf_28_13, sf_28_13, gf_28_14, sf_28_14, gf_28_15, sf_28_15, gf_28_16, sf_28_16, gf_28_17, sf_28_17, gf_28_18, sf_28_18, gf_28_19, gf_28_20, gf_28_21, gf_28_22, gf_28_23, gf_28_24, sf_28_24, gf_28_25, rcv_28, rcO_28, aI_2, aW_2, sI_2, aI_3, aW_3, sI_3, aI_4, aW_4, sI_4, aI_5, aW_5, sI_5, aI_7, aW_7, sI_7, aI_8, aW_8, sI_8, aI_13, aW_13, sI_13, aI_14, aW_14, sI_14, aI_16, aW_16, sI_16, aI_17, aW_17, sI_17, aI_21, aW_21, sI_21, aI_22, aW_22, sI_22, aI_23, aW_23, sI_23, aI_25, aW_25, sI_25, aI_26, aW_26, sI_26, aI_29, aW_29, sI_29, aI_31, aW_31, sI_31, aI_32, aW_32, sI_32, aI_33, aW_33, sI_33, aI_34, aW_34, sI_34, aI_35, aW_35, sI_35, aI_36, aW_36, sI_36, aI_37, aW_37, sI_37, aI_38, aW_38, sI_38, aI_41, aW_41, sI_41, aI_42, aW_42, sI_42, aI_43, aW_43, sI_43, aL_19, sL_19, aL_20, sL_20, aL_27, sL_27, aL_39, sL_39, aL_40, sL_40, aL_44, sL_44, aB_30, aZ_30, sZ_30, aQ_10, aQ_11, sQ_10, hc, e, em, nI_1, true_implies, false_implies, not_true_eq_false, not_false_eq_true, and_self, true_and, and_true]
    exact ih (t + 1) (by omega) (by omega)
theorem row_iter {k rest : Nat} {P x2 l4 : Int32} (hN : N ≤ 5) (hN2 : cnt (bt x) 5 = N) (hc : c 2824 = nI N) (hk : k ≤ j) (hj : j < N) (hI : IMG x x2 P) (hx2 : cnt (bt x2) 5 = N - k) (hr : rest < fct (N - k)) : Wp X (d + 2) 167 46 [some (.ref 28), some (.int v), some (.int (nI j)), some (.int P), some (.int l4), some (.int (nI rest)), some (.int (nI (fct (N - 1 - k)))), some (.int (nI k))] [] (G c r w mb n1 n2 sh) Q = Wp X (d + 2) 167 46 [some (.ref 28), some (.int v), some (.int (nI j)), some (.int (dlt P (pos (bt P) (rest / fct (N - 1 - k))))), some (.int (nI (pos (bt P) (rest / fct (N - 1 - k))))), some (.int (nI (rest % fct (N - 1 - k)))), some (.int (nI (fct (N - 1 - (k + 1))))), some (.int (nI (k + 1)))] [] (G c r w mb n1 n2 sh) Q := by
  have hp := fct_pos (N - 1 - k)
  have hl1 := fct_le (N - 1 - k) (by omega)
  have hl2 := fct_le (N - k) (by omega)
  have hfe : fct (N - k) = (N - 1 - k + 1) * fct (N - 1 - k) := by
    rw [show N - k = N - 1 - k + 1 by omega]
    rfl
  have hd : rest / fct (N - 1 - k) < N - k := by
    apply Nat.div_lt_of_lt_mul
    rw [hfe] at hr
    rw [Nat.mul_comm, show N - k = N - 1 - k + 1 by omega]
    exact hr
  have e1 : ¬ nI j < nI k := nI_nlt (by omega) (by omega)
  have e2 : ¬ nI (fct (N - 1 - k)) = 0 := nI_ne0 hp (by omega)
  have e3 : nI rest / nI (fct (N - 1 - k)) = nI (rest / fct (N - 1 - k)) := pk_div (by omega) hp (by omega)
  have e4 : nI rest - nI rest / nI (fct (N - 1 - k)) * nI (fct (N - 1 - k)) = nI (rest % fct (N - 1 - k)) := pk_rem (by omega) hp (by omega)
  rw [e3] at e4
  have hd20 : rest / fct (N - 1 - k) < cnt (bt P) 20 := by rw [hI.c5, hx2]; exact hd
  have e5 : nI N - 1 = nI (N - 1) := by
    rw [show N = N - 1 + 1 by omega]
    exact nI_pred _
  have e6 : nI (N - 1) - nI k = nI (N - 1 - k) := nI_sub (by omega)
  have ed : P &&& (1 <<< (nI (pos (bt P) (rest / fct (N - 1 - k))) &&& 31) ^^^ -1) = dlt P (pos (bt P) (rest / fct (N - 1 - k))) := rfl
  rw [s167_46]
  by_cases hz : N - 1 - k = 0
  · have e7 : nI (N - 1 - k) ≤ 0 := by rw [hz]; exact Int32.le_refl _
    have e8 : fct (N - 1 - (k + 1)) = 1 := by rw [show N - 1 - (k + 1) = 0 by omega]; rfl
    rw [e8]
    simp only [s167_0, s167_1, s167_2, s167_5, s167_6, s167_7, s167_8, s167_9, s167_10, s167_12, s167_13, s167_15, s167_16, s167_18, s167_19, s167_23, s167_24, s167_27, s167_30, s167_32, s167_34, s167_35, s167_37, s167_40, s167_43, s167_44, s167_48, s167_49, s167_52, s167_53, s167_55, s167_57, s167_58, s167_61, s167_62, s167_63, s167_65, s167_67, s167_69, s167_70, s167_72, s167_73, s167_74, s167_76, s167_77, s167_78, s167_79, s167_80, s167_81, s167_82, s167_85, s167_86, s167_87, s167_89, s167_90, s167_93, s167_95, s167_96, s167_99, s167_100, s167_101, s167_103, s167_104, s167_105, s167_108, s167_109, s167_111, s167_114, s167_117, s167_118, s167_121, s167_123, s167_124, zb0, zb1, ob_some, tl_s, tl_n, nk_i, nk_r, nk_n, nk_0, pk_us, pk_un, va_up_self, va_up_ne, ne_eq, Nat.reduceEqDiff, not_false_eq_true, true_and, and_true, eq_self, z11, z00, bI_z, gf_0_0, gf_0_1, gf_0_2, gf_0_3, gf_0_4, gf_0_5, gf_0_6, rcv_0, rcO_0, gf_1_0, gf_1_1, sf_1_1, gf_1_2, gf_1_3, gf_1_4, gf_1_5, sf_1_5, gf_1_6, sf_1_6, gf_1_7, sf_1_7, gf_1_8, sf_1_8, gf_1_9, sf_1_9, gf_1_10, sf_1_10, gf_1_11, sf_1_11, rcv_1, rcO_1, gf_6_0, sf_6_0, gf_6_1, sf_6_1, gf_6_2, sf_6_2, gf_6_3, sf_6_3, gf_6_4, gf_6_5, rcv_6, rcO_6, gf_9_0, gf_9_1, sf_9_1, rcv_9, rcO_9, gf_12_0, sf_12_0, gf_12_1, sf_12_1, gf_12_2, gf_12_3, rcv_12, rcO_12, gf_15_0, sf_15_0, gf_15_1, sf_15_1, gf_15_2, gf_15_3, rcv_15, rcO_15, gf_18_0, sf_18_0, gf_18_1, sf_18_1, gf_18_2, gf_18_3, gf_18_4, gf_18_5, sf_18_5, gf_18_6, sf_18_6, gf_18_7, sf_18_7, gf_18_8, sf_18_8, rcv_18, rcO_18, gf_24_0, gf_24_1, gf_24_2, sf_24_2, rcv_24, rcO_24, gf_28_0, gf_28_1, gf_28_2, gf_28_3, sf_28_3, gf_28_4, gf_28_5, sf_28_5, gf_28_6, sf_28_6, gf_28_7, gf_28_8, gf_28_9, gf_28_10, gf_28_11, gf_28_12, gf_28_13, sf_28_13, gf_28_14, sf_28_14, gf_28_15, sf_28_15, gf_28_16, sf_28_16, gf_28_17, sf_28_17, gf_28_18, sf_28_18, gf_28_19, gf_28_20, gf_28_21, gf_28_22, gf_28_23, gf_28_24, sf_28_24, gf_28_25, rcv_28, rcO_28, aI_2, aW_2, sI_2, aI_3, aW_3, sI_3, aI_4, aW_4, sI_4, aI_5, aW_5, sI_5, aI_7, aW_7, sI_7, aI_8, aW_8, sI_8, aI_13, aW_13, sI_13, aI_14, aW_14, sI_14, aI_16, aW_16, sI_16, aI_17, aW_17, sI_17, aI_21, aW_21, sI_21, aI_22, aW_22, sI_22, aI_23, aW_23, sI_23, aI_25, aW_25, sI_25, aI_26, aW_26, sI_26, aI_29, aW_29, sI_29, aI_31, aW_31, sI_31, aI_32, aW_32, sI_32, aI_33, aW_33, sI_33, aI_34, aW_34, sI_34, aI_35, aW_35, sI_35, aI_36, aW_36, sI_36, aI_37, aW_37, sI_37, aI_38, aW_38, sI_38, aI_41, aW_41, sI_41, aI_42, aW_42, sI_42, aI_43, aW_43, sI_43, aL_19, sL_19, aL_20, sL_20, aL_27, sL_27, aL_39, sL_39, aL_40, sL_40, aL_44, sL_44, aB_30, aZ_30, sZ_30, aQ_10, aQ_11, sQ_10, hc, e1, e2, e3, e4, c_kthK hd20, nI_pred, e5, e6, ed, e7, nI_1, true_implies, false_implies, not_true_eq_false, not_false_eq_true, and_self, true_and, and_true]
    rfl
  · have e7 : ¬ nI (N - 1 - k) ≤ 0 := nI_ge (b := N - 1 - k) (a := 0) (by omega) (by omega)
    have e9 : ¬ nI (N - 1 - k) = 0 := nI_ne0 (by omega) (by omega)
    have e8 : nI (fct (N - 1 - k)) / nI (N - 1 - k) = nI (fct (N - 1 - (k + 1))) := by
      rw [pk_div (by omega) (by omega) (by omega), fct_dv (by omega), show N - 1 - k - 1 = N - 1 - (k + 1) by omega]
    simp only [s167_0, s167_1, s167_2, s167_5, s167_6, s167_7, s167_8, s167_9, s167_10, s167_12, s167_13, s167_15, s167_16, s167_18, s167_19, s167_23, s167_24, s167_27, s167_30, s167_32, s167_34, s167_35, s167_37, s167_40, s167_43, s167_44, s167_48, s167_49, s167_52, s167_53, s167_55, s167_57, s167_58, s167_61, s167_62, s167_63, s167_65, s167_67, s167_69, s167_70, s167_72, s167_73, s167_74, s167_76, s167_77, s167_78, s167_79, s167_80, s167_81, s167_82, s167_85, s167_86, s167_87, s167_89, s167_90, s167_93, s167_95, s167_96, s167_99, s167_100, s167_101, s167_103, s167_104, s167_105, s167_108, s167_109, s167_111, s167_114, s167_117, s167_118, s167_121, s167_123, s167_124, zb0, zb1, ob_some, tl_s, tl_n, nk_i, nk_r, nk_n, nk_0, pk_us, pk_un, va_up_self, va_up_ne, ne_eq, Nat.reduceEqDiff, not_false_eq_true, true_and, and_true, eq_self, z11, z00, bI_z, gf_0_0, gf_0_1, gf_0_2, gf_0_3, gf_0_4, gf_0_5, gf_0_6, rcv_0, rcO_0, gf_1_0, gf_1_1, sf_1_1, gf_1_2, gf_1_3, gf_1_4, gf_1_5, sf_1_5, gf_1_6, sf_1_6, gf_1_7, sf_1_7, gf_1_8, sf_1_8, gf_1_9, sf_1_9, gf_1_10, sf_1_10, gf_1_11, sf_1_11, rcv_1, rcO_1, gf_6_0, sf_6_0, gf_6_1, sf_6_1, gf_6_2, sf_6_2, gf_6_3, sf_6_3, gf_6_4, gf_6_5, rcv_6, rcO_6, gf_9_0, gf_9_1, sf_9_1, rcv_9, rcO_9, gf_12_0, sf_12_0, gf_12_1, sf_12_1, gf_12_2, gf_12_3, rcv_12, rcO_12, gf_15_0, sf_15_0, gf_15_1, sf_15_1, gf_15_2, gf_15_3, rcv_15, rcO_15, gf_18_0, sf_18_0, gf_18_1, sf_18_1, gf_18_2, gf_18_3, gf_18_4, gf_18_5, sf_18_5, gf_18_6, sf_18_6, gf_18_7, sf_18_7, gf_18_8, sf_18_8, rcv_18, rcO_18, gf_24_0, gf_24_1, gf_24_2, sf_24_2, rcv_24, rcO_24, gf_28_0, gf_28_1, gf_28_2, gf_28_3, sf_28_3, gf_28_4, gf_28_5, sf_28_5, gf_28_6, sf_28_6, gf_28_7, gf_28_8, gf_28_9, gf_28_10, gf_28_11, gf_28_12, gf_28_13, sf_28_13, gf_28_14, sf_28_14, gf_28_15, sf_28_15, gf_28_16, sf_28_16, gf_28_17, sf_28_17, gf_28_18, sf_28_18, gf_28_19, gf_28_20, gf_28_21, gf_28_22, gf_28_23, gf_28_24, sf_28_24, gf_28_25, rcv_28, rcO_28, aI_2, aW_2, sI_2, aI_3, aW_3, sI_3, aI_4, aW_4, sI_4, aI_5, aW_5, sI_5, aI_7, aW_7, sI_7, aI_8, aW_8, sI_8, aI_13, aW_13, sI_13, aI_14, aW_14, sI_14, aI_16, aW_16, sI_16, aI_17, aW_17, sI_17, aI_21, aW_21, sI_21, aI_22, aW_22, sI_22, aI_23, aW_23, sI_23, aI_25, aW_25, sI_25, aI_26, aW_26, sI_26, aI_29, aW_29, sI_29, aI_31, aW_31, sI_31, aI_32, aW_32, sI_32, aI_33, aW_33, sI_33, aI_34, aW_34, sI_34, aI_35, aW_35, sI_35, aI_36, aW_36, sI_36, aI_37, aW_37, sI_37, aI_38, aW_38, sI_38, aI_41, aW_41, sI_41, aI_42, aW_42, sI_42, aI_43, aW_43, sI_43, aL_19, sL_19, aL_20, sL_20, aL_27, sL_27, aL_39, sL_39, aL_40, sL_40, aL_44, sL_44, aB_30, aZ_30, sZ_30, aQ_10, aQ_11, sQ_10, hc, e1, e2, e3, e4, c_kthK hd20, nI_pred, e5, e6, ed, e7, e8, e9, nI_1, true_implies, false_implies, not_true_eq_false, not_false_eq_true, and_self, true_and, and_true]
theorem row_loop (hN : N ≤ 5) (hN2 : cnt (bt x) 5 = N) (hc : c 2824 = nI N) (hr43 : ∀ k, k < N → r 43 k = nI (pos (bt x) k)) (hj : j < N) : ∀ m k rest P x2 l4, k + m = j → IMG x x2 P → cnt (bt x2) 5 = N - k → rest < fct (N - k) → Wp X (d + 2) 167 46 [some (.ref 28), some (.int v), some (.int (nI j)), some (.int P), some (.int l4), some (.int (nI rest)), some (.int (nI (fct (N - 1 - k)))), some (.int (nI k))] [] (G c r w mb n1 n2 sh) Q = Q (some (.int (nI ((prC (N - k) x2 rest).getD m 0)))) (G c r w mb n1 n2 sh) := by
  have hdl : ∀ k rest, k ≤ j → rest < fct (N - k) → rest / fct (N - 1 - k) < N - k := by
    intro k rest hk hr
    apply Nat.div_lt_of_lt_mul
    rw [Nat.mul_comm]
    rw [show N - k = N - 1 - k + 1 by omega] at hr ⊢
    exact hr
  have hpr : ∀ k rest x2, k ≤ j → prC (N - k) x2 rest = pos (bt x2) (rest / fct (N - 1 - k)) :: prC (N - 1 - k) (dlt x2 (pos (bt x2) (rest / fct (N - 1 - k)))) (rest % fct (N - 1 - k)) := by
    intro k rest x2 hk
    rw [show N - k = N - 1 - k + 1 by omega]
    rfl
  intro m
  induction m with
  | zero =>
    intro k rest P x2 l4 hk hI hx2 hr
    obtain rfl : k = j := by omega
    have hd := hdl k rest (by omega) hr
    obtain ⟨p1, p2, p3, p4, p5, p6, p7⟩ := IMG_pos hI (d := rest / fct (N - 1 - k)) (by omega)
    have e : nI k < nI (k + 1) := nI_lt (by omega) (by omega)
    have i1 := inb_nI (show pos (bt P) (rest / fct (N - 1 - k)) < 5 by omega) (by omega)
    have z1 := nI_clamp (show pos (bt P) (rest / fct (N - 1 - k)) < 2 ^ 31 by omega)
    rw [row_iter hN hN2 hc (Nat.le_refl k) hj hI hx2 hr, hpr k rest x2 (by omega), s167_46]
    simp only [s167_0, s167_1, s167_2, s167_5, s167_6, s167_7, s167_8, s167_9, s167_10, s167_12, s167_13, s167_15, s167_16, s167_18, s167_19, s167_23, s167_24, s167_27, s167_30, s167_32, s167_34, s167_35, s167_37, s167_40, s167_43, s167_44, s167_48, s167_49, s167_52, s167_53, s167_55, s167_57, s167_58, s167_61, s167_62, s167_63, s167_65, s167_67, s167_69, s167_70, s167_72, s167_73, s167_74, s167_76, s167_77, s167_78, s167_79, s167_80, s167_81, s167_82, s167_85, s167_86, s167_87, s167_89, s167_90, s167_93, s167_95, s167_96, s167_99, s167_100, s167_101, s167_103, s167_104, s167_105, s167_108, s167_109, s167_111, s167_114, s167_117, s167_118, s167_121, s167_123, s167_124, zb0, zb1, ob_some, tl_s, tl_n, nk_i, nk_r, nk_n, nk_0, pk_us, pk_un, va_up_self, va_up_ne, ne_eq, Nat.reduceEqDiff, not_false_eq_true, true_and, and_true, eq_self, z11, z00, bI_z, gf_0_0, gf_0_1, gf_0_2, gf_0_3, gf_0_4, gf_0_5, gf_0_6, rcv_0, rcO_0, gf_1_0, gf_1_1, sf_1_1, gf_1_2, gf_1_3, gf_1_4, gf_1_5, sf_1_5, gf_1_6, sf_1_6, gf_1_7, sf_1_7, gf_1_8, sf_1_8, gf_1_9, sf_1_9, gf_1_10, sf_1_10, gf_1_11, sf_1_11, rcv_1, rcO_1, gf_6_0, sf_6_0, gf_6_1, sf_6_1, gf_6_2, sf_6_2, gf_6_3, sf_6_3, gf_6_4, gf_6_5, rcv_6, rcO_6, gf_9_0, gf_9_1, sf_9_1, rcv_9, rcO_9, gf_12_0, sf_12_0, gf_12_1, sf_12_1, gf_12_2, gf_12_3, rcv_12, rcO_12, gf_15_0, sf_15_0, gf_15_1, sf_15_1, gf_15_2, gf_15_3, rcv_15, rcO_15, gf_18_0, sf_18_0, gf_18_1, sf_18_1, gf_18_2, gf_18_3, gf_18_4, gf_18_5, sf_18_5, gf_18_6, sf_18_6, gf_18_7, sf_18_7, gf_18_8, sf_18_8, rcv_18, rcO_18, gf_24_0, gf_24_1, gf_24_2, sf_24_2, rcv_24, rcO_24, gf_28_0, gf_28_1, gf_28_2, gf_28_3, sf_28_3, gf_28_4, gf_28_5, sf_28_5, gf_28_6, sf_28_6, gf_28_7, gf_28_8, gf_28_9, gf_28_10, gf_28_11, gf_28_12, gf_28_13, sf_28_13, gf_28_14, sf_28_14, gf_28_15, sf_28_15, gf_28_16, sf_28_16, gf_28_17, sf_28_17, gf_28_18, sf_28_18, gf_28_19, gf_28_20, gf_28_21, gf_28_22, gf_28_23, gf_28_24, sf_28_24, gf_28_25, rcv_28, rcO_28, aI_2, aW_2, sI_2, aI_3, aW_3, sI_3, aI_4, aW_4, sI_4, aI_5, aW_5, sI_5, aI_7, aW_7, sI_7, aI_8, aW_8, sI_8, aI_13, aW_13, sI_13, aI_14, aW_14, sI_14, aI_16, aW_16, sI_16, aI_17, aW_17, sI_17, aI_21, aW_21, sI_21, aI_22, aW_22, sI_22, aI_23, aW_23, sI_23, aI_25, aW_25, sI_25, aI_26, aW_26, sI_26, aI_29, aW_29, sI_29, aI_31, aW_31, sI_31, aI_32, aW_32, sI_32, aI_33, aW_33, sI_33, aI_34, aW_34, sI_34, aI_35, aW_35, sI_35, aI_36, aW_36, sI_36, aI_37, aW_37, sI_37, aI_38, aW_38, sI_38, aI_41, aW_41, sI_41, aI_42, aW_42, sI_42, aI_43, aW_43, sI_43, aL_19, sL_19, aL_20, sL_20, aL_27, sL_27, aL_39, sL_39, aL_40, sL_40, aL_44, sL_44, aB_30, aZ_30, sZ_30, aQ_10, aQ_11, sQ_10, e, i1, z1, hr43 _ (show pos (bt P) (rest / fct (N - 1 - k)) < N by omega), true_implies, false_implies, not_true_eq_false, not_false_eq_true, and_self, true_and, and_true]
    rw [← p6]
    rfl
  | succ m ih =>
    intro k rest P x2 l4 hk hI hx2 hr
    have hd := hdl k rest (by omega) hr
    obtain ⟨p1, p2, p3, p4, p5, p6, p7⟩ := IMG_pos hI (d := rest / fct (N - 1 - k)) (by omega)
    have hdel := hI.del p3 (by omega) p4 p5
    have hcd := cnt_dlt (x := x2) (i := pos (bt x) (pos (bt P) (rest / fct (N - 1 - k)))) p3 (by rw [← p6]; exact p7)
    have hmod : rest % fct (N - 1 - k) < fct (N - 1 - k) := Nat.mod_lt _ (fct_pos _)
    rw [row_iter hN hN2 hc (by omega) hj hI hx2 hr, hpr k rest x2 (by omega), p6]
    rw [show N - 1 - k = N - (k + 1) by omega] at hmod hdel hcd ⊢
    have := ih (k + 1) (rest % fct (N - (k + 1))) (dlt P (pos (bt P) (rest / fct (N - (k + 1))))) (dlt x2 (pos (bt x) (pos (bt P) (rest / fct (N - (k + 1)))))) (nI (pos (bt P) (rest / fct (N - (k + 1))))) (by omega) hdel (by omega) hmod
    rw [show N - 1 - (k + 1) = N - (k + 1 + 1) by omega] at this ⊢
    exact this
theorem m_rowOf {vn : Nat} (hx : ∀ i, 5 ≤ i → bt x i = false) (hN2 : cnt (bt x) 5 = N) (hc : c 2824 = nI N) (hr43 : ∀ k, k < N → r 43 k = nI (pos (bt x) k)) (hj : j < N) (hv : vn < fct N) : Cl X (d + 2) 167 [.ref 28, .int (nI vn), .int (nI j)] (G c r w mb n1 n2 sh) K = K (some (.int (nI ((prC N x vn).getD j 0)))) (G c r w mb n1 n2 sh) := by
  have hN : N ≤ 5 := by rw [← hN2]; exact cnt_le _ _
  rw [e167]
  simp only [s167_0, s167_1, s167_2, s167_5, s167_6, s167_7, s167_8, s167_9, s167_10, s167_12, s167_13, s167_15, s167_16, s167_18, s167_19, s167_23, s167_24, s167_27, s167_30, s167_32, s167_34, s167_35, s167_37, s167_40, s167_43, s167_44, s167_48, s167_49, s167_52, s167_53, s167_55, s167_57, s167_58, s167_61, s167_62, s167_63, s167_65, s167_67, s167_69, s167_70, s167_72, s167_73, s167_74, s167_76, s167_77, s167_78, s167_79, s167_80, s167_81, s167_82, s167_85, s167_86, s167_87, s167_89, s167_90, s167_93, s167_95, s167_96, s167_99, s167_100, s167_101, s167_103, s167_104, s167_105, s167_108, s167_109, s167_111, s167_114, s167_117, s167_118, s167_121, s167_123, s167_124, zb0, zb1, ob_some, tl_s, tl_n, nk_i, nk_r, nk_n, nk_0, pk_us, pk_un, va_up_self, va_up_ne, ne_eq, Nat.reduceEqDiff, not_false_eq_true, true_and, and_true, eq_self, z11, z00, bI_z, gf_0_0, gf_0_1, gf_0_2, gf_0_3, gf_0_4, gf_0_5, gf_0_6, rcv_0, rcO_0, gf_1_0, gf_1_1, sf_1_1, gf_1_2, gf_1_3, gf_1_4, gf_1_5, sf_1_5, gf_1_6, sf_1_6, gf_1_7, sf_1_7, gf_1_8, sf_1_8, gf_1_9, sf_1_9, gf_1_10, sf_1_10, gf_1_11, sf_1_11, rcv_1, rcO_1, gf_6_0, sf_6_0, gf_6_1, sf_6_1, gf_6_2, sf_6_2, gf_6_3, sf_6_3, gf_6_4, gf_6_5, rcv_6, rcO_6, gf_9_0, gf_9_1, sf_9_1, rcv_9, rcO_9, gf_12_0, sf_12_0, gf_12_1, sf_12_1, gf_12_2, gf_12_3, rcv_12, rcO_12, gf_15_0, sf_15_0, gf_15_1, sf_15_1, gf_15_2, gf_15_3, rcv_15, rcO_15, gf_18_0, sf_18_0, gf_18_1, sf_18_1, gf_18_2, gf_18_3, gf_18_4, gf_18_5, sf_18_5, gf_18_6, sf_18_6, gf_18_7, sf_18_7, gf_18_8, sf_18_8, rcv_18, rcO_18, gf_24_0, gf_24_1, gf_24_2, sf_24_2, rcv_24, rcO_24, gf_28_0, gf_28_1, gf_28_2, gf_28_3, sf_28_3, gf_28_4, gf_28_5, sf_28_5, gf_28_6, sf_28_6, gf_28_7, gf_28_8, gf_28_9, gf_28_10, gf_28_11, gf_28_12, gf_28_13, sf_28_13, gf_28_14, sf_28_14, gf_28_15, sf_28_15, gf_28_16, sf_28_16, gf_28_17, sf_28_17, gf_28_18, sf_28_18, gf_28_19, gf_28_20, gf_28_21, gf_28_22, gf_28_23, gf_28_24, sf_28_24, gf_28_25, rcv_28, rcO_28, aI_2, aW_2, sI_2, aI_3, aW_3, sI_3, aI_4, aW_4, sI_4, aI_5, aW_5, sI_5, aI_7, aW_7, sI_7, aI_8, aW_8, sI_8, aI_13, aW_13, sI_13, aI_14, aW_14, sI_14, aI_16, aW_16, sI_16, aI_17, aW_17, sI_17, aI_21, aW_21, sI_21, aI_22, aW_22, sI_22, aI_23, aW_23, sI_23, aI_25, aW_25, sI_25, aI_26, aW_26, sI_26, aI_29, aW_29, sI_29, aI_31, aW_31, sI_31, aI_32, aW_32, sI_32, aI_33, aW_33, sI_33, aI_34, aW_34, sI_34, aI_35, aW_35, sI_35, aI_36, aW_36, sI_36, aI_37, aW_37, sI_37, aI_38, aW_38, sI_38, aI_41, aW_41, sI_41, aI_42, aW_42, sI_42, aI_43, aW_43, sI_43, aL_19, sL_19, aL_20, sL_20, aL_27, sL_27, aL_39, sL_39, aL_40, sL_40, aL_44, sL_44, aB_30, aZ_30, sZ_30, aQ_10, aQ_11, sQ_10, hc]
  refine (size_loop (l1 := nI vn) (l2 := nI j) (l3 := (1 <<< (nI N &&& 31)) - 1) (l4 := -1) (l0 := nI vn) (by omega) hN hc (max 1 (N - 1) - 1) 1 (Nat.le_refl 1) (by omega)).trans ?_
  have hI := IMG.all hx
  rw [hN2] at hI
  exact row_loop (v := nI vn) hN hN2 hc hr43 hj j 0 vn _ x (-1) (by omega) hI hN2 hv
end MR
