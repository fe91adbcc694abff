/-! the n-th of some rungs; picks -/
def pos (g : Nat → Bool) (k : Nat) : Nat := ((List.range 20).find? (fun i => g i && decide (cnt g i = k))).getD 0
theorem pos_spec {g : Nat → Bool} {k : Nat} (h : k < cnt g 20) : pos g k < 20 ∧ g (pos g k) = true ∧ cnt g (pos g k) = k := by
  obtain ⟨i, hi, hg, hc⟩ := cnt_ex g h
  unfold pos
  cases hf : (List.range 20).find? (fun i => g i && decide (cnt g i = k)) with
  | none =>
    have := List.find?_eq_none.mp hf i (List.mem_range.mpr hi)
    simp [hg, hc] at this
  | some j =>
    have h1 := List.find?_some hf
    have h2 := List.mem_range.mp (List.mem_of_find?_eq_some hf)
    simp only [Bool.and_eq_true, decide_eq_true_eq] at h1
    exact ⟨h2, h1.1, h1.2⟩
theorem pos_cong {f g : Nat → Bool} {k : Nat} (h : ∀ i, i < 20 → f i = g i) (hk : k < cnt f 20) : pos f k = pos g k := by
  have h1 := pos_spec hk
  have h2 := pos_spec (g := g) (k := k) (by rw [← cnt_cong h]; exact hk)
  apply cnt_un f h1.2.1 ((h _ h2.1).trans h2.2.1)
  rw [h1.2.2, cnt_cong (fun i hi => h i (by omega)), h2.2.2]
theorem low_zero {x : Int32} (h : low20 x) : x = 0 ↔ cnt (bt x) 20 = 0 := by
  constructor
  · intro e
    subst e
    exact cnt_zero (fun i _ => b_0 i)
  · intro e
    apply b_ext
    intro i hi
    rw [b_0]
    rcases Nat.lt_or_ge i 20 with h1 | h1
    · cases hb : bt x i with
      | false => rfl
      | true => have := cnt_pos h1 hb; omega
    · exact h i h1
theorem low_and {x y : Int32} (h : low20 x) : low20 (x &&& y) := fun i hi => by rw [b_and, h i hi]; rfl
section ST
variable {X : XS} {d : Nat} {ah : AH} {K Q : Option Value → AH → Prop}
theorem c_nthK {s : Int32} {k : Nat} (hk : k < cnt (bt s) 20) : Cl X d 106 [.int s, .int (nI k)] ah K = K (some (.int (nI (pos (bt s) k + 1)))) ah := by
  have h := pos_spec hk
  have e := c_nth (X := X) (d := d) (ah := ah) (K := K) h.1 h.2.1
  rw [h.2.2] at e
  exact e
theorem c_kthK {s : Int32} {k : Nat} (hk : k < cnt (bt s) 20) : Cl X (d + 1) 138 [.int s, .int (nI k)] ah K = K (some (.int (nI (pos (bt s) k + 1)))) ah := by
  have h := pos_spec hk
  have e := c_kth (X := X) (d := d) (ah := ah) (K := K) (show pos (bt s) k < 32 by omega) h.2.1
  rw [h.2.2] at e
  exact e
/-- which one a kind picks: by the number of its class -/
def pkN (s : Nat) (g m : Nat → Bool) : Nat :=
  if s = 2 then pos g (cnt g 20 - 1) else if s = 5 then pos g 0 else if s = 4 then pos g ((cnt g 20 - 1) / 2) else
    if cnt (fun i => g i && m i) 20 = 0 then pos g (cnt g 20 - 1) else pos (fun i => g i && m i) (cnt (fun i => g i && m i) 20 - 1)
theorem c_pick3 {a : Nat} {x : Int32} (hl : low20 x) (h0 : 0 < cnt (bt x) 20) : Cl X (d + 1) 24 [.ref a, .int x] ah K = K (some (.int (nI (pos (bt x) (cnt (bt x) 20 - 1) + 1)))) ah := by
  have e : nI (cnt (bt x) 20) - 1 = nI (cnt (bt x) 20 - 1) := nI_sub (b := 1) h0
  rw [e24]
  simp only [s24_0, s24_1, s24_2, s24_5, s24_6, s24_7, s24_10, zb0, zb1, ob_some, tl_s, tl_n, nk_i, nk_r, nk_n, nk_0, pk_us, pk_un, va_up_self, va_up_ne, ne_eq, Nat.reduceEqDiff, not_false_eq_true, true_and, and_true, eq_self, z11, z00, bI_z, gf_0_0, gf_0_1, gf_0_2, gf_0_3, gf_0_4, gf_0_5, gf_0_6, rcv_0, rcO_0, gf_1_0, gf_1_1, sf_1_1, gf_1_2, gf_1_3, gf_1_4, gf_1_5, sf_1_5, gf_1_6, sf_1_6, gf_1_7, sf_1_7, gf_1_8, sf_1_8, gf_1_9, sf_1_9, gf_1_10, sf_1_10, gf_1_11, sf_1_11, rcv_1, rcO_1, gf_6_0, sf_6_0, gf_6_1, sf_6_1, gf_6_2, sf_6_2, gf_6_3, sf_6_3, gf_6_4, gf_6_5, rcv_6, rcO_6, gf_9_0, gf_9_1, sf_9_1, rcv_9, rcO_9, gf_12_0, sf_12_0, gf_12_1, sf_12_1, gf_12_2, gf_12_3, rcv_12, rcO_12, gf_15_0, sf_15_0, gf_15_1, sf_15_1, gf_15_2, gf_15_3, rcv_15, rcO_15, gf_18_0, sf_18_0, gf_18_1, sf_18_1, gf_18_2, gf_18_3, gf_18_4, gf_18_5, sf_18_5, gf_18_6, sf_18_6, gf_18_7, sf_18_7, gf_18_8, sf_18_8, rcv_18, rcO_18, gf_24_0, gf_24_1, gf_24_2, sf_24_2, rcv_24, rcO_24, gf_28_0, gf_28_1, gf_28_2, gf_28_3, sf_28_3, gf_28_4, gf_28_5, sf_28_5, gf_28_6, sf_28_6, gf_28_7, gf_28_8, gf_28_9, gf_28_10, gf_28_11, gf_28_12, gf_28_13, sf_28_13, gf_28_14, sf_28_14, gf_28_15, sf_28_15, gf_28_16, sf_28_16, gf_28_17, sf_28_17, gf_28_18, sf_28_18, gf_28_19, gf_28_20, gf_28_21, gf_28_22, gf_28_23, gf_28_24, sf_28_24, gf_28_25, rcv_28, rcO_28, aI_2, aW_2, sI_2, aI_3, aW_3, sI_3, aI_4, aW_4, sI_4, aI_5, aW_5, sI_5, aI_7, aW_7, sI_7, aI_8, aW_8, sI_8, aI_13, aW_13, sI_13, aI_14, aW_14, sI_14, aI_16, aW_16, sI_16, aI_17, aW_17, sI_17, aI_21, aW_21, sI_21, aI_22, aW_22, sI_22, aI_23, aW_23, sI_23, aI_25, aW_25, sI_25, aI_26, aW_26, sI_26, aI_29, aW_29, sI_29, aI_31, aW_31, sI_31, aI_32, aW_32, sI_32, aI_33, aW_33, sI_33, aI_34, aW_34, sI_34, aI_35, aW_35, sI_35, aI_36, aW_36, sI_36, aI_37, aW_37, sI_37, aI_38, aW_38, sI_38, aI_41, aW_41, sI_41, aI_42, aW_42, sI_42, aI_43, aW_43, sI_43, aL_19, sL_19, aL_20, sL_20, aL_27, sL_27, aL_39, sL_39, aL_40, sL_40, aL_44, sL_44, aB_30, aZ_30, sZ_30, aQ_10, aQ_11, sQ_10, c_pop hl, e, c_nthK (show cnt (bt x) 20 - 1 < cnt (bt x) 20 by omega)]
theorem c_pick6 {a : Nat} {x : Int32} (h0 : 0 < cnt (bt x) 20) : Cl X (d + 1) 33 [.ref a, .int x] ah K = K (some (.int (nI (pos (bt x) 0 + 1)))) ah := by
  have e := c_nthK (X := X) (d := d) (ah := ah) (K := K) h0
  rw [show nI 0 = 0 from rfl] at e
  rw [e33]
  simp only [s33_0, s33_1, s33_2, s33_5, zb0, zb1, ob_some, tl_s, tl_n, nk_i, nk_r, nk_n, nk_0, pk_us, pk_un, va_up_self, va_up_ne, ne_eq, Nat.reduceEqDiff, not_false_eq_true, true_and, and_true, eq_self, z11, z00, bI_z, gf_0_0, gf_0_1, gf_0_2, gf_0_3, gf_0_4, gf_0_5, gf_0_6, rcv_0, rcO_0, gf_1_0, gf_1_1, sf_1_1, gf_1_2, gf_1_3, gf_1_4, gf_1_5, sf_1_5, gf_1_6, sf_1_6, gf_1_7, sf_1_7, gf_1_8, sf_1_8, gf_1_9, sf_1_9, gf_1_10, sf_1_10, gf_1_11, sf_1_11, rcv_1, rcO_1, gf_6_0, sf_6_0, gf_6_1, sf_6_1, gf_6_2, sf_6_2, gf_6_3, sf_6_3, gf_6_4, gf_6_5, rcv_6, rcO_6, gf_9_0, gf_9_1, sf_9_1, rcv_9, rcO_9, gf_12_0, sf_12_0, gf_12_1, sf_12_1, gf_12_2, gf_12_3, rcv_12, rcO_12, gf_15_0, sf_15_0, gf_15_1, sf_15_1, gf_15_2, gf_15_3, rcv_15, rcO_15, gf_18_0, sf_18_0, gf_18_1, sf_18_1, gf_18_2, gf_18_3, gf_18_4, gf_18_5, sf_18_5, gf_18_6, sf_18_6, gf_18_7, sf_18_7, gf_18_8, sf_18_8, rcv_18, rcO_18, gf_24_0, gf_24_1, gf_24_2, sf_24_2, rcv_24, rcO_24, gf_28_0, gf_28_1, gf_28_2, gf_28_3, sf_28_3, gf_28_4, gf_28_5, sf_28_5, gf_28_6, sf_28_6, gf_28_7, gf_28_8, gf_28_9, gf_28_10, gf_28_11, gf_28_12, gf_28_13, sf_28_13, gf_28_14, sf_28_14, gf_28_15, sf_28_15, gf_28_16, sf_28_16, gf_28_17, sf_28_17, gf_28_18, sf_28_18, gf_28_19, gf_28_20, gf_28_21, gf_28_22, gf_28_23, gf_28_24, sf_28_24, gf_28_25, rcv_28, rcO_28, aI_2, aW_2, sI_2, aI_3, aW_3, sI_3, aI_4, aW_4, sI_4, aI_5, aW_5, sI_5, aI_7, aW_7, sI_7, aI_8, aW_8, sI_8, aI_13, aW_13, sI_13, aI_14, aW_14, sI_14, aI_16, aW_16, sI_16, aI_17, aW_17, sI_17, aI_21, aW_21, sI_21, aI_22, aW_22, sI_22, aI_23, aW_23, sI_23, aI_25, aW_25, sI_25, aI_26, aW_26, sI_26, aI_29, aW_29, sI_29, aI_31, aW_31, sI_31, aI_32, aW_32, sI_32, aI_33, aW_33, sI_33, aI_34, aW_34, sI_34, aI_35, aW_35, sI_35, aI_36, aW_36, sI_36, aI_37, aW_37, sI_37, aI_38, aW_38, sI_38, aI_41, aW_41, sI_41, aI_42, aW_42, sI_42, aI_43, aW_43, sI_43, aL_19, sL_19, aL_20, sL_20, aL_27, sL_27, aL_39, sL_39, aL_40, sL_40, aL_44, sL_44, aB_30, aZ_30, sZ_30, aQ_10, aQ_11, sQ_10, c_nthK (k := 0) h0, nI_0.symm]
theorem c_pick5 {a : Nat} {x : Int32} (hl : low20 x) (h0 : 0 < cnt (bt x) 20) : Cl X (d + 1) 30 [.ref a, .int x] ah K = K (some (.int (nI (pos (bt x) ((cnt (bt x) 20 - 1) / 2) + 1)))) ah := by
  have hc := cnt_le (bt x) 20
  have e : nI (cnt (bt x) 20) - 1 = nI (cnt (bt x) 20 - 1) := nI_sub (b := 1) h0
  have e2 : nI (cnt (bt x) 20 - 1) / 2 = nI ((cnt (bt x) 20 - 1) / 2) := pk_div (d := 2) (by omega) (by omega) (by omega)
  have e3 : ¬ (2 : Int32) = 0 := by decide
  rw [e30]
  simp only [s30_0, s30_1, s30_2, s30_5, s30_6, s30_7, s30_8, s30_9, s30_12, zb0, zb1, ob_some, tl_s, tl_n, nk_i, nk_r, nk_n, nk_0, pk_us, pk_un, va_up_self, va_up_ne, ne_eq, Nat.reduceEqDiff, not_false_eq_true, true_and, and_true, eq_self, z11, z00, bI_z, gf_0_0, gf_0_1, gf_0_2, gf_0_3, gf_0_4, gf_0_5, gf_0_6, rcv_0, rcO_0, gf_1_0, gf_1_1, sf_1_1, gf_1_2, gf_1_3, gf_1_4, gf_1_5, sf_1_5, gf_1_6, sf_1_6, gf_1_7, sf_1_7, gf_1_8, sf_1_8, gf_1_9, sf_1_9, gf_1_10, sf_1_10, gf_1_11, sf_1_11, rcv_1, rcO_1, gf_6_0, sf_6_0, gf_6_1, sf_6_1, gf_6_2, sf_6_2, gf_6_3, sf_6_3, gf_6_4, gf_6_5, rcv_6, rcO_6, gf_9_0, gf_9_1, sf_9_1, rcv_9, rcO_9, gf_12_0, sf_12_0, gf_12_1, sf_12_1, gf_12_2, gf_12_3, rcv_12, rcO_12, gf_15_0, sf_15_0, gf_15_1, sf_15_1, gf_15_2, gf_15_3, rcv_15, rcO_15, gf_18_0, sf_18_0, gf_18_1, sf_18_1, gf_18_2, gf_18_3, gf_18_4, gf_18_5, sf_18_5, gf_18_6, sf_18_6, gf_18_7, sf_18_7, gf_18_8, sf_18_8, rcv_18, rcO_18, gf_24_0, gf_24_1, gf_24_2, sf_24_2, rcv_24, rcO_24, gf_28_0, gf_28_1, gf_28_2, gf_28_3, sf_28_3, gf_28_4, gf_28_5, sf_28_5, gf_28_6, sf_28_6, gf_28_7, gf_28_8, gf_28_9, gf_28_10, gf_28_11, gf_28_12, gf_28_13, sf_28_13, gf_28_14, sf_28_14, gf_28_15, sf_28_15, gf_28_16, sf_28_16, gf_28_17, sf_28_17, gf_28_18, sf_28_18, gf_28_19, gf_28_20, gf_28_21, gf_28_22, gf_28_23, gf_28_24, sf_28_24, gf_28_25, rcv_28, rcO_28, aI_2, aW_2, sI_2, aI_3, aW_3, sI_3, aI_4, aW_4, sI_4, aI_5, aW_5, sI_5, aI_7, aW_7, sI_7, aI_8, aW_8, sI_8, aI_13, aW_13, sI_13, aI_14, aW_14, sI_14, aI_16, aW_16, sI_16, aI_17, aW_17, sI_17, aI_21, aW_21, sI_21, aI_22, aW_22, sI_22, aI_23, aW_23, sI_23, aI_25, aW_25, sI_25, aI_26, aW_26, sI_26, aI_29, aW_29, sI_29, aI_31, aW_31, sI_31, aI_32, aW_32, sI_32, aI_33, aW_33, sI_33, aI_34, aW_34, sI_34, aI_35, aW_35, sI_35, aI_36, aW_36, sI_36, aI_37, aW_37, sI_37, aI_38, aW_38, sI_38, aI_41, aW_41, sI_41, aI_42, aW_42, sI_42, aI_43, aW_43, sI_43, aL_19, sL_19, aL_20, sL_20, aL_27, sL_27, aL_39, sL_39, aL_40, sL_40, aL_44, sL_44, aB_30, aZ_30, sZ_30, aQ_10, aQ_11, sQ_10, c_pop hl, e, e2, e3, c_nthK (show (cnt (bt x) 20 - 1) / 2 < cnt (bt x) 20 by omega)]
end ST
section ST2
variable {X : XS} {d : Nat} {K Q : Option Value → AH → Prop} {c : Nat → Int32} {r : Nat → Nat → Int32} {w : Nat → Nat → Int64} {mb : Nat → Option Nat} {n1 n2 : Nat} {sh : List Nat} {p s : Nat}
theorem c_pick10 {x : Int32} (hC : isC sh p 9) (hl : low20 x) (h0 : 0 < cnt (bt x) 20) : Cl X (d + 1) 64 [.ref p, .int x] (G c r w mb n1 n2 sh) K = K (some (.int (nI (pkN 9 (bt x) (bt (c (100 * p + 3))) + 1)))) (G c r w mb n1 n2 sh) := by
  have hg : (fun i => bt x i && bt (c (100 * p + 3)) i) = bt (x &&& c (100 * p + 3)) := by
    funext i
    exact (b_and _ _ _).symm
  have e9 : pkN 9 (bt x) (bt (c (100 * p + 3))) = if cnt (bt (x &&& c (100 * p + 3))) 20 = 0 then pos (bt x) (cnt (bt x) 20 - 1) else pos (bt (x &&& c (100 * p + 3))) (cnt (bt (x &&& c (100 * p + 3))) 20 - 1) := by
    rw [← hg]
    rfl
  rw [e9]
  have hl2 := low_and (y := c (100 * p + 3)) hl
  have hz := low_zero hl2
  rw [e64]
  by_cases hy : x &&& c (100 * p + 3) = 0
  · have h1 := hz.mp hy
    have e : nI (cnt (bt x) 20) - 1 = nI (cnt (bt x) 20 - 1) := nI_sub (b := 1) h0
    simp only [s64_0, s64_1, s64_2, s64_5, s64_6, s64_9, s64_10, s64_13, s64_14, s64_15, s64_18, s64_19, s64_20, s64_21, s64_22, s64_25, s64_26, s64_27, s64_30, zb0, zb1, ob_some, tl_s, tl_n, nk_i, nk_r, nk_n, nk_0, pk_us, pk_un, va_up_self, va_up_ne, ne_eq, Nat.reduceEqDiff, not_false_eq_true, true_and, and_true, eq_self, z11, z00, bI_z, gf_0_0, gf_0_1, gf_0_2, gf_0_3, gf_0_4, gf_0_5, gf_0_6, rcv_0, rcO_0, gf_1_0, gf_1_1, sf_1_1, gf_1_2, gf_1_3, gf_1_4, gf_1_5, sf_1_5, gf_1_6, sf_1_6, gf_1_7, sf_1_7, gf_1_8, sf_1_8, gf_1_9, sf_1_9, gf_1_10, sf_1_10, gf_1_11, sf_1_11, rcv_1, rcO_1, gf_6_0, sf_6_0, gf_6_1, sf_6_1, gf_6_2, sf_6_2, gf_6_3, sf_6_3, gf_6_4, gf_6_5, rcv_6, rcO_6, gf_9_0, gf_9_1, sf_9_1, rcv_9, rcO_9, gf_12_0, sf_12_0, gf_12_1, sf_12_1, gf_12_2, gf_12_3, rcv_12, rcO_12, gf_15_0, sf_15_0, gf_15_1, sf_15_1, gf_15_2, gf_15_3, rcv_15, rcO_15, gf_18_0, sf_18_0, gf_18_1, sf_18_1, gf_18_2, gf_18_3, gf_18_4, gf_18_5, sf_18_5, gf_18_6, sf_18_6, gf_18_7, sf_18_7, gf_18_8, sf_18_8, rcv_18, rcO_18, gf_24_0, gf_24_1, gf_24_2, sf_24_2, rcv_24, rcO_24, gf_28_0, gf_28_1, gf_28_2, gf_28_3, sf_28_3, gf_28_4, gf_28_5, sf_28_5, gf_28_6, sf_28_6, gf_28_7, gf_28_8, gf_28_9, gf_28_10, gf_28_11, gf_28_12, gf_28_13, sf_28_13, gf_28_14, sf_28_14, gf_28_15, sf_28_15, gf_28_16, sf_28_16, gf_28_17, sf_28_17, gf_28_18, sf_28_18, gf_28_19, gf_28_20, gf_28_21, gf_28_22, gf_28_23, gf_28_24, sf_28_24, gf_28_25, rcv_28, rcO_28, aI_2, aW_2, sI_2, aI_3, aW_3, sI_3, aI_4, aW_4, sI_4, aI_5, aW_5, sI_5, aI_7, aW_7, sI_7, aI_8, aW_8, sI_8, aI_13, aW_13, sI_13, aI_14, aW_14, sI_14, aI_16, aW_16, sI_16, aI_17, aW_17, sI_17, aI_21, aW_21, sI_21, aI_22, aW_22, sI_22, aI_23, aW_23, sI_23, aI_25, aW_25, sI_25, aI_26, aW_26, sI_26, aI_29, aW_29, sI_29, aI_31, aW_31, sI_31, aI_32, aW_32, sI_32, aI_33, aW_33, sI_33, aI_34, aW_34, sI_34, aI_35, aW_35, sI_35, aI_36, aW_36, sI_36, aI_37, aW_37, sI_37, aI_38, aW_38, sI_38, aI_41, aW_41, sI_41, aI_42, aW_42, sI_42, aI_43, aW_43, sI_43, aL_19, sL_19, aL_20, sL_20, aL_27, sL_27, aL_39, sL_39, aL_40, sL_40, aL_44, sL_44, aB_30, aZ_30, sZ_30, aQ_10, aQ_11, sQ_10, cl_f3 hC, hy, not_true_eq_false, false_implies, true_implies, c_pop hl, e, c_nthK (show cnt (bt x) 20 - 1 < cnt (bt x) 20 by omega)]
    simp only [← hy, h1, if_true]
  · have h1 : ¬ cnt (bt (x &&& c (100 * p + 3))) 20 = 0 := fun e => hy (hz.mpr e)
    have e : nI (cnt (bt (x &&& c (100 * p + 3))) 20) - 1 = nI (cnt (bt (x &&& c (100 * p + 3))) 20 - 1) := nI_sub (b := 1) (by omega)
    simp only [s64_0, s64_1, s64_2, s64_5, s64_6, s64_9, s64_10, s64_13, s64_14, s64_15, s64_18, s64_19, s64_20, s64_21, s64_22, s64_25, s64_26, s64_27, s64_30, zb0, zb1, ob_some, tl_s, tl_n, nk_i, nk_r, nk_n, nk_0, pk_us, pk_un, va_up_self, va_up_ne, ne_eq, Nat.reduceEqDiff, not_false_eq_true, true_and, and_true, eq_self, z11, z00, bI_z, gf_0_0, gf_0_1, gf_0_2, gf_0_3, gf_0_4, gf_0_5, gf_0_6, rcv_0, rcO_0, gf_1_0, gf_1_1, sf_1_1, gf_1_2, gf_1_3, gf_1_4, gf_1_5, sf_1_5, gf_1_6, sf_1_6, gf_1_7, sf_1_7, gf_1_8, sf_1_8, gf_1_9, sf_1_9, gf_1_10, sf_1_10, gf_1_11, sf_1_11, rcv_1, rcO_1, gf_6_0, sf_6_0, gf_6_1, sf_6_1, gf_6_2, sf_6_2, gf_6_3, sf_6_3, gf_6_4, gf_6_5, rcv_6, rcO_6, gf_9_0, gf_9_1, sf_9_1, rcv_9, rcO_9, gf_12_0, sf_12_0, gf_12_1, sf_12_1, gf_12_2, gf_12_3, rcv_12, rcO_12, gf_15_0, sf_15_0, gf_15_1, sf_15_1, gf_15_2, gf_15_3, rcv_15, rcO_15, gf_18_0, sf_18_0, gf_18_1, sf_18_1, gf_18_2, gf_18_3, gf_18_4, gf_18_5, sf_18_5, gf_18_6, sf_18_6, gf_18_7, sf_18_7, gf_18_8, sf_18_8, rcv_18, rcO_18, gf_24_0, gf_24_1, gf_24_2, sf_24_2, rcv_24, rcO_24, gf_28_0, gf_28_1, gf_28_2, gf_28_3, sf_28_3, gf_28_4, gf_28_5, sf_28_5, gf_28_6, sf_28_6, gf_28_7, gf_28_8, gf_28_9, gf_28_10, gf_28_11, gf_28_12, gf_28_13, sf_28_13, gf_28_14, sf_28_14, gf_28_15, sf_28_15, gf_28_16, sf_28_16, gf_28_17, sf_28_17, gf_28_18, sf_28_18, gf_28_19, gf_28_20, gf_28_21, gf_28_22, gf_28_23, gf_28_24, sf_28_24, gf_28_25, rcv_28, rcO_28, aI_2, aW_2, sI_2, aI_3, aW_3, sI_3, aI_4, aW_4, sI_4, aI_5, aW_5, sI_5, aI_7, aW_7, sI_7, aI_8, aW_8, sI_8, aI_13, aW_13, sI_13, aI_14, aW_14, sI_14, aI_16, aW_16, sI_16, aI_17, aW_17, sI_17, aI_21, aW_21, sI_21, aI_22, aW_22, sI_22, aI_23, aW_23, sI_23, aI_25, aW_25, sI_25, aI_26, aW_26, sI_26, aI_29, aW_29, sI_29, aI_31, aW_31, sI_31, aI_32, aW_32, sI_32, aI_33, aW_33, sI_33, aI_34, aW_34, sI_34, aI_35, aW_35, sI_35, aI_36, aW_36, sI_36, aI_37, aW_37, sI_37, aI_38, aW_38, sI_38, aI_41, aW_41, sI_41, aI_42, aW_42, sI_42, aI_43, aW_43, sI_43, aL_19, sL_19, aL_20, sL_20, aL_27, sL_27, aL_39, sL_39, aL_40, sL_40, aL_44, sL_44, aB_30, aZ_30, sZ_30, aQ_10, aQ_11, sQ_10, cl_f3 hC, hy, not_true_eq_false, not_false_eq_true, false_implies, true_implies, c_pop hl2, e, c_nthK (show cnt (bt (x &&& c (100 * p + 3))) 20 - 1 < cnt (bt (x &&& c (100 * p + 3))) 20 by omega)]
    simp only [h1, if_false]
end ST2
