/-! tests: yes and no, both sides -/
theorem sw2 (x : Int32) : x = 0 ∨ x = 1 ∨ (x.toInt < 0 ∨ 1 < x.toInt) := by
  by_cases h : x.toInt < 0 ∨ 1 < x.toInt
  · exact Or.inr (Or.inr h)
  · by_cases h0 : x.toInt = 0
    · exact Or.inl (Int32.toInt_inj.mp h0)
    · exact Or.inr (Or.inl (Int32.toInt_inj.mp (show x.toInt = 1 by omega)))
theorem sw4 (x : Int32) : x = 0 ∨ x = 1 ∨ x = 2 ∨ x = 3 ∨ (x.toInt < 0 ∨ 3 < x.toInt) := by
  by_cases h : x.toInt < 0 ∨ 3 < x.toInt
  · simp [h]
  · have : x.toInt = 0 ∨ x.toInt = 1 ∨ x.toInt = 2 ∨ x.toInt = 3 := by omega
    rcases this with h | h | h | h
    · exact Or.inl (Int32.toInt_inj.mp h)
    · exact Or.inr (Or.inl (Int32.toInt_inj.mp h))
    · exact Or.inr (Or.inr (Or.inl (Int32.toInt_inj.mp h)))
    · exact Or.inr (Or.inr (Or.inr (Or.inl (Int32.toInt_inj.mp h))))
theorem sw5 (x : Int32) : x = 0 ∨ x = 1 ∨ x = 2 ∨ x = 3 ∨ x = 4 ∨ (x.toInt < 0 ∨ 4 < x.toInt) := by
  rcases sw4 x with h | h | h | h | h
  · exact Or.inl h
  · exact Or.inr (Or.inl h)
  · exact Or.inr (Or.inr (Or.inl h))
  · exact Or.inr (Or.inr (Or.inr (Or.inl h)))
  · by_cases h4 : x.toInt = 4
    · exact Or.inr (Or.inr (Or.inr (Or.inr (Or.inl (Int32.toInt_inj.mp h4)))))
    · exact Or.inr (Or.inr (Or.inr (Or.inr (Or.inr (by omega)))))
theorem sw7 (x : Int32) : x = 0 ∨ x = 1 ∨ x = 2 ∨ x = 3 ∨ x = 4 ∨ x = 5 ∨ x = 6 ∨ (x.toInt < 0 ∨ 6 < x.toInt) := by
  rcases sw5 x with h | h | h | h | h | h
  · exact Or.inl h
  · exact Or.inr (Or.inl h)
  · exact Or.inr (Or.inr (Or.inl h))
  · exact Or.inr (Or.inr (Or.inr (Or.inl h)))
  · exact Or.inr (Or.inr (Or.inr (Or.inr (Or.inl h))))
  · by_cases h5 : x.toInt = 5
    · exact Or.inr (Or.inr (Or.inr (Or.inr (Or.inr (Or.inl (Int32.toInt_inj.mp h5))))))
    · by_cases h6 : x.toInt = 6
      · exact Or.inr (Or.inr (Or.inr (Or.inr (Or.inr (Or.inr (Or.inl (Int32.toInt_inj.mp h6)))))))
      · exact Or.inr (Or.inr (Or.inr (Or.inr (Or.inr (Or.inr (Or.inr (by omega)))))))
section TS
variable {X : XS} {d : Nat} {K Q : Option Value → AH → Prop} {c : Nat → Int32} {r : Nat → Nat → Int32} {w : Nat → Nat → Int64} {mb : Nat → Option Nat} {n1 n2 : Nat} {sh : List Nat} {H M i p : Nat} {x : Int32}
theorem y_mem (hc : c 901 = nI M) (hM : M ≤ 5) (hi : i < M) (hm : mb i = some p) : Cl X d 5 [.ref 9, .int (nI i)] (G c r w mb n1 n2 sh) K = K (some (.ref p)) (G c r w mb n1 n2 sh) := by
  rw [c_member]
  unfold mbN
  rw [if_neg, nI_clamp (by omega), hm]
  · rfl
  · rintro (h | h | h)
    · exact nI_pos (by omega) h
    · rw [hc] at h; exact nI_ge hi (by omega) h
    · exact nI_ge (b := 5) (by omega) (by omega) h
theorem n_mem (hc : c 901 = nI M) (hx : x < 0 ∨ nI M ≤ x) : Cl X d 5 [.ref 9, .int x] (G c r w mb n1 n2 sh) K = K (some .null) (G c r w mb n1 n2 sh) := by
  rw [c_member]
  unfold mbN
  rw [if_pos]
  rw [hc]
  rcases hx with h | h
  · exact Or.inl h
  · exact Or.inr (Or.inl h)
theorem y_isCl (hc : c 2813 = nI M) (hM : M ≤ 5) (hi : i < M) : Cl X (d + 1) 128 [.ref 28, .int (nI i)] (G c r w mb n1 n2 sh) K = K (some (.int 1)) (G c r w mb n1 n2 sh) := by
  rw [c_isClimber, hc]
  simp only [i64_lt0, i64_lt, nM1 (show M ≤ 30 by omega)]
  simp [nI_pos (show i < 2 ^ 31 by omega), nI_ge hi (show M < 2 ^ 31 by omega), bI]
theorem n_isCl (hc : c 2813 = nI M) (hM : M ≤ 5) (hx : x < 0 ∨ nI M ≤ x) : Cl X (d + 1) 128 [.ref 28, .int x] (G c r w mb n1 n2 sh) K = K (some (.int 0)) (G c r w mb n1 n2 sh) := by
  rw [c_isClimber, hc]
  simp only [i64_lt0, i64_lt, nM1 (show M ≤ 30 by omega)]
  rcases hx with h | h <;> simp [h, bI]
theorem y_cset (hc : c 901 = nI M) (h : x >>> (nI M &&& 31) = 0) : Cl X d 6 [.ref 9, .int x] (G c r w mb n1 n2 sh) K = K (some (.int 1)) (G c r w mb n1 n2 sh) := by
  rw [c_crall, hc]
  simp [h, bI]
theorem n_cset (hc : c 901 = nI M) (h : ¬ x >>> (nI M &&& 31) = 0) : Cl X d 6 [.ref 9, .int x] (G c r w mb n1 n2 sh) K = K (some (.int 0)) (G c r w mb n1 n2 sh) := by
  rw [c_crall, hc]
  simp [h, bI]
theorem y_rset (hc : c 600 = nI H) (h : x >>> (nI H &&& 31) = 0) : Cl X d 40 [.ref 6, .int x] (G c r w mb n1 n2 sh) K = K (some (.int 1)) (G c r w mb n1 n2 sh) := by
  rw [c_rall, hc]
  simp [h, bI]
theorem n_rset (hc : c 600 = nI H) (h : ¬ x >>> (nI H &&& 31) = 0) : Cl X d 40 [.ref 6, .int x] (G c r w mb n1 n2 sh) K = K (some (.int 0)) (G c r w mb n1 n2 sh) := by
  rw [c_rall, hc]
  simp [h, bI]
theorem y_isSet (hc : c 2813 = nI M) (hM : M ≤ 5) (h0 : ¬ x < 0) (h1 : ¬ nI (2 ^ M - 1) < x) : Cl X (d + 1) 129 [.ref 28, .int x] (G c r w mb n1 n2 sh) K = K (some (.int 1)) (G c r w mb n1 n2 sh) := by
  rw [c_isSet, hc]
  simp only [i64_lt0, i64_lt, msk_nI M (by omega)]
  simp [h0, h1, bI]
theorem n_isSet (hc : c 2813 = nI M) (hM : M ≤ 5) (h : x < 0 ∨ nI (2 ^ M - 1) < x) : Cl X (d + 1) 129 [.ref 28, .int x] (G c r w mb n1 n2 sh) K = K (some (.int 0)) (G c r w mb n1 n2 sh) := by
  rw [c_isSet, hc]
  simp only [i64_lt0, i64_lt, msk_nI M (by omega)]
  rcases h with h | h <;> simp [h, bI]
theorem y_areR (hc : c 2806 = nI H) (hH : H ≤ 20) (h0 : ¬ x < 0) (h1 : ¬ nI (2 ^ H - 1) < x) : Cl X (d + 1) 130 [.ref 28, .int x] (G c r w mb n1 n2 sh) K = K (some (.int 1)) (G c r w mb n1 n2 sh) := by
  rw [c_areRungs, hc]
  simp only [i64_lt0, i64_lt, msk_nI H (by omega)]
  simp [h0, h1, bI]
theorem n_areR (hc : c 2806 = nI H) (hH : H ≤ 20) (h : x < 0 ∨ nI (2 ^ H - 1) < x) : Cl X (d + 1) 130 [.ref 28, .int x] (G c r w mb n1 n2 sh) K = K (some (.int 0)) (G c r w mb n1 n2 sh) := by
  rw [c_areRungs, hc]
  simp only [i64_lt0, i64_lt, msk_nI H (by omega)]
  rcases h with h | h <;> simp [h, bI]
theorem lt1_iff (x : Int32) : (x < 1) = (x < 0 ∨ x = 0) := by
  rw [Int32.lt_iff_toInt_lt, Int32.lt_iff_toInt_lt, ← Int32.toInt_inj]
  have h1 : (1 : Int32).toInt = 1 := rfl
  have h0 : (0 : Int32).toInt = 0 := rfl
  exact propext (by omega)
/-- a rung, or none -/
theorem rg_ok (x : Int32) (hH : H ≤ 20) : (∃ k, k < H ∧ x = nI (k + 1)) ∨ (x < 1 ∨ nI H < x) := by
  by_cases h1 : x < 1
  · exact Or.inr (Or.inl h1)
  · by_cases h2 : nI H < x
    · exact Or.inr (Or.inr h2)
    · have h0 : ¬ x < 0 := fun q => h1 (by rw [lt1_iff]; exact Or.inl q)
      obtain ⟨j, hj, rfl⟩ := nI_of h0
      have h3 : j ≠ 0 := fun e => h1 (by rw [e, lt1_iff]; exact Or.inr rfl)
      have h4 : j ≤ H := by
        rcases Nat.lt_or_ge H j with q | q
        · exact absurd (nI_lt q hj) h2
        · exact q
      exact Or.inl ⟨j - 1, by omega, by rw [Nat.sub_add_cancel (by omega)]⟩
theorem y_rhas {k : Nat} (hc : c 600 = nI H) (hH : H ≤ 20) (hk : k < H) : Cl X d 39 [.ref 6, .int (nI (k + 1))] (G c r w mb n1 n2 sh) K = K (some (.int 1)) (G c r w mb n1 n2 sh) := by
  rw [c_rhas, hc]
  simp [in_h hH hk, bI]
theorem n_rhas (hc : c 600 = nI H) (hx : x < 1 ∨ nI H < x) : Cl X d 39 [.ref 6, .int x] (G c r w mb n1 n2 sh) K = K (some (.int 0)) (G c r w mb n1 n2 sh) := by
  rw [c_rhas, hc]
  rcases hx with h | h <;> simp [h, bI]
theorem y_isR {k : Nat} (hc : c 2806 = nI H) (hH : H ≤ 20) (hk : k < H) : Cl X (d + 1) 127 [.ref 28, .int (nI (k + 1))] (G c r w mb n1 n2 sh) K = K (some (.int 1)) (G c r w mb n1 n2 sh) := by
  rw [c_isRung, hc]
  simp only [i64_lt1, i64_lt]
  simp [in_h hH hk, bI]
theorem n_isR (hc : c 2806 = nI H) (hx : x < 1 ∨ nI H < x) : Cl X (d + 1) 127 [.ref 28, .int x] (G c r w mb n1 n2 sh) K = K (some (.int 0)) (G c r w mb n1 n2 sh) := by
  rw [c_isRung, hc]
  simp only [i64_lt1, i64_lt]
  rcases hx with h | h <;> simp [h, bI]
theorem i64_gtn {m : Nat} (hm : m < 2 ^ 31) (x : Int32) : (lN m < x.toInt64) = (nI m < x) := by
  rw [← nI_l hm, i64_lt]
end TS
