/-! a text is done: the class's side, line by line -/
abbrev AS : Type := Nat × Nat × (Nat → Bool) × (Nat → Bool) × (Nat → Nat) × (Nat → Nat) × (Nat → Nat) × (Nat → Nat)
def gA (u a : Nat) (gn : Nat → Bool) : Nat → Bool := if u = 0 then (fun _ => false) else if u = 1 then va_up gn (a - 1) true else if u = 2 ∨ u = 3 then va_up gn (a - 1) false else gn
def wA (u a : Nat) (wk : Nat → Bool) : Nat → Bool := if u = 0 then (fun _ => false) else if u = 2 then va_up wk (a - 1) true else if u = 1 ∨ u = 3 then va_up wk (a - 1) false else wk
def tA (u a b : Nat) (tn : Nat → Nat) : Nat → Nat := if u = 2 then va_up tn (a - 1) b else tn
def kq (u : Nat) : Nat := if u = 4 then 2 else if u = 5 then 5 else if u = 6 then 4 else 9
def kA (u M : Nat) (kd : Nat → Nat) : Nat → Nat := if 4 ≤ u ∧ u ≤ 7 then va_up kd M (kq u) else kd
def rA (u a M : Nat) (rc : Nat → Nat) : Nat → Nat := if 4 ≤ u ∧ u ≤ 7 then va_up rc M a else rc
def lA (u a b M : Nat) (ld : Nat → Nat) : Nat → Nat := if 4 ≤ u ∧ u ≤ 7 then va_up ld M 0 else if u = 8 then va_up ld a b else ld
def apF (s : AS) (x : Nat × Nat × Nat) : AS := (stH x.1 x.2.1 s.1, stM x.1 s.2.1, gA x.1 x.2.1 s.2.2.1, wA x.1 x.2.1 s.2.2.2.1, tA x.1 x.2.1 x.2.2 s.2.2.2.2.1, kA x.1 s.2.1 s.2.2.2.2.2.1, rA x.1 x.2.1 s.2.1 s.2.2.2.2.2.2.1, lA x.1 x.2.1 x.2.2 s.2.1 s.2.2.2.2.2.2.2)
def AV (s : AS) : Prop := (1 ≤ s.1 ∧ s.1 ≤ 20) ∧ s.2.1 ≤ 5 ∧ (∀ i, s.1 ≤ i → s.2.2.2.1 i = false ∧ s.2.2.1 i = false) ∧ (∀ i, s.2.2.2.1 i = true → s.2.2.1 i = false ∧ s.2.2.2.2.1 i ≤ 10) ∧ ∀ i, i < s.2.1 → (1 ≤ s.2.2.2.2.2.2.1 i ∧ s.2.2.2.2.2.2.1 i ≤ 6) ∧ s.2.2.2.2.2.2.2 i ≤ 5
def CA (s : AS) (c : Nat → Int32) (r : Nat → Nat → Int32) (mb : Nat → Option Nat) (sh : List Nat) (pp : Nat → Nat) : Prop := c 600 = nI s.1 ∧ (∀ i, i < 32 → bt (c 601) i = s.2.2.2.1 i ∧ bt (c 602) i = s.2.2.1 i) ∧ (∀ i, i < 20 → s.2.2.2.1 i = true → r 7 i = nI (s.2.2.2.2.1 i)) ∧ c 901 = nI s.2.1 ∧ (∀ i j, i < s.2.1 → j < s.2.1 → pp i = pp j → i = j) ∧ ∀ i, i < s.2.1 → mb i = some (pp i) ∧ isC sh (pp i) (s.2.2.2.2.2.1 i) ∧ c (100 * pp i) = nI (s.2.2.2.2.2.2.1 i) ∧ c (100 * pp i + 1) = nI (s.2.2.2.2.2.2.2 i)
def MA (s : AS) (c : Nat → Int32) (r : Nat → Nat → Int32) : Prop := c 2806 = nI s.1 ∧ c 2813 = nI s.2.1 ∧ (∀ i, i < 20 → r 33 (i + 1) = (if s.2.2.1 i then 2 else if s.2.2.2.1 i then 1 else 0) ∧ (s.2.2.2.1 i = true → r 34 (i + 1) = nI (s.2.2.2.2.1 i))) ∧ ∀ i, i < s.2.1 → r 35 i = kdN (s.2.2.2.2.2.1 i) ∧ r 36 i = nI (s.2.2.2.2.2.2.1 i) ∧ r 37 i = nI (s.2.2.2.2.2.2.2 i)
theorem AV_step {H M u a b : Nat} {gn wk : Nat → Bool} {tn kd rc ld : Nat → Nat} (h : AV (H, M, gn, wk, tn, kd, rc, ld)) (hv : vOK u a b H M) : AV (apF (H, M, gn, wk, tn, kd, rc, ld) (u, a, b)) := by
  obtain ⟨h1, h2, h3, h4, h5⟩ := h
  dsimp only at h1 h2 h3 h4 h5
  have hb := st_b hv h1 h2
  obtain ⟨v1, v2, v3, v4, v5, v6⟩ := hv
  have hu : u = 0 ∨ u = 1 ∨ u = 2 ∨ u = 3 ∨ (4 ≤ u ∧ u ≤ 7) ∨ u = 8 ∨ u = 9 := by omega
  refine ⟨hb.1, hb.2, ?_, ?_, ?_⟩
  · intro i hi
    show wA u a wk i = false ∧ gA u a gn i = false
    have hi2 : stH u a H ≤ i := hi
    rcases hu with rfl | rfl | rfl | rfl | hu | rfl | rfl
    · exact ⟨rfl, rfl⟩
    · have := v3 (by omega)
      have hH : H ≤ i := hi2
      exact ⟨(if_neg (by omega)).trans (h3 i hH).1, (if_neg (by omega)).trans (h3 i hH).2⟩
    · have := v3 (by omega)
      have hH : H ≤ i := hi2
      exact ⟨(if_neg (by omega)).trans (h3 i hH).1, (if_neg (by omega)).trans (h3 i hH).2⟩
    · have := v3 (by omega)
      have hH : H ≤ i := hi2
      exact ⟨(if_neg (by omega)).trans (h3 i hH).1, (if_neg (by omega)).trans (h3 i hH).2⟩
    · unfold stH at hi2
      rw [if_neg (by omega)] at hi2
      unfold wA gA
      rw [if_neg (by omega), if_neg (by omega), if_neg (by omega), if_neg (by omega), if_neg (by omega), if_neg (by omega)]
      exact h3 i hi2
    · exact h3 i hi2
    · exact h3 i hi2
  · intro i hi
    show gA u a gn i = false ∧ tA u a b tn i ≤ 10
    have hi2 : wA u a wk i = true := hi
    rcases hu with rfl | rfl | rfl | rfl | hu | rfl | rfl
    · cases hi2
    · by_cases e : i = a - 1
      · have : wA 1 a wk i = false := if_pos e
        rw [this] at hi2; cases hi2
      · have e2 : wA 1 a wk i = wk i := if_neg e
        rw [e2] at hi2
        exact ⟨(if_neg e).trans (h4 i hi2).1, (h4 i hi2).2⟩
    · by_cases e : i = a - 1
      · exact ⟨if_pos e, by rw [show tA 2 a b tn i = b from if_pos e]; exact v4 rfl⟩
      · have e2 : wA 2 a wk i = wk i := if_neg e
        rw [e2] at hi2
        exact ⟨(if_neg e).trans (h4 i hi2).1, by rw [show tA 2 a b tn i = tn i from if_neg e]; exact (h4 i hi2).2⟩
    · by_cases e : i = a - 1
      · have : wA 3 a wk i = false := if_pos e
        rw [this] at hi2; cases hi2
      · have e2 : wA 3 a wk i = wk i := if_neg e
        rw [e2] at hi2
        exact ⟨(if_neg e).trans (h4 i hi2).1, (h4 i hi2).2⟩
    · unfold wA at hi2
      rw [if_neg (by omega), if_neg (by omega), if_neg (by omega)] at hi2
      unfold gA tA
      rw [if_neg (by omega), if_neg (by omega), if_neg (by omega), if_neg (by omega)]
      exact h4 i hi2
    · exact h4 i hi2
    · exact h4 i hi2
  · intro i hi
    show (1 ≤ rA u a M rc i ∧ rA u a M rc i ≤ 6) ∧ lA u a b M ld i ≤ 5
    have hi2 : i < stM u M := hi
    by_cases hc : 4 ≤ u ∧ u ≤ 7
    · have := v5 hc
      unfold rA lA
      rw [if_pos hc, if_pos hc]
      by_cases e : i = M
      · subst e
        rw [show va_up rc i a i = a from if_pos rfl, show va_up ld i 0 i = 0 from if_pos rfl]
        omega
      · rw [show va_up rc M a i = rc i from if_neg e, show va_up ld M 0 i = ld i from if_neg e]
        have : stM u M = M + 1 := by unfold stM; rw [if_neg (by omega), if_pos hc]
        exact h5 i (by omega)
    · unfold rA lA
      rw [if_neg hc, if_neg hc]
      have hiM : i < M := by
        unfold stM at hi2
        split at hi2
        · omega
        · first | exact hi2 | (rw [if_neg hc] at hi2; exact hi2)
      by_cases h8 : u = 8
      · rw [if_pos h8]
        by_cases e : i = a
        · rw [show va_up ld a b i = b from if_pos e]
          exact ⟨(h5 i hiM).1, (v6 h8).2⟩
        · rw [show va_up ld a b i = ld i from if_neg e]
          exact h5 i hiM
      · rw [if_neg h8]
        exact h5 i hiM
section OB
variable {X : XS} {d : Nat} {K Q : Option Value → AH → Prop} {c : Nat → Int32} {r : Nat → Nat → Int32} {w : Nat → Nat → Int64} {mb : Nat → Option Nat} {n1 n2 : Nat} {sh : List Nat} {M p : Nat}
theorem c_join (hc : c 901 = nI M) (hM : M < 5) {s : Nat} (hC : isC sh p s) : Cl X d 7 [.ref 9, .ref p] (G c r w mb n1 n2 sh) K = K none (G (upd c 901 (nI (M + 1))) r w (va_up mb M (some p)) n1 n2 sh) := by
  have e : ¬ (5 : Int32) ≤ nI M := nI_ge (b := 5) (by omega) (by omega)
  have i1 := inb_nI (show M < 5 by omega) (by omega)
  have z1 := nI_clamp (show M < 2 ^ 31 by omega)
  have ok : okel 3 s = true := by
    unfold okel
    rw [if_pos rfl]
    exact C_in hC
  rw [e7]
  simp only [s7_0, s7_1, s7_4, s7_5, s7_8, s7_9, s7_12, s7_13, s7_16, s7_16n, s7_17, s7_18, s7_19, s7_20, s7_23, s7_24, s7_25, s7_28, zb0, zb1, ob_some, tl_s, tl_n, nk_i, nk_r, nk_n, nk_0, pk_us, pk_un, va_up_self, va_up_ne, ne_eq, Nat.reduceEqDiff, not_false_eq_true, true_and, and_true, eq_self, z11, z00, bI_z, gf_0_0, gf_0_1, gf_0_2, gf_0_3, gf_0_4, gf_0_5, gf_0_6, rcv_0, rcO_0, gf_1_0, gf_1_1, sf_1_1, gf_1_2, gf_1_3, gf_1_4, gf_1_5, sf_1_5, gf_1_6, sf_1_6, gf_1_7, sf_1_7, gf_1_8, sf_1_8, gf_1_9, sf_1_9, gf_1_10, sf_1_10, gf_1_11, sf_1_11, rcv_1, rcO_1, gf_6_0, sf_6_0, gf_6_1, sf_6_1, gf_6_2, sf_6_2, gf_6_3, sf_6_3, gf_6_4, gf_6_5, rcv_6, rcO_6, gf_9_0, gf_9_1, sf_9_1, rcv_9, rcO_9, gf_12_0, sf_12_0, gf_12_1, sf_12_1, gf_12_2, gf_12_3, rcv_12, rcO_12, gf_15_0, sf_15_0, gf_15_1, sf_15_1, gf_15_2, gf_15_3, rcv_15, rcO_15, gf_18_0, sf_18_0, gf_18_1, sf_18_1, gf_18_2, gf_18_3, gf_18_4, gf_18_5, sf_18_5, gf_18_6, sf_18_6, gf_18_7, sf_18_7, gf_18_8, sf_18_8, rcv_18, rcO_18, gf_24_0, gf_24_1, gf_24_2, sf_24_2, rcv_24, rcO_24, gf_28_0, gf_28_1, gf_28_2, gf_28_3, sf_28_3, gf_28_4, gf_28_5, sf_28_5, gf_28_6, sf_28_6, gf_28_7, gf_28_8, gf_28_9, gf_28_10, gf_28_11, gf_28_12, gf_28_13, sf_28_13, gf_28_14, sf_28_14, gf_28_15, sf_28_15, gf_28_16, sf_28_16, gf_28_17, sf_28_17, gf_28_18, sf_28_18, gf_28_19, gf_28_20, gf_28_21, gf_28_22, gf_28_23, gf_28_24, sf_28_24, gf_28_25, rcv_28, rcO_28, aI_2, aW_2, sI_2, aI_3, aW_3, sI_3, aI_4, aW_4, sI_4, aI_5, aW_5, sI_5, aI_7, aW_7, sI_7, aI_8, aW_8, sI_8, aI_13, aW_13, sI_13, aI_14, aW_14, sI_14, aI_16, aW_16, sI_16, aI_17, aW_17, sI_17, aI_21, aW_21, sI_21, aI_22, aW_22, sI_22, aI_23, aW_23, sI_23, aI_25, aW_25, sI_25, aI_26, aW_26, sI_26, aI_29, aW_29, sI_29, aI_31, aW_31, sI_31, aI_32, aW_32, sI_32, aI_33, aW_33, sI_33, aI_34, aW_34, sI_34, aI_35, aW_35, sI_35, aI_36, aW_36, sI_36, aI_37, aW_37, sI_37, aI_38, aW_38, sI_38, aI_41, aW_41, sI_41, aI_42, aW_42, sI_42, aI_43, aW_43, sI_43, aL_19, sL_19, aL_20, sL_20, aL_27, sL_27, aL_39, sL_39, aL_40, sL_40, aL_44, sL_44, aB_30, aZ_30, sZ_30, aQ_10, aQ_11, sQ_10, hc, e, i1, z1, cl_rcO hC, ok, nI_1, Bool.and_self, true_implies, false_implies, not_true_eq_false, not_false_eq_true, and_self, true_and, and_true]
theorem c_burden {i x : Nat} {s : Nat} (hc : c 901 = nI M) (hM : M ≤ 5) (hi : i < M) (hm : mb i = some p) (hC : isC sh p s) : Cl X (d + 1) 8 [.ref 9, .int (nI i), .int (nI x)] (G c r w mb n1 n2 sh) K = K none (G (upd c (100 * p + 1) (nI x)) r w mb n1 n2 sh) := by
  rw [e8]
  simp only [s8_0, s8_1, s8_2, s8_5, s8_5n, s8_6, s8_6n, s8_7n, s8_7, s8_10, s8_10n, s8_11, s8_12, s8_15, zb0, zb1, ob_some, tl_s, tl_n, nk_i, nk_r, nk_n, nk_0, pk_us, pk_un, va_up_self, va_up_ne, ne_eq, Nat.reduceEqDiff, not_false_eq_true, true_and, and_true, eq_self, z11, z00, bI_z, gf_0_0, gf_0_1, gf_0_2, gf_0_3, gf_0_4, gf_0_5, gf_0_6, rcv_0, rcO_0, gf_1_0, gf_1_1, sf_1_1, gf_1_2, gf_1_3, gf_1_4, gf_1_5, sf_1_5, gf_1_6, sf_1_6, gf_1_7, sf_1_7, gf_1_8, sf_1_8, gf_1_9, sf_1_9, gf_1_10, sf_1_10, gf_1_11, sf_1_11, rcv_1, rcO_1, gf_6_0, sf_6_0, gf_6_1, sf_6_1, gf_6_2, sf_6_2, gf_6_3, sf_6_3, gf_6_4, gf_6_5, rcv_6, rcO_6, gf_9_0, gf_9_1, sf_9_1, rcv_9, rcO_9, gf_12_0, sf_12_0, gf_12_1, sf_12_1, gf_12_2, gf_12_3, rcv_12, rcO_12, gf_15_0, sf_15_0, gf_15_1, sf_15_1, gf_15_2, gf_15_3, rcv_15, rcO_15, gf_18_0, sf_18_0, gf_18_1, sf_18_1, gf_18_2, gf_18_3, gf_18_4, gf_18_5, sf_18_5, gf_18_6, sf_18_6, gf_18_7, sf_18_7, gf_18_8, sf_18_8, rcv_18, rcO_18, gf_24_0, gf_24_1, gf_24_2, sf_24_2, rcv_24, rcO_24, gf_28_0, gf_28_1, gf_28_2, gf_28_3, sf_28_3, gf_28_4, gf_28_5, sf_28_5, gf_28_6, sf_28_6, gf_28_7, gf_28_8, gf_28_9, gf_28_10, gf_28_11, gf_28_12, gf_28_13, sf_28_13, gf_28_14, sf_28_14, gf_28_15, sf_28_15, gf_28_16, sf_28_16, gf_28_17, sf_28_17, gf_28_18, sf_28_18, gf_28_19, gf_28_20, gf_28_21, gf_28_22, gf_28_23, gf_28_24, sf_28_24, gf_28_25, rcv_28, rcO_28, aI_2, aW_2, sI_2, aI_3, aW_3, sI_3, aI_4, aW_4, sI_4, aI_5, aW_5, sI_5, aI_7, aW_7, sI_7, aI_8, aW_8, sI_8, aI_13, aW_13, sI_13, aI_14, aW_14, sI_14, aI_16, aW_16, sI_16, aI_17, aW_17, sI_17, aI_21, aW_21, sI_21, aI_22, aW_22, sI_22, aI_23, aW_23, sI_23, aI_25, aW_25, sI_25, aI_26, aW_26, sI_26, aI_29, aW_29, sI_29, aI_31, aW_31, sI_31, aI_32, aW_32, sI_32, aI_33, aW_33, sI_33, aI_34, aW_34, sI_34, aI_35, aW_35, sI_35, aI_36, aW_36, sI_36, aI_37, aW_37, sI_37, aI_38, aW_38, sI_38, aI_41, aW_41, sI_41, aI_42, aW_42, sI_42, aI_43, aW_43, sI_43, aL_19, sL_19, aL_20, sL_20, aL_27, sL_27, aL_39, sL_39, aL_40, sL_40, aL_44, sL_44, aB_30, aZ_30, sZ_30, aQ_10, aQ_11, sQ_10, y_mem hc hM hi hm, cl_f1 hC, cl_s1 hC, true_implies, false_implies, not_true_eq_false, not_false_eq_true, and_self, true_and, and_true]
end OB
def FrO (c : Nat → Int32) (r : Nat → Nat → Int32) (sh : List Nat) (c2 : Nat → Int32) (r2 : Nat → Nat → Int32) (sh2 : List Nat) (n : Nat) : Prop := (∀ q, q < 4500 → q ≠ 600 → q ≠ 601 → q ≠ 602 → q ≠ 901 → c2 q = c q) ∧ (∀ q, q ≠ 7 → r2 q = r q) ∧ ∃ l : List Nat, sh2 = sh ++ l ∧ l.length ≤ n ∧ ∀ u, u ∈ l → u ≠ 1
theorem bt_clr {x : Int32} {a i : Nat} (h1 : 1 ≤ a) (h2 : a ≤ 20) (hi : i < 32) : bt (x &&& (btN (nI a) ^^^ -1)) i = (bt x i && !decide (i = a - 1)) := by
  rw [b_and, b_xor, b_m1 i hi, show a = (a - 1) + 1 by omega, bt_btN (by omega) hi, show (a - 1) + 1 - 1 = a - 1 by omega]
  cases bt x i <;> cases decide (i = a - 1) <;> rfl
theorem bt_sets {x : Int32} {a i : Nat} (h1 : 1 ≤ a) (h2 : a ≤ 20) (hi : i < 32) : bt (x ||| btN (nI a)) i = (bt x i || decide (i = a - 1)) := by
  rw [b_or, show a = (a - 1) + 1 by omega, bt_btN (by omega) hi, show (a - 1) + 1 - 1 = a - 1 by omega]
theorem vup_t {f : Nat → Bool} {k i : Nat} : va_up f k true i = (f i || decide (i = k)) := by
  unfold va_up
  by_cases h : i = k
  · simp [h]
  · simp [h]
theorem vup_f {f : Nat → Bool} {k i : Nat} : va_up f k false i = (f i && !decide (i = k)) := by
  unfold va_up
  by_cases h : i = k
  · simp [h]
  · simp [h]
theorem kq_ok : ∀ u, u < 8 → 4 ≤ u → (kq u = 2 ∨ kq u = 4 ∨ kq u = 5 ∨ kq u = 9) ∧ kdN (kq u) = nI u - 4 := by decide +kernel
/-- a line is obeyed -/
theorem c_obey {c : Nat → Int32} {r : Nat → Nat → Int32} {w : Nat → Nat → Int64} {mb : Nat → Option Nat} {n1 n2 : Nat} {sh : List Nat} {pp : Nat → Nat} {H M u a b : Nat} {gn wk : Nat → Bool} {tn kd rc ld : Nat → Nat} {x y z : Int32} (hA : AV (H, M, gn, wk, tn, kd, rc, ld)) (hC : CA (H, M, gn, wk, tn, kd, rc, ld) c r mb sh pp) (hv : vOK u a b H M) (hx : x = nI u) (hy : u ≠ 9 → y = nI a) (hz : (u = 2 ∨ u = 8) → z = nI b) (hl : sh.length < 800000) : ∃ c2 r2 mb2 sh2 pp2, CA (apF (H, M, gn, wk, tn, kd, rc, ld) (u, a, b)) c2 r2 mb2 sh2 pp2 ∧ FrO c r sh c2 r2 sh2 1 ∧ ∀ X d K, Cl X (d + 4) 91 [.ref 0, .int x, .int y, .int z] (G c r w mb n1 n2 sh) K = K none (G c2 r2 w mb2 n1 n2 sh2) := by
  obtain ⟨k1, k2, k3, k4, k5, k6⟩ := hC
  dsimp only at k1 k2 k3 k4 k5 k6
  obtain ⟨⟨a1, a2⟩, a3, a4, a5, a6⟩ := hA
  dsimp only at a1 a2 a3 a4 a5 a6
  obtain ⟨v1, v2, v3, v4, v5, v6⟩ := hv
  have nil1 : ∃ l : List Nat, sh = sh ++ l ∧ l.length ≤ 1 ∧ ∀ u, u ∈ l → u ≠ 1 := ⟨[], (List.append_nil sh).symm, by decide, fun u hu => by cases hu⟩
  have h45 : ∀ i, i < M → 45 ≤ pp i := fun i hi => (k6 i hi).2.1.1
  have hu : u = 0 ∨ u = 1 ∨ u = 2 ∨ u = 3 ∨ (4 ≤ u ∧ u ≤ 7) ∨ u = 8 ∨ u = 9 := by omega
  rcases hu with rfl | rfl | rfl | rfl | hu | rfl | rfl
  · have hy := hy (by omega)
    subst hx hy
    refine ⟨upd (upd (upd c 600 (nI a)) 601 0) 602 0, r, mb, sh, pp, ⟨rfl, fun i hi => ⟨b_0 i, b_0 i⟩, fun i _ h => (by cases h), ?_, k5, fun i hi => ?_⟩, ⟨fun q h1 h2 h3 h4 h5 => ?_, fun _ _ => rfl, nil1⟩, fun X d K => ?_⟩
    · exact k4
    · have := h45 i hi
      rw [pk_un (by omega), pk_un (by omega), pk_un (by omega), pk_un (by omega), pk_un (by omega), pk_un (by omega)]
      exact k6 i hi
    · rw [pk_un h4, pk_un h3, pk_un h2]
    · rw [e91]
      simp only [s91_0, s91_1k0, s91_1k1, s91_1k2, s91_1k3, s91_1k4, s91_1k5, s91_1k6, s91_1k7, s91_1k8, s91_1k9, s91_1, s91_56, s91_57, s91_60, s91_61, s91_64, s91_67, s91_68, s91_71, s91_72, s91_75, s91_78, s91_79, s91_82, s91_83, s91_84, s91_87, s91_90, s91_91, s91_94, s91_95, s91_98, s91_101, s91_102, s91_105, s91_106, s91_107, s91_110, s91_113, s91_114, s91_117, s91_118, s91_121, s91_124, s91_125, s91_128, s91_129, s91_130, s91_131, s91_132, s91_135, s91_138, zb0, zb1, ob_some, tl_s, tl_n, nk_i, nk_r, nk_n, nk_0, pk_us, pk_un, va_up_self, va_up_ne, ne_eq, Nat.reduceEqDiff, not_false_eq_true, true_and, and_true, eq_self, z11, z00, bI_z, gf_0_0, gf_0_1, gf_0_2, gf_0_3, gf_0_4, gf_0_5, gf_0_6, rcv_0, rcO_0, gf_1_0, gf_1_1, sf_1_1, gf_1_2, gf_1_3, gf_1_4, gf_1_5, sf_1_5, gf_1_6, sf_1_6, gf_1_7, sf_1_7, gf_1_8, sf_1_8, gf_1_9, sf_1_9, gf_1_10, sf_1_10, gf_1_11, sf_1_11, rcv_1, rcO_1, gf_6_0, sf_6_0, gf_6_1, sf_6_1, gf_6_2, sf_6_2, gf_6_3, sf_6_3, gf_6_4, gf_6_5, rcv_6, rcO_6, gf_9_0, gf_9_1, sf_9_1, rcv_9, rcO_9, gf_12_0, sf_12_0, gf_12_1, sf_12_1, gf_12_2, gf_12_3, rcv_12, rcO_12, gf_15_0, sf_15_0, gf_15_1, sf_15_1, gf_15_2, gf_15_3, rcv_15, rcO_15, gf_18_0, sf_18_0, gf_18_1, sf_18_1, gf_18_2, gf_18_3, gf_18_4, gf_18_5, sf_18_5, gf_18_6, sf_18_6, gf_18_7, sf_18_7, gf_18_8, sf_18_8, rcv_18, rcO_18, gf_24_0, gf_24_1, gf_24_2, sf_24_2, rcv_24, rcO_24, gf_28_0, gf_28_1, gf_28_2, gf_28_3, sf_28_3, gf_28_4, gf_28_5, sf_28_5, gf_28_6, sf_28_6, gf_28_7, gf_28_8, gf_28_9, gf_28_10, gf_28_11, gf_28_12, gf_28_13, sf_28_13, gf_28_14, sf_28_14, gf_28_15, sf_28_15, gf_28_16, sf_28_16, gf_28_17, sf_28_17, gf_28_18, sf_28_18, gf_28_19, gf_28_20, gf_28_21, gf_28_22, gf_28_23, gf_28_24, sf_28_24, gf_28_25, rcv_28, rcO_28, aI_2, aW_2, sI_2, aI_3, aW_3, sI_3, aI_4, aW_4, sI_4, aI_5, aW_5, sI_5, aI_7, aW_7, sI_7, aI_8, aW_8, sI_8, aI_13, aW_13, sI_13, aI_14, aW_14, sI_14, aI_16, aW_16, sI_16, aI_17, aW_17, sI_17, aI_21, aW_21, sI_21, aI_22, aW_22, sI_22, aI_23, aW_23, sI_23, aI_25, aW_25, sI_25, aI_26, aW_26, sI_26, aI_29, aW_29, sI_29, aI_31, aW_31, sI_31, aI_32, aW_32, sI_32, aI_33, aW_33, sI_33, aI_34, aW_34, sI_34, aI_35, aW_35, sI_35, aI_36, aW_36, sI_36, aI_37, aW_37, sI_37, aI_38, aW_38, sI_38, aI_41, aW_41, sI_41, aI_42, aW_42, sI_42, aI_43, aW_43, sI_43, aL_19, sL_19, aL_20, sL_20, aL_27, sL_27, aL_39, sL_39, aL_40, sL_40, aL_44, sL_44, aB_30, aZ_30, sZ_30, aQ_10, aQ_11, sQ_10, show nI 0 = 0 from rfl, c_renew, true_implies, false_implies, not_true_eq_false, not_false_eq_true, and_self, true_and, and_true]
  · have hy := hy (by omega)
    have hb := v3 (by omega)
    subst hx hy
    refine ⟨upd (upd c 601 (c 601 &&& (btN (nI a) ^^^ -1))) 602 (c 602 ||| btN (nI a)), r, mb, sh, pp, ⟨k1, fun i hi => ?_, fun i hi h => ?_, k4, k5, fun i hi => ?_⟩, ⟨fun q h1 h2 h3 h4 h5 => ?_, fun _ _ => rfl, nil1⟩, fun X d K => ?_⟩
    · show bt (c 601 &&& (btN (nI a) ^^^ -1)) i = va_up wk (a - 1) false i ∧ bt (c 602 ||| btN (nI a)) i = va_up gn (a - 1) true i
      rw [bt_clr hb.1 (by omega) hi, bt_sets hb.1 (by omega) hi, vup_t, vup_f, (k2 i hi).1, (k2 i hi).2]
      exact ⟨rfl, rfl⟩
    · refine k3 i hi ?_
      have h2 : va_up wk (a - 1) false i = true := h
      rw [vup_f, Bool.and_eq_true] at h2
      exact h2.1
    · have := h45 i hi
      rw [pk_un (by omega), pk_un (by omega), pk_un (by omega), pk_un (by omega)]
      exact k6 i hi
    · rw [pk_un h4, pk_un h3]
    · rw [e91]
      simp only [s91_0, s91_1k0, s91_1k1, s91_1k2, s91_1k3, s91_1k4, s91_1k5, s91_1k6, s91_1k7, s91_1k8, s91_1k9, s91_1, s91_56, s91_57, s91_60, s91_61, s91_64, s91_67, s91_68, s91_71, s91_72, s91_75, s91_78, s91_79, s91_82, s91_83, s91_84, s91_87, s91_90, s91_91, s91_94, s91_95, s91_98, s91_101, s91_102, s91_105, s91_106, s91_107, s91_110, s91_113, s91_114, s91_117, s91_118, s91_121, s91_124, s91_125, s91_128, s91_129, s91_130, s91_131, s91_132, s91_135, s91_138, zb0, zb1, ob_some, tl_s, tl_n, nk_i, nk_r, nk_n, nk_0, pk_us, pk_un, va_up_self, va_up_ne, ne_eq, Nat.reduceEqDiff, not_false_eq_true, true_and, and_true, eq_self, z11, z00, bI_z, gf_0_0, gf_0_1, gf_0_2, gf_0_3, gf_0_4, gf_0_5, gf_0_6, rcv_0, rcO_0, gf_1_0, gf_1_1, sf_1_1, gf_1_2, gf_1_3, gf_1_4, gf_1_5, sf_1_5, gf_1_6, sf_1_6, gf_1_7, sf_1_7, gf_1_8, sf_1_8, gf_1_9, sf_1_9, gf_1_10, sf_1_10, gf_1_11, sf_1_11, rcv_1, rcO_1, gf_6_0, sf_6_0, gf_6_1, sf_6_1, gf_6_2, sf_6_2, gf_6_3, sf_6_3, gf_6_4, gf_6_5, rcv_6, rcO_6, gf_9_0, gf_9_1, sf_9_1, rcv_9, rcO_9, gf_12_0, sf_12_0, gf_12_1, sf_12_1, gf_12_2, gf_12_3, rcv_12, rcO_12, gf_15_0, sf_15_0, gf_15_1, sf_15_1, gf_15_2, gf_15_3, rcv_15, rcO_15, gf_18_0, sf_18_0, gf_18_1, sf_18_1, gf_18_2, gf_18_3, gf_18_4, gf_18_5, sf_18_5, gf_18_6, sf_18_6, gf_18_7, sf_18_7, gf_18_8, sf_18_8, rcv_18, rcO_18, gf_24_0, gf_24_1, gf_24_2, sf_24_2, rcv_24, rcO_24, gf_28_0, gf_28_1, gf_28_2, gf_28_3, sf_28_3, gf_28_4, gf_28_5, sf_28_5, gf_28_6, sf_28_6, gf_28_7, gf_28_8, gf_28_9, gf_28_10, gf_28_11, gf_28_12, gf_28_13, sf_28_13, gf_28_14, sf_28_14, gf_28_15, sf_28_15, gf_28_16, sf_28_16, gf_28_17, sf_28_17, gf_28_18, sf_28_18, gf_28_19, gf_28_20, gf_28_21, gf_28_22, gf_28_23, gf_28_24, sf_28_24, gf_28_25, rcv_28, rcO_28, aI_2, aW_2, sI_2, aI_3, aW_3, sI_3, aI_4, aW_4, sI_4, aI_5, aW_5, sI_5, aI_7, aW_7, sI_7, aI_8, aW_8, sI_8, aI_13, aW_13, sI_13, aI_14, aW_14, sI_14, aI_16, aW_16, sI_16, aI_17, aW_17, sI_17, aI_21, aW_21, sI_21, aI_22, aW_22, sI_22, aI_23, aW_23, sI_23, aI_25, aW_25, sI_25, aI_26, aW_26, sI_26, aI_29, aW_29, sI_29, aI_31, aW_31, sI_31, aI_32, aW_32, sI_32, aI_33, aW_33, sI_33, aI_34, aW_34, sI_34, aI_35, aW_35, sI_35, aI_36, aW_36, sI_36, aI_37, aW_37, sI_37, aI_38, aW_38, sI_38, aI_41, aW_41, sI_41, aI_42, aW_42, sI_42, aI_43, aW_43, sI_43, aL_19, sL_19, aL_20, sL_20, aL_27, sL_27, aL_39, sL_39, aL_40, sL_40, aL_44, sL_44, aB_30, aZ_30, sZ_30, aQ_10, aQ_11, sQ_10, show nI 1 = 1 from rfl, c_lose, true_implies, false_implies, not_true_eq_false, not_false_eq_true, and_self, true_and, and_true]
  · have hy := hy (by omega)
    have hz := hz (by omega)
    have hb := v3 (by omega)
    subst hx hy hz
    refine ⟨upd (upd c 602 (c 602 &&& (btN (nI a) ^^^ -1))) 601 (c 601 ||| btN (nI a)), va_up r 7 (upd (r 7) (a - 1) (nI b)), mb, sh, pp, ⟨k1, fun i hi => ?_, fun i hi h => ?_, k4, k5, fun i hi => ?_⟩, ⟨fun q h1 h2 h3 h4 h5 => ?_, fun q hq => if_neg hq, nil1⟩, fun X d K => ?_⟩
    · show bt (c 601 ||| btN (nI a)) i = va_up wk (a - 1) true i ∧ bt (c 602 &&& (btN (nI a) ^^^ -1)) i = va_up gn (a - 1) false i
      rw [bt_clr hb.1 (by omega) hi, bt_sets hb.1 (by omega) hi, vup_t, vup_f, (k2 i hi).1, (k2 i hi).2]
      exact ⟨rfl, rfl⟩
    · show upd (r 7) (a - 1) (nI b) i = nI (va_up tn (a - 1) b i)
      by_cases e : i = a - 1
      · rw [e, pk_us, show va_up tn (a - 1) b (a - 1) = b from if_pos rfl]
      · rw [pk_un e, show va_up tn (a - 1) b i = tn i from if_neg e]
        refine k3 i hi ?_
        have h2 : va_up wk (a - 1) true i = true := h
        rw [vup_t, decide_eq_false e, Bool.or_false] at h2
        exact h2
    · have := h45 i hi
      rw [pk_un (by omega), pk_un (by omega), pk_un (by omega), pk_un (by omega)]
      exact k6 i hi
    · rw [pk_un h3, pk_un h4]
    · have cw := fun d K => c_weaken (X := X) (d := d) (K := K) (y := nI b) (r := r) (w := w) (mb := mb) (n1 := n1) (n2 := n2) (sh := sh) (k := a - 1) k1 a2 (by omega)
      rw [show a - 1 + 1 = a by omega] at cw
      rw [e91]
      simp only [s91_0, s91_1k0, s91_1k1, s91_1k2, s91_1k3, s91_1k4, s91_1k5, s91_1k6, s91_1k7, s91_1k8, s91_1k9, s91_1, s91_56, s91_57, s91_60, s91_61, s91_64, s91_67, s91_68, s91_71, s91_72, s91_75, s91_78, s91_79, s91_82, s91_83, s91_84, s91_87, s91_90, s91_91, s91_94, s91_95, s91_98, s91_101, s91_102, s91_105, s91_106, s91_107, s91_110, s91_113, s91_114, s91_117, s91_118, s91_121, s91_124, s91_125, s91_128, s91_129, s91_130, s91_131, s91_132, s91_135, s91_138, zb0, zb1, ob_some, tl_s, tl_n, nk_i, nk_r, nk_n, nk_0, pk_us, pk_un, va_up_self, va_up_ne, ne_eq, Nat.reduceEqDiff, not_false_eq_true, true_and, and_true, eq_self, z11, z00, bI_z, gf_0_0, gf_0_1, gf_0_2, gf_0_3, gf_0_4, gf_0_5, gf_0_6, rcv_0, rcO_0, gf_1_0, gf_1_1, sf_1_1, gf_1_2, gf_1_3, gf_1_4, gf_1_5, sf_1_5, gf_1_6, sf_1_6, gf_1_7, sf_1_7, gf_1_8, sf_1_8, gf_1_9, sf_1_9, gf_1_10, sf_1_10, gf_1_11, sf_1_11, rcv_1, rcO_1, gf_6_0, sf_6_0, gf_6_1, sf_6_1, gf_6_2, sf_6_2, gf_6_3, sf_6_3, gf_6_4, gf_6_5, rcv_6, rcO_6, gf_9_0, gf_9_1, sf_9_1, rcv_9, rcO_9, gf_12_0, sf_12_0, gf_12_1, sf_12_1, gf_12_2, gf_12_3, rcv_12, rcO_12, gf_15_0, sf_15_0, gf_15_1, sf_15_1, gf_15_2, gf_15_3, rcv_15, rcO_15, gf_18_0, sf_18_0, gf_18_1, sf_18_1, gf_18_2, gf_18_3, gf_18_4, gf_18_5, sf_18_5, gf_18_6, sf_18_6, gf_18_7, sf_18_7, gf_18_8, sf_18_8, rcv_18, rcO_18, gf_24_0, gf_24_1, gf_24_2, sf_24_2, rcv_24, rcO_24, gf_28_0, gf_28_1, gf_28_2, gf_28_3, sf_28_3, gf_28_4, gf_28_5, sf_28_5, gf_28_6, sf_28_6, gf_28_7, gf_28_8, gf_28_9, gf_28_10, gf_28_11, gf_28_12, gf_28_13, sf_28_13, gf_28_14, sf_28_14, gf_28_15, sf_28_15, gf_28_16, sf_28_16, gf_28_17, sf_28_17, gf_28_18, sf_28_18, gf_28_19, gf_28_20, gf_28_21, gf_28_22, gf_28_23, gf_28_24, sf_28_24, gf_28_25, rcv_28, rcO_28, aI_2, aW_2, sI_2, aI_3, aW_3, sI_3, aI_4, aW_4, sI_4, aI_5, aW_5, sI_5, aI_7, aW_7, sI_7, aI_8, aW_8, sI_8, aI_13, aW_13, sI_13, aI_14, aW_14, sI_14, aI_16, aW_16, sI_16, aI_17, aW_17, sI_17, aI_21, aW_21, sI_21, aI_22, aW_22, sI_22, aI_23, aW_23, sI_23, aI_25, aW_25, sI_25, aI_26, aW_26, sI_26, aI_29, aW_29, sI_29, aI_31, aW_31, sI_31, aI_32, aW_32, sI_32, aI_33, aW_33, sI_33, aI_34, aW_34, sI_34, aI_35, aW_35, sI_35, aI_36, aW_36, sI_36, aI_37, aW_37, sI_37, aI_38, aW_38, sI_38, aI_41, aW_41, sI_41, aI_42, aW_42, sI_42, aI_43, aW_43, sI_43, aL_19, sL_19, aL_20, sL_20, aL_27, sL_27, aL_39, sL_39, aL_40, sL_40, aL_44, sL_44, aB_30, aZ_30, sZ_30, aQ_10, aQ_11, sQ_10, show nI 2 = 2 from rfl, cw, true_implies, false_implies, not_true_eq_false, not_false_eq_true, and_self, true_and, and_true]
  · have hy := hy (by omega)
    have hb := v3 (by omega)
    subst hx hy
    refine ⟨upd (upd c 601 (c 601 &&& (btN (nI a) ^^^ -1))) 602 (c 602 &&& (btN (nI a) ^^^ -1)), r, mb, sh, pp, ⟨k1, fun i hi => ?_, fun i hi h => ?_, k4, k5, fun i hi => ?_⟩, ⟨fun q h1 h2 h3 h4 h5 => ?_, fun _ _ => rfl, nil1⟩, fun X d K => ?_⟩
    · show bt (c 601 &&& (btN (nI a) ^^^ -1)) i = va_up wk (a - 1) false i ∧ bt (c 602 &&& (btN (nI a) ^^^ -1)) i = va_up gn (a - 1) false i
      rw [bt_clr hb.1 (by omega) hi, bt_clr hb.1 (by omega) hi, vup_f, vup_f, (k2 i hi).1, (k2 i hi).2]
      exact ⟨rfl, rfl⟩
    · refine k3 i hi ?_
      have h2 : va_up wk (a - 1) false i = true := h
      rw [vup_f, Bool.and_eq_true] at h2
      exact h2.1
    · have := h45 i hi
      rw [pk_un (by omega), pk_un (by omega), pk_un (by omega), pk_un (by omega)]
      exact k6 i hi
    · rw [pk_un h4, pk_un h3]
    · rw [e91]
      simp only [s91_0, s91_1k0, s91_1k1, s91_1k2, s91_1k3, s91_1k4, s91_1k5, s91_1k6, s91_1k7, s91_1k8, s91_1k9, s91_1, s91_56, s91_57, s91_60, s91_61, s91_64, s91_67, s91_68, s91_71, s91_72, s91_75, s91_78, s91_79, s91_82, s91_83, s91_84, s91_87, s91_90, s91_91, s91_94, s91_95, s91_98, s91_101, s91_102, s91_105, s91_106, s91_107, s91_110, s91_113, s91_114, s91_117, s91_118, s91_121, s91_124, s91_125, s91_128, s91_129, s91_130, s91_131, s91_132, s91_135, s91_138, zb0, zb1, ob_some, tl_s, tl_n, nk_i, nk_r, nk_n, nk_0, pk_us, pk_un, va_up_self, va_up_ne, ne_eq, Nat.reduceEqDiff, not_false_eq_true, true_and, and_true, eq_self, z11, z00, bI_z, gf_0_0, gf_0_1, gf_0_2, gf_0_3, gf_0_4, gf_0_5, gf_0_6, rcv_0, rcO_0, gf_1_0, gf_1_1, sf_1_1, gf_1_2, gf_1_3, gf_1_4, gf_1_5, sf_1_5, gf_1_6, sf_1_6, gf_1_7, sf_1_7, gf_1_8, sf_1_8, gf_1_9, sf_1_9, gf_1_10, sf_1_10, gf_1_11, sf_1_11, rcv_1, rcO_1, gf_6_0, sf_6_0, gf_6_1, sf_6_1, gf_6_2, sf_6_2, gf_6_3, sf_6_3, gf_6_4, gf_6_5, rcv_6, rcO_6, gf_9_0, gf_9_1, sf_9_1, rcv_9, rcO_9, gf_12_0, sf_12_0, gf_12_1, sf_12_1, gf_12_2, gf_12_3, rcv_12, rcO_12, gf_15_0, sf_15_0, gf_15_1, sf_15_1, gf_15_2, gf_15_3, rcv_15, rcO_15, gf_18_0, sf_18_0, gf_18_1, sf_18_1, gf_18_2, gf_18_3, gf_18_4, gf_18_5, sf_18_5, gf_18_6, sf_18_6, gf_18_7, sf_18_7, gf_18_8, sf_18_8, rcv_18, rcO_18, gf_24_0, gf_24_1, gf_24_2, sf_24_2, rcv_24, rcO_24, gf_28_0, gf_28_1, gf_28_2, gf_28_3, sf_28_3, gf_28_4, gf_28_5, sf_28_5, gf_28_6, sf_28_6, gf_28_7, gf_28_8, gf_28_9, gf_28_10, gf_28_11, gf_28_12, gf_28_13, sf_28_13, gf_28_14, sf_28_14, gf_28_15, sf_28_15, gf_28_16, sf_28_16, gf_28_17, sf_28_17, gf_28_18, sf_28_18, gf_28_19, gf_28_20, gf_28_21, gf_28_22, gf_28_23, gf_28_24, sf_28_24, gf_28_25, rcv_28, rcO_28, aI_2, aW_2, sI_2, aI_3, aW_3, sI_3, aI_4, aW_4, sI_4, aI_5, aW_5, sI_5, aI_7, aW_7, sI_7, aI_8, aW_8, sI_8, aI_13, aW_13, sI_13, aI_14, aW_14, sI_14, aI_16, aW_16, sI_16, aI_17, aW_17, sI_17, aI_21, aW_21, sI_21, aI_22, aW_22, sI_22, aI_23, aW_23, sI_23, aI_25, aW_25, sI_25, aI_26, aW_26, sI_26, aI_29, aW_29, sI_29, aI_31, aW_31, sI_31, aI_32, aW_32, sI_32, aI_33, aW_33, sI_33, aI_34, aW_34, sI_34, aI_35, aW_35, sI_35, aI_36, aW_36, sI_36, aI_37, aW_37, sI_37, aI_38, aW_38, sI_38, aI_41, aW_41, sI_41, aI_42, aW_42, sI_42, aI_43, aW_43, sI_43, aL_19, sL_19, aL_20, sL_20, aL_27, sL_27, aL_39, sL_39, aL_40, sL_40, aL_44, sL_44, aB_30, aZ_30, sZ_30, aQ_10, aQ_11, sQ_10, show nI 3 = 3 from rfl, c_heal, true_implies, false_implies, not_true_eq_false, not_false_eq_true, and_self, true_and, and_true]
  · have hy := hy (by omega)
    have hb := v5 hu
    obtain ⟨q1, q2⟩ := kq_ok u (by omega) hu.1
    subst hx hy
    have hCn := isC_new (sh := sh) q1 hl
    have ec : apF (H, M, gn, wk, tn, kd, rc, ld) (u, a, b) = (H, M + 1, gn, wk, tn, va_up kd M (kq u), va_up rc M a, va_up ld M 0) := by
      unfold apF stH stM gA wA tA kA rA lA
      dsimp only
      simp only [if_pos hu, show ¬ u = 0 by omega, show ¬ u = 1 by omega, show ¬ u = 2 by omega, show ¬ u = 3 by omega, show ¬ u = 9 by omega, if_false, or_self]
    rw [ec]
    have hlt : ∀ i, i < M → pp i < 45 + sh.length := by
      intro i hi
      have hc := (k6 i hi).2.1
      have := (List.getElem?_eq_some_iff.mp hc.2.2.1).1
      have := hc.1
      omega
    refine ⟨upd (nwC c (45 + sh.length) (nI a)) 901 (nI (M + 1)), r, va_up mb M (some (45 + sh.length)), sh ++ [kq u], va_up pp M (45 + sh.length), ⟨?_, fun i hi => ?_, k3, pk_us, fun i j hi hj h => ?_, fun i hi => ?_⟩, ⟨fun q h1 h2 h3 h4 h5 => ?_, fun _ _ => rfl, ⟨[kq u], rfl, Nat.le_refl 1, fun v hv => ?_⟩⟩, fun X d K => ?_⟩
    · rw [pk_un (by omega), nwC_lo (by omega)]; exact k1
    · rw [pk_un (by omega), nwC_lo (by omega), pk_un (by omega), nwC_lo (by omega)]; exact k2 i hi
    · have hi2 : i < M + 1 := hi
      have hj2 : j < M + 1 := hj
      unfold va_up at h
      by_cases ei : i = M
      · by_cases ej : j = M
        · omega
        · rw [if_pos ei, if_neg ej] at h
          have := hlt j (by omega)
          omega
      · by_cases ej : j = M
        · rw [if_neg ei, if_pos ej] at h
          have := hlt i (by omega)
          omega
        · rw [if_neg ei, if_neg ej] at h
          exact k5 i j (by omega) (by omega) h
    · have hi2 : i < M + 1 := hi
      show va_up mb M (some (45 + sh.length)) i = some (va_up pp M (45 + sh.length) i) ∧ isC (sh ++ [kq u]) (va_up pp M (45 + sh.length) i) (va_up kd M (kq u) i) ∧ _ = nI (va_up rc M a i) ∧ _ = nI (va_up ld M 0 i)
      by_cases ei : i = M
      · subst ei
        rw [show va_up mb i (some (45 + sh.length)) i = some (45 + sh.length) from if_pos rfl, show va_up pp i (45 + sh.length) i = 45 + sh.length from if_pos rfl, show va_up kd i (kq u) i = kq u from if_pos rfl, show va_up rc i a i = a from if_pos rfl, show va_up ld i 0 i = 0 from if_pos rfl]
        refine ⟨rfl, hCn, ?_, ?_⟩
        · rw [pk_un (by omega)]; exact pk_us
        · rw [pk_un (by omega)]
          unfold nwC cz
          rw [pk_un (by omega), if_pos (by omega)]
          rfl
      · rw [show va_up mb M (some (45 + sh.length)) i = mb i from if_neg ei, show va_up pp M (45 + sh.length) i = pp i from if_neg ei, show va_up kd M (kq u) i = kd i from if_neg ei, show va_up rc M a i = rc i from if_neg ei, show va_up ld M 0 i = ld i from if_neg ei]
        have g := k6 i (by omega)
        have := hlt i (by omega)
        have := h45 i (by omega)
        refine ⟨g.1, isC_app g.2.1, ?_, ?_⟩
        · rw [pk_un (by omega), nwC_lo (by omega)]; exact g.2.2.1
        · rw [pk_un (by omega), nwC_lo (by omega)]; exact g.2.2.2
    · rw [pk_un h5, nwC_lo (by omega)]
    · simp only [List.mem_cons, List.not_mem_nil, or_false] at hv
      omega
    · have hu4 : u = 4 ∨ u = 5 ∨ u = 6 ∨ u = 7 := by omega
      have cn : ∀ x, x = nI u → ∀ K, Cl X (d + 3) 103 [.int (x - 4), .int (nI a)] (G c r w mb n1 n2 sh) K = K (some (.ref (45 + sh.length))) (G (nwC c (45 + sh.length) (nI a)) r w mb n1 n2 (sh ++ [kq u])) := by
        intro x hx K
        rw [hx, ← q2]
        exact c_new q1 hl
      have cj := fun d K => c_join (X := X) (d := d) (K := K) (c := nwC c (45 + sh.length) (nI a)) (r := r) (w := w) (mb := mb) (n1 := n1) (n2 := n2) (M := M) ((nwC_lo (by omega)).trans k4) (by omega) hCn
      rw [e91]
      rcases hu4 with rfl | rfl | rfl | rfl
      · simp only [s91_0, s91_1k0, s91_1k1, s91_1k2, s91_1k3, s91_1k4, s91_1k5, s91_1k6, s91_1k7, s91_1k8, s91_1k9, s91_1, s91_56, s91_57, s91_60, s91_61, s91_64, s91_67, s91_68, s91_71, s91_72, s91_75, s91_78, s91_79, s91_82, s91_83, s91_84, s91_87, s91_90, s91_91, s91_94, s91_95, s91_98, s91_101, s91_102, s91_105, s91_106, s91_107, s91_110, s91_113, s91_114, s91_117, s91_118, s91_121, s91_124, s91_125, s91_128, s91_129, s91_130, s91_131, s91_132, s91_135, s91_138, zb0, zb1, ob_some, tl_s, tl_n, nk_i, nk_r, nk_n, nk_0, pk_us, pk_un, va_up_self, va_up_ne, ne_eq, Nat.reduceEqDiff, not_false_eq_true, true_and, and_true, eq_self, z11, z00, bI_z, gf_0_0, gf_0_1, gf_0_2, gf_0_3, gf_0_4, gf_0_5, gf_0_6, rcv_0, rcO_0, gf_1_0, gf_1_1, sf_1_1, gf_1_2, gf_1_3, gf_1_4, gf_1_5, sf_1_5, gf_1_6, sf_1_6, gf_1_7, sf_1_7, gf_1_8, sf_1_8, gf_1_9, sf_1_9, gf_1_10, sf_1_10, gf_1_11, sf_1_11, rcv_1, rcO_1, gf_6_0, sf_6_0, gf_6_1, sf_6_1, gf_6_2, sf_6_2, gf_6_3, sf_6_3, gf_6_4, gf_6_5, rcv_6, rcO_6, gf_9_0, gf_9_1, sf_9_1, rcv_9, rcO_9, gf_12_0, sf_12_0, gf_12_1, sf_12_1, gf_12_2, gf_12_3, rcv_12, rcO_12, gf_15_0, sf_15_0, gf_15_1, sf_15_1, gf_15_2, gf_15_3, rcv_15, rcO_15, gf_18_0, sf_18_0, gf_18_1, sf_18_1, gf_18_2, gf_18_3, gf_18_4, gf_18_5, sf_18_5, gf_18_6, sf_18_6, gf_18_7, sf_18_7, gf_18_8, sf_18_8, rcv_18, rcO_18, gf_24_0, gf_24_1, gf_24_2, sf_24_2, rcv_24, rcO_24, gf_28_0, gf_28_1, gf_28_2, gf_28_3, sf_28_3, gf_28_4, gf_28_5, sf_28_5, gf_28_6, sf_28_6, gf_28_7, gf_28_8, gf_28_9, gf_28_10, gf_28_11, gf_28_12, gf_28_13, sf_28_13, gf_28_14, sf_28_14, gf_28_15, sf_28_15, gf_28_16, sf_28_16, gf_28_17, sf_28_17, gf_28_18, sf_28_18, gf_28_19, gf_28_20, gf_28_21, gf_28_22, gf_28_23, gf_28_24, sf_28_24, gf_28_25, rcv_28, rcO_28, aI_2, aW_2, sI_2, aI_3, aW_3, sI_3, aI_4, aW_4, sI_4, aI_5, aW_5, sI_5, aI_7, aW_7, sI_7, aI_8, aW_8, sI_8, aI_13, aW_13, sI_13, aI_14, aW_14, sI_14, aI_16, aW_16, sI_16, aI_17, aW_17, sI_17, aI_21, aW_21, sI_21, aI_22, aW_22, sI_22, aI_23, aW_23, sI_23, aI_25, aW_25, sI_25, aI_26, aW_26, sI_26, aI_29, aW_29, sI_29, aI_31, aW_31, sI_31, aI_32, aW_32, sI_32, aI_33, aW_33, sI_33, aI_34, aW_34, sI_34, aI_35, aW_35, sI_35, aI_36, aW_36, sI_36, aI_37, aW_37, sI_37, aI_38, aW_38, sI_38, aI_41, aW_41, sI_41, aI_42, aW_42, sI_42, aI_43, aW_43, sI_43, aL_19, sL_19, aL_20, sL_20, aL_27, sL_27, aL_39, sL_39, aL_40, sL_40, aL_44, sL_44, aB_30, aZ_30, sZ_30, aQ_10, aQ_11, sQ_10, show nI 4 = 4 from rfl, cn 4 rfl, cj, true_implies, false_implies, not_true_eq_false, not_false_eq_true, and_self, true_and, and_true]
      · simp only [s91_0, s91_1k0, s91_1k1, s91_1k2, s91_1k3, s91_1k4, s91_1k5, s91_1k6, s91_1k7, s91_1k8, s91_1k9, s91_1, s91_56, s91_57, s91_60, s91_61, s91_64, s91_67, s91_68, s91_71, s91_72, s91_75, s91_78, s91_79, s91_82, s91_83, s91_84, s91_87, s91_90, s91_91, s91_94, s91_95, s91_98, s91_101, s91_102, s91_105, s91_106, s91_107, s91_110, s91_113, s91_114, s91_117, s91_118, s91_121, s91_124, s91_125, s91_128, s91_129, s91_130, s91_131, s91_132, s91_135, s91_138, zb0, zb1, ob_some, tl_s, tl_n, nk_i, nk_r, nk_n, nk_0, pk_us, pk_un, va_up_self, va_up_ne, ne_eq, Nat.reduceEqDiff, not_false_eq_true, true_and, and_true, eq_self, z11, z00, bI_z, gf_0_0, gf_0_1, gf_0_2, gf_0_3, gf_0_4, gf_0_5, gf_0_6, rcv_0, rcO_0, gf_1_0, gf_1_1, sf_1_1, gf_1_2, gf_1_3, gf_1_4, gf_1_5, sf_1_5, gf_1_6, sf_1_6, gf_1_7, sf_1_7, gf_1_8, sf_1_8, gf_1_9, sf_1_9, gf_1_10, sf_1_10, gf_1_11, sf_1_11, rcv_1, rcO_1, gf_6_0, sf_6_0, gf_6_1, sf_6_1, gf_6_2, sf_6_2, gf_6_3, sf_6_3, gf_6_4, gf_6_5, rcv_6, rcO_6, gf_9_0, gf_9_1, sf_9_1, rcv_9, rcO_9, gf_12_0, sf_12_0, gf_12_1, sf_12_1, gf_12_2, gf_12_3, rcv_12, rcO_12, gf_15_0, sf_15_0, gf_15_1, sf_15_1, gf_15_2, gf_15_3, rcv_15, rcO_15, gf_18_0, sf_18_0, gf_18_1, sf_18_1, gf_18_2, gf_18_3, gf_18_4, gf_18_5, sf_18_5, gf_18_6, sf_18_6, gf_18_7, sf_18_7, gf_18_8, sf_18_8, rcv_18, rcO_18, gf_24_0, gf_24_1, gf_24_2, sf_24_2, rcv_24, rcO_24, gf_28_0, gf_28_1, gf_28_2, gf_28_3, sf_28_3, gf_28_4, gf_28_5, sf_28_5, gf_28_6, sf_28_6, gf_28_7, gf_28_8, gf_28_9, gf_28_10, gf_28_11, gf_28_12, gf_28_13, sf_28_13, gf_28_14, sf_28_14, gf_28_15, sf_28_15, gf_28_16, sf_28_16, gf_28_17, sf_28_17, gf_28_18, sf_28_18, gf_28_19, gf_28_20, gf_28_21, gf_28_22, gf_28_23, gf_28_24, sf_28_24, gf_28_25, rcv_28, rcO_28, aI_2, aW_2, sI_2, aI_3, aW_3, sI_3, aI_4, aW_4, sI_4, aI_5, aW_5, sI_5, aI_7, aW_7, sI_7, aI_8, aW_8, sI_8, aI_13, aW_13, sI_13, aI_14, aW_14, sI_14, aI_16, aW_16, sI_16, aI_17, aW_17, sI_17, aI_21, aW_21, sI_21, aI_22, aW_22, sI_22, aI_23, aW_23, sI_23, aI_25, aW_25, sI_25, aI_26, aW_26, sI_26, aI_29, aW_29, sI_29, aI_31, aW_31, sI_31, aI_32, aW_32, sI_32, aI_33, aW_33, sI_33, aI_34, aW_34, sI_34, aI_35, aW_35, sI_35, aI_36, aW_36, sI_36, aI_37, aW_37, sI_37, aI_38, aW_38, sI_38, aI_41, aW_41, sI_41, aI_42, aW_42, sI_42, aI_43, aW_43, sI_43, aL_19, sL_19, aL_20, sL_20, aL_27, sL_27, aL_39, sL_39, aL_40, sL_40, aL_44, sL_44, aB_30, aZ_30, sZ_30, aQ_10, aQ_11, sQ_10, show nI 5 = 5 from rfl, cn 5 rfl, cj, true_implies, false_implies, not_true_eq_false, not_false_eq_true, and_self, true_and, and_true]
      · simp only [s91_0, s91_1k0, s91_1k1, s91_1k2, s91_1k3, s91_1k4, s91_1k5, s91_1k6, s91_1k7, s91_1k8, s91_1k9, s91_1, s91_56, s91_57, s91_60, s91_61, s91_64, s91_67, s91_68, s91_71, s91_72, s91_75, s91_78, s91_79, s91_82, s91_83, s91_84, s91_87, s91_90, s91_91, s91_94, s91_95, s91_98, s91_101, s91_102, s91_105, s91_106, s91_107, s91_110, s91_113, s91_114, s91_117, s91_118, s91_121, s91_124, s91_125, s91_128, s91_129, s91_130, s91_131, s91_132, s91_135, s91_138, zb0, zb1, ob_some, tl_s, tl_n, nk_i, nk_r, nk_n, nk_0, pk_us, pk_un, va_up_self, va_up_ne, ne_eq, Nat.reduceEqDiff, not_false_eq_true, true_and, and_true, eq_self, z11, z00, bI_z, gf_0_0, gf_0_1, gf_0_2, gf_0_3, gf_0_4, gf_0_5, gf_0_6, rcv_0, rcO_0, gf_1_0, gf_1_1, sf_1_1, gf_1_2, gf_1_3, gf_1_4, gf_1_5, sf_1_5, gf_1_6, sf_1_6, gf_1_7, sf_1_7, gf_1_8, sf_1_8, gf_1_9, sf_1_9, gf_1_10, sf_1_10, gf_1_11, sf_1_11, rcv_1, rcO_1, gf_6_0, sf_6_0, gf_6_1, sf_6_1, gf_6_2, sf_6_2, gf_6_3, sf_6_3, gf_6_4, gf_6_5, rcv_6, rcO_6, gf_9_0, gf_9_1, sf_9_1, rcv_9, rcO_9, gf_12_0, sf_12_0, gf_12_1, sf_12_1, gf_12_2, gf_12_3, rcv_12, rcO_12, gf_15_0, sf_15_0, gf_15_1, sf_15_1, gf_15_2, gf_15_3, rcv_15, rcO_15, gf_18_0, sf_18_0, gf_18_1, sf_18_1, gf_18_2, gf_18_3, gf_18_4, gf_18_5, sf_18_5, gf_18_6, sf_18_6, gf_18_7, sf_18_7, gf_18_8, sf_18_8, rcv_18, rcO_18, gf_24_0, gf_24_1, gf_24_2, sf_24_2, rcv_24, rcO_24, gf_28_0, gf_28_1, gf_28_2, gf_28_3, sf_28_3, gf_28_4, gf_28_5, sf_28_5, gf_28_6, sf_28_6, gf_28_7, gf_28_8, gf_28_9, gf_28_10, gf_28_11, gf_28_12, gf_28_13, sf_28_13, gf_28_14, sf_28_14, gf_28_15, sf_28_15, gf_28_16, sf_28_16, gf_28_17, sf_28_17, gf_28_18, sf_28_18, gf_28_19, gf_28_20, gf_28_21, gf_28_22, gf_28_23, gf_28_24, sf_28_24, gf_28_25, rcv_28, rcO_28, aI_2, aW_2, sI_2, aI_3, aW_3, sI_3, aI_4, aW_4, sI_4, aI_5, aW_5, sI_5, aI_7, aW_7, sI_7, aI_8, aW_8, sI_8, aI_13, aW_13, sI_13, aI_14, aW_14, sI_14, aI_16, aW_16, sI_16, aI_17, aW_17, sI_17, aI_21, aW_21, sI_21, aI_22, aW_22, sI_22, aI_23, aW_23, sI_23, aI_25, aW_25, sI_25, aI_26, aW_26, sI_26, aI_29, aW_29, sI_29, aI_31, aW_31, sI_31, aI_32, aW_32, sI_32, aI_33, aW_33, sI_33, aI_34, aW_34, sI_34, aI_35, aW_35, sI_35, aI_36, aW_36, sI_36, aI_37, aW_37, sI_37, aI_38, aW_38, sI_38, aI_41, aW_41, sI_41, aI_42, aW_42, sI_42, aI_43, aW_43, sI_43, aL_19, sL_19, aL_20, sL_20, aL_27, sL_27, aL_39, sL_39, aL_40, sL_40, aL_44, sL_44, aB_30, aZ_30, sZ_30, aQ_10, aQ_11, sQ_10, show nI 6 = 6 from rfl, cn 6 rfl, cj, true_implies, false_implies, not_true_eq_false, not_false_eq_true, and_self, true_and, and_true]
      · simp only [s91_0, s91_1k0, s91_1k1, s91_1k2, s91_1k3, s91_1k4, s91_1k5, s91_1k6, s91_1k7, s91_1k8, s91_1k9, s91_1, s91_56, s91_57, s91_60, s91_61, s91_64, s91_67, s91_68, s91_71, s91_72, s91_75, s91_78, s91_79, s91_82, s91_83, s91_84, s91_87, s91_90, s91_91, s91_94, s91_95, s91_98, s91_101, s91_102, s91_105, s91_106, s91_107, s91_110, s91_113, s91_114, s91_117, s91_118, s91_121, s91_124, s91_125, s91_128, s91_129, s91_130, s91_131, s91_132, s91_135, s91_138, zb0, zb1, ob_some, tl_s, tl_n, nk_i, nk_r, nk_n, nk_0, pk_us, pk_un, va_up_self, va_up_ne, ne_eq, Nat.reduceEqDiff, not_false_eq_true, true_and, and_true, eq_self, z11, z00, bI_z, gf_0_0, gf_0_1, gf_0_2, gf_0_3, gf_0_4, gf_0_5, gf_0_6, rcv_0, rcO_0, gf_1_0, gf_1_1, sf_1_1, gf_1_2, gf_1_3, gf_1_4, gf_1_5, sf_1_5, gf_1_6, sf_1_6, gf_1_7, sf_1_7, gf_1_8, sf_1_8, gf_1_9, sf_1_9, gf_1_10, sf_1_10, gf_1_11, sf_1_11, rcv_1, rcO_1, gf_6_0, sf_6_0, gf_6_1, sf_6_1, gf_6_2, sf_6_2, gf_6_3, sf_6_3, gf_6_4, gf_6_5, rcv_6, rcO_6, gf_9_0, gf_9_1, sf_9_1, rcv_9, rcO_9, gf_12_0, sf_12_0, gf_12_1, sf_12_1, gf_12_2, gf_12_3, rcv_12, rcO_12, gf_15_0, sf_15_0, gf_15_1, sf_15_1, gf_15_2, gf_15_3, rcv_15, rcO_15, gf_18_0, sf_18_0, gf_18_1, sf_18_1, gf_18_2, gf_18_3, gf_18_4, gf_18_5, sf_18_5, gf_18_6, sf_18_6, gf_18_7, sf_18_7, gf_18_8, sf_18_8, rcv_18, rcO_18, gf_24_0, gf_24_1, gf_24_2, sf_24_2, rcv_24, rcO_24, gf_28_0, gf_28_1, gf_28_2, gf_28_3, sf_28_3, gf_28_4, gf_28_5, sf_28_5, gf_28_6, sf_28_6, gf_28_7, gf_28_8, gf_28_9, gf_28_10, gf_28_11, gf_28_12, gf_28_13, sf_28_13, gf_28_14, sf_28_14, gf_28_15, sf_28_15, gf_28_16, sf_28_16, gf_28_17, sf_28_17, gf_28_18, sf_28_18, gf_28_19, gf_28_20, gf_28_21, gf_28_22, gf_28_23, gf_28_24, sf_28_24, gf_28_25, rcv_28, rcO_28, aI_2, aW_2, sI_2, aI_3, aW_3, sI_3, aI_4, aW_4, sI_4, aI_5, aW_5, sI_5, aI_7, aW_7, sI_7, aI_8, aW_8, sI_8, aI_13, aW_13, sI_13, aI_14, aW_14, sI_14, aI_16, aW_16, sI_16, aI_17, aW_17, sI_17, aI_21, aW_21, sI_21, aI_22, aW_22, sI_22, aI_23, aW_23, sI_23, aI_25, aW_25, sI_25, aI_26, aW_26, sI_26, aI_29, aW_29, sI_29, aI_31, aW_31, sI_31, aI_32, aW_32, sI_32, aI_33, aW_33, sI_33, aI_34, aW_34, sI_34, aI_35, aW_35, sI_35, aI_36, aW_36, sI_36, aI_37, aW_37, sI_37, aI_38, aW_38, sI_38, aI_41, aW_41, sI_41, aI_42, aW_42, sI_42, aI_43, aW_43, sI_43, aL_19, sL_19, aL_20, sL_20, aL_27, sL_27, aL_39, sL_39, aL_40, sL_40, aL_44, sL_44, aB_30, aZ_30, sZ_30, aQ_10, aQ_11, sQ_10, show nI 7 = 7 from rfl, cn 7 rfl, cj, true_implies, false_implies, not_true_eq_false, not_false_eq_true, and_self, true_and, and_true]
  · have hy := hy (by omega)
    have hz := hz (by omega)
    have hb := v6 rfl
    subst hx hy hz
    have g := k6 a hb.1
    have := h45 a hb.1
    refine ⟨upd c (100 * pp a + 1) (nI b), r, mb, sh, pp, ⟨?_, fun i hi => ?_, k3, ?_, k5, fun i hi => ?_⟩, ⟨fun q h1 h2 h3 h4 h5 => ?_, fun _ _ => rfl, nil1⟩, fun X d K => ?_⟩
    · rw [pk_un (by omega)]; exact k1
    · rw [pk_un (by omega), pk_un (by omega)]; exact k2 i hi
    · rw [pk_un (by omega)]; exact k4
    · have gi := k6 i hi
      refine ⟨gi.1, gi.2.1, ?_, ?_⟩
      · rw [pk_un (by omega)]; exact gi.2.2.1
      · show upd c (100 * pp a + 1) (nI b) (100 * pp i + 1) = nI (va_up ld a b i)
        by_cases e : i = a
        · rw [e, pk_us, show va_up ld a b a = b from if_pos rfl]
        · have hne : pp i ≠ pp a := fun q => e (k5 i a hi hb.1 q)
          rw [pk_un (by omega), show va_up ld a b i = ld i from if_neg e]
          exact gi.2.2.2
    · rw [pk_un (by omega)]
    · rw [e91]
      simp only [s91_0, s91_1k0, s91_1k1, s91_1k2, s91_1k3, s91_1k4, s91_1k5, s91_1k6, s91_1k7, s91_1k8, s91_1k9, s91_1, s91_56, s91_57, s91_60, s91_61, s91_64, s91_67, s91_68, s91_71, s91_72, s91_75, s91_78, s91_79, s91_82, s91_83, s91_84, s91_87, s91_90, s91_91, s91_94, s91_95, s91_98, s91_101, s91_102, s91_105, s91_106, s91_107, s91_110, s91_113, s91_114, s91_117, s91_118, s91_121, s91_124, s91_125, s91_128, s91_129, s91_130, s91_131, s91_132, s91_135, s91_138, zb0, zb1, ob_some, tl_s, tl_n, nk_i, nk_r, nk_n, nk_0, pk_us, pk_un, va_up_self, va_up_ne, ne_eq, Nat.reduceEqDiff, not_false_eq_true, true_and, and_true, eq_self, z11, z00, bI_z, gf_0_0, gf_0_1, gf_0_2, gf_0_3, gf_0_4, gf_0_5, gf_0_6, rcv_0, rcO_0, gf_1_0, gf_1_1, sf_1_1, gf_1_2, gf_1_3, gf_1_4, gf_1_5, sf_1_5, gf_1_6, sf_1_6, gf_1_7, sf_1_7, gf_1_8, sf_1_8, gf_1_9, sf_1_9, gf_1_10, sf_1_10, gf_1_11, sf_1_11, rcv_1, rcO_1, gf_6_0, sf_6_0, gf_6_1, sf_6_1, gf_6_2, sf_6_2, gf_6_3, sf_6_3, gf_6_4, gf_6_5, rcv_6, rcO_6, gf_9_0, gf_9_1, sf_9_1, rcv_9, rcO_9, gf_12_0, sf_12_0, gf_12_1, sf_12_1, gf_12_2, gf_12_3, rcv_12, rcO_12, gf_15_0, sf_15_0, gf_15_1, sf_15_1, gf_15_2, gf_15_3, rcv_15, rcO_15, gf_18_0, sf_18_0, gf_18_1, sf_18_1, gf_18_2, gf_18_3, gf_18_4, gf_18_5, sf_18_5, gf_18_6, sf_18_6, gf_18_7, sf_18_7, gf_18_8, sf_18_8, rcv_18, rcO_18, gf_24_0, gf_24_1, gf_24_2, sf_24_2, rcv_24, rcO_24, gf_28_0, gf_28_1, gf_28_2, gf_28_3, sf_28_3, gf_28_4, gf_28_5, sf_28_5, gf_28_6, sf_28_6, gf_28_7, gf_28_8, gf_28_9, gf_28_10, gf_28_11, gf_28_12, gf_28_13, sf_28_13, gf_28_14, sf_28_14, gf_28_15, sf_28_15, gf_28_16, sf_28_16, gf_28_17, sf_28_17, gf_28_18, sf_28_18, gf_28_19, gf_28_20, gf_28_21, gf_28_22, gf_28_23, gf_28_24, sf_28_24, gf_28_25, rcv_28, rcO_28, aI_2, aW_2, sI_2, aI_3, aW_3, sI_3, aI_4, aW_4, sI_4, aI_5, aW_5, sI_5, aI_7, aW_7, sI_7, aI_8, aW_8, sI_8, aI_13, aW_13, sI_13, aI_14, aW_14, sI_14, aI_16, aW_16, sI_16, aI_17, aW_17, sI_17, aI_21, aW_21, sI_21, aI_22, aW_22, sI_22, aI_23, aW_23, sI_23, aI_25, aW_25, sI_25, aI_26, aW_26, sI_26, aI_29, aW_29, sI_29, aI_31, aW_31, sI_31, aI_32, aW_32, sI_32, aI_33, aW_33, sI_33, aI_34, aW_34, sI_34, aI_35, aW_35, sI_35, aI_36, aW_36, sI_36, aI_37, aW_37, sI_37, aI_38, aW_38, sI_38, aI_41, aW_41, sI_41, aI_42, aW_42, sI_42, aI_43, aW_43, sI_43, aL_19, sL_19, aL_20, sL_20, aL_27, sL_27, aL_39, sL_39, aL_40, sL_40, aL_44, sL_44, aB_30, aZ_30, sZ_30, aQ_10, aQ_11, sQ_10, show nI 8 = 8 from rfl, c_burden k4 a3 hb.1 g.1 g.2.1, true_implies, false_implies, not_true_eq_false, not_false_eq_true, and_self, true_and, and_true]
  · subst hx
    refine ⟨upd c 901 0, r, mb, sh, pp, ⟨k1, k2, k3, rfl, fun i j hi => absurd hi (Nat.not_lt_zero i), fun i hi => absurd hi (Nat.not_lt_zero i)⟩, ⟨fun q h1 h2 h3 h4 h5 => pk_un h5, fun _ _ => rfl, nil1⟩, fun X d K => ?_⟩
    rw [e91]
    simp only [s91_0, s91_1k0, s91_1k1, s91_1k2, s91_1k3, s91_1k4, s91_1k5, s91_1k6, s91_1k7, s91_1k8, s91_1k9, s91_1, s91_56, s91_57, s91_60, s91_61, s91_64, s91_67, s91_68, s91_71, s91_72, s91_75, s91_78, s91_79, s91_82, s91_83, s91_84, s91_87, s91_90, s91_91, s91_94, s91_95, s91_98, s91_101, s91_102, s91_105, s91_106, s91_107, s91_110, s91_113, s91_114, s91_117, s91_118, s91_121, s91_124, s91_125, s91_128, s91_129, s91_130, s91_131, s91_132, s91_135, s91_138, zb0, zb1, ob_some, tl_s, tl_n, nk_i, nk_r, nk_n, nk_0, pk_us, pk_un, va_up_self, va_up_ne, ne_eq, Nat.reduceEqDiff, not_false_eq_true, true_and, and_true, eq_self, z11, z00, bI_z, gf_0_0, gf_0_1, gf_0_2, gf_0_3, gf_0_4, gf_0_5, gf_0_6, rcv_0, rcO_0, gf_1_0, gf_1_1, sf_1_1, gf_1_2, gf_1_3, gf_1_4, gf_1_5, sf_1_5, gf_1_6, sf_1_6, gf_1_7, sf_1_7, gf_1_8, sf_1_8, gf_1_9, sf_1_9, gf_1_10, sf_1_10, gf_1_11, sf_1_11, rcv_1, rcO_1, gf_6_0, sf_6_0, gf_6_1, sf_6_1, gf_6_2, sf_6_2, gf_6_3, sf_6_3, gf_6_4, gf_6_5, rcv_6, rcO_6, gf_9_0, gf_9_1, sf_9_1, rcv_9, rcO_9, gf_12_0, sf_12_0, gf_12_1, sf_12_1, gf_12_2, gf_12_3, rcv_12, rcO_12, gf_15_0, sf_15_0, gf_15_1, sf_15_1, gf_15_2, gf_15_3, rcv_15, rcO_15, gf_18_0, sf_18_0, gf_18_1, sf_18_1, gf_18_2, gf_18_3, gf_18_4, gf_18_5, sf_18_5, gf_18_6, sf_18_6, gf_18_7, sf_18_7, gf_18_8, sf_18_8, rcv_18, rcO_18, gf_24_0, gf_24_1, gf_24_2, sf_24_2, rcv_24, rcO_24, gf_28_0, gf_28_1, gf_28_2, gf_28_3, sf_28_3, gf_28_4, gf_28_5, sf_28_5, gf_28_6, sf_28_6, gf_28_7, gf_28_8, gf_28_9, gf_28_10, gf_28_11, gf_28_12, gf_28_13, sf_28_13, gf_28_14, sf_28_14, gf_28_15, sf_28_15, gf_28_16, sf_28_16, gf_28_17, sf_28_17, gf_28_18, sf_28_18, gf_28_19, gf_28_20, gf_28_21, gf_28_22, gf_28_23, gf_28_24, sf_28_24, gf_28_25, rcv_28, rcO_28, aI_2, aW_2, sI_2, aI_3, aW_3, sI_3, aI_4, aW_4, sI_4, aI_5, aW_5, sI_5, aI_7, aW_7, sI_7, aI_8, aW_8, sI_8, aI_13, aW_13, sI_13, aI_14, aW_14, sI_14, aI_16, aW_16, sI_16, aI_17, aW_17, sI_17, aI_21, aW_21, sI_21, aI_22, aW_22, sI_22, aI_23, aW_23, sI_23, aI_25, aW_25, sI_25, aI_26, aW_26, sI_26, aI_29, aW_29, sI_29, aI_31, aW_31, sI_31, aI_32, aW_32, sI_32, aI_33, aW_33, sI_33, aI_34, aW_34, sI_34, aI_35, aW_35, sI_35, aI_36, aW_36, sI_36, aI_37, aW_37, sI_37, aI_38, aW_38, sI_38, aI_41, aW_41, sI_41, aI_42, aW_42, sI_42, aI_43, aW_43, sI_43, aL_19, sL_19, aL_20, sL_20, aL_27, sL_27, aL_39, sL_39, aL_40, sL_40, aL_44, sL_44, aB_30, aZ_30, sZ_30, aQ_10, aQ_11, sQ_10, show nI 9 = 9 from rfl, true_implies, false_implies, not_true_eq_false, not_false_eq_true, and_self, true_and, and_true]
