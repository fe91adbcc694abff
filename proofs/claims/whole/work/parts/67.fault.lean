/-! texts: the first fault, the class's side -/
def ft (t : Nat → Nat) (L : Nat) : Nat → Nat → Nat → Nat → Nat ⊕ List (Nat × Nat × Nat)
  | 0, p, _, _ => .inl (p - 1)
  | j + 1, p, H, M => match ln t L p H M with
    | .inl f => .inl f
    | .inr (u, a, b, p2, H2, M2) => if tB t L p2 < L then (if t (tB t L p2) = 59 then (match ft t L j (nxt t L p2) H2 M2 with | .inl f => .inl f | .inr l => .inr ((u, a, b) :: l)) else .inl (tB t L p2)) else .inr [(u, a, b)]
def lnk (r : Nat → Nat → Int32) (k : Nat) (x : Nat × Nat × Nat) : Prop := r 3 k = nI x.1 ∧ (x.1 ≠ 9 → r 4 k = nI x.2.1) ∧ ((x.1 = 2 ∨ x.1 = 8) → r 5 k = nI x.2.2)
def LK (r : Nat → Nat → Int32) : Nat → List (Nat × Nat × Nat) → Prop
  | _, [] => True
  | k, x :: l => lnk r k x ∧ LK r (k + 1) l
def vOK (u a b H M : Nat) : Prop := u ≤ 9 ∧ (u = 0 → 1 ≤ a ∧ a ≤ 20) ∧ ((u = 1 ∨ u = 2 ∨ u = 3) → 1 ≤ a ∧ a ≤ H) ∧ (u = 2 → b ≤ 10) ∧ ((4 ≤ u ∧ u ≤ 7) → 1 ≤ a ∧ a ≤ 6 ∧ M < 5) ∧ (u = 8 → a < M ∧ b ≤ 5)
def stH (u a H : Nat) : Nat := if u = 0 then a else H
def stM (u M : Nat) : Nat := if u = 9 then 0 else if 4 ≤ u ∧ u ≤ 7 then M + 1 else M
def VL : List (Nat × Nat × Nat) → Nat → Nat → Prop
  | [], _, _ => True
  | (u, a, b) :: l, H, M => vOK u a b H M ∧ VL l (stH u a H) (stM u M)
theorem ln_ok {t : Nat → Nat} {L p H M u a b p2 H2 M2 : Nat} (hM : M ≤ 5) (h : ln t L p H M = .inr (u, a, b, p2, H2, M2)) : vOK u a b H M ∧ H2 = stH u a H ∧ M2 = stM u M := by
  have hw := wdN_le (t := t) (L := L) (p := p)
  unfold ln at h
  split at h
  · cases h
  · next g10 =>
    split at h
    · cases h
      exact ⟨⟨by omega, fun q => by omega, fun q => by omega, fun q => by omega, fun q => by omega, fun q => by omega⟩, rfl, rfl⟩
    · next g9 =>
      split at h
      · next g0 =>
        split at h
        · cases h
        · next v hv =>
          cases h
          have := rd_lt hv
          exact ⟨⟨by omega, fun q => by omega, fun q => by omega, fun q => by omega, fun q => by omega, fun q => by omega⟩, rfl, rfl⟩
      · next g0 =>
        split at h
        · next g1 =>
          split at h
          · cases h
          · next v hv =>
            cases h
            have := rd_lt hv
            refine ⟨⟨by omega, fun q => by omega, fun q => by omega, fun q => by omega, fun q => by omega, fun q => by omega⟩, ?_, ?_⟩
            · unfold stH; rw [if_neg g0]
            · unfold stM; rw [if_neg g9, if_neg (by omega)]
        · next g1 =>
          split at h
          · next g2 =>
            split at h
            · cases h
            · next v hv =>
              split at h
              · cases h
              · next v2 hv2 =>
                cases h
                have := rd_lt hv
                have := rd_lt hv2
                exact ⟨⟨by omega, fun q => by omega, fun q => by omega, fun q => by omega, fun q => by omega, fun q => by omega⟩, rfl, rfl⟩
          · next g2 =>
            split at h
            · next g8 =>
              split at h
              · cases h
              · next v hv =>
                split at h
                · cases h
                · next v2 hv2 =>
                  cases h
                  have := rd_lt hv
                  have := rd_lt hv2
                  exact ⟨⟨by omega, fun q => by omega, fun q => by omega, fun q => by omega, fun q => by omega, fun q => by omega⟩, rfl, rfl⟩
            · next g8 =>
              split at h
              · cases h
              · next g5 =>
                split at h
                · cases h
                · next v hv =>
                  cases h
                  have := rd_lt hv
                  refine ⟨⟨by omega, fun q => by omega, fun q => by omega, fun q => by omega, fun q => by omega, fun q => by omega⟩, ?_, ?_⟩
                  · unfold stH; rw [if_neg g0]
                  · unfold stM; rw [if_neg g9, if_pos (by omega)]
theorem st_b {u a b H M : Nat} (h : vOK u a b H M) (hH : 1 ≤ H ∧ H ≤ 20) (hM : M ≤ 5) : (1 ≤ stH u a H ∧ stH u a H ≤ 20) ∧ stM u M ≤ 5 := by
  obtain ⟨h1, h2, h3, h4, h5, h6⟩ := h
  unfold stH stM
  constructor
  · split
    · next q => exact h2 q
    · exact hH
  · split
    · omega
    · split
      · next q => have := h5 q; omega
      · exact hM
theorem ft_ok {t : Nat → Nat} {L : Nat} : ∀ {j p H M : Nat} {l : List (Nat × Nat × Nat)}, M ≤ 5 → (1 ≤ H ∧ H ≤ 20) → ft t L j p H M = .inr l → VL l H M ∧ l.length ≤ j
  | 0, _, _, _, _, _, _, h => by cases h
  | j + 1, p, H, M, l, hM, hH, h => by
    unfold ft at h
    cases hl : ln t L p H M with
    | inl f => rw [hl] at h; cases h
    | inr x =>
      obtain ⟨u, a, b, p2, H2, M2⟩ := x
      rw [hl] at h
      dsimp only at h
      obtain ⟨g1, g2, g3⟩ := ln_ok hM hl
      have g4 := st_b g1 hH hM
      split at h
      · split at h
        · cases hf : ft t L j (nxt t L p2) H2 M2 with
          | inl f => rw [hf] at h; cases h
          | inr l2 =>
            rw [hf] at h
            cases h
            rw [g2, g3] at hf
            have := ft_ok g4.2 g4.1 hf
            refine ⟨⟨g1, this.1⟩, ?_⟩
            have h2 := this.2
            show l2.length + 1 ≤ j + 1
            omega
        · cases h
      · cases h
        exact ⟨⟨g1, True.intro⟩, Nat.le_add_left 1 j⟩
def FrF (c : Nat → Int32) (r : Nat → Nat → Int32) (c2 : Nat → Int32) (r2 : Nat → Nat → Int32) (k : Nat) : Prop := (∀ q, ¬ (105 ≤ q ∧ q ≤ 111) → c2 q = c q) ∧ (∀ q, q ≠ 3 → q ≠ 4 → q ≠ 5 → r2 q = r q) ∧ ∀ i, i < k → r2 3 i = r 3 i ∧ r2 4 i = r 4 i ∧ r2 5 i = r 5 i
def FPost (c : Nat → Int32) (r : Nat → Nat → Int32) (w : Nat → Nat → Int64) (mb : Nat → Option Nat) (n1 n2 : Nat) (sh : List Nat) (h0 m0 : Int32) (k : Nat) (z : Nat ⊕ List (Nat × Nat × Nat)) : Prop := match z with
  | .inl f => ∃ c2 r2, FrF c r c2 r2 k ∧ ∀ X d Q, Wp X (d + 10) 54 22 [some (.ref 1), some (.int h0), some (.int m0), some (.int (nI k))] [] (G c r w mb n1 n2 sh) Q = Q (some (.int (nI f))) (G c2 r2 w mb n1 n2 sh)
  | .inr l => ∃ c2 r2, FrF c r c2 r2 k ∧ c2 105 = nI (k + l.length) ∧ LK r2 k l ∧ ∀ X d Q, Wp X (d + 10) 54 22 [some (.ref 1), some (.int h0), some (.int m0), some (.int (nI k))] [] (G c r w mb n1 n2 sh) Q = Q (some (.int (-1))) (G c2 r2 w mb n1 n2 sh)
theorem lnk_cg {r r2 : Nat → Nat → Int32} {k : Nat} {x : Nat × Nat × Nat} (h : lnk r k x) (h3 : r2 3 k = r 3 k) (h4 : r2 4 k = r 4 k) (h5 : r2 5 k = r 5 k) : lnk r2 k x := by
  unfold lnk at h ⊢
  rw [h3, h4, h5]
  exact h
theorem tk3 {t : Nat → Nat} {L q : Nat} (hq : q < L) (h : t q = 59) : tk t L q = 3 ∧ tv t L q = 59 := by
  have h1 : inR t 97 122 q = false := by unfold inR; simp [h]
  have h2 : inR t 48 57 q = false := by unfold inR; simp [h]
  unfold tk tv
  rw [if_pos hq, h1, h2]
  refine ⟨rfl, ?_⟩
  simp only [if_false, Bool.false_eq_true]
  rw [h]
  rfl
theorem tkn {t : Nat → Nat} {L q : Nat} (hq : q < L) (h : ¬ t q = 59) (hb : t q < 256) : ¬ nI (tk t L q) = 0 ∧ (¬ nI (tk t L q) = 3 ∨ (nI (tk t L q) = 3 ∧ ¬ tv t L q = 59)) := by
  unfold tk tv
  rw [if_pos hq]
  cases h1 : inR t 97 122 q with
  | true =>
    simp only [if_true]
    exact ⟨by decide, Or.inl (by decide)⟩
  | false =>
    cases h2 : inR t 48 57 q with
    | true => exact ⟨by decide, Or.inl (by decide)⟩
    | false =>
      refine ⟨by decide, Or.inr ⟨by decide, ?_⟩⟩
      simp only [if_false, Bool.false_eq_true]
      intro e
      exact h ((nI_eq (b := 59) (by omega) (by omega)).mp e)
theorem fault_loop {w : Nat → Nat → Int64} {mb : Nat → Option Nat} {n1 n2 : Nat} {sh : List Nat} {L : Nat} {t : Nat → Nat} {h0 m0 : Int32} (hL : L ≤ 200) : ∀ j k p H M c r, k + j = 12 → (0 < k → c 106 = nI (p - 1)) → c 101 = nI L → c 107 = nI p → p ≤ L → (∀ i, i < L → r 2 i = nI (t i) ∧ t i < 256) → c 110 = nI H → (1 ≤ H ∧ H ≤ 20) → c 111 = nI M → M ≤ 5 → FPost c r w mb n1 n2 sh h0 m0 k (ft t L j p H M) := by
  intro j
  induction j with
  | zero =>
    intro k p H M c r hk h6 hc h7 hp ht hH hH2 hM hM2
    obtain rfl : k = 12 := by omega
    have e : (12 : Int32) ≤ nI 12 := by decide
    refine ⟨c, r, ⟨fun _ _ => rfl, fun _ _ _ _ => rfl, fun _ _ => ⟨rfl, rfl, rfl⟩⟩, fun X d Q => ?_⟩
    rw [s54_22]
    simp only [s54_0, s54_1, s54_2, s54_5, s54_6, s54_7, s54_10, s54_11, s54_12, s54_15, s54_16, s54_17, s54_20, s54_21, s54_23, s54_25, s54_28, s54_29, s54_30, s54_33, s54_36, s54_37, s54_40, s54_41, s54_42, s54_43, s54_44, s54_45, s54_48, s54_49, s54_52, s54_53, s54_56, s54_59, s54_60, s54_61, s54_62, s54_65, s54_66, s54_69, s54_70, s54_73, s54_75, s54_78, s54_79, s54_82, s54_83, s54_86, s54_89, s54_90, s54_93, zb0, zb1, ob_some, tl_s, tl_n, nk_i, nk_r, nk_n, nk_0, pk_us, pk_un, va_up_self, va_up_ne, ne_eq, Nat.reduceEqDiff, not_false_eq_true, true_and, and_true, eq_self, z11, z00, bI_z, gf_0_0, gf_0_1, gf_0_2, gf_0_3, gf_0_4, gf_0_5, gf_0_6, rcv_0, rcO_0, gf_1_0, gf_1_1, sf_1_1, gf_1_2, gf_1_3, gf_1_4, gf_1_5, sf_1_5, gf_1_6, sf_1_6, gf_1_7, sf_1_7, gf_1_8, sf_1_8, gf_1_9, sf_1_9, gf_1_10, sf_1_10, gf_1_11, sf_1_11, rcv_1, rcO_1, gf_6_0, sf_6_0, gf_6_1, sf_6_1, gf_6_2, sf_6_2, gf_6_3, sf_6_3, gf_6_4, gf_6_5, rcv_6, rcO_6, gf_9_0, gf_9_1, sf_9_1, rcv_9, rcO_9, gf_12_0, sf_12_0, gf_12_1, sf_12_1, gf_12_2, gf_12_3, rcv_12, rcO_12, gf_15_0, sf_15_0, gf_15_1, sf_15_1, gf_15_2, gf_15_3, rcv_15, rcO_15, gf_18_0, sf_18_0, gf_18_1, sf_18_1, gf_18_2, gf_18_3, gf_18_4, gf_18_5, sf_18_5, gf_18_6, sf_18_6, gf_18_7, sf_18_7, gf_18_8, sf_18_8, rcv_18, rcO_18, gf_24_0, gf_24_1, gf_24_2, sf_24_2, rcv_24, rcO_24, gf_28_0, gf_28_1, gf_28_2, gf_28_3, sf_28_3, gf_28_4, gf_28_5, sf_28_5, gf_28_6, sf_28_6, gf_28_7, gf_28_8, gf_28_9, gf_28_10, gf_28_11, gf_28_12, gf_28_13, sf_28_13, gf_28_14, sf_28_14, gf_28_15, sf_28_15, gf_28_16, sf_28_16, gf_28_17, sf_28_17, gf_28_18, sf_28_18, gf_28_19, gf_28_20, gf_28_21, gf_28_22, gf_28_23, gf_28_24, sf_28_24, gf_28_25, rcv_28, rcO_28, aI_2, aW_2, sI_2, aI_3, aW_3, sI_3, aI_4, aW_4, sI_4, aI_5, aW_5, sI_5, aI_7, aW_7, sI_7, aI_8, aW_8, sI_8, aI_13, aW_13, sI_13, aI_14, aW_14, sI_14, aI_16, aW_16, sI_16, aI_17, aW_17, sI_17, aI_21, aW_21, sI_21, aI_22, aW_22, sI_22, aI_23, aW_23, sI_23, aI_25, aW_25, sI_25, aI_26, aW_26, sI_26, aI_29, aW_29, sI_29, aI_31, aW_31, sI_31, aI_32, aW_32, sI_32, aI_33, aW_33, sI_33, aI_34, aW_34, sI_34, aI_35, aW_35, sI_35, aI_36, aW_36, sI_36, aI_37, aW_37, sI_37, aI_38, aW_38, sI_38, aI_41, aW_41, sI_41, aI_42, aW_42, sI_42, aI_43, aW_43, sI_43, aL_19, sL_19, aL_20, sL_20, aL_27, sL_27, aL_39, sL_39, aL_40, sL_40, aL_44, sL_44, aB_30, aZ_30, sZ_30, aQ_10, aQ_11, sQ_10, e, h6 (by omega), true_implies, false_implies, not_true_eq_false, not_false_eq_true, and_self, true_and, and_true]
  | succ j ih =>
    intro k p H M c r hk h6 hc h7 hp ht hH hH2 hM hM2
    have e : ¬ (12 : Int32) ≤ nI k := nI_ge (b := 12) (by omega) (by omega)
    have hln := c_line (w := w) (mb := mb) (n1 := n1) (n2 := n2) (sh := sh) (k := k) (by omega) hL hc h7 hp ht hH hH2.2 hM hM2
    unfold ft
    cases hl : ln t L p H M with
    | inl f =>
      rw [hl] at hln
      obtain ⟨c2, r2, g1, g2, g3⟩ := hln
      refine ⟨c2, r2, ⟨fun q hq => g1.1 q (by omega), g1.2.1, fun i hi => g1.2.2 i (by omega)⟩, fun X d Q => ?_⟩
      rw [s54_22]
      simp only [s54_0, s54_1, s54_2, s54_5, s54_6, s54_7, s54_10, s54_11, s54_12, s54_15, s54_16, s54_17, s54_20, s54_21, s54_23, s54_25, s54_28, s54_29, s54_30, s54_33, s54_36, s54_37, s54_40, s54_41, s54_42, s54_43, s54_44, s54_45, s54_48, s54_49, s54_52, s54_53, s54_56, s54_59, s54_60, s54_61, s54_62, s54_65, s54_66, s54_69, s54_70, s54_73, s54_75, s54_78, s54_79, s54_82, s54_83, s54_86, s54_89, s54_90, s54_93, zb0, zb1, ob_some, tl_s, tl_n, nk_i, nk_r, nk_n, nk_0, pk_us, pk_un, va_up_self, va_up_ne, ne_eq, Nat.reduceEqDiff, not_false_eq_true, true_and, and_true, eq_self, z11, z00, bI_z, gf_0_0, gf_0_1, gf_0_2, gf_0_3, gf_0_4, gf_0_5, gf_0_6, rcv_0, rcO_0, gf_1_0, gf_1_1, sf_1_1, gf_1_2, gf_1_3, gf_1_4, gf_1_5, sf_1_5, gf_1_6, sf_1_6, gf_1_7, sf_1_7, gf_1_8, sf_1_8, gf_1_9, sf_1_9, gf_1_10, sf_1_10, gf_1_11, sf_1_11, rcv_1, rcO_1, gf_6_0, sf_6_0, gf_6_1, sf_6_1, gf_6_2, sf_6_2, gf_6_3, sf_6_3, gf_6_4, gf_6_5, rcv_6, rcO_6, gf_9_0, gf_9_1, sf_9_1, rcv_9, rcO_9, gf_12_0, sf_12_0, gf_12_1, sf_12_1, gf_12_2, gf_12_3, rcv_12, rcO_12, gf_15_0, sf_15_0, gf_15_1, sf_15_1, gf_15_2, gf_15_3, rcv_15, rcO_15, gf_18_0, sf_18_0, gf_18_1, sf_18_1, gf_18_2, gf_18_3, gf_18_4, gf_18_5, sf_18_5, gf_18_6, sf_18_6, gf_18_7, sf_18_7, gf_18_8, sf_18_8, rcv_18, rcO_18, gf_24_0, gf_24_1, gf_24_2, sf_24_2, rcv_24, rcO_24, gf_28_0, gf_28_1, gf_28_2, gf_28_3, sf_28_3, gf_28_4, gf_28_5, sf_28_5, gf_28_6, sf_28_6, gf_28_7, gf_28_8, gf_28_9, gf_28_10, gf_28_11, gf_28_12, gf_28_13, sf_28_13, gf_28_14, sf_28_14, gf_28_15, sf_28_15, gf_28_16, sf_28_16, gf_28_17, sf_28_17, gf_28_18, sf_28_18, gf_28_19, gf_28_20, gf_28_21, gf_28_22, gf_28_23, gf_28_24, sf_28_24, gf_28_25, rcv_28, rcO_28, aI_2, aW_2, sI_2, aI_3, aW_3, sI_3, aI_4, aW_4, sI_4, aI_5, aW_5, sI_5, aI_7, aW_7, sI_7, aI_8, aW_8, sI_8, aI_13, aW_13, sI_13, aI_14, aW_14, sI_14, aI_16, aW_16, sI_16, aI_17, aW_17, sI_17, aI_21, aW_21, sI_21, aI_22, aW_22, sI_22, aI_23, aW_23, sI_23, aI_25, aW_25, sI_25, aI_26, aW_26, sI_26, aI_29, aW_29, sI_29, aI_31, aW_31, sI_31, aI_32, aW_32, sI_32, aI_33, aW_33, sI_33, aI_34, aW_34, sI_34, aI_35, aW_35, sI_35, aI_36, aW_36, sI_36, aI_37, aW_37, sI_37, aI_38, aW_38, sI_38, aI_41, aW_41, sI_41, aI_42, aW_42, sI_42, aI_43, aW_43, sI_43, aL_19, sL_19, aL_20, sL_20, aL_27, sL_27, aL_39, sL_39, aL_40, sL_40, aL_44, sL_44, aB_30, aZ_30, sZ_30, aQ_10, aQ_11, sQ_10, e, g3, g2, true_implies, false_implies, not_true_eq_false, not_false_eq_true, and_self, true_and, and_true, zqm5_m1, zqm5_0, zqm5_1, zqm5_2, zqm5_3, zqm5_4, zqm4_m1, zqm4_0, zqm4_1, zqm4_2, zqm4_3, zqm4_4, zqm3_m1, zqm3_0, zqm3_1, zqm3_2, zqm3_3, zqm3_4, zqm2_m1, zqm2_0, zqm2_1, zqm2_2, zqm2_3, zqm2_4, zqm1_m5, zqm1_m4, zqm1_m3, zqm1_m2, zqm1_0, zqm1_1, zqm1_2, zqm1_3, zqm1_4, zqm1_5, zqm1_6, zqm1_7, zqm1_8, zqm1_9, zq0_m5, zq0_m4, zq0_m3, zq0_m2, zq0_m1, zq0_1, zq0_2, zq0_3, zq0_4, zq0_5, zq0_6, zq0_7, zq0_8, zq0_9, zq1_m5, zq1_m4, zq1_m3, zq1_m2, zq1_m1, zq1_0, zq1_2, zq1_3, zq1_4, zq1_5, zq1_6, zq1_7, zq1_8, zq1_9, zq2_m5, zq2_m4, zq2_m3, zq2_m2, zq2_m1, zq2_0, zq2_1, zq2_3, zq2_4, zq2_5, zq2_6, zq2_7, zq2_8, zq2_9, zq3_m5, zq3_m4, zq3_m3, zq3_m2, zq3_m1, zq3_0, zq3_1, zq3_2, zq3_4, zq3_5, zq3_6, zq3_7, zq3_8, zq3_9, zq4_m5, zq4_m4, zq4_m3, zq4_m2, zq4_m1, zq4_0, zq4_1, zq4_2, zq4_3, zq4_5, zq4_6, zq4_7, zq4_8, zq4_9, zq5_m1, zq5_0, zq5_1, zq5_2, zq5_3, zq5_4, zq6_m1, zq6_0, zq6_1, zq6_2, zq6_3, zq6_4, zq7_m1, zq7_0, zq7_1, zq7_2, zq7_3, zq7_4, zq8_m1, zq8_0, zq8_1, zq8_2, zq8_3, zq8_4, zq9_m1, zq9_0, zq9_1, zq9_2, zq9_3, zq9_4]
    | inr x =>
      obtain ⟨u, a, b, p2, H2, M2⟩ := x
      rw [hl] at hln
      obtain ⟨c2, r2, g1, g2, g3, g4, g5, g6, g7, g8, g9⟩ := hln
      obtain ⟨v1, v2, v3⟩ := ln_ok hM2 hl
      have v4 := st_b v1 hH2 hM2
      rw [← v2, ← v3] at v4
      obtain ⟨cm, hcm⟩ : ∃ cm, upd c2 105 (nI (k + 1)) = cm := ⟨_, rfl⟩
      have m1 : ∀ q, q ≠ 105 → cm q = c2 q := fun q hq => by rw [← hcm]; exact pk_un hq
      have m2 : cm 105 = nI (k + 1) := by rw [← hcm]; exact pk_us
      have cm101 : cm 101 = nI L := (m1 101 (by omega)).trans ((g1.1 101 (by omega)).trans hc)
      have r22 : ∀ i, i < L → r2 2 i = nI (t i) ∧ t i < 256 := by rw [g1.2.1 2 (by omega) (by omega) (by omega)]; exact ht
      obtain ⟨c3, f1, f2, f3, f4, f5, f6⟩ := c_readToken (w := w) (mb := mb) (n1 := n1) (n2 := n2) (sh := sh) hL cm101 ((m1 107 (by omega)).trans g2) g3 r22
      have c3c : ∀ q, ¬ (105 ≤ q ∧ q ≤ 111) → c3 q = c q := fun q hq => by rw [f1 q (by omega) (by omega) (by omega) (by omega), m1 q (by omega)]; exact g1.1 q (by omega)
      have fr : FrF c r c3 r2 k := ⟨c3c, g1.2.1, fun i hi => g1.2.2 i (by omega)⟩
      have hlok : lnk r2 k (u, a, b) := ⟨g6, g7, g8⟩
      dsimp only
      by_cases hq : tB t L p2 < L
      · rw [if_pos hq]
        have ht256 := (ht _ hq).2
        by_cases h59 : t (tB t L p2) = 59
        · rw [if_pos h59]
          obtain ⟨s1, s2⟩ := tk3 hq h59
          have c8 : c3 108 = 3 := by rw [f4, s1]; rfl
          have c9 : c3 109 = 59 := by rw [f5 hq, s2]
          have nx1 : nxt t L p2 = tB t L p2 + 1 := by
            unfold nxt tE
            have h1 : inR t 97 122 (tB t L p2) = false := by unfold inR; simp [h59]
            have h2 : inR t 48 57 (tB t L p2) = false := by unfold inR; simp [h59]
            rw [if_pos hq, h1, h2]
            rfl
          have ihh := ih (k + 1) (nxt t L p2) H2 M2 c3 r2 (by omega) (fun _ => by rw [f2, nx1, Nat.add_sub_cancel]) ((c3c 101 (by omega)).trans hc) f3 (nxt_le g3) r22 (by rw [f1 110 (by omega) (by omega) (by omega) (by omega), m1 110 (by omega)]; exact g4) v4.1 (by rw [f1 111 (by omega) (by omega) (by omega) (by omega), m1 111 (by omega)]; exact g5) v4.2
          cases hf : ft t L j (nxt t L p2) H2 M2 with
          | inl f =>
            rw [hf] at ihh
            obtain ⟨c4, r4, j1, j2⟩ := ihh
            refine ⟨c4, r4, ⟨fun q hq => (j1.1 q hq).trans (c3c q hq), fun q h3 h4 h5 => (j1.2.1 q h3 h4 h5).trans (g1.2.1 q h3 h4 h5), fun i hi => ?_⟩, fun X d Q => ?_⟩
            · obtain ⟨o1, o2, o3⟩ := j1.2.2 i (by omega)
              obtain ⟨o4, o5, o6⟩ := g1.2.2 i (by omega)
              exact ⟨o1.trans o4, o2.trans o5, o3.trans o6⟩
            · rw [s54_22]
              simp only [s54_0, s54_1, s54_2, s54_5, s54_6, s54_7, s54_10, s54_11, s54_12, s54_15, s54_16, s54_17, s54_20, s54_21, s54_23, s54_25, s54_28, s54_29, s54_30, s54_33, s54_36, s54_37, s54_40, s54_41, s54_42, s54_43, s54_44, s54_45, s54_48, s54_49, s54_52, s54_53, s54_56, s54_59, s54_60, s54_61, s54_62, s54_65, s54_66, s54_69, s54_70, s54_73, s54_75, s54_78, s54_79, s54_82, s54_83, s54_86, s54_89, s54_90, s54_93, zb0, zb1, ob_some, tl_s, tl_n, nk_i, nk_r, nk_n, nk_0, pk_us, pk_un, va_up_self, va_up_ne, ne_eq, Nat.reduceEqDiff, not_false_eq_true, true_and, and_true, eq_self, z11, z00, bI_z, gf_0_0, gf_0_1, gf_0_2, gf_0_3, gf_0_4, gf_0_5, gf_0_6, rcv_0, rcO_0, gf_1_0, gf_1_1, sf_1_1, gf_1_2, gf_1_3, gf_1_4, gf_1_5, sf_1_5, gf_1_6, sf_1_6, gf_1_7, sf_1_7, gf_1_8, sf_1_8, gf_1_9, sf_1_9, gf_1_10, sf_1_10, gf_1_11, sf_1_11, rcv_1, rcO_1, gf_6_0, sf_6_0, gf_6_1, sf_6_1, gf_6_2, sf_6_2, gf_6_3, sf_6_3, gf_6_4, gf_6_5, rcv_6, rcO_6, gf_9_0, gf_9_1, sf_9_1, rcv_9, rcO_9, gf_12_0, sf_12_0, gf_12_1, sf_12_1, gf_12_2, gf_12_3, rcv_12, rcO_12, gf_15_0, sf_15_0, gf_15_1, sf_15_1, gf_15_2, gf_15_3, rcv_15, rcO_15, gf_18_0, sf_18_0, gf_18_1, sf_18_1, gf_18_2, gf_18_3, gf_18_4, gf_18_5, sf_18_5, gf_18_6, sf_18_6, gf_18_7, sf_18_7, gf_18_8, sf_18_8, rcv_18, rcO_18, gf_24_0, gf_24_1, gf_24_2, sf_24_2, rcv_24, rcO_24, gf_28_0, gf_28_1, gf_28_2, gf_28_3, sf_28_3, gf_28_4, gf_28_5, sf_28_5, gf_28_6, sf_28_6, gf_28_7, gf_28_8, gf_28_9, gf_28_10, gf_28_11, gf_28_12, gf_28_13, sf_28_13, gf_28_14, sf_28_14, gf_28_15, sf_28_15, gf_28_16, sf_28_16, gf_28_17, sf_28_17, gf_28_18, sf_28_18, gf_28_19, gf_28_20, gf_28_21, gf_28_22, gf_28_23, gf_28_24, sf_28_24, gf_28_25, rcv_28, rcO_28, aI_2, aW_2, sI_2, aI_3, aW_3, sI_3, aI_4, aW_4, sI_4, aI_5, aW_5, sI_5, aI_7, aW_7, sI_7, aI_8, aW_8, sI_8, aI_13, aW_13, sI_13, aI_14, aW_14, sI_14, aI_16, aW_16, sI_16, aI_17, aW_17, sI_17, aI_21, aW_21, sI_21, aI_22, aW_22, sI_22, aI_23, aW_23, sI_23, aI_25, aW_25, sI_25, aI_26, aW_26, sI_26, aI_29, aW_29, sI_29, aI_31, aW_31, sI_31, aI_32, aW_32, sI_32, aI_33, aW_33, sI_33, aI_34, aW_34, sI_34, aI_35, aW_35, sI_35, aI_36, aW_36, sI_36, aI_37, aW_37, sI_37, aI_38, aW_38, sI_38, aI_41, aW_41, sI_41, aI_42, aW_42, sI_42, aI_43, aW_43, sI_43, aL_19, sL_19, aL_20, sL_20, aL_27, sL_27, aL_39, sL_39, aL_40, sL_40, aL_44, sL_44, aB_30, aZ_30, sZ_30, aQ_10, aQ_11, sQ_10, e, g9, nI_1, hcm, f6, c8, c9, true_implies, false_implies, not_true_eq_false, not_false_eq_true, and_self, true_and, and_true, zqm5_m1, zqm5_0, zqm5_1, zqm5_2, zqm5_3, zqm5_4, zqm4_m1, zqm4_0, zqm4_1, zqm4_2, zqm4_3, zqm4_4, zqm3_m1, zqm3_0, zqm3_1, zqm3_2, zqm3_3, zqm3_4, zqm2_m1, zqm2_0, zqm2_1, zqm2_2, zqm2_3, zqm2_4, zqm1_m5, zqm1_m4, zqm1_m3, zqm1_m2, zqm1_0, zqm1_1, zqm1_2, zqm1_3, zqm1_4, zqm1_5, zqm1_6, zqm1_7, zqm1_8, zqm1_9, zq0_m5, zq0_m4, zq0_m3, zq0_m2, zq0_m1, zq0_1, zq0_2, zq0_3, zq0_4, zq0_5, zq0_6, zq0_7, zq0_8, zq0_9, zq1_m5, zq1_m4, zq1_m3, zq1_m2, zq1_m1, zq1_0, zq1_2, zq1_3, zq1_4, zq1_5, zq1_6, zq1_7, zq1_8, zq1_9, zq2_m5, zq2_m4, zq2_m3, zq2_m2, zq2_m1, zq2_0, zq2_1, zq2_3, zq2_4, zq2_5, zq2_6, zq2_7, zq2_8, zq2_9, zq3_m5, zq3_m4, zq3_m3, zq3_m2, zq3_m1, zq3_0, zq3_1, zq3_2, zq3_4, zq3_5, zq3_6, zq3_7, zq3_8, zq3_9, zq4_m5, zq4_m4, zq4_m3, zq4_m2, zq4_m1, zq4_0, zq4_1, zq4_2, zq4_3, zq4_5, zq4_6, zq4_7, zq4_8, zq4_9, zq5_m1, zq5_0, zq5_1, zq5_2, zq5_3, zq5_4, zq6_m1, zq6_0, zq6_1, zq6_2, zq6_3, zq6_4, zq7_m1, zq7_0, zq7_1, zq7_2, zq7_3, zq7_4, zq8_m1, zq8_0, zq8_1, zq8_2, zq8_3, zq8_4, zq9_m1, zq9_0, zq9_1, zq9_2, zq9_3, zq9_4]
              exact j2 X d Q
          | inr l =>
            rw [hf] at ihh
            obtain ⟨c4, r4, j1, j3, j4, j2⟩ := ihh
            have o := j1.2.2 k (by omega)
            refine ⟨c4, r4, ⟨fun q hq => (j1.1 q hq).trans (c3c q hq), fun q h3 h4 h5 => (j1.2.1 q h3 h4 h5).trans (g1.2.1 q h3 h4 h5), fun i hi => ?_⟩, ?_, ⟨lnk_cg hlok o.1 o.2.1 o.2.2, j4⟩, fun X d Q => ?_⟩
            · obtain ⟨o1, o2, o3⟩ := j1.2.2 i (by omega)
              obtain ⟨o4, o5, o6⟩ := g1.2.2 i (by omega)
              exact ⟨o1.trans o4, o2.trans o5, o3.trans o6⟩
            · rw [j3, List.length_cons]
              congr 1
              omega
            · rw [s54_22]
              simp only [s54_0, s54_1, s54_2, s54_5, s54_6, s54_7, s54_10, s54_11, s54_12, s54_15, s54_16, s54_17, s54_20, s54_21, s54_23, s54_25, s54_28, s54_29, s54_30, s54_33, s54_36, s54_37, s54_40, s54_41, s54_42, s54_43, s54_44, s54_45, s54_48, s54_49, s54_52, s54_53, s54_56, s54_59, s54_60, s54_61, s54_62, s54_65, s54_66, s54_69, s54_70, s54_73, s54_75, s54_78, s54_79, s54_82, s54_83, s54_86, s54_89, s54_90, s54_93, zb0, zb1, ob_some, tl_s, tl_n, nk_i, nk_r, nk_n, nk_0, pk_us, pk_un, va_up_self, va_up_ne, ne_eq, Nat.reduceEqDiff, not_false_eq_true, true_and, and_true, eq_self, z11, z00, bI_z, gf_0_0, gf_0_1, gf_0_2, gf_0_3, gf_0_4, gf_0_5, gf_0_6, rcv_0, rcO_0, gf_1_0, gf_1_1, sf_1_1, gf_1_2, gf_1_3, gf_1_4, gf_1_5, sf_1_5, gf_1_6, sf_1_6, gf_1_7, sf_1_7, gf_1_8, sf_1_8, gf_1_9, sf_1_9, gf_1_10, sf_1_10, gf_1_11, sf_1_11, rcv_1, rcO_1, gf_6_0, sf_6_0, gf_6_1, sf_6_1, gf_6_2, sf_6_2, gf_6_3, sf_6_3, gf_6_4, gf_6_5, rcv_6, rcO_6, gf_9_0, gf_9_1, sf_9_1, rcv_9, rcO_9, gf_12_0, sf_12_0, gf_12_1, sf_12_1, gf_12_2, gf_12_3, rcv_12, rcO_12, gf_15_0, sf_15_0, gf_15_1, sf_15_1, gf_15_2, gf_15_3, rcv_15, rcO_15, gf_18_0, sf_18_0, gf_18_1, sf_18_1, gf_18_2, gf_18_3, gf_18_4, gf_18_5, sf_18_5, gf_18_6, sf_18_6, gf_18_7, sf_18_7, gf_18_8, sf_18_8, rcv_18, rcO_18, gf_24_0, gf_24_1, gf_24_2, sf_24_2, rcv_24, rcO_24, gf_28_0, gf_28_1, gf_28_2, gf_28_3, sf_28_3, gf_28_4, gf_28_5, sf_28_5, gf_28_6, sf_28_6, gf_28_7, gf_28_8, gf_28_9, gf_28_10, gf_28_11, gf_28_12, gf_28_13, sf_28_13, gf_28_14, sf_28_14, gf_28_15, sf_28_15, gf_28_16, sf_28_16, gf_28_17, sf_28_17, gf_28_18, sf_28_18, gf_28_19, gf_28_20, gf_28_21, gf_28_22, gf_28_23, gf_28_24, sf_28_24, gf_28_25, rcv_28, rcO_28, aI_2, aW_2, sI_2, aI_3, aW_3, sI_3, aI_4, aW_4, sI_4, aI_5, aW_5, sI_5, aI_7, aW_7, sI_7, aI_8, aW_8, sI_8, aI_13, aW_13, sI_13, aI_14, aW_14, sI_14, aI_16, aW_16, sI_16, aI_17, aW_17, sI_17, aI_21, aW_21, sI_21, aI_22, aW_22, sI_22, aI_23, aW_23, sI_23, aI_25, aW_25, sI_25, aI_26, aW_26, sI_26, aI_29, aW_29, sI_29, aI_31, aW_31, sI_31, aI_32, aW_32, sI_32, aI_33, aW_33, sI_33, aI_34, aW_34, sI_34, aI_35, aW_35, sI_35, aI_36, aW_36, sI_36, aI_37, aW_37, sI_37, aI_38, aW_38, sI_38, aI_41, aW_41, sI_41, aI_42, aW_42, sI_42, aI_43, aW_43, sI_43, aL_19, sL_19, aL_20, sL_20, aL_27, sL_27, aL_39, sL_39, aL_40, sL_40, aL_44, sL_44, aB_30, aZ_30, sZ_30, aQ_10, aQ_11, sQ_10, e, g9, nI_1, hcm, f6, c8, c9, true_implies, false_implies, not_true_eq_false, not_false_eq_true, and_self, true_and, and_true, zqm5_m1, zqm5_0, zqm5_1, zqm5_2, zqm5_3, zqm5_4, zqm4_m1, zqm4_0, zqm4_1, zqm4_2, zqm4_3, zqm4_4, zqm3_m1, zqm3_0, zqm3_1, zqm3_2, zqm3_3, zqm3_4, zqm2_m1, zqm2_0, zqm2_1, zqm2_2, zqm2_3, zqm2_4, zqm1_m5, zqm1_m4, zqm1_m3, zqm1_m2, zqm1_0, zqm1_1, zqm1_2, zqm1_3, zqm1_4, zqm1_5, zqm1_6, zqm1_7, zqm1_8, zqm1_9, zq0_m5, zq0_m4, zq0_m3, zq0_m2, zq0_m1, zq0_1, zq0_2, zq0_3, zq0_4, zq0_5, zq0_6, zq0_7, zq0_8, zq0_9, zq1_m5, zq1_m4, zq1_m3, zq1_m2, zq1_m1, zq1_0, zq1_2, zq1_3, zq1_4, zq1_5, zq1_6, zq1_7, zq1_8, zq1_9, zq2_m5, zq2_m4, zq2_m3, zq2_m2, zq2_m1, zq2_0, zq2_1, zq2_3, zq2_4, zq2_5, zq2_6, zq2_7, zq2_8, zq2_9, zq3_m5, zq3_m4, zq3_m3, zq3_m2, zq3_m1, zq3_0, zq3_1, zq3_2, zq3_4, zq3_5, zq3_6, zq3_7, zq3_8, zq3_9, zq4_m5, zq4_m4, zq4_m3, zq4_m2, zq4_m1, zq4_0, zq4_1, zq4_2, zq4_3, zq4_5, zq4_6, zq4_7, zq4_8, zq4_9, zq5_m1, zq5_0, zq5_1, zq5_2, zq5_3, zq5_4, zq6_m1, zq6_0, zq6_1, zq6_2, zq6_3, zq6_4, zq7_m1, zq7_0, zq7_1, zq7_2, zq7_3, zq7_4, zq8_m1, zq8_0, zq8_1, zq8_2, zq8_3, zq8_4, zq9_m1, zq9_0, zq9_1, zq9_2, zq9_3, zq9_4]
              exact j2 X d Q
        · rw [if_neg h59]
          obtain ⟨s1, s2⟩ := tkn hq h59 ht256
          rw [← f4] at s1 s2
          refine ⟨c3, r2, fr, fun X d Q => ?_⟩
          rw [s54_22]
          rcases s2 with s2 | ⟨s2, s3⟩
          · simp only [s54_0, s54_1, s54_2, s54_5, s54_6, s54_7, s54_10, s54_11, s54_12, s54_15, s54_16, s54_17, s54_20, s54_21, s54_23, s54_25, s54_28, s54_29, s54_30, s54_33, s54_36, s54_37, s54_40, s54_41, s54_42, s54_43, s54_44, s54_45, s54_48, s54_49, s54_52, s54_53, s54_56, s54_59, s54_60, s54_61, s54_62, s54_65, s54_66, s54_69, s54_70, s54_73, s54_75, s54_78, s54_79, s54_82, s54_83, s54_86, s54_89, s54_90, s54_93, zb0, zb1, ob_some, tl_s, tl_n, nk_i, nk_r, nk_n, nk_0, pk_us, pk_un, va_up_self, va_up_ne, ne_eq, Nat.reduceEqDiff, not_false_eq_true, true_and, and_true, eq_self, z11, z00, bI_z, gf_0_0, gf_0_1, gf_0_2, gf_0_3, gf_0_4, gf_0_5, gf_0_6, rcv_0, rcO_0, gf_1_0, gf_1_1, sf_1_1, gf_1_2, gf_1_3, gf_1_4, gf_1_5, sf_1_5, gf_1_6, sf_1_6, gf_1_7, sf_1_7, gf_1_8, sf_1_8, gf_1_9, sf_1_9, gf_1_10, sf_1_10, gf_1_11, sf_1_11, rcv_1, rcO_1, gf_6_0, sf_6_0, gf_6_1, sf_6_1, gf_6_2, sf_6_2, gf_6_3, sf_6_3, gf_6_4, gf_6_5, rcv_6, rcO_6, gf_9_0, gf_9_1, sf_9_1, rcv_9, rcO_9, gf_12_0, sf_12_0, gf_12_1, sf_12_1, gf_12_2, gf_12_3, rcv_12, rcO_12, gf_15_0, sf_15_0, gf_15_1, sf_15_1, gf_15_2, gf_15_3, rcv_15, rcO_15, gf_18_0, sf_18_0, gf_18_1, sf_18_1, gf_18_2, gf_18_3, gf_18_4, gf_18_5, sf_18_5, gf_18_6, sf_18_6, gf_18_7, sf_18_7, gf_18_8, sf_18_8, rcv_18, rcO_18, gf_24_0, gf_24_1, gf_24_2, sf_24_2, rcv_24, rcO_24, gf_28_0, gf_28_1, gf_28_2, gf_28_3, sf_28_3, gf_28_4, gf_28_5, sf_28_5, gf_28_6, sf_28_6, gf_28_7, gf_28_8, gf_28_9, gf_28_10, gf_28_11, gf_28_12, gf_28_13, sf_28_13, gf_28_14, sf_28_14, gf_28_15, sf_28_15, gf_28_16, sf_28_16, gf_28_17, sf_28_17, gf_28_18, sf_28_18, gf_28_19, gf_28_20, gf_28_21, gf_28_22, gf_28_23, gf_28_24, sf_28_24, gf_28_25, rcv_28, rcO_28, aI_2, aW_2, sI_2, aI_3, aW_3, sI_3, aI_4, aW_4, sI_4, aI_5, aW_5, sI_5, aI_7, aW_7, sI_7, aI_8, aW_8, sI_8, aI_13, aW_13, sI_13, aI_14, aW_14, sI_14, aI_16, aW_16, sI_16, aI_17, aW_17, sI_17, aI_21, aW_21, sI_21, aI_22, aW_22, sI_22, aI_23, aW_23, sI_23, aI_25, aW_25, sI_25, aI_26, aW_26, sI_26, aI_29, aW_29, sI_29, aI_31, aW_31, sI_31, aI_32, aW_32, sI_32, aI_33, aW_33, sI_33, aI_34, aW_34, sI_34, aI_35, aW_35, sI_35, aI_36, aW_36, sI_36, aI_37, aW_37, sI_37, aI_38, aW_38, sI_38, aI_41, aW_41, sI_41, aI_42, aW_42, sI_42, aI_43, aW_43, sI_43, aL_19, sL_19, aL_20, sL_20, aL_27, sL_27, aL_39, sL_39, aL_40, sL_40, aL_44, sL_44, aB_30, aZ_30, sZ_30, aQ_10, aQ_11, sQ_10, e, g9, nI_1, hcm, f6, s1, s2, f2, true_implies, false_implies, not_true_eq_false, not_false_eq_true, and_self, true_and, and_true, zqm5_m1, zqm5_0, zqm5_1, zqm5_2, zqm5_3, zqm5_4, zqm4_m1, zqm4_0, zqm4_1, zqm4_2, zqm4_3, zqm4_4, zqm3_m1, zqm3_0, zqm3_1, zqm3_2, zqm3_3, zqm3_4, zqm2_m1, zqm2_0, zqm2_1, zqm2_2, zqm2_3, zqm2_4, zqm1_m5, zqm1_m4, zqm1_m3, zqm1_m2, zqm1_0, zqm1_1, zqm1_2, zqm1_3, zqm1_4, zqm1_5, zqm1_6, zqm1_7, zqm1_8, zqm1_9, zq0_m5, zq0_m4, zq0_m3, zq0_m2, zq0_m1, zq0_1, zq0_2, zq0_3, zq0_4, zq0_5, zq0_6, zq0_7, zq0_8, zq0_9, zq1_m5, zq1_m4, zq1_m3, zq1_m2, zq1_m1, zq1_0, zq1_2, zq1_3, zq1_4, zq1_5, zq1_6, zq1_7, zq1_8, zq1_9, zq2_m5, zq2_m4, zq2_m3, zq2_m2, zq2_m1, zq2_0, zq2_1, zq2_3, zq2_4, zq2_5, zq2_6, zq2_7, zq2_8, zq2_9, zq3_m5, zq3_m4, zq3_m3, zq3_m2, zq3_m1, zq3_0, zq3_1, zq3_2, zq3_4, zq3_5, zq3_6, zq3_7, zq3_8, zq3_9, zq4_m5, zq4_m4, zq4_m3, zq4_m2, zq4_m1, zq4_0, zq4_1, zq4_2, zq4_3, zq4_5, zq4_6, zq4_7, zq4_8, zq4_9, zq5_m1, zq5_0, zq5_1, zq5_2, zq5_3, zq5_4, zq6_m1, zq6_0, zq6_1, zq6_2, zq6_3, zq6_4, zq7_m1, zq7_0, zq7_1, zq7_2, zq7_3, zq7_4, zq8_m1, zq8_0, zq8_1, zq8_2, zq8_3, zq8_4, zq9_m1, zq9_0, zq9_1, zq9_2, zq9_3, zq9_4]
          · rw [← f5 hq] at s3
            simp only [s54_0, s54_1, s54_2, s54_5, s54_6, s54_7, s54_10, s54_11, s54_12, s54_15, s54_16, s54_17, s54_20, s54_21, s54_23, s54_25, s54_28, s54_29, s54_30, s54_33, s54_36, s54_37, s54_40, s54_41, s54_42, s54_43, s54_44, s54_45, s54_48, s54_49, s54_52, s54_53, s54_56, s54_59, s54_60, s54_61, s54_62, s54_65, s54_66, s54_69, s54_70, s54_73, s54_75, s54_78, s54_79, s54_82, s54_83, s54_86, s54_89, s54_90, s54_93, zb0, zb1, ob_some, tl_s, tl_n, nk_i, nk_r, nk_n, nk_0, pk_us, pk_un, va_up_self, va_up_ne, ne_eq, Nat.reduceEqDiff, not_false_eq_true, true_and, and_true, eq_self, z11, z00, bI_z, gf_0_0, gf_0_1, gf_0_2, gf_0_3, gf_0_4, gf_0_5, gf_0_6, rcv_0, rcO_0, gf_1_0, gf_1_1, sf_1_1, gf_1_2, gf_1_3, gf_1_4, gf_1_5, sf_1_5, gf_1_6, sf_1_6, gf_1_7, sf_1_7, gf_1_8, sf_1_8, gf_1_9, sf_1_9, gf_1_10, sf_1_10, gf_1_11, sf_1_11, rcv_1, rcO_1, gf_6_0, sf_6_0, gf_6_1, sf_6_1, gf_6_2, sf_6_2, gf_6_3, sf_6_3, gf_6_4, gf_6_5, rcv_6, rcO_6, gf_9_0, gf_9_1, sf_9_1, rcv_9, rcO_9, gf_12_0, sf_12_0, gf_12_1, sf_12_1, gf_12_2, gf_12_3, rcv_12, rcO_12, gf_15_0, sf_15_0, gf_15_1, sf_15_1, gf_15_2, gf_15_3, rcv_15, rcO_15, gf_18_0, sf_18_0, gf_18_1, sf_18_1, gf_18_2, gf_18_3, gf_18_4, gf_18_5, sf_18_5, gf_18_6, sf_18_6, gf_18_7, sf_18_7, gf_18_8, sf_18_8, rcv_18, rcO_18, gf_24_0, gf_24_1, gf_24_2, sf_24_2, rcv_24, rcO_24, gf_28_0, gf_28_1, gf_28_2, gf_28_3, sf_28_3, gf_28_4, gf_28_5, sf_28_5, gf_28_6, sf_28_6, gf_28_7, gf_28_8, gf_28_9, gf_28_10, gf_28_11, gf_28_12, gf_28_13, sf_28_13, gf_28_14, sf_28_14, gf_28_15, sf_28_15, gf_28_16, sf_28_16, gf_28_17, sf_28_17, gf_28_18, sf_28_18, gf_28_19, gf_28_20, gf_28_21, gf_28_22, gf_28_23, gf_28_24, sf_28_24, gf_28_25, rcv_28, rcO_28, aI_2, aW_2, sI_2, aI_3, aW_3, sI_3, aI_4, aW_4, sI_4, aI_5, aW_5, sI_5, aI_7, aW_7, sI_7, aI_8, aW_8, sI_8, aI_13, aW_13, sI_13, aI_14, aW_14, sI_14, aI_16, aW_16, sI_16, aI_17, aW_17, sI_17, aI_21, aW_21, sI_21, aI_22, aW_22, sI_22, aI_23, aW_23, sI_23, aI_25, aW_25, sI_25, aI_26, aW_26, sI_26, aI_29, aW_29, sI_29, aI_31, aW_31, sI_31, aI_32, aW_32, sI_32, aI_33, aW_33, sI_33, aI_34, aW_34, sI_34, aI_35, aW_35, sI_35, aI_36, aW_36, sI_36, aI_37, aW_37, sI_37, aI_38, aW_38, sI_38, aI_41, aW_41, sI_41, aI_42, aW_42, sI_42, aI_43, aW_43, sI_43, aL_19, sL_19, aL_20, sL_20, aL_27, sL_27, aL_39, sL_39, aL_40, sL_40, aL_44, sL_44, aB_30, aZ_30, sZ_30, aQ_10, aQ_11, sQ_10, e, g9, nI_1, hcm, f6, s2, s3, f2, true_implies, false_implies, not_true_eq_false, not_false_eq_true, and_self, true_and, and_true, zqm5_m1, zqm5_0, zqm5_1, zqm5_2, zqm5_3, zqm5_4, zqm4_m1, zqm4_0, zqm4_1, zqm4_2, zqm4_3, zqm4_4, zqm3_m1, zqm3_0, zqm3_1, zqm3_2, zqm3_3, zqm3_4, zqm2_m1, zqm2_0, zqm2_1, zqm2_2, zqm2_3, zqm2_4, zqm1_m5, zqm1_m4, zqm1_m3, zqm1_m2, zqm1_0, zqm1_1, zqm1_2, zqm1_3, zqm1_4, zqm1_5, zqm1_6, zqm1_7, zqm1_8, zqm1_9, zq0_m5, zq0_m4, zq0_m3, zq0_m2, zq0_m1, zq0_1, zq0_2, zq0_3, zq0_4, zq0_5, zq0_6, zq0_7, zq0_8, zq0_9, zq1_m5, zq1_m4, zq1_m3, zq1_m2, zq1_m1, zq1_0, zq1_2, zq1_3, zq1_4, zq1_5, zq1_6, zq1_7, zq1_8, zq1_9, zq2_m5, zq2_m4, zq2_m3, zq2_m2, zq2_m1, zq2_0, zq2_1, zq2_3, zq2_4, zq2_5, zq2_6, zq2_7, zq2_8, zq2_9, zq3_m5, zq3_m4, zq3_m3, zq3_m2, zq3_m1, zq3_0, zq3_1, zq3_2, zq3_4, zq3_5, zq3_6, zq3_7, zq3_8, zq3_9, zq4_m5, zq4_m4, zq4_m3, zq4_m2, zq4_m1, zq4_0, zq4_1, zq4_2, zq4_3, zq4_5, zq4_6, zq4_7, zq4_8, zq4_9, zq5_m1, zq5_0, zq5_1, zq5_2, zq5_3, zq5_4, zq6_m1, zq6_0, zq6_1, zq6_2, zq6_3, zq6_4, zq7_m1, zq7_0, zq7_1, zq7_2, zq7_3, zq7_4, zq8_m1, zq8_0, zq8_1, zq8_2, zq8_3, zq8_4, zq9_m1, zq9_0, zq9_1, zq9_2, zq9_3, zq9_4]
      · rw [if_neg hq]
        have c8 : c3 108 = 0 := by rw [f4]; unfold tk; rw [if_neg hq]; rfl
        refine ⟨c3, r2, fr, ?_, ⟨hlok, True.intro⟩, fun X d Q => ?_⟩
        · rw [f1 105 (by omega) (by omega) (by omega) (by omega), m2]; rfl
        · rw [s54_22]
          simp only [s54_0, s54_1, s54_2, s54_5, s54_6, s54_7, s54_10, s54_11, s54_12, s54_15, s54_16, s54_17, s54_20, s54_21, s54_23, s54_25, s54_28, s54_29, s54_30, s54_33, s54_36, s54_37, s54_40, s54_41, s54_42, s54_43, s54_44, s54_45, s54_48, s54_49, s54_52, s54_53, s54_56, s54_59, s54_60, s54_61, s54_62, s54_65, s54_66, s54_69, s54_70, s54_73, s54_75, s54_78, s54_79, s54_82, s54_83, s54_86, s54_89, s54_90, s54_93, zb0, zb1, ob_some, tl_s, tl_n, nk_i, nk_r, nk_n, nk_0, pk_us, pk_un, va_up_self, va_up_ne, ne_eq, Nat.reduceEqDiff, not_false_eq_true, true_and, and_true, eq_self, z11, z00, bI_z, gf_0_0, gf_0_1, gf_0_2, gf_0_3, gf_0_4, gf_0_5, gf_0_6, rcv_0, rcO_0, gf_1_0, gf_1_1, sf_1_1, gf_1_2, gf_1_3, gf_1_4, gf_1_5, sf_1_5, gf_1_6, sf_1_6, gf_1_7, sf_1_7, gf_1_8, sf_1_8, gf_1_9, sf_1_9, gf_1_10, sf_1_10, gf_1_11, sf_1_11, rcv_1, rcO_1, gf_6_0, sf_6_0, gf_6_1, sf_6_1, gf_6_2, sf_6_2, gf_6_3, sf_6_3, gf_6_4, gf_6_5, rcv_6, rcO_6, gf_9_0, gf_9_1, sf_9_1, rcv_9, rcO_9, gf_12_0, sf_12_0, gf_12_1, sf_12_1, gf_12_2, gf_12_3, rcv_12, rcO_12, gf_15_0, sf_15_0, gf_15_1, sf_15_1, gf_15_2, gf_15_3, rcv_15, rcO_15, gf_18_0, sf_18_0, gf_18_1, sf_18_1, gf_18_2, gf_18_3, gf_18_4, gf_18_5, sf_18_5, gf_18_6, sf_18_6, gf_18_7, sf_18_7, gf_18_8, sf_18_8, rcv_18, rcO_18, gf_24_0, gf_24_1, gf_24_2, sf_24_2, rcv_24, rcO_24, gf_28_0, gf_28_1, gf_28_2, gf_28_3, sf_28_3, gf_28_4, gf_28_5, sf_28_5, gf_28_6, sf_28_6, gf_28_7, gf_28_8, gf_28_9, gf_28_10, gf_28_11, gf_28_12, gf_28_13, sf_28_13, gf_28_14, sf_28_14, gf_28_15, sf_28_15, gf_28_16, sf_28_16, gf_28_17, sf_28_17, gf_28_18, sf_28_18, gf_28_19, gf_28_20, gf_28_21, gf_28_22, gf_28_23, gf_28_24, sf_28_24, gf_28_25, rcv_28, rcO_28, aI_2, aW_2, sI_2, aI_3, aW_3, sI_3, aI_4, aW_4, sI_4, aI_5, aW_5, sI_5, aI_7, aW_7, sI_7, aI_8, aW_8, sI_8, aI_13, aW_13, sI_13, aI_14, aW_14, sI_14, aI_16, aW_16, sI_16, aI_17, aW_17, sI_17, aI_21, aW_21, sI_21, aI_22, aW_22, sI_22, aI_23, aW_23, sI_23, aI_25, aW_25, sI_25, aI_26, aW_26, sI_26, aI_29, aW_29, sI_29, aI_31, aW_31, sI_31, aI_32, aW_32, sI_32, aI_33, aW_33, sI_33, aI_34, aW_34, sI_34, aI_35, aW_35, sI_35, aI_36, aW_36, sI_36, aI_37, aW_37, sI_37, aI_38, aW_38, sI_38, aI_41, aW_41, sI_41, aI_42, aW_42, sI_42, aI_43, aW_43, sI_43, aL_19, sL_19, aL_20, sL_20, aL_27, sL_27, aL_39, sL_39, aL_40, sL_40, aL_44, sL_44, aB_30, aZ_30, sZ_30, aQ_10, aQ_11, sQ_10, e, g9, nI_1, hcm, f6, c8, true_implies, false_implies, not_true_eq_false, not_false_eq_true, and_self, true_and, and_true, zqm5_m1, zqm5_0, zqm5_1, zqm5_2, zqm5_3, zqm5_4, zqm4_m1, zqm4_0, zqm4_1, zqm4_2, zqm4_3, zqm4_4, zqm3_m1, zqm3_0, zqm3_1, zqm3_2, zqm3_3, zqm3_4, zqm2_m1, zqm2_0, zqm2_1, zqm2_2, zqm2_3, zqm2_4, zqm1_m5, zqm1_m4, zqm1_m3, zqm1_m2, zqm1_0, zqm1_1, zqm1_2, zqm1_3, zqm1_4, zqm1_5, zqm1_6, zqm1_7, zqm1_8, zqm1_9, zq0_m5, zq0_m4, zq0_m3, zq0_m2, zq0_m1, zq0_1, zq0_2, zq0_3, zq0_4, zq0_5, zq0_6, zq0_7, zq0_8, zq0_9, zq1_m5, zq1_m4, zq1_m3, zq1_m2, zq1_m1, zq1_0, zq1_2, zq1_3, zq1_4, zq1_5, zq1_6, zq1_7, zq1_8, zq1_9, zq2_m5, zq2_m4, zq2_m3, zq2_m2, zq2_m1, zq2_0, zq2_1, zq2_3, zq2_4, zq2_5, zq2_6, zq2_7, zq2_8, zq2_9, zq3_m5, zq3_m4, zq3_m3, zq3_m2, zq3_m1, zq3_0, zq3_1, zq3_2, zq3_4, zq3_5, zq3_6, zq3_7, zq3_8, zq3_9, zq4_m5, zq4_m4, zq4_m3, zq4_m2, zq4_m1, zq4_0, zq4_1, zq4_2, zq4_3, zq4_5, zq4_6, zq4_7, zq4_8, zq4_9, zq5_m1, zq5_0, zq5_1, zq5_2, zq5_3, zq5_4, zq6_m1, zq6_0, zq6_1, zq6_2, zq6_3, zq6_4, zq7_m1, zq7_0, zq7_1, zq7_2, zq7_3, zq7_4, zq8_m1, zq8_0, zq8_1, zq8_2, zq8_3, zq8_4, zq9_m1, zq9_0, zq9_1, zq9_2, zq9_3, zq9_4]
