/-! texts: numbers and lines, the class's side -/
def rd (t : Nat → Nat) (L p lo hi : Nat) : Option Nat := if tB t L p < L ∧ inR t 48 57 (tB t L p) = true ∧ tE t L (tB t L p) - tB t L p ≤ 2 ∧ lo ≤ nvF t (tE t L (tB t L p) - tB t L p) (tB t L p) 0 ∧ nvF t (tE t L (tB t L p) - tB t L p) (tB t L p) 0 < hi then some (nvF t (tE t L (tB t L p) - tB t L p) (tB t L p) 0) else none
def nxt (t : Nat → Nat) (L p : Nat) : Nat := tE t L (tB t L p)
theorem nxt_le {t : Nat → Nat} {L p : Nat} (h : p ≤ L) : nxt t L p ≤ L := tE_le (tB_le h)
theorem WD_no {t : Nat → Nat} {L q : Nat} (h : inR t 48 57 q = true) : inR t 97 122 q = false := by
  unfold inR at h ⊢
  simp only [Bool.and_eq_true, decide_eq_true_eq] at h
  simp; omega
/-- the word of a token: 10 if it is none -/
def wdN (t : Nat → Nat) (L p : Nat) : Nat := if tB t L p < L ∧ inR t 97 122 (tB t L p) = true then wdF t (tB t L p) (nxt t L p) 10 0 else 10
theorem wdF_le {t : Nat → Nat} {q e : Nat} : ∀ j w, w + j ≤ 10 → wdF t q e j w ≤ 10
  | 0, _, _ => Nat.le_refl 10
  | j + 1, w, h => by
    unfold wdF
    split
    · omega
    · exact wdF_le j (w + 1) (by omega)
theorem wdN_le {t : Nat → Nat} {L p : Nat} : wdN t L p ≤ 10 := by
  unfold wdN
  split
  · exact wdF_le 10 0 (by omega)
  · exact Nat.le_refl 10
/-- a line: where its fault is, or its word, its numbers, its end, and height and climbers behind it -/
def ln (t : Nat → Nat) (L p H M : Nat) : Nat ⊕ (Nat × Nat × Nat × Nat × Nat × Nat) :=
  if wdN t L p = 10 then .inl (tB t L p)
  else if wdN t L p = 9 then .inr (9, 0, 0, nxt t L p, H, 0)
  else if wdN t L p = 0 then (match rd t L (nxt t L p) 1 21 with | none => .inl (tB t L (nxt t L p)) | some a => .inr (0, a, 0, nxt t L (nxt t L p), a, M))
  else if wdN t L p = 1 ∨ wdN t L p = 3 then (match rd t L (nxt t L p) 1 (H + 1) with | none => .inl (tB t L (nxt t L p)) | some a => .inr (wdN t L p, a, 0, nxt t L (nxt t L p), H, M))
  else if wdN t L p = 2 then (match rd t L (nxt t L p) 1 (H + 1) with | none => .inl (tB t L (nxt t L p)) | some a => match rd t L (nxt t L (nxt t L p)) 0 11 with | none => .inl (tB t L (nxt t L (nxt t L p))) | some b => .inr (2, a, b, nxt t L (nxt t L (nxt t L p)), H, M))
  else if wdN t L p = 8 then (match rd t L (nxt t L p) 0 M with | none => .inl (tB t L (nxt t L p)) | some a => match rd t L (nxt t L (nxt t L p)) 0 6 with | none => .inl (tB t L (nxt t L (nxt t L p))) | some b => .inr (8, a, b, nxt t L (nxt t L (nxt t L p)), H, M))
  else if M = 5 then .inl (tB t L p)
  else (match rd t L (nxt t L p) 1 7 with | none => .inl (tB t L (nxt t L p)) | some a => .inr (wdN t L p, a, 0, nxt t L (nxt t L p), H, M + 1))
theorem rd_lt {t : Nat → Nat} {L p lo hi v : Nat} (h : rd t L p lo hi = some v) : lo ≤ v ∧ v < hi := by
  unfold rd at h
  split at h
  · next hc => cases h; exact ⟨hc.2.2.2.1, hc.2.2.2.2⟩
  · cases h
theorem le_pred {v h : Nat} (hv : v < 1000) (hh : h < 1000) : (nI v ≤ nI h - 1) = (v < h) := by
  have e : (nI h - 1).toInt = (h : Int) - 1 := pk_sub_toInt (a := h) (b := 1) (by omega) (by omega)
  rw [Int32.le_iff_toInt_le, e, nI_toInt (by omega)]
  exact propext ⟨fun q => by omega, fun q => by omega⟩
section LN
variable {X : XS} {d : Nat} {K Q : Option Value → AH → Prop} {c : Nat → Int32} {r : Nat → Nat → Int32} {w : Nat → Nat → Int64} {mb : Nat → Option Nat} {n1 n2 : Nat} {sh : List Nat} {L p H M : Nat} {t : Nat → Nat}
theorem m1_lt {lo : Nat} (h : lo < 1000) : (-1 : Int32) < nI lo := by
  rw [Int32.lt_iff_toInt_lt, nI_toInt (by omega)]
  have : (-1 : Int32).toInt = -1 := rfl
  omega
/-- a number is read into a row -/
theorem c_numSt {R lo hi k : Nat} {x y : Int32} (hx : x = nI lo) (hR : R = 4 ∨ R = 5) (hk : k < 12) (hlo : lo < 100) (hhi : hi < 100) (hy : y = nI hi - 1) (hL : L ≤ 200) (hc : c 101 = nI L) (h7 : c 107 = nI p) (hp : p ≤ L) (ht : ∀ i, i < L → r 2 i = nI (t i) ∧ t i < 256) : ∃ c2 : Nat → Int32, (∀ k, k ≠ 106 → k ≠ 107 → k ≠ 108 → k ≠ 109 → c2 k = c k) ∧ c2 106 = nI (tB t L p) ∧ c2 107 = nI (nxt t L p) ∧ (∀ v, rd t L p lo hi = some v → c2 109 = nI v ∧ ∀ X d K, Cl X (d + 8) 56 [.ref 1, .ref R, .int (nI k), .int x, .int y] (G c r w mb n1 n2 sh) K = K (some (.int 1)) (G c2 (va_up r R (upd (r R) k (nI v))) w mb n1 n2 sh)) ∧ (rd t L p lo hi = none → ∀ X d K, Cl X (d + 8) 56 [.ref 1, .ref R, .int (nI k), .int x, .int y] (G c r w mb n1 n2 sh) K = K (some (.int 0)) (G c2 r w mb n1 n2 sh)) := by
  obtain ⟨c2, f1, f2, f3, f4, f5, f6⟩ := c_readToken (w := w) (mb := mb) (n1 := n1) (n2 := n2) (sh := sh) hL hc h7 hp ht
  have i1 := inb_nI (show k < 12 by omega) (by omega)
  have z1 := nI_clamp (show k < 2 ^ 31 by omega)
  refine ⟨c2, f1, f2, f3, fun v hv => ?_, fun hv => ?_⟩
  · have hb := rd_lt hv
    unfold rd at hv
    split at hv
    · next hcd =>
      obtain ⟨q1, q2, q3, q4, q5⟩ := hcd
      have hvv := Option.some.inj hv
      have t8 : c2 108 = 2 := by
        rw [f4]
        unfold tk
        rw [if_pos q1, WD_no (L := L) q2, q2]
        rfl
      have t9 : c2 109 = nI v := by
        rw [f5 q1]
        unfold tv
        rw [WD_no (L := L) q2, q2]
        simp only [if_true, if_false, Bool.false_eq_true, q3]
        rw [hvv]
      refine ⟨t9, fun X d K => ?_⟩
      have e1 : ¬ nI v < nI lo := nI_nlt hb.1 (by omega)
      have e2 : nI v ≤ nI hi - 1 := by rw [le_pred (by omega) (by omega)]; exact hb.2
      subst hy hx
      rw [e56]
      rcases hR with rfl | rfl
      · simp only [s56_0, s56_1, s56_4, s56_5, s56_8, s56_9, s56_12, s56_13, s56_16, s56_17, s56_20, s56_21, s56_24, s56_26, s56_29, s56_30, s56_31, s56_31n, s56_32, s56_33, s56_34, s56_37, s56_38, s56_39, zb0, zb1, ob_some, tl_s, tl_n, nk_i, nk_r, nk_n, nk_0, pk_us, pk_un, va_up_self, va_up_ne, ne_eq, Nat.reduceEqDiff, not_false_eq_true, true_and, and_true, eq_self, z11, z00, bI_z, gf_0_0, gf_0_1, gf_0_2, gf_0_3, gf_0_4, gf_0_5, gf_0_6, rcv_0, rcO_0, gf_1_0, gf_1_1, sf_1_1, gf_1_2, gf_1_3, gf_1_4, gf_1_5, sf_1_5, gf_1_6, sf_1_6, gf_1_7, sf_1_7, gf_1_8, sf_1_8, gf_1_9, sf_1_9, gf_1_10, sf_1_10, gf_1_11, sf_1_11, rcv_1, rcO_1, gf_6_0, sf_6_0, gf_6_1, sf_6_1, gf_6_2, sf_6_2, gf_6_3, sf_6_3, gf_6_4, gf_6_5, rcv_6, rcO_6, gf_9_0, gf_9_1, sf_9_1, rcv_9, rcO_9, gf_12_0, sf_12_0, gf_12_1, sf_12_1, gf_12_2, gf_12_3, rcv_12, rcO_12, gf_15_0, sf_15_0, gf_15_1, sf_15_1, gf_15_2, gf_15_3, rcv_15, rcO_15, gf_18_0, sf_18_0, gf_18_1, sf_18_1, gf_18_2, gf_18_3, gf_18_4, gf_18_5, sf_18_5, gf_18_6, sf_18_6, gf_18_7, sf_18_7, gf_18_8, sf_18_8, rcv_18, rcO_18, gf_24_0, gf_24_1, gf_24_2, sf_24_2, rcv_24, rcO_24, gf_28_0, gf_28_1, gf_28_2, gf_28_3, sf_28_3, gf_28_4, gf_28_5, sf_28_5, gf_28_6, sf_28_6, gf_28_7, gf_28_8, gf_28_9, gf_28_10, gf_28_11, gf_28_12, gf_28_13, sf_28_13, gf_28_14, sf_28_14, gf_28_15, sf_28_15, gf_28_16, sf_28_16, gf_28_17, sf_28_17, gf_28_18, sf_28_18, gf_28_19, gf_28_20, gf_28_21, gf_28_22, gf_28_23, gf_28_24, sf_28_24, gf_28_25, rcv_28, rcO_28, aI_2, aW_2, sI_2, aI_3, aW_3, sI_3, aI_4, aW_4, sI_4, aI_5, aW_5, sI_5, aI_7, aW_7, sI_7, aI_8, aW_8, sI_8, aI_13, aW_13, sI_13, aI_14, aW_14, sI_14, aI_16, aW_16, sI_16, aI_17, aW_17, sI_17, aI_21, aW_21, sI_21, aI_22, aW_22, sI_22, aI_23, aW_23, sI_23, aI_25, aW_25, sI_25, aI_26, aW_26, sI_26, aI_29, aW_29, sI_29, aI_31, aW_31, sI_31, aI_32, aW_32, sI_32, aI_33, aW_33, sI_33, aI_34, aW_34, sI_34, aI_35, aW_35, sI_35, aI_36, aW_36, sI_36, aI_37, aW_37, sI_37, aI_38, aW_38, sI_38, aI_41, aW_41, sI_41, aI_42, aW_42, sI_42, aI_43, aW_43, sI_43, aL_19, sL_19, aL_20, sL_20, aL_27, sL_27, aL_39, sL_39, aL_40, sL_40, aL_44, sL_44, aB_30, aZ_30, sZ_30, aQ_10, aQ_11, sQ_10, f6, t8, t9, e1, e2, i1, z1, true_implies, false_implies, not_true_eq_false, not_false_eq_true, and_self, true_and, and_true]
      · simp only [s56_0, s56_1, s56_4, s56_5, s56_8, s56_9, s56_12, s56_13, s56_16, s56_17, s56_20, s56_21, s56_24, s56_26, s56_29, s56_30, s56_31, s56_31n, s56_32, s56_33, s56_34, s56_37, s56_38, s56_39, zb0, zb1, ob_some, tl_s, tl_n, nk_i, nk_r, nk_n, nk_0, pk_us, pk_un, va_up_self, va_up_ne, ne_eq, Nat.reduceEqDiff, not_false_eq_true, true_and, and_true, eq_self, z11, z00, bI_z, gf_0_0, gf_0_1, gf_0_2, gf_0_3, gf_0_4, gf_0_5, gf_0_6, rcv_0, rcO_0, gf_1_0, gf_1_1, sf_1_1, gf_1_2, gf_1_3, gf_1_4, gf_1_5, sf_1_5, gf_1_6, sf_1_6, gf_1_7, sf_1_7, gf_1_8, sf_1_8, gf_1_9, sf_1_9, gf_1_10, sf_1_10, gf_1_11, sf_1_11, rcv_1, rcO_1, gf_6_0, sf_6_0, gf_6_1, sf_6_1, gf_6_2, sf_6_2, gf_6_3, sf_6_3, gf_6_4, gf_6_5, rcv_6, rcO_6, gf_9_0, gf_9_1, sf_9_1, rcv_9, rcO_9, gf_12_0, sf_12_0, gf_12_1, sf_12_1, gf_12_2, gf_12_3, rcv_12, rcO_12, gf_15_0, sf_15_0, gf_15_1, sf_15_1, gf_15_2, gf_15_3, rcv_15, rcO_15, gf_18_0, sf_18_0, gf_18_1, sf_18_1, gf_18_2, gf_18_3, gf_18_4, gf_18_5, sf_18_5, gf_18_6, sf_18_6, gf_18_7, sf_18_7, gf_18_8, sf_18_8, rcv_18, rcO_18, gf_24_0, gf_24_1, gf_24_2, sf_24_2, rcv_24, rcO_24, gf_28_0, gf_28_1, gf_28_2, gf_28_3, sf_28_3, gf_28_4, gf_28_5, sf_28_5, gf_28_6, sf_28_6, gf_28_7, gf_28_8, gf_28_9, gf_28_10, gf_28_11, gf_28_12, gf_28_13, sf_28_13, gf_28_14, sf_28_14, gf_28_15, sf_28_15, gf_28_16, sf_28_16, gf_28_17, sf_28_17, gf_28_18, sf_28_18, gf_28_19, gf_28_20, gf_28_21, gf_28_22, gf_28_23, gf_28_24, sf_28_24, gf_28_25, rcv_28, rcO_28, aI_2, aW_2, sI_2, aI_3, aW_3, sI_3, aI_4, aW_4, sI_4, aI_5, aW_5, sI_5, aI_7, aW_7, sI_7, aI_8, aW_8, sI_8, aI_13, aW_13, sI_13, aI_14, aW_14, sI_14, aI_16, aW_16, sI_16, aI_17, aW_17, sI_17, aI_21, aW_21, sI_21, aI_22, aW_22, sI_22, aI_23, aW_23, sI_23, aI_25, aW_25, sI_25, aI_26, aW_26, sI_26, aI_29, aW_29, sI_29, aI_31, aW_31, sI_31, aI_32, aW_32, sI_32, aI_33, aW_33, sI_33, aI_34, aW_34, sI_34, aI_35, aW_35, sI_35, aI_36, aW_36, sI_36, aI_37, aW_37, sI_37, aI_38, aW_38, sI_38, aI_41, aW_41, sI_41, aI_42, aW_42, sI_42, aI_43, aW_43, sI_43, aL_19, sL_19, aL_20, sL_20, aL_27, sL_27, aL_39, sL_39, aL_40, sL_40, aL_44, sL_44, aB_30, aZ_30, sZ_30, aQ_10, aQ_11, sQ_10, f6, t8, t9, e1, e2, i1, z1, true_implies, false_implies, not_true_eq_false, not_false_eq_true, and_self, true_and, and_true]
    · cases hv
  · intro X d K
    subst hy hx
    rw [e56]
    by_cases h2 : tk t L (tB t L p) = 2
    · have t8 : c2 108 = 2 := by rw [f4, h2]; rfl
      have q1 : tB t L p < L := by
        unfold tk at h2
        split at h2
        · next q => exact q
        · cases h2
      have q2 : inR t 48 57 (tB t L p) = true := by
        unfold tk at h2
        rw [if_pos q1] at h2
        split at h2
        · cases h2
        · split at h2
          · next q => exact q
          · cases h2
      by_cases q3 : tE t L (tB t L p) - tB t L p ≤ 2
      · have t9 : c2 109 = nI (nvF t (tE t L (tB t L p) - tB t L p) (tB t L p) 0) := by
          rw [f5 q1]
          unfold tv
          rw [WD_no (L := L) q2, q2]
          simp only [if_true, if_false, Bool.false_eq_true, q3]
        have hvb : nvF t (tE t L (tB t L p) - tB t L p) (tB t L p) 0 < 1000 := by
          have hm : ∀ j, tB t L p ≤ j → j < tE t L (tB t L p) → t j ≤ 57 := by
            intro j h1 h3
            have hT : tE t L (tB t L p) = rE (inR t 48 57) L (tB t L p) := by unfold tE; rw [if_pos q1, WD_no (L := L) q2, q2]; rfl
            rw [hT] at h3
            have := (tE_dig (t := t) _ _ j h1 h3).2
            unfold inR at this
            simp only [Bool.and_eq_true, decide_eq_true_eq] at this
            exact this.2
          have hge := tE_ge (t := t) (L := L) (q := tB t L p)
          have h3 : tE t L (tB t L p) - tB t L p = 0 ∨ tE t L (tB t L p) - tB t L p = 1 ∨ tE t L (tB t L p) - tB t L p = 2 := by omega
          rcases h3 with h3 | h3 | h3
          · rw [h3]; show 0 < 1000; omega
          · rw [h3]
            have := hm (tB t L p) (by omega) (by omega)
            show 0 * 10 + t (tB t L p) - 48 < 1000
            omega
          · rw [h3]
            have a1 := hm (tB t L p) (by omega) (by omega)
            have a2 := hm (tB t L p + 1) (by omega) (by omega)
            show (0 * 10 + t (tB t L p) - 48) * 10 + t (tB t L p + 1) - 48 < 1000
            omega
        by_cases q4 : lo ≤ nvF t (tE t L (tB t L p) - tB t L p) (tB t L p) 0
        · have e1 : ¬ nI (nvF t (tE t L (tB t L p) - tB t L p) (tB t L p) 0) < nI lo := nI_nlt q4 (by omega)
          have e2 : ¬ nI (nvF t (tE t L (tB t L p) - tB t L p) (tB t L p) 0) ≤ nI hi - 1 := by
            rw [le_pred hvb (by omega)]
            intro q5
            unfold rd at hv
            rw [if_pos ⟨q1, q2, q3, q4, q5⟩] at hv
            cases hv
          simp only [s56_0, s56_1, s56_4, s56_5, s56_8, s56_9, s56_12, s56_13, s56_16, s56_17, s56_20, s56_21, s56_24, s56_26, s56_29, s56_30, s56_31, s56_31n, s56_32, s56_33, s56_34, s56_37, s56_38, s56_39, zb0, zb1, ob_some, tl_s, tl_n, nk_i, nk_r, nk_n, nk_0, pk_us, pk_un, va_up_self, va_up_ne, ne_eq, Nat.reduceEqDiff, not_false_eq_true, true_and, and_true, eq_self, z11, z00, bI_z, gf_0_0, gf_0_1, gf_0_2, gf_0_3, gf_0_4, gf_0_5, gf_0_6, rcv_0, rcO_0, gf_1_0, gf_1_1, sf_1_1, gf_1_2, gf_1_3, gf_1_4, gf_1_5, sf_1_5, gf_1_6, sf_1_6, gf_1_7, sf_1_7, gf_1_8, sf_1_8, gf_1_9, sf_1_9, gf_1_10, sf_1_10, gf_1_11, sf_1_11, rcv_1, rcO_1, gf_6_0, sf_6_0, gf_6_1, sf_6_1, gf_6_2, sf_6_2, gf_6_3, sf_6_3, gf_6_4, gf_6_5, rcv_6, rcO_6, gf_9_0, gf_9_1, sf_9_1, rcv_9, rcO_9, gf_12_0, sf_12_0, gf_12_1, sf_12_1, gf_12_2, gf_12_3, rcv_12, rcO_12, gf_15_0, sf_15_0, gf_15_1, sf_15_1, gf_15_2, gf_15_3, rcv_15, rcO_15, gf_18_0, sf_18_0, gf_18_1, sf_18_1, gf_18_2, gf_18_3, gf_18_4, gf_18_5, sf_18_5, gf_18_6, sf_18_6, gf_18_7, sf_18_7, gf_18_8, sf_18_8, rcv_18, rcO_18, gf_24_0, gf_24_1, gf_24_2, sf_24_2, rcv_24, rcO_24, gf_28_0, gf_28_1, gf_28_2, gf_28_3, sf_28_3, gf_28_4, gf_28_5, sf_28_5, gf_28_6, sf_28_6, gf_28_7, gf_28_8, gf_28_9, gf_28_10, gf_28_11, gf_28_12, gf_28_13, sf_28_13, gf_28_14, sf_28_14, gf_28_15, sf_28_15, gf_28_16, sf_28_16, gf_28_17, sf_28_17, gf_28_18, sf_28_18, gf_28_19, gf_28_20, gf_28_21, gf_28_22, gf_28_23, gf_28_24, sf_28_24, gf_28_25, rcv_28, rcO_28, aI_2, aW_2, sI_2, aI_3, aW_3, sI_3, aI_4, aW_4, sI_4, aI_5, aW_5, sI_5, aI_7, aW_7, sI_7, aI_8, aW_8, sI_8, aI_13, aW_13, sI_13, aI_14, aW_14, sI_14, aI_16, aW_16, sI_16, aI_17, aW_17, sI_17, aI_21, aW_21, sI_21, aI_22, aW_22, sI_22, aI_23, aW_23, sI_23, aI_25, aW_25, sI_25, aI_26, aW_26, sI_26, aI_29, aW_29, sI_29, aI_31, aW_31, sI_31, aI_32, aW_32, sI_32, aI_33, aW_33, sI_33, aI_34, aW_34, sI_34, aI_35, aW_35, sI_35, aI_36, aW_36, sI_36, aI_37, aW_37, sI_37, aI_38, aW_38, sI_38, aI_41, aW_41, sI_41, aI_42, aW_42, sI_42, aI_43, aW_43, sI_43, aL_19, sL_19, aL_20, sL_20, aL_27, sL_27, aL_39, sL_39, aL_40, sL_40, aL_44, sL_44, aB_30, aZ_30, sZ_30, aQ_10, aQ_11, sQ_10, f6, t8, t9, e1, e2, true_implies, false_implies, not_true_eq_false, not_false_eq_true, and_self, true_and, and_true]
        · have e1 : nI (nvF t (tE t L (tB t L p) - tB t L p) (tB t L p) 0) < nI lo := nI_lt (by omega) (by omega)
          simp only [s56_0, s56_1, s56_4, s56_5, s56_8, s56_9, s56_12, s56_13, s56_16, s56_17, s56_20, s56_21, s56_24, s56_26, s56_29, s56_30, s56_31, s56_31n, s56_32, s56_33, s56_34, s56_37, s56_38, s56_39, zb0, zb1, ob_some, tl_s, tl_n, nk_i, nk_r, nk_n, nk_0, pk_us, pk_un, va_up_self, va_up_ne, ne_eq, Nat.reduceEqDiff, not_false_eq_true, true_and, and_true, eq_self, z11, z00, bI_z, gf_0_0, gf_0_1, gf_0_2, gf_0_3, gf_0_4, gf_0_5, gf_0_6, rcv_0, rcO_0, gf_1_0, gf_1_1, sf_1_1, gf_1_2, gf_1_3, gf_1_4, gf_1_5, sf_1_5, gf_1_6, sf_1_6, gf_1_7, sf_1_7, gf_1_8, sf_1_8, gf_1_9, sf_1_9, gf_1_10, sf_1_10, gf_1_11, sf_1_11, rcv_1, rcO_1, gf_6_0, sf_6_0, gf_6_1, sf_6_1, gf_6_2, sf_6_2, gf_6_3, sf_6_3, gf_6_4, gf_6_5, rcv_6, rcO_6, gf_9_0, gf_9_1, sf_9_1, rcv_9, rcO_9, gf_12_0, sf_12_0, gf_12_1, sf_12_1, gf_12_2, gf_12_3, rcv_12, rcO_12, gf_15_0, sf_15_0, gf_15_1, sf_15_1, gf_15_2, gf_15_3, rcv_15, rcO_15, gf_18_0, sf_18_0, gf_18_1, sf_18_1, gf_18_2, gf_18_3, gf_18_4, gf_18_5, sf_18_5, gf_18_6, sf_18_6, gf_18_7, sf_18_7, gf_18_8, sf_18_8, rcv_18, rcO_18, gf_24_0, gf_24_1, gf_24_2, sf_24_2, rcv_24, rcO_24, gf_28_0, gf_28_1, gf_28_2, gf_28_3, sf_28_3, gf_28_4, gf_28_5, sf_28_5, gf_28_6, sf_28_6, gf_28_7, gf_28_8, gf_28_9, gf_28_10, gf_28_11, gf_28_12, gf_28_13, sf_28_13, gf_28_14, sf_28_14, gf_28_15, sf_28_15, gf_28_16, sf_28_16, gf_28_17, sf_28_17, gf_28_18, sf_28_18, gf_28_19, gf_28_20, gf_28_21, gf_28_22, gf_28_23, gf_28_24, sf_28_24, gf_28_25, rcv_28, rcO_28, aI_2, aW_2, sI_2, aI_3, aW_3, sI_3, aI_4, aW_4, sI_4, aI_5, aW_5, sI_5, aI_7, aW_7, sI_7, aI_8, aW_8, sI_8, aI_13, aW_13, sI_13, aI_14, aW_14, sI_14, aI_16, aW_16, sI_16, aI_17, aW_17, sI_17, aI_21, aW_21, sI_21, aI_22, aW_22, sI_22, aI_23, aW_23, sI_23, aI_25, aW_25, sI_25, aI_26, aW_26, sI_26, aI_29, aW_29, sI_29, aI_31, aW_31, sI_31, aI_32, aW_32, sI_32, aI_33, aW_33, sI_33, aI_34, aW_34, sI_34, aI_35, aW_35, sI_35, aI_36, aW_36, sI_36, aI_37, aW_37, sI_37, aI_38, aW_38, sI_38, aI_41, aW_41, sI_41, aI_42, aW_42, sI_42, aI_43, aW_43, sI_43, aL_19, sL_19, aL_20, sL_20, aL_27, sL_27, aL_39, sL_39, aL_40, sL_40, aL_44, sL_44, aB_30, aZ_30, sZ_30, aQ_10, aQ_11, sQ_10, f6, t8, t9, e1, true_implies, false_implies, not_true_eq_false, not_false_eq_true, and_self, true_and, and_true]
      · have t9 : c2 109 = -1 := by
          rw [f5 q1]
          unfold tv
          rw [WD_no (L := L) q2, q2]
          simp only [if_true, if_false, Bool.false_eq_true, q3]
        have e1 := m1_lt (lo := lo) (by omega)
        simp only [s56_0, s56_1, s56_4, s56_5, s56_8, s56_9, s56_12, s56_13, s56_16, s56_17, s56_20, s56_21, s56_24, s56_26, s56_29, s56_30, s56_31, s56_31n, s56_32, s56_33, s56_34, s56_37, s56_38, s56_39, zb0, zb1, ob_some, tl_s, tl_n, nk_i, nk_r, nk_n, nk_0, pk_us, pk_un, va_up_self, va_up_ne, ne_eq, Nat.reduceEqDiff, not_false_eq_true, true_and, and_true, eq_self, z11, z00, bI_z, gf_0_0, gf_0_1, gf_0_2, gf_0_3, gf_0_4, gf_0_5, gf_0_6, rcv_0, rcO_0, gf_1_0, gf_1_1, sf_1_1, gf_1_2, gf_1_3, gf_1_4, gf_1_5, sf_1_5, gf_1_6, sf_1_6, gf_1_7, sf_1_7, gf_1_8, sf_1_8, gf_1_9, sf_1_9, gf_1_10, sf_1_10, gf_1_11, sf_1_11, rcv_1, rcO_1, gf_6_0, sf_6_0, gf_6_1, sf_6_1, gf_6_2, sf_6_2, gf_6_3, sf_6_3, gf_6_4, gf_6_5, rcv_6, rcO_6, gf_9_0, gf_9_1, sf_9_1, rcv_9, rcO_9, gf_12_0, sf_12_0, gf_12_1, sf_12_1, gf_12_2, gf_12_3, rcv_12, rcO_12, gf_15_0, sf_15_0, gf_15_1, sf_15_1, gf_15_2, gf_15_3, rcv_15, rcO_15, gf_18_0, sf_18_0, gf_18_1, sf_18_1, gf_18_2, gf_18_3, gf_18_4, gf_18_5, sf_18_5, gf_18_6, sf_18_6, gf_18_7, sf_18_7, gf_18_8, sf_18_8, rcv_18, rcO_18, gf_24_0, gf_24_1, gf_24_2, sf_24_2, rcv_24, rcO_24, gf_28_0, gf_28_1, gf_28_2, gf_28_3, sf_28_3, gf_28_4, gf_28_5, sf_28_5, gf_28_6, sf_28_6, gf_28_7, gf_28_8, gf_28_9, gf_28_10, gf_28_11, gf_28_12, gf_28_13, sf_28_13, gf_28_14, sf_28_14, gf_28_15, sf_28_15, gf_28_16, sf_28_16, gf_28_17, sf_28_17, gf_28_18, sf_28_18, gf_28_19, gf_28_20, gf_28_21, gf_28_22, gf_28_23, gf_28_24, sf_28_24, gf_28_25, rcv_28, rcO_28, aI_2, aW_2, sI_2, aI_3, aW_3, sI_3, aI_4, aW_4, sI_4, aI_5, aW_5, sI_5, aI_7, aW_7, sI_7, aI_8, aW_8, sI_8, aI_13, aW_13, sI_13, aI_14, aW_14, sI_14, aI_16, aW_16, sI_16, aI_17, aW_17, sI_17, aI_21, aW_21, sI_21, aI_22, aW_22, sI_22, aI_23, aW_23, sI_23, aI_25, aW_25, sI_25, aI_26, aW_26, sI_26, aI_29, aW_29, sI_29, aI_31, aW_31, sI_31, aI_32, aW_32, sI_32, aI_33, aW_33, sI_33, aI_34, aW_34, sI_34, aI_35, aW_35, sI_35, aI_36, aW_36, sI_36, aI_37, aW_37, sI_37, aI_38, aW_38, sI_38, aI_41, aW_41, sI_41, aI_42, aW_42, sI_42, aI_43, aW_43, sI_43, aL_19, sL_19, aL_20, sL_20, aL_27, sL_27, aL_39, sL_39, aL_40, sL_40, aL_44, sL_44, aB_30, aZ_30, sZ_30, aQ_10, aQ_11, sQ_10, f6, t8, t9, e1, true_implies, false_implies, not_true_eq_false, not_false_eq_true, and_self, true_and, and_true]
    · have t8 : ¬ c2 108 = 2 := by
        rw [f4]
        intro q
        exact h2 ((nI_eq (b := 2) (by unfold tk; split; split; omega; split; omega; omega; omega) (by omega)).mp q)
      simp only [s56_0, s56_1, s56_4, s56_5, s56_8, s56_9, s56_12, s56_13, s56_16, s56_17, s56_20, s56_21, s56_24, s56_26, s56_29, s56_30, s56_31, s56_31n, s56_32, s56_33, s56_34, s56_37, s56_38, s56_39, zb0, zb1, ob_some, tl_s, tl_n, nk_i, nk_r, nk_n, nk_0, pk_us, pk_un, va_up_self, va_up_ne, ne_eq, Nat.reduceEqDiff, not_false_eq_true, true_and, and_true, eq_self, z11, z00, bI_z, gf_0_0, gf_0_1, gf_0_2, gf_0_3, gf_0_4, gf_0_5, gf_0_6, rcv_0, rcO_0, gf_1_0, gf_1_1, sf_1_1, gf_1_2, gf_1_3, gf_1_4, gf_1_5, sf_1_5, gf_1_6, sf_1_6, gf_1_7, sf_1_7, gf_1_8, sf_1_8, gf_1_9, sf_1_9, gf_1_10, sf_1_10, gf_1_11, sf_1_11, rcv_1, rcO_1, gf_6_0, sf_6_0, gf_6_1, sf_6_1, gf_6_2, sf_6_2, gf_6_3, sf_6_3, gf_6_4, gf_6_5, rcv_6, rcO_6, gf_9_0, gf_9_1, sf_9_1, rcv_9, rcO_9, gf_12_0, sf_12_0, gf_12_1, sf_12_1, gf_12_2, gf_12_3, rcv_12, rcO_12, gf_15_0, sf_15_0, gf_15_1, sf_15_1, gf_15_2, gf_15_3, rcv_15, rcO_15, gf_18_0, sf_18_0, gf_18_1, sf_18_1, gf_18_2, gf_18_3, gf_18_4, gf_18_5, sf_18_5, gf_18_6, sf_18_6, gf_18_7, sf_18_7, gf_18_8, sf_18_8, rcv_18, rcO_18, gf_24_0, gf_24_1, gf_24_2, sf_24_2, rcv_24, rcO_24, gf_28_0, gf_28_1, gf_28_2, gf_28_3, sf_28_3, gf_28_4, gf_28_5, sf_28_5, gf_28_6, sf_28_6, gf_28_7, gf_28_8, gf_28_9, gf_28_10, gf_28_11, gf_28_12, gf_28_13, sf_28_13, gf_28_14, sf_28_14, gf_28_15, sf_28_15, gf_28_16, sf_28_16, gf_28_17, sf_28_17, gf_28_18, sf_28_18, gf_28_19, gf_28_20, gf_28_21, gf_28_22, gf_28_23, gf_28_24, sf_28_24, gf_28_25, rcv_28, rcO_28, aI_2, aW_2, sI_2, aI_3, aW_3, sI_3, aI_4, aW_4, sI_4, aI_5, aW_5, sI_5, aI_7, aW_7, sI_7, aI_8, aW_8, sI_8, aI_13, aW_13, sI_13, aI_14, aW_14, sI_14, aI_16, aW_16, sI_16, aI_17, aW_17, sI_17, aI_21, aW_21, sI_21, aI_22, aW_22, sI_22, aI_23, aW_23, sI_23, aI_25, aW_25, sI_25, aI_26, aW_26, sI_26, aI_29, aW_29, sI_29, aI_31, aW_31, sI_31, aI_32, aW_32, sI_32, aI_33, aW_33, sI_33, aI_34, aW_34, sI_34, aI_35, aW_35, sI_35, aI_36, aW_36, sI_36, aI_37, aW_37, sI_37, aI_38, aW_38, sI_38, aI_41, aW_41, sI_41, aI_42, aW_42, sI_42, aI_43, aW_43, sI_43, aL_19, sL_19, aL_20, sL_20, aL_27, sL_27, aL_39, sL_39, aL_40, sL_40, aL_44, sL_44, aB_30, aZ_30, sZ_30, aQ_10, aQ_11, sQ_10, f6, t8, true_implies, false_implies, not_true_eq_false, not_false_eq_true, and_self, true_and, and_true]
end LN
