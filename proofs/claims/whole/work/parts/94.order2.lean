/-! order -/
section OR
variable {N M H vn : Nat} {x : Int32} {ss st : Nat → Nat} {mk : Nat → Int32} {c : Nat → Int32} {w : Nat → Nat → Int64} {mb : Nat → Option Nat} {n1 n2 : Nat} {sh : List Nat} {F : Int32}
theorem m_upBy {r : Nat → Nat → Int32} (hM : M ≤ 5) (hx : ∀ i, M ≤ i → bt x i = false) (hN2 : cnt (bt x) 5 = N) (hc : c 2824 = nI N) (hH : H ≤ 20) (hc6 : c 2806 = nI H) (hv : vn < fct N) (hm : HM r N M x ss st mk) (hF : rfN r H 0 = F) : ∃ r2, (∀ q, q ≠ 29 → r2 q = r q) ∧ (∀ q, q < 75 → r2 29 q = r 29 q) ∧ ∀ X d K, Cl X (d + 5) 169 [.ref 28, .int (nI vn)] (G c r w mb n1 n2 sh) K = K (some (.int (nI (upC (pth H ss st mk) H (prC N x vn) F 0)))) (G c r2 w mb n1 n2 sh) := by
  obtain ⟨ra, hra⟩ : ∃ ra, va_up r 29 (fun q => if 25 * 3 ≤ q ∧ q < 25 * 3 + 25 then r 29 (25 * 0 + (q - 25 * 3)) else r 29 q) = ra := ⟨_, rfl⟩
  have ra1 : ∀ q, q ≠ 29 → ra q = r q := fun q hq => by rw [← hra]; exact if_neg hq
  have ra2 : ∀ q, q < 75 → ra 29 q = r 29 q := fun q hq => by rw [← hra]; exact if_neg (by omega)
  have ra3 : ∀ q, q < 25 → ra 29 (75 + q) = r 29 (0 + q) := fun q hq => by
    rw [← hra]
    show (if 25 * 3 ≤ 75 + q ∧ 75 + q < 25 * 3 + 25 then r 29 (25 * 0 + (75 + q - 25 * 3)) else r 29 (75 + q)) = _
    rw [if_pos (by omega), show 25 * 0 + (75 + q - 25 * 3) = 0 + q by omega]
  have hFa : rfN ra H 75 = F := by
    rw [← hF]
    apply b_ext
    intro k hk
    rw [bt_rfN hH hk, bt_rfN hH hk]
    rcases Nat.lt_or_ge k H with q | q
    · unfold thF spF
      rw [ra1 33 (by decide), ra3 k (by omega)]
    · rw [decide_eq_false (show ¬ k < H by omega)]
      rfl
  have hlen := prC_len N x vn
  obtain ⟨r2, f1, f2, f3⟩ := up_loop (w := w) (mb := mb) (n1 := n1) (n2 := n2) (sh := sh) hM hx hN2 hc hH hc6 hv (prC N x vn) 0 ra F 0 (by omega) (fun q _ => by rw [Nat.zero_add]) (hm.cg ra1) hFa
  refine ⟨r2, fun q hq => (f1 q hq).trans (ra1 q hq), fun q hq => (f2 q hq).trans (ra2 q hq), fun X d K => ?_⟩
  have hcp : ∀ K, Cl X (d + 4) 150 [.ref 28, .int 0, .int 3] (G c r w mb n1 n2 sh) K = K none (G c ra w mb n1 n2 sh) := fun K => by
    rw [← hra]
    exact c_copy0 (t := 3) (by omega) (by omega)
  rw [e169]
  simp only [s169_0, s169_1, s169_2, s169_3, s169_6, s169_7, s169_8, s169_9, s169_11, s169_12, s169_15, s169_18, s169_19, s169_20, s169_21, s169_24, s169_26, s169_27, s169_30, s169_32, s169_34, s169_35, s169_36, s169_37, s169_38, s169_40, s169_42, s169_45, s169_46, s169_47, s169_50, s169_52, s169_54, s169_55, s169_56, s169_57, s169_60, s169_63, s169_64, s169_67, s169_68, s169_69, s169_70, s169_73, s169_76, s169_77, zb0, zb1, ob_some, tl_s, tl_n, nk_i, nk_r, nk_n, nk_0, pk_us, pk_un, va_up_self, va_up_ne, ne_eq, Nat.reduceEqDiff, not_false_eq_true, true_and, and_true, eq_self, z11, z00, bI_z, gf_0_0, gf_0_1, gf_0_2, gf_0_3, gf_0_4, gf_0_5, gf_0_6, rcv_0, rcO_0, gf_1_0, gf_1_1, sf_1_1, gf_1_2, gf_1_3, gf_1_4, gf_1_5, sf_1_5, gf_1_6, sf_1_6, gf_1_7, sf_1_7, gf_1_8, sf_1_8, gf_1_9, sf_1_9, gf_1_10, sf_1_10, gf_1_11, sf_1_11, rcv_1, rcO_1, gf_6_0, sf_6_0, gf_6_1, sf_6_1, gf_6_2, sf_6_2, gf_6_3, sf_6_3, gf_6_4, gf_6_5, rcv_6, rcO_6, gf_9_0, gf_9_1, sf_9_1, rcv_9, rcO_9, gf_12_0, sf_12_0, gf_12_1, sf_12_1, gf_12_2, gf_12_3, rcv_12, rcO_12, gf_15_0, sf_15_0, gf_15_1, sf_15_1, gf_15_2, gf_15_3, rcv_15, rcO_15, gf_18_0, sf_18_0, gf_18_1, sf_18_1, gf_18_2, gf_18_3, gf_18_4, gf_18_5, sf_18_5, gf_18_6, sf_18_6, gf_18_7, sf_18_7, gf_18_8, sf_18_8, rcv_18, rcO_18, gf_24_0, gf_24_1, gf_24_2, sf_24_2, rcv_24, rcO_24, gf_28_0, gf_28_1, gf_28_2, gf_28_3, sf_28_3, gf_28_4, gf_28_5, sf_28_5, gf_28_6, sf_28_6, gf_28_7, gf_28_8, gf_28_9, gf_28_10, gf_28_11, gf_28_12, gf_28_13, sf_28_13, gf_28_14, sf_28_14, gf_28_15, sf_28_15, gf_28_16, sf_28_16, gf_28_17, sf_28_17, gf_28_18, sf_28_18, gf_28_19, gf_28_20, gf_28_21, gf_28_22, gf_28_23, gf_28_24, sf_28_24, gf_28_25, rcv_28, rcO_28, aI_2, aW_2, sI_2, aI_3, aW_3, sI_3, aI_4, aW_4, sI_4, aI_5, aW_5, sI_5, aI_7, aW_7, sI_7, aI_8, aW_8, sI_8, aI_13, aW_13, sI_13, aI_14, aW_14, sI_14, aI_16, aW_16, sI_16, aI_17, aW_17, sI_17, aI_21, aW_21, sI_21, aI_22, aW_22, sI_22, aI_23, aW_23, sI_23, aI_25, aW_25, sI_25, aI_26, aW_26, sI_26, aI_29, aW_29, sI_29, aI_31, aW_31, sI_31, aI_32, aW_32, sI_32, aI_33, aW_33, sI_33, aI_34, aW_34, sI_34, aI_35, aW_35, sI_35, aI_36, aW_36, sI_36, aI_37, aW_37, sI_37, aI_38, aW_38, sI_38, aI_41, aW_41, sI_41, aI_42, aW_42, sI_42, aI_43, aW_43, sI_43, aL_19, sL_19, aL_20, sL_20, aL_27, sL_27, aL_39, sL_39, aL_40, sL_40, aL_44, sL_44, aB_30, aZ_30, sZ_30, aQ_10, aQ_11, sQ_10, hcp]
  exact f3 X d K none
def ordF (N : Nat) (x F : Int32) (H : Nat) (ss st : Nat → Nat) (mk : Nat → Int32) (v : Nat) : Int32 × List Nat := (nI (upC (pth H ss st mk) H (prC N x v) F 0), [] ++ prC N x v)
theorem nI_nle1 {n : Nat} (h : n < 2 ^ 31) : ¬ nI n ≤ -1 := fun q => by
  have := Int32.le_iff_toInt_le.mp q
  rw [nI_toInt h] at this
  have e : (-1 : Int32).toInt = -1 := rfl
  omega
theorem ord_ne (hN : N ≤ 5) : ∀ {m : Nat} {a : Int32 × List Nat}, 0 < m → ¬ (bf (ordF N x F H ss st mk) m a).1 = -1
  | 0, _, h => absurd h (Nat.lt_irrefl 0)
  | m + 1, a, _ => by
    have h1 := upC_le (pt := pth H ss st mk) (H := H) (prC N x m) F 0
    have h2 := prC_len N x m
    show ¬ (if (ordF N x F H ss st mk m).1 ≤ (bf (ordF N x F H ss st mk) m a).1 then bf (ordF N x F H ss st mk) m a else ordF N x F H ss st mk m).1 = -1
    split
    · next h =>
      intro q
      rw [q] at h
      exact nI_nle1 (by omega) h
    · exact nI_nm1 (show upC (pth H ss st mk) H (prC N x m) F 0 < 2 ^ 31 by omega)
theorem all_loop {X : XS} {d : Nat} {Q : Option Value → AH → Prop} {r : Nat → Nat → Int32} {y : Int32} (hN : N ≤ 5) (hc : c 2824 = nI N) : ∀ q t, 1 ≤ t → t + q = max 1 N → Wp X d 168 29 [some (.ref 28), some (.int x), some (.int y), some (.int (nI (fct t))), some (.int (nI (t + 1))), none, none, none] [] (G c r w mb n1 n2 sh) Q = Wp X d 168 58 [some (.ref 28), some (.int x), some (.int y), some (.int (nI (fct N))), some (.int (-1)), some (.int 0), some (.int 0), none] [] (G c r w mb n1 n2 sh) Q := by
  intro q
  induction q with
  | zero =>
    intro t ht hq
    have e : nI N < nI (t + 1) := nI_lt (by omega) (by omega)
    have ef : fct t = fct N := by
      by_cases h1 : N = 0
      · subst h1
        obtain rfl : t = 1 := by omega
        rfl
      · congr 1; omega
    rw [s168_29]
    simp only [s168_0, s168_1, s168_2, s168_5, s168_8, s168_10, s168_11, s168_12, s168_13, s168_16, s168_18, s168_19, s168_20, s168_21, s168_24, s168_25, s168_26, s168_27, s168_31, s168_32, s168_35, s168_38, s168_39, s168_41, s168_42, s168_43, s168_46, s168_49, s168_50, s168_52, s168_53, s168_55, s168_56, s168_60, s168_61, s168_64, s168_65, s168_67, s168_70, s168_72, s168_74, s168_76, s168_79, s168_81, s168_84, s168_86, s168_88, s168_90, s168_92, s168_95, s168_97, s168_100, s168_102, s168_104, s168_107, s168_110, s168_111, s168_112, s168_115, s168_117, s168_120, s168_121, s168_122, s168_125, s168_128, s168_129, s168_131, s168_132, s168_135, s168_138, s168_139, zb0, zb1, ob_some, tl_s, tl_n, nk_i, nk_r, nk_n, nk_0, pk_us, pk_un, va_up_self, va_up_ne, ne_eq, Nat.reduceEqDiff, not_false_eq_true, true_and, and_true, eq_self, z11, z00, bI_z, gf_0_0, gf_0_1, gf_0_2, gf_0_3, gf_0_4, gf_0_5, gf_0_6, rcv_0, rcO_0, gf_1_0, gf_1_1, sf_1_1, gf_1_2, gf_1_3, gf_1_4, gf_1_5, sf_1_5, gf_1_6, sf_1_6, gf_1_7, sf_1_7, gf_1_8, sf_1_8, gf_1_9, sf_1_9, gf_1_10, sf_1_10, gf_1_11, sf_1_11, rcv_1, rcO_1, gf_6_0, sf_6_0, gf_6_1, sf_6_1, gf_6_2, sf_6_2, gf_6_3, sf_6_3, gf_6_4, gf_6_5, rcv_6, rcO_6, gf_9_0, gf_9_1, sf_9_1, rcv_9, rcO_9, gf_12_0, sf_12_0, gf_12_1, sf_12_1, gf_12_2, gf_12_3, rcv_12, rcO_12, gf_15_0, sf_15_0, gf_15_1, sf_15_1, gf_15_2, gf_15_3, rcv_15, rcO_15, gf_18_0, sf_18_0, gf_18_1, sf_18_1, gf_18_2, gf_18_3, gf_18_4, gf_18_5, sf_18_5, gf_18_6, sf_18_6, gf_18_7, sf_18_7, gf_18_8, sf_18_8, rcv_18, rcO_18, gf_24_0, gf_24_1, gf_24_2, sf_24_2, rcv_24, rcO_24, gf_28_0, gf_28_1, gf_28_2, gf_28_3, sf_28_3, gf_28_4, gf_28_5, sf_28_5, gf_28_6, sf_28_6, gf_28_7, gf_28_8, gf_28_9, gf_28_10, gf_28_11, gf_28_12, gf_28_13, sf_28_13, gf_28_14, sf_28_14, gf_28_15, sf_28_15, gf_28_16, sf_28_16, gf_28_17, sf_28_17, gf_28_18, sf_28_18, gf_28_19, gf_28_20, gf_28_21, gf_28_22, gf_28_23, gf_28_24, sf_28_24, gf_28_25, rcv_28, rcO_28, aI_2, aW_2, sI_2, aI_3, aW_3, sI_3, aI_4, aW_4, sI_4, aI_5, aW_5, sI_5, aI_7, aW_7, sI_7, aI_8, aW_8, sI_8, aI_13, aW_13, sI_13, aI_14, aW_14, sI_14, aI_16, aW_16, sI_16, aI_17, aW_17, sI_17, aI_21, aW_21, sI_21, aI_22, aW_22, sI_22, aI_23, aW_23, sI_23, aI_25, aW_25, sI_25, aI_26, aW_26, sI_26, aI_29, aW_29, sI_29, aI_31, aW_31, sI_31, aI_32, aW_32, sI_32, aI_33, aW_33, sI_33, aI_34, aW_34, sI_34, aI_35, aW_35, sI_35, aI_36, aW_36, sI_36, aI_37, aW_37, sI_37, aI_38, aW_38, sI_38, aI_41, aW_41, sI_41, aI_42, aW_42, sI_42, aI_43, aW_43, sI_43, aL_19, sL_19, aL_20, sL_20, aL_27, sL_27, aL_39, sL_39, aL_40, sL_40, aL_44, sL_44, aB_30, aZ_30, sZ_30, aQ_10, aQ_11, sQ_10, hc, e, ef, true_implies, false_implies, not_true_eq_false, not_false_eq_true, and_self, true_and, and_true]
  | succ q ih =>
    intro t ht hq
    have e : ¬ nI N < nI (t + 1) := nI_nlt (by omega) (by omega)
    have em : nI (fct t) * nI (t + 1) = nI (fct (t + 1)) := by
      rw [nI_mul, Nat.mul_comm]
      rfl
    rw [s168_29]
    simp only [s168_0, s168_1, s168_2, s168_5, s168_8, s168_10, s168_11, s168_12, s168_13, s168_16, s168_18, s168_19, s168_20, s168_21, s168_24, s168_25, s168_26, s168_27, s168_31, s168_32, s168_35, s168_38, s168_39, s168_41, s168_42, s168_43, s168_46, s168_49, s168_50, s168_52, s168_53, s168_55, s168_56, s168_60, s168_61, s168_64, s168_65, s168_67, s168_70, s168_72, s168_74, s168_76, s168_79, s168_81, s168_84, s168_86, s168_88, s168_90, s168_92, s168_95, s168_97, s168_100, s168_102, s168_104, s168_107, s168_110, s168_111, s168_112, s168_115, s168_117, s168_120, s168_121, s168_122, s168_125, s168_128, s168_129, s168_131, s168_132, s168_135, s168_138, s168_139, zb0, zb1, ob_some, tl_s, tl_n, nk_i, nk_r, nk_n, nk_0, pk_us, pk_un, va_up_self, va_up_ne, ne_eq, Nat.reduceEqDiff, not_false_eq_true, true_and, and_true, eq_self, z11, z00, bI_z, gf_0_0, gf_0_1, gf_0_2, gf_0_3, gf_0_4, gf_0_5, gf_0_6, rcv_0, rcO_0, gf_1_0, gf_1_1, sf_1_1, gf_1_2, gf_1_3, gf_1_4, gf_1_5, sf_1_5, gf_1_6, sf_1_6, gf_1_7, sf_1_7, gf_1_8, sf_1_8, gf_1_9, sf_1_9, gf_1_10, sf_1_10, gf_1_11, sf_1_11, rcv_1, rcO_1, gf_6_0, sf_6_0, gf_6_1, sf_6_1, gf_6_2, sf_6_2, gf_6_3, sf_6_3, gf_6_4, gf_6_5, rcv_6, rcO_6, gf_9_0, gf_9_1, sf_9_1, rcv_9, rcO_9, gf_12_0, sf_12_0, gf_12_1, sf_12_1, gf_12_2, gf_12_3, rcv_12, rcO_12, gf_15_0, sf_15_0, gf_15_1, sf_15_1, gf_15_2, gf_15_3, rcv_15, rcO_15, gf_18_0, sf_18_0, gf_18_1, sf_18_1, gf_18_2, gf_18_3, gf_18_4, gf_18_5, sf_18_5, gf_18_6, sf_18_6, gf_18_7, sf_18_7, gf_18_8, sf_18_8, rcv_18, rcO_18, gf_24_0, gf_24_1, gf_24_2, sf_24_2, rcv_24, rcO_24, gf_28_0, gf_28_1, gf_28_2, gf_28_3, sf_28_3, gf_28_4, gf_28_5, sf_28_5, gf_28_6, sf_28_6, gf_28_7, gf_28_8, gf_28_9, gf_28_10, gf_28_11, gf_28_12, gf_28_13, sf_28_13, gf_28_14, sf_28_14, gf_28_15, sf_28_15, gf_28_16, sf_28_16, gf_28_17, sf_28_17, gf_28_18, sf_28_18, gf_28_19, gf_28_20, gf_28_21, gf_28_22, gf_28_23, gf_28_24, sf_28_24, gf_28_25, rcv_28, rcO_28, aI_2, aW_2, sI_2, aI_3, aW_3, sI_3, aI_4, aW_4, sI_4, aI_5, aW_5, sI_5, aI_7, aW_7, sI_7, aI_8, aW_8, sI_8, aI_13, aW_13, sI_13, aI_14, aW_14, sI_14, aI_16, aW_16, sI_16, aI_17, aW_17, sI_17, aI_21, aW_21, sI_21, aI_22, aW_22, sI_22, aI_23, aW_23, sI_23, aI_25, aW_25, sI_25, aI_26, aW_26, sI_26, aI_29, aW_29, sI_29, aI_31, aW_31, sI_31, aI_32, aW_32, sI_32, aI_33, aW_33, sI_33, aI_34, aW_34, sI_34, aI_35, aW_35, sI_35, aI_36, aW_36, sI_36, aI_37, aW_37, sI_37, aI_38, aW_38, sI_38, aI_41, aW_41, sI_41, aI_42, aW_42, sI_42, aI_43, aW_43, sI_43, aL_19, sL_19, aL_20, sL_20, aL_27, sL_27, aL_39, sL_39, aL_40, sL_40, aL_44, sL_44, aB_30, aZ_30, sZ_30, aQ_10, aQ_11, sQ_10, hc, e, em, nI_1, true_implies, false_implies, not_true_eq_false, not_false_eq_true, and_self, true_and, and_true]
    exact ih (t + 1) (by omega) (by omega)
theorem ord_loop {y : Int32} (hM : M ≤ 5) (hx : ∀ i, M ≤ i → bt x i = false) (hN2 : cnt (bt x) 5 = N) (hc : c 2824 = nI N) (hH : H ≤ 20) (hc6 : c 2806 = nI H) : ∀ j v r vb, v + j = fct N → ((bf (ordF N x F H ss st mk) v (-1, [])).1 = -1 ∨ (vb < fct N ∧ (bf (ordF N x F H ss st mk) v (-1, [])).2 = prC N x vb)) → HM r N M x ss st mk → rfN r H 0 = F → ∃ r2 vb2, (∀ q, q ≠ 29 → r2 q = r q) ∧ (∀ q, q < 75 → r2 29 q = r 29 q) ∧ ((bf (ordF N x F H ss st mk) (fct N) (-1, [])).1 = -1 ∨ (vb2 < fct N ∧ (bf (ordF N x F H ss st mk) (fct N) (-1, [])).2 = prC N x vb2)) ∧ ∀ l7, ∃ l8, ∀ X d Q, Wp X (d + 6) 168 58 [some (.ref 28), some (.int x), some (.int y), some (.int (nI (fct N))), some (.int (bf (ordF N x F H ss st mk) v (-1, [])).1), some (.int (nI vb)), some (.int (nI v)), l7] [] (G c r w mb n1 n2 sh) Q = Wp X (d + 6) 168 110 [some (.ref 28), some (.int x), some (.int y), some (.int (nI (fct N))), some (.int (bf (ordF N x F H ss st mk) (fct N) (-1, [])).1), some (.int (nI vb2)), some (.int (nI (fct N))), l8] [] (G c r2 w mb n1 n2 sh) Q := by
  have hN : N ≤ 5 := by rw [← hN2]; exact cnt_le _ _
  have hl := fct_le N (by omega)
  intro j
  induction j with
  | zero =>
    intro v r vb hv hB hm hF
    obtain rfl : v = fct N := by omega
    have e : nI (fct N) ≤ nI (fct N) := Int32.le_refl _
    refine ⟨r, vb, fun _ _ => rfl, fun _ _ => rfl, hB, fun l7 => ⟨l7, fun X d Q => ?_⟩⟩
    rw [s168_58]
    simp only [s168_0, s168_1, s168_2, s168_5, s168_8, s168_10, s168_11, s168_12, s168_13, s168_16, s168_18, s168_19, s168_20, s168_21, s168_24, s168_25, s168_26, s168_27, s168_31, s168_32, s168_35, s168_38, s168_39, s168_41, s168_42, s168_43, s168_46, s168_49, s168_50, s168_52, s168_53, s168_55, s168_56, s168_60, s168_61, s168_64, s168_65, s168_67, s168_70, s168_72, s168_74, s168_76, s168_79, s168_81, s168_84, s168_86, s168_88, s168_90, s168_92, s168_95, s168_97, s168_100, s168_102, s168_104, s168_107, s168_111, s168_112, s168_115, s168_117, s168_120, s168_121, s168_122, s168_125, s168_128, s168_129, s168_131, s168_132, s168_135, s168_138, s168_139, zb0, zb1, ob_some, tl_s, tl_n, nk_i, nk_r, nk_n, nk_0, pk_us, pk_un, va_up_self, va_up_ne, ne_eq, Nat.reduceEqDiff, not_false_eq_true, true_and, and_true, eq_self, z11, z00, bI_z, gf_0_0, gf_0_1, gf_0_2, gf_0_3, gf_0_4, gf_0_5, gf_0_6, rcv_0, rcO_0, gf_1_0, gf_1_1, sf_1_1, gf_1_2, gf_1_3, gf_1_4, gf_1_5, sf_1_5, gf_1_6, sf_1_6, gf_1_7, sf_1_7, gf_1_8, sf_1_8, gf_1_9, sf_1_9, gf_1_10, sf_1_10, gf_1_11, sf_1_11, rcv_1, rcO_1, gf_6_0, sf_6_0, gf_6_1, sf_6_1, gf_6_2, sf_6_2, gf_6_3, sf_6_3, gf_6_4, gf_6_5, rcv_6, rcO_6, gf_9_0, gf_9_1, sf_9_1, rcv_9, rcO_9, gf_12_0, sf_12_0, gf_12_1, sf_12_1, gf_12_2, gf_12_3, rcv_12, rcO_12, gf_15_0, sf_15_0, gf_15_1, sf_15_1, gf_15_2, gf_15_3, rcv_15, rcO_15, gf_18_0, sf_18_0, gf_18_1, sf_18_1, gf_18_2, gf_18_3, gf_18_4, gf_18_5, sf_18_5, gf_18_6, sf_18_6, gf_18_7, sf_18_7, gf_18_8, sf_18_8, rcv_18, rcO_18, gf_24_0, gf_24_1, gf_24_2, sf_24_2, rcv_24, rcO_24, gf_28_0, gf_28_1, gf_28_2, gf_28_3, sf_28_3, gf_28_4, gf_28_5, sf_28_5, gf_28_6, sf_28_6, gf_28_7, gf_28_8, gf_28_9, gf_28_10, gf_28_11, gf_28_12, gf_28_13, sf_28_13, gf_28_14, sf_28_14, gf_28_15, sf_28_15, gf_28_16, sf_28_16, gf_28_17, sf_28_17, gf_28_18, sf_28_18, gf_28_19, gf_28_20, gf_28_21, gf_28_22, gf_28_23, gf_28_24, sf_28_24, gf_28_25, rcv_28, rcO_28, aI_2, aW_2, sI_2, aI_3, aW_3, sI_3, aI_4, aW_4, sI_4, aI_5, aW_5, sI_5, aI_7, aW_7, sI_7, aI_8, aW_8, sI_8, aI_13, aW_13, sI_13, aI_14, aW_14, sI_14, aI_16, aW_16, sI_16, aI_17, aW_17, sI_17, aI_21, aW_21, sI_21, aI_22, aW_22, sI_22, aI_23, aW_23, sI_23, aI_25, aW_25, sI_25, aI_26, aW_26, sI_26, aI_29, aW_29, sI_29, aI_31, aW_31, sI_31, aI_32, aW_32, sI_32, aI_33, aW_33, sI_33, aI_34, aW_34, sI_34, aI_35, aW_35, sI_35, aI_36, aW_36, sI_36, aI_37, aW_37, sI_37, aI_38, aW_38, sI_38, aI_41, aW_41, sI_41, aI_42, aW_42, sI_42, aI_43, aW_43, sI_43, aL_19, sL_19, aL_20, sL_20, aL_27, sL_27, aL_39, sL_39, aL_40, sL_40, aL_44, sL_44, aB_30, aZ_30, sZ_30, aQ_10, aQ_11, sQ_10, e, true_implies, false_implies, not_true_eq_false, not_false_eq_true, and_self, true_and, and_true]
  | succ j ih =>
    intro v r vb hv hB hm hF
    have e : ¬ nI (fct N) ≤ nI v := nI_ge (by omega) (by omega)
    obtain ⟨r2, f1, f2, f3⟩ := m_upBy (w := w) (mb := mb) (n1 := n1) (n2 := n2) (sh := sh) hM hx hN2 hc hH hc6 (show v < fct N by omega) hm hF
    have hF2 : rfN r2 H 0 = F := by
      rw [← hF]
      apply b_ext
      intro k hk
      rw [bt_rfN hH hk, bt_rfN hH hk]
      rcases Nat.lt_or_ge k H with q | q
      · unfold thF spF
        rw [f1 33 (by decide), f2 (0 + k) (by omega)]
      · rw [decide_eq_false (show ¬ k < H by omega)]
        rfl
    have eb : bf (ordF N x F H ss st mk) (v + 1) (-1, []) = if nI (upC (pth H ss st mk) H (prC N x v) F 0) ≤ (bf (ordF N x F H ss st mk) v (-1, [])).1 then bf (ordF N x F H ss st mk) v (-1, []) else ordF N x F H ss st mk v := rfl
    by_cases hu : nI (upC (pth H ss st mk) H (prC N x v) F 0) ≤ (bf (ordF N x F H ss st mk) v (-1, [])).1
    · rw [if_pos hu] at eb
      obtain ⟨r3, vb2, g1, g2, g3, g4⟩ := ih (v + 1) r2 vb (by omega) (by rw [eb]; exact hB) (hm.cg f1) hF2
      refine ⟨r3, vb2, fun q hq => (g1 q hq).trans (f1 q hq), fun q hq => (g2 q hq).trans (f2 q hq), g3, fun l7 => ?_⟩
      obtain ⟨l8, g4⟩ := g4 (some (.int (nI (upC (pth H ss st mk) H (prC N x v) F 0))))
      rw [eb] at g4
      refine ⟨l8, fun X d Q => ?_⟩
      rw [← g4 X d Q]
      rw [s168_58]
      simp only [s168_0, s168_1, s168_2, s168_5, s168_8, s168_10, s168_11, s168_12, s168_13, s168_16, s168_18, s168_19, s168_20, s168_21, s168_24, s168_25, s168_26, s168_27, s168_31, s168_32, s168_35, s168_38, s168_39, s168_41, s168_42, s168_43, s168_46, s168_49, s168_50, s168_52, s168_53, s168_55, s168_56, s168_60, s168_61, s168_64, s168_65, s168_67, s168_70, s168_72, s168_74, s168_76, s168_79, s168_81, s168_84, s168_86, s168_88, s168_90, s168_92, s168_95, s168_97, s168_100, s168_102, s168_104, s168_107, s168_110, s168_111, s168_112, s168_115, s168_117, s168_120, s168_121, s168_122, s168_125, s168_128, s168_129, s168_131, s168_132, s168_135, s168_138, s168_139, zb0, zb1, ob_some, tl_s, tl_n, nk_i, nk_r, nk_n, nk_0, pk_us, pk_un, va_up_self, va_up_ne, ne_eq, Nat.reduceEqDiff, not_false_eq_true, true_and, and_true, eq_self, z11, z00, bI_z, gf_0_0, gf_0_1, gf_0_2, gf_0_3, gf_0_4, gf_0_5, gf_0_6, rcv_0, rcO_0, gf_1_0, gf_1_1, sf_1_1, gf_1_2, gf_1_3, gf_1_4, gf_1_5, sf_1_5, gf_1_6, sf_1_6, gf_1_7, sf_1_7, gf_1_8, sf_1_8, gf_1_9, sf_1_9, gf_1_10, sf_1_10, gf_1_11, sf_1_11, rcv_1, rcO_1, gf_6_0, sf_6_0, gf_6_1, sf_6_1, gf_6_2, sf_6_2, gf_6_3, sf_6_3, gf_6_4, gf_6_5, rcv_6, rcO_6, gf_9_0, gf_9_1, sf_9_1, rcv_9, rcO_9, gf_12_0, sf_12_0, gf_12_1, sf_12_1, gf_12_2, gf_12_3, rcv_12, rcO_12, gf_15_0, sf_15_0, gf_15_1, sf_15_1, gf_15_2, gf_15_3, rcv_15, rcO_15, gf_18_0, sf_18_0, gf_18_1, sf_18_1, gf_18_2, gf_18_3, gf_18_4, gf_18_5, sf_18_5, gf_18_6, sf_18_6, gf_18_7, sf_18_7, gf_18_8, sf_18_8, rcv_18, rcO_18, gf_24_0, gf_24_1, gf_24_2, sf_24_2, rcv_24, rcO_24, gf_28_0, gf_28_1, gf_28_2, gf_28_3, sf_28_3, gf_28_4, gf_28_5, sf_28_5, gf_28_6, sf_28_6, gf_28_7, gf_28_8, gf_28_9, gf_28_10, gf_28_11, gf_28_12, gf_28_13, sf_28_13, gf_28_14, sf_28_14, gf_28_15, sf_28_15, gf_28_16, sf_28_16, gf_28_17, sf_28_17, gf_28_18, sf_28_18, gf_28_19, gf_28_20, gf_28_21, gf_28_22, gf_28_23, gf_28_24, sf_28_24, gf_28_25, rcv_28, rcO_28, aI_2, aW_2, sI_2, aI_3, aW_3, sI_3, aI_4, aW_4, sI_4, aI_5, aW_5, sI_5, aI_7, aW_7, sI_7, aI_8, aW_8, sI_8, aI_13, aW_13, sI_13, aI_14, aW_14, sI_14, aI_16, aW_16, sI_16, aI_17, aW_17, sI_17, aI_21, aW_21, sI_21, aI_22, aW_22, sI_22, aI_23, aW_23, sI_23, aI_25, aW_25, sI_25, aI_26, aW_26, sI_26, aI_29, aW_29, sI_29, aI_31, aW_31, sI_31, aI_32, aW_32, sI_32, aI_33, aW_33, sI_33, aI_34, aW_34, sI_34, aI_35, aW_35, sI_35, aI_36, aW_36, sI_36, aI_37, aW_37, sI_37, aI_38, aW_38, sI_38, aI_41, aW_41, sI_41, aI_42, aW_42, sI_42, aI_43, aW_43, sI_43, aL_19, sL_19, aL_20, sL_20, aL_27, sL_27, aL_39, sL_39, aL_40, sL_40, aL_44, sL_44, aB_30, aZ_30, sZ_30, aQ_10, aQ_11, sQ_10, e, f3, hu, nI_1, true_implies, false_implies, not_true_eq_false, not_false_eq_true, and_self, true_and, and_true]
    · rw [if_neg hu] at eb
      obtain ⟨r3, vb2, g1, g2, g3, g4⟩ := ih (v + 1) r2 v (by omega) (by rw [eb]; exact Or.inr ⟨by omega, rfl⟩) (hm.cg f1) hF2
      refine ⟨r3, vb2, fun q hq => (g1 q hq).trans (f1 q hq), fun q hq => (g2 q hq).trans (f2 q hq), g3, fun l7 => ?_⟩
      obtain ⟨l8, g4⟩ := g4 (some (.int (nI (upC (pth H ss st mk) H (prC N x v) F 0))))
      rw [eb] at g4
      refine ⟨l8, fun X d Q => ?_⟩
      rw [← g4 X d Q]
      rw [s168_58]
      simp only [s168_0, s168_1, s168_2, s168_5, s168_8, s168_10, s168_11, s168_12, s168_13, s168_16, s168_18, s168_19, s168_20, s168_21, s168_24, s168_25, s168_26, s168_27, s168_31, s168_32, s168_35, s168_38, s168_39, s168_41, s168_42, s168_43, s168_46, s168_49, s168_50, s168_52, s168_53, s168_55, s168_56, s168_60, s168_61, s168_64, s168_65, s168_67, s168_70, s168_72, s168_74, s168_76, s168_79, s168_81, s168_84, s168_86, s168_88, s168_90, s168_92, s168_95, s168_97, s168_100, s168_102, s168_104, s168_107, s168_110, s168_111, s168_112, s168_115, s168_117, s168_120, s168_121, s168_122, s168_125, s168_128, s168_129, s168_131, s168_132, s168_135, s168_138, s168_139, zb0, zb1, ob_some, tl_s, tl_n, nk_i, nk_r, nk_n, nk_0, pk_us, pk_un, va_up_self, va_up_ne, ne_eq, Nat.reduceEqDiff, not_false_eq_true, true_and, and_true, eq_self, z11, z00, bI_z, gf_0_0, gf_0_1, gf_0_2, gf_0_3, gf_0_4, gf_0_5, gf_0_6, rcv_0, rcO_0, gf_1_0, gf_1_1, sf_1_1, gf_1_2, gf_1_3, gf_1_4, gf_1_5, sf_1_5, gf_1_6, sf_1_6, gf_1_7, sf_1_7, gf_1_8, sf_1_8, gf_1_9, sf_1_9, gf_1_10, sf_1_10, gf_1_11, sf_1_11, rcv_1, rcO_1, gf_6_0, sf_6_0, gf_6_1, sf_6_1, gf_6_2, sf_6_2, gf_6_3, sf_6_3, gf_6_4, gf_6_5, rcv_6, rcO_6, gf_9_0, gf_9_1, sf_9_1, rcv_9, rcO_9, gf_12_0, sf_12_0, gf_12_1, sf_12_1, gf_12_2, gf_12_3, rcv_12, rcO_12, gf_15_0, sf_15_0, gf_15_1, sf_15_1, gf_15_2, gf_15_3, rcv_15, rcO_15, gf_18_0, sf_18_0, gf_18_1, sf_18_1, gf_18_2, gf_18_3, gf_18_4, gf_18_5, sf_18_5, gf_18_6, sf_18_6, gf_18_7, sf_18_7, gf_18_8, sf_18_8, rcv_18, rcO_18, gf_24_0, gf_24_1, gf_24_2, sf_24_2, rcv_24, rcO_24, gf_28_0, gf_28_1, gf_28_2, gf_28_3, sf_28_3, gf_28_4, gf_28_5, sf_28_5, gf_28_6, sf_28_6, gf_28_7, gf_28_8, gf_28_9, gf_28_10, gf_28_11, gf_28_12, gf_28_13, sf_28_13, gf_28_14, sf_28_14, gf_28_15, sf_28_15, gf_28_16, sf_28_16, gf_28_17, sf_28_17, gf_28_18, sf_28_18, gf_28_19, gf_28_20, gf_28_21, gf_28_22, gf_28_23, gf_28_24, sf_28_24, gf_28_25, rcv_28, rcO_28, aI_2, aW_2, sI_2, aI_3, aW_3, sI_3, aI_4, aW_4, sI_4, aI_5, aW_5, sI_5, aI_7, aW_7, sI_7, aI_8, aW_8, sI_8, aI_13, aW_13, sI_13, aI_14, aW_14, sI_14, aI_16, aW_16, sI_16, aI_17, aW_17, sI_17, aI_21, aW_21, sI_21, aI_22, aW_22, sI_22, aI_23, aW_23, sI_23, aI_25, aW_25, sI_25, aI_26, aW_26, sI_26, aI_29, aW_29, sI_29, aI_31, aW_31, sI_31, aI_32, aW_32, sI_32, aI_33, aW_33, sI_33, aI_34, aW_34, sI_34, aI_35, aW_35, sI_35, aI_36, aW_36, sI_36, aI_37, aW_37, sI_37, aI_38, aW_38, sI_38, aI_41, aW_41, sI_41, aI_42, aW_42, sI_42, aI_43, aW_43, sI_43, aL_19, sL_19, aL_20, sL_20, aL_27, sL_27, aL_39, sL_39, aL_40, sL_40, aL_44, sL_44, aB_30, aZ_30, sZ_30, aQ_10, aQ_11, sQ_10, e, f3, hu, nI_1, true_implies, false_implies, not_true_eq_false, not_false_eq_true, and_self, true_and, and_true]
      rfl
end OR
