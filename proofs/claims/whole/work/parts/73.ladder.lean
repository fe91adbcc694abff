/-! the call ladder -/
theorem FrO.tr {c c2 c3 : Nat → Int32} {r r2 r3 : Nat → Nat → Int32} {sh sh2 sh3 : List Nat} {n m : Nat} (h : FrO c r sh c2 r2 sh2 n) (g : FrO c2 r2 sh2 c3 r3 sh3 m) : FrO c r sh c3 r3 sh3 (n + m) := by
  obtain ⟨h1, h2, l, h3, h4, h5⟩ := h
  obtain ⟨g1, g2, l2, g3, g4, g5⟩ := g
  refine ⟨fun q a1 a2 a3 a4 a5 => (g1 q a1 a2 a3 a4 a5).trans (h1 q a1 a2 a3 a4 a5), fun q hq => (g2 q hq).trans (h2 q hq), l ++ l2, by rw [g3, h3, List.append_assoc], by rw [List.length_append]; omega, fun u hu => ?_⟩
  rcases List.mem_append.mp hu with q | q
  · exact h5 u q
  · exact g5 u q
theorem LK_cg {r r2 : Nat → Nat → Int32} (h3 : r2 3 = r 3) (h4 : r2 4 = r 4) (h5 : r2 5 = r 5) : ∀ {l : List (Nat × Nat × Nat)} {k : Nat}, LK r k l → LK r2 k l
  | [], _, _ => True.intro
  | x :: l, k, h => ⟨lnk_cg h.1 (by rw [h3]) (by rw [h4]) (by rw [h5]), LK_cg h3 h4 h5 h.2⟩
theorem LKM_cg {r r2 : Nat → Nat → Int32} (h3 : r2 32 = r 32) : ∀ {l : List (Nat × Nat × Nat)} {k : Nat}, LKM r k l → LKM r2 k l
  | [], _, _ => True.intro
  | x :: l, k, h => ⟨lnkM_cg h.1 (fun i _ => by rw [h3]), LKM_cg h3 h.2⟩
theorem cl_loop {w : Nat → Nat → Int64} {n1 n2 N : Nat} (hN : N ≤ 12) : ∀ (l : List (Nat × Nat × Nat)) (k : Nat) (s : AS) (c : Nat → Int32) (r : Nat → Nat → Int32) (mb : Nat → Option Nat) (sh : List Nat) (pp : Nat → Nat), VL l s.1 s.2.1 → AV s → CA s c r mb sh pp → LK r k l → k + l.length = N → sh.length + l.length < 800000 → ∃ c2 r2 mb2 sh2 pp2, CA (l.foldl apF s) c2 r2 mb2 sh2 pp2 ∧ AV (l.foldl apF s) ∧ FrO c r sh c2 r2 sh2 l.length ∧ ∀ X d Q, Wp X (d + 5) 69 38 [some (.ref 0), some (.int (nI N)), some (.int (nI k))] [] (G c r w mb n1 n2 sh) Q = Wp X (d + 5) 69 86 [some (.ref 0), some (.int (nI N)), some (.int (nI N))] [] (G c2 r2 w mb2 n1 n2 sh2) Q
  | [], k, s, c, r, mb, sh, pp, _, hA, hC, _, hk, _ => by
    obtain rfl : k = N := by simpa using hk
    have e : nI k ≤ nI k := Int32.le_refl _
    refine ⟨c, r, mb, sh, pp, hC, hA, ⟨fun _ _ _ _ _ _ => rfl, fun _ _ => rfl, [], (List.append_nil sh).symm, Nat.le_refl 0, fun u hu => (by cases hu)⟩, fun X d Q => ?_⟩
    rw [s69_38]
    simp only [s69_0, s69_1, s69_4, s69_5, s69_8, s69_11, s69_12, s69_15, s69_18, s69_21, s69_22, s69_25, s69_27, s69_28, s69_29, s69_32, s69_35, s69_36, s69_37, s69_39, s69_40, s69_43, s69_44, s69_46, s69_49, s69_50, s69_51, s69_54, s69_57, s69_58, s69_59, s69_60, s69_63, s69_66, s69_67, s69_68, s69_69, s69_72, s69_75, s69_76, s69_77, s69_80, s69_83, s69_87, s69_90, s69_91, s69_94, s69_95, s69_98, s69_99, zb0, zb1, ob_some, tl_s, tl_n, nk_i, nk_r, nk_n, nk_0, pk_us, pk_un, va_up_self, va_up_ne, ne_eq, Nat.reduceEqDiff, not_false_eq_true, true_and, and_true, eq_self, z11, z00, bI_z, gf_0_0, gf_0_1, gf_0_2, gf_0_3, gf_0_4, gf_0_5, gf_0_6, rcv_0, rcO_0, gf_1_0, gf_1_1, sf_1_1, gf_1_2, gf_1_3, gf_1_4, gf_1_5, sf_1_5, gf_1_6, sf_1_6, gf_1_7, sf_1_7, gf_1_8, sf_1_8, gf_1_9, sf_1_9, gf_1_10, sf_1_10, gf_1_11, sf_1_11, rcv_1, rcO_1, gf_6_0, sf_6_0, gf_6_1, sf_6_1, gf_6_2, sf_6_2, gf_6_3, sf_6_3, gf_6_4, gf_6_5, rcv_6, rcO_6, gf_9_0, gf_9_1, sf_9_1, rcv_9, rcO_9, gf_12_0, sf_12_0, gf_12_1, sf_12_1, gf_12_2, gf_12_3, rcv_12, rcO_12, gf_15_0, sf_15_0, gf_15_1, sf_15_1, gf_15_2, gf_15_3, rcv_15, rcO_15, gf_18_0, sf_18_0, gf_18_1, sf_18_1, gf_18_2, gf_18_3, gf_18_4, gf_18_5, sf_18_5, gf_18_6, sf_18_6, gf_18_7, sf_18_7, gf_18_8, sf_18_8, rcv_18, rcO_18, gf_24_0, gf_24_1, gf_24_2, sf_24_2, rcv_24, rcO_24, gf_28_0, gf_28_1, gf_28_2, gf_28_3, sf_28_3, gf_28_4, gf_28_5, sf_28_5, gf_28_6, sf_28_6, gf_28_7, gf_28_8, gf_28_9, gf_28_10, gf_28_11, gf_28_12, gf_28_13, sf_28_13, gf_28_14, sf_28_14, gf_28_15, sf_28_15, gf_28_16, sf_28_16, gf_28_17, sf_28_17, gf_28_18, sf_28_18, gf_28_19, gf_28_20, gf_28_21, gf_28_22, gf_28_23, gf_28_24, sf_28_24, gf_28_25, rcv_28, rcO_28, aI_2, aW_2, sI_2, aI_3, aW_3, sI_3, aI_4, aW_4, sI_4, aI_5, aW_5, sI_5, aI_7, aW_7, sI_7, aI_8, aW_8, sI_8, aI_13, aW_13, sI_13, aI_14, aW_14, sI_14, aI_16, aW_16, sI_16, aI_17, aW_17, sI_17, aI_21, aW_21, sI_21, aI_22, aW_22, sI_22, aI_23, aW_23, sI_23, aI_25, aW_25, sI_25, aI_26, aW_26, sI_26, aI_29, aW_29, sI_29, aI_31, aW_31, sI_31, aI_32, aW_32, sI_32, aI_33, aW_33, sI_33, aI_34, aW_34, sI_34, aI_35, aW_35, sI_35, aI_36, aW_36, sI_36, aI_37, aW_37, sI_37, aI_38, aW_38, sI_38, aI_41, aW_41, sI_41, aI_42, aW_42, sI_42, aI_43, aW_43, sI_43, aL_19, sL_19, aL_20, sL_20, aL_27, sL_27, aL_39, sL_39, aL_40, sL_40, aL_44, sL_44, aB_30, aZ_30, sZ_30, aQ_10, aQ_11, sQ_10, e, true_implies, false_implies, not_true_eq_false, not_false_eq_true, and_self, true_and, and_true]
  | (u, a, b) :: l, k, s, c, r, mb, sh, pp, hV, hA, hC, hL, hk, hs => by
    obtain ⟨H, M, gn, wk, tn, kd, rc, ld⟩ := s
    have hk2 : k + (l.length + 1) = N := hk
    have hs2 : sh.length + (l.length + 1) < 800000 := hs
    obtain ⟨q1, q2, q3⟩ := hL.1
    obtain ⟨c2, r2, mb2, sh2, pp2, g1, g2, g3⟩ := c_obey (w := w) (n1 := n1) (n2 := n2) (x := r 3 k) (y := r 4 k) (z := r 5 k) hA hC hV.1 q1 q2 q3 (by omega)
    have hA2 := AV_step hA hV.1
    obtain ⟨l0, e1, e2, e3⟩ := g2.2.2
    have hsl : sh2.length + l.length < 800000 := by rw [e1, List.length_append]; omega
    obtain ⟨c3, r3, mb3, sh3, pp3, j1, j2, j3, j4⟩ := cl_loop (w := w) (n1 := n1) (n2 := n2) hN l (k + 1) _ c2 r2 mb2 sh2 pp2 hV.2 hA2 g1 (LK_cg (g2.2.1 3 (by omega)) (g2.2.1 4 (by omega)) (g2.2.1 5 (by omega)) hL.2) (by omega) hsl
    refine ⟨c3, r3, mb3, sh3, pp3, j1, j2, ?_, fun X d Q => ?_⟩
    · have := g2.tr j3
      rw [Nat.add_comm] at this
      exact this
    · have f1 : ¬ nI N ≤ nI k := nI_ge (by omega) (by omega)
      have f2 : ¬ (12 : Int32) ≤ nI k := nI_ge (b := 12) (by omega) (by omega)
      have i1 := inb_nI (show k < 12 by omega) (by omega)
      have z1 := nI_clamp (show k < 2 ^ 31 by omega)
      rw [s69_38]
      simp only [s69_0, s69_1, s69_4, s69_5, s69_8, s69_11, s69_12, s69_15, s69_18, s69_21, s69_22, s69_25, s69_27, s69_28, s69_29, s69_32, s69_35, s69_36, s69_37, s69_39, s69_40, s69_43, s69_44, s69_46, s69_49, s69_50, s69_51, s69_54, s69_57, s69_58, s69_59, s69_60, s69_63, s69_66, s69_67, s69_68, s69_69, s69_72, s69_75, s69_76, s69_77, s69_80, s69_83, s69_87, s69_90, s69_91, s69_94, s69_95, s69_98, s69_99, zb0, zb1, ob_some, tl_s, tl_n, nk_i, nk_r, nk_n, nk_0, pk_us, pk_un, va_up_self, va_up_ne, ne_eq, Nat.reduceEqDiff, not_false_eq_true, true_and, and_true, eq_self, z11, z00, bI_z, gf_0_0, gf_0_1, gf_0_2, gf_0_3, gf_0_4, gf_0_5, gf_0_6, rcv_0, rcO_0, gf_1_0, gf_1_1, sf_1_1, gf_1_2, gf_1_3, gf_1_4, gf_1_5, sf_1_5, gf_1_6, sf_1_6, gf_1_7, sf_1_7, gf_1_8, sf_1_8, gf_1_9, sf_1_9, gf_1_10, sf_1_10, gf_1_11, sf_1_11, rcv_1, rcO_1, gf_6_0, sf_6_0, gf_6_1, sf_6_1, gf_6_2, sf_6_2, gf_6_3, sf_6_3, gf_6_4, gf_6_5, rcv_6, rcO_6, gf_9_0, gf_9_1, sf_9_1, rcv_9, rcO_9, gf_12_0, sf_12_0, gf_12_1, sf_12_1, gf_12_2, gf_12_3, rcv_12, rcO_12, gf_15_0, sf_15_0, gf_15_1, sf_15_1, gf_15_2, gf_15_3, rcv_15, rcO_15, gf_18_0, sf_18_0, gf_18_1, sf_18_1, gf_18_2, gf_18_3, gf_18_4, gf_18_5, sf_18_5, gf_18_6, sf_18_6, gf_18_7, sf_18_7, gf_18_8, sf_18_8, rcv_18, rcO_18, gf_24_0, gf_24_1, gf_24_2, sf_24_2, rcv_24, rcO_24, gf_28_0, gf_28_1, gf_28_2, gf_28_3, sf_28_3, gf_28_4, gf_28_5, sf_28_5, gf_28_6, sf_28_6, gf_28_7, gf_28_8, gf_28_9, gf_28_10, gf_28_11, gf_28_12, gf_28_13, sf_28_13, gf_28_14, sf_28_14, gf_28_15, sf_28_15, gf_28_16, sf_28_16, gf_28_17, sf_28_17, gf_28_18, sf_28_18, gf_28_19, gf_28_20, gf_28_21, gf_28_22, gf_28_23, gf_28_24, sf_28_24, gf_28_25, rcv_28, rcO_28, aI_2, aW_2, sI_2, aI_3, aW_3, sI_3, aI_4, aW_4, sI_4, aI_5, aW_5, sI_5, aI_7, aW_7, sI_7, aI_8, aW_8, sI_8, aI_13, aW_13, sI_13, aI_14, aW_14, sI_14, aI_16, aW_16, sI_16, aI_17, aW_17, sI_17, aI_21, aW_21, sI_21, aI_22, aW_22, sI_22, aI_23, aW_23, sI_23, aI_25, aW_25, sI_25, aI_26, aW_26, sI_26, aI_29, aW_29, sI_29, aI_31, aW_31, sI_31, aI_32, aW_32, sI_32, aI_33, aW_33, sI_33, aI_34, aW_34, sI_34, aI_35, aW_35, sI_35, aI_36, aW_36, sI_36, aI_37, aW_37, sI_37, aI_38, aW_38, sI_38, aI_41, aW_41, sI_41, aI_42, aW_42, sI_42, aI_43, aW_43, sI_43, aL_19, sL_19, aL_20, sL_20, aL_27, sL_27, aL_39, sL_39, aL_40, sL_40, aL_44, sL_44, aB_30, aZ_30, sZ_30, aQ_10, aQ_11, sQ_10, f1, f2, i1, z1, g3, nI_1, true_implies, false_implies, not_true_eq_false, not_false_eq_true, and_self, true_and, and_true]
      exact j4 X d Q
theorem ml_loop {w : Nat → Nat → Int64} {mb : Nat → Option Nat} {n1 n2 N : Nat} {sh : List Nat} (hN : N ≤ 12) : ∀ (l : List (Nat × Nat × Nat)) (k : Nat) (s : AS) (c : Nat → Int32) (r : Nat → Nat → Int32), VL l s.1 s.2.1 → AV s → MA s c r → LKM r k l → k + l.length = N → c 2805 = nI N → ∃ c2 r2, MA (l.foldl apF s) c2 r2 ∧ FrT c r c2 r2 ∧ ∀ X d Q, Wp X (d + 1) 126 13 [some (.ref 28), some (.int (nI k))] [] (G c r w mb n1 n2 sh) Q = Wp X (d + 1) 126 34 [some (.ref 28), some (.int (nI N))] [] (G c2 r2 w mb n1 n2 sh) Q
  | [], k, s, c, r, _, hA, hC, _, hk, h5 => by
    obtain rfl : k = N := by simpa using hk
    have e : nI k ≤ nI k := Int32.le_refl _
    refine ⟨c, r, hC, ⟨fun _ _ _ => rfl, fun _ _ _ _ _ _ => rfl⟩, fun X d Q => ?_⟩
    rw [s126_13]
    simp only [s126_0, s126_1, s126_4, s126_5, s126_8, s126_10, s126_11, s126_12, s126_14, s126_15, s126_18, s126_21, s126_22, s126_23, s126_24, s126_25, s126_28, s126_31, s126_35, s126_38, s126_39, s126_42, s126_43, s126_44, s126_45, s126_46, s126_49, s126_50, s126_51, s126_52, s126_53, s126_54, s126_57, s126_58, s126_61, zb0, zb1, ob_some, tl_s, tl_n, nk_i, nk_r, nk_n, nk_0, pk_us, pk_un, va_up_self, va_up_ne, ne_eq, Nat.reduceEqDiff, not_false_eq_true, true_and, and_true, eq_self, z11, z00, bI_z, gf_0_0, gf_0_1, gf_0_2, gf_0_3, gf_0_4, gf_0_5, gf_0_6, rcv_0, rcO_0, gf_1_0, gf_1_1, sf_1_1, gf_1_2, gf_1_3, gf_1_4, gf_1_5, sf_1_5, gf_1_6, sf_1_6, gf_1_7, sf_1_7, gf_1_8, sf_1_8, gf_1_9, sf_1_9, gf_1_10, sf_1_10, gf_1_11, sf_1_11, rcv_1, rcO_1, gf_6_0, sf_6_0, gf_6_1, sf_6_1, gf_6_2, sf_6_2, gf_6_3, sf_6_3, gf_6_4, gf_6_5, rcv_6, rcO_6, gf_9_0, gf_9_1, sf_9_1, rcv_9, rcO_9, gf_12_0, sf_12_0, gf_12_1, sf_12_1, gf_12_2, gf_12_3, rcv_12, rcO_12, gf_15_0, sf_15_0, gf_15_1, sf_15_1, gf_15_2, gf_15_3, rcv_15, rcO_15, gf_18_0, sf_18_0, gf_18_1, sf_18_1, gf_18_2, gf_18_3, gf_18_4, gf_18_5, sf_18_5, gf_18_6, sf_18_6, gf_18_7, sf_18_7, gf_18_8, sf_18_8, rcv_18, rcO_18, gf_24_0, gf_24_1, gf_24_2, sf_24_2, rcv_24, rcO_24, gf_28_0, gf_28_1, gf_28_2, gf_28_3, sf_28_3, gf_28_4, gf_28_5, sf_28_5, gf_28_6, sf_28_6, gf_28_7, gf_28_8, gf_28_9, gf_28_10, gf_28_11, gf_28_12, gf_28_13, sf_28_13, gf_28_14, sf_28_14, gf_28_15, sf_28_15, gf_28_16, sf_28_16, gf_28_17, sf_28_17, gf_28_18, sf_28_18, gf_28_19, gf_28_20, gf_28_21, gf_28_22, gf_28_23, gf_28_24, sf_28_24, gf_28_25, rcv_28, rcO_28, aI_2, aW_2, sI_2, aI_3, aW_3, sI_3, aI_4, aW_4, sI_4, aI_5, aW_5, sI_5, aI_7, aW_7, sI_7, aI_8, aW_8, sI_8, aI_13, aW_13, sI_13, aI_14, aW_14, sI_14, aI_16, aW_16, sI_16, aI_17, aW_17, sI_17, aI_21, aW_21, sI_21, aI_22, aW_22, sI_22, aI_23, aW_23, sI_23, aI_25, aW_25, sI_25, aI_26, aW_26, sI_26, aI_29, aW_29, sI_29, aI_31, aW_31, sI_31, aI_32, aW_32, sI_32, aI_33, aW_33, sI_33, aI_34, aW_34, sI_34, aI_35, aW_35, sI_35, aI_36, aW_36, sI_36, aI_37, aW_37, sI_37, aI_38, aW_38, sI_38, aI_41, aW_41, sI_41, aI_42, aW_42, sI_42, aI_43, aW_43, sI_43, aL_19, sL_19, aL_20, sL_20, aL_27, sL_27, aL_39, sL_39, aL_40, sL_40, aL_44, sL_44, aB_30, aZ_30, sZ_30, aQ_10, aQ_11, sQ_10, h5, e, true_implies, false_implies, not_true_eq_false, not_false_eq_true, and_self, true_and, and_true]
  | (u, a, b) :: l, k, s, c, r, hV, hA, hC, hL, hk, h5 => by
    obtain ⟨H, M, gn, wk, tn, kd, rc, ld⟩ := s
    have hk2 : k + (l.length + 1) = N := hk
    obtain ⟨c2, r2, g1, g2, g3⟩ := m_tell (w := w) (mb := mb) (n1 := n1) (n2 := n2) (sh := sh) hA hC hV.1 (show k < 12 by omega) hL.1
    have hA2 := AV_step hA hV.1
    obtain ⟨c3, r3, j1, j2, j3⟩ := ml_loop (w := w) (mb := mb) (n1 := n1) (n2 := n2) (sh := sh) hN l (k + 1) _ c2 r2 hV.2 hA2 g1 (LKM_cg (g2.2 32 (by omega) (by omega) (by omega) (by omega) (by omega)) hL.2) (by omega) ((g2.1 2805 (by omega) (by omega)).trans h5)
    refine ⟨c3, r3, j1, ⟨fun q h1 h2 => (j2.1 q h1 h2).trans (g2.1 q h1 h2), fun q h1 h2 h3 h4 h6 => (j2.2 q h1 h2 h3 h4 h6).trans (g2.2 q h1 h2 h3 h4 h6)⟩, fun X d Q => ?_⟩
    have f1 : ¬ nI N ≤ nI k := nI_ge (by omega) (by omega)
    have e3 : (3 : Int32) * nI k = nI (3 * k) := by rw [show (3 : Int32) = nI 3 from rfl, nI_mul]
    rw [s126_13]
    simp only [s126_0, s126_1, s126_4, s126_5, s126_8, s126_10, s126_11, s126_12, s126_14, s126_15, s126_18, s126_21, s126_22, s126_23, s126_24, s126_25, s126_28, s126_31, s126_35, s126_38, s126_39, s126_42, s126_43, s126_44, s126_45, s126_46, s126_49, s126_50, s126_51, s126_52, s126_53, s126_54, s126_57, s126_58, s126_61, zb0, zb1, ob_some, tl_s, tl_n, nk_i, nk_r, nk_n, nk_0, pk_us, pk_un, va_up_self, va_up_ne, ne_eq, Nat.reduceEqDiff, not_false_eq_true, true_and, and_true, eq_self, z11, z00, bI_z, gf_0_0, gf_0_1, gf_0_2, gf_0_3, gf_0_4, gf_0_5, gf_0_6, rcv_0, rcO_0, gf_1_0, gf_1_1, sf_1_1, gf_1_2, gf_1_3, gf_1_4, gf_1_5, sf_1_5, gf_1_6, sf_1_6, gf_1_7, sf_1_7, gf_1_8, sf_1_8, gf_1_9, sf_1_9, gf_1_10, sf_1_10, gf_1_11, sf_1_11, rcv_1, rcO_1, gf_6_0, sf_6_0, gf_6_1, sf_6_1, gf_6_2, sf_6_2, gf_6_3, sf_6_3, gf_6_4, gf_6_5, rcv_6, rcO_6, gf_9_0, gf_9_1, sf_9_1, rcv_9, rcO_9, gf_12_0, sf_12_0, gf_12_1, sf_12_1, gf_12_2, gf_12_3, rcv_12, rcO_12, gf_15_0, sf_15_0, gf_15_1, sf_15_1, gf_15_2, gf_15_3, rcv_15, rcO_15, gf_18_0, sf_18_0, gf_18_1, sf_18_1, gf_18_2, gf_18_3, gf_18_4, gf_18_5, sf_18_5, gf_18_6, sf_18_6, gf_18_7, sf_18_7, gf_18_8, sf_18_8, rcv_18, rcO_18, gf_24_0, gf_24_1, gf_24_2, sf_24_2, rcv_24, rcO_24, gf_28_0, gf_28_1, gf_28_2, gf_28_3, sf_28_3, gf_28_4, gf_28_5, sf_28_5, gf_28_6, sf_28_6, gf_28_7, gf_28_8, gf_28_9, gf_28_10, gf_28_11, gf_28_12, gf_28_13, sf_28_13, gf_28_14, sf_28_14, gf_28_15, sf_28_15, gf_28_16, sf_28_16, gf_28_17, sf_28_17, gf_28_18, sf_28_18, gf_28_19, gf_28_20, gf_28_21, gf_28_22, gf_28_23, gf_28_24, sf_28_24, gf_28_25, rcv_28, rcO_28, aI_2, aW_2, sI_2, aI_3, aW_3, sI_3, aI_4, aW_4, sI_4, aI_5, aW_5, sI_5, aI_7, aW_7, sI_7, aI_8, aW_8, sI_8, aI_13, aW_13, sI_13, aI_14, aW_14, sI_14, aI_16, aW_16, sI_16, aI_17, aW_17, sI_17, aI_21, aW_21, sI_21, aI_22, aW_22, sI_22, aI_23, aW_23, sI_23, aI_25, aW_25, sI_25, aI_26, aW_26, sI_26, aI_29, aW_29, sI_29, aI_31, aW_31, sI_31, aI_32, aW_32, sI_32, aI_33, aW_33, sI_33, aI_34, aW_34, sI_34, aI_35, aW_35, sI_35, aI_36, aW_36, sI_36, aI_37, aW_37, sI_37, aI_38, aW_38, sI_38, aI_41, aW_41, sI_41, aI_42, aW_42, sI_42, aI_43, aW_43, sI_43, aL_19, sL_19, aL_20, sL_20, aL_27, sL_27, aL_39, sL_39, aL_40, sL_40, aL_44, sL_44, aB_30, aZ_30, sZ_30, aQ_10, aQ_11, sQ_10, h5, f1, e3, g3, nI_1, true_implies, false_implies, not_true_eq_false, not_false_eq_true, and_self, true_and, and_true]
    exact j3 X d Q
section LG
variable {r : Nat → Nat → Int32} {w : Nat → Nat → Int64} {mb : Nat → Option Nat} {n1 n2 M : Nat} {sh : List Nat} {pp ss : Nat → Nat}
theorem ground_loop (hM : M ≤ 5) (hd : ∀ i j, i < M → j < M → pp i = pp j → i = j) (hm : ∀ i, i < M → mb i = some (pp i) ∧ isC sh (pp i) (ss i)) : ∀ j k c l2 l3, k + j = M → c 901 = nI M → ∃ c2 : Nat → Int32, (∀ q, (∀ i, i < M → q ≠ 100 * pp i + 2 ∧ q ≠ 100 * pp i + 3) → c2 q = c q) ∧ (∀ i, i < k → c2 (100 * pp i + 2) = c (100 * pp i + 2) ∧ c2 (100 * pp i + 3) = c (100 * pp i + 3)) ∧ (∀ i, k ≤ i → i < M → c2 (100 * pp i + 2) = 0 ∧ (ss i = 9 → c2 (100 * pp i + 3) = 0)) ∧ ∀ X d Q, Wp X (d + 1) 9 2 [some (.ref 9), some (.int (nI k)), l2, l3] [] (G c r w mb n1 n2 sh) Q = Q none (G c2 r w mb n1 n2 sh) := by
  intro j
  induction j with
  | zero =>
    intro k c l2 l3 hk hc
    obtain rfl : k = M := by omega
    have e : nI k ≤ nI k := Int32.le_refl _
    refine ⟨c, fun _ _ => rfl, fun _ _ => ⟨rfl, rfl⟩, fun i h1 h2 => by omega, fun X d Q => ?_⟩
    rw [s9_2]
    simp only [s9_0, s9_1, s9_3, s9_4, s9_7, s9_10, s9_11, s9_12, s9_15, s9_15n, s9_16, s9_16n, s9_17n, s9_17, s9_20, s9_20n, s9_21, s9_22, s9_25, s9_25n, s9_26, s9_26n, s9_29, s9_32, s9_32n, s9_33, s9_36, s9_36n, s9_37, s9_37n, s9_38, s9_39, s9_42, s9_45, s9_48, zb0, zb1, ob_some, tl_s, tl_n, nk_i, nk_r, nk_n, nk_0, pk_us, pk_un, va_up_self, va_up_ne, ne_eq, Nat.reduceEqDiff, not_false_eq_true, true_and, and_true, eq_self, z11, z00, bI_z, gf_0_0, gf_0_1, gf_0_2, gf_0_3, gf_0_4, gf_0_5, gf_0_6, rcv_0, rcO_0, gf_1_0, gf_1_1, sf_1_1, gf_1_2, gf_1_3, gf_1_4, gf_1_5, sf_1_5, gf_1_6, sf_1_6, gf_1_7, sf_1_7, gf_1_8, sf_1_8, gf_1_9, sf_1_9, gf_1_10, sf_1_10, gf_1_11, sf_1_11, rcv_1, rcO_1, gf_6_0, sf_6_0, gf_6_1, sf_6_1, gf_6_2, sf_6_2, gf_6_3, sf_6_3, gf_6_4, gf_6_5, rcv_6, rcO_6, gf_9_0, gf_9_1, sf_9_1, rcv_9, rcO_9, gf_12_0, sf_12_0, gf_12_1, sf_12_1, gf_12_2, gf_12_3, rcv_12, rcO_12, gf_15_0, sf_15_0, gf_15_1, sf_15_1, gf_15_2, gf_15_3, rcv_15, rcO_15, gf_18_0, sf_18_0, gf_18_1, sf_18_1, gf_18_2, gf_18_3, gf_18_4, gf_18_5, sf_18_5, gf_18_6, sf_18_6, gf_18_7, sf_18_7, gf_18_8, sf_18_8, rcv_18, rcO_18, gf_24_0, gf_24_1, gf_24_2, sf_24_2, rcv_24, rcO_24, gf_28_0, gf_28_1, gf_28_2, gf_28_3, sf_28_3, gf_28_4, gf_28_5, sf_28_5, gf_28_6, sf_28_6, gf_28_7, gf_28_8, gf_28_9, gf_28_10, gf_28_11, gf_28_12, gf_28_13, sf_28_13, gf_28_14, sf_28_14, gf_28_15, sf_28_15, gf_28_16, sf_28_16, gf_28_17, sf_28_17, gf_28_18, sf_28_18, gf_28_19, gf_28_20, gf_28_21, gf_28_22, gf_28_23, gf_28_24, sf_28_24, gf_28_25, rcv_28, rcO_28, aI_2, aW_2, sI_2, aI_3, aW_3, sI_3, aI_4, aW_4, sI_4, aI_5, aW_5, sI_5, aI_7, aW_7, sI_7, aI_8, aW_8, sI_8, aI_13, aW_13, sI_13, aI_14, aW_14, sI_14, aI_16, aW_16, sI_16, aI_17, aW_17, sI_17, aI_21, aW_21, sI_21, aI_22, aW_22, sI_22, aI_23, aW_23, sI_23, aI_25, aW_25, sI_25, aI_26, aW_26, sI_26, aI_29, aW_29, sI_29, aI_31, aW_31, sI_31, aI_32, aW_32, sI_32, aI_33, aW_33, sI_33, aI_34, aW_34, sI_34, aI_35, aW_35, sI_35, aI_36, aW_36, sI_36, aI_37, aW_37, sI_37, aI_38, aW_38, sI_38, aI_41, aW_41, sI_41, aI_42, aW_42, sI_42, aI_43, aW_43, sI_43, aL_19, sL_19, aL_20, sL_20, aL_27, sL_27, aL_39, sL_39, aL_40, sL_40, aL_44, sL_44, aB_30, aZ_30, sZ_30, aQ_10, aQ_11, sQ_10, hc, e, true_implies, false_implies, not_true_eq_false, not_false_eq_true, and_self, true_and, and_true]
  | succ j ih =>
    intro k c l2 l3 hk hc
    have e : ¬ nI M ≤ nI k := nI_ge (by omega) (by omega)
    obtain ⟨g1, g2⟩ := hm k (by omega)
    have h45 := g2.1
    by_cases h9 : ss k = 9
    · rw [h9] at g2
      obtain ⟨c2, f1, f2, f3, f4⟩ := ih (k + 1) (upd (upd c (100 * pp k + 2) 0) (100 * pp k + 3) 0) (some (.ref (pp k))) (some (.ref (pp k))) (by omega) (by rw [pk_un (by omega), pk_un (by omega)]; exact hc)
      refine ⟨c2, fun q hq => ?_, fun i hi => ?_, fun i h1 h2 => ?_, fun X d Q => ?_⟩
      · rw [f1 q hq, pk_un (hq k (by omega)).2, pk_un (hq k (by omega)).1]
      · have hne : pp i ≠ pp k := fun z => by have := hd i k (by omega) (by omega) z; omega
        have := f2 i (by omega)
        rw [pk_un (by omega), pk_un (by omega), pk_un (by omega), pk_un (by omega)] at this
        exact this
      · by_cases hik : i = k
        · subst hik
          have := f2 i (by omega)
          rw [pk_un (by omega), pk_us, pk_us] at this
          exact ⟨this.1, fun _ => this.2⟩
        · exact f3 i (by omega) h2
      · rw [s9_2]
        simp only [s9_0, s9_1, s9_3, s9_4, s9_7, s9_10, s9_11, s9_12, s9_15, s9_15n, s9_16, s9_16n, s9_17n, s9_17, s9_20, s9_20n, s9_21, s9_22, s9_25, s9_25n, s9_26, s9_26n, s9_29, s9_32, s9_32n, s9_33, s9_36, s9_36n, s9_37, s9_37n, s9_38, s9_39, s9_42, s9_45, s9_48, zb0, zb1, ob_some, tl_s, tl_n, nk_i, nk_r, nk_n, nk_0, pk_us, pk_un, va_up_self, va_up_ne, ne_eq, Nat.reduceEqDiff, not_false_eq_true, true_and, and_true, eq_self, z11, z00, bI_z, gf_0_0, gf_0_1, gf_0_2, gf_0_3, gf_0_4, gf_0_5, gf_0_6, rcv_0, rcO_0, gf_1_0, gf_1_1, sf_1_1, gf_1_2, gf_1_3, gf_1_4, gf_1_5, sf_1_5, gf_1_6, sf_1_6, gf_1_7, sf_1_7, gf_1_8, sf_1_8, gf_1_9, sf_1_9, gf_1_10, sf_1_10, gf_1_11, sf_1_11, rcv_1, rcO_1, gf_6_0, sf_6_0, gf_6_1, sf_6_1, gf_6_2, sf_6_2, gf_6_3, sf_6_3, gf_6_4, gf_6_5, rcv_6, rcO_6, gf_9_0, gf_9_1, sf_9_1, rcv_9, rcO_9, gf_12_0, sf_12_0, gf_12_1, sf_12_1, gf_12_2, gf_12_3, rcv_12, rcO_12, gf_15_0, sf_15_0, gf_15_1, sf_15_1, gf_15_2, gf_15_3, rcv_15, rcO_15, gf_18_0, sf_18_0, gf_18_1, sf_18_1, gf_18_2, gf_18_3, gf_18_4, gf_18_5, sf_18_5, gf_18_6, sf_18_6, gf_18_7, sf_18_7, gf_18_8, sf_18_8, rcv_18, rcO_18, gf_24_0, gf_24_1, gf_24_2, sf_24_2, rcv_24, rcO_24, gf_28_0, gf_28_1, gf_28_2, gf_28_3, sf_28_3, gf_28_4, gf_28_5, sf_28_5, gf_28_6, sf_28_6, gf_28_7, gf_28_8, gf_28_9, gf_28_10, gf_28_11, gf_28_12, gf_28_13, sf_28_13, gf_28_14, sf_28_14, gf_28_15, sf_28_15, gf_28_16, sf_28_16, gf_28_17, sf_28_17, gf_28_18, sf_28_18, gf_28_19, gf_28_20, gf_28_21, gf_28_22, gf_28_23, gf_28_24, sf_28_24, gf_28_25, rcv_28, rcO_28, aI_2, aW_2, sI_2, aI_3, aW_3, sI_3, aI_4, aW_4, sI_4, aI_5, aW_5, sI_5, aI_7, aW_7, sI_7, aI_8, aW_8, sI_8, aI_13, aW_13, sI_13, aI_14, aW_14, sI_14, aI_16, aW_16, sI_16, aI_17, aW_17, sI_17, aI_21, aW_21, sI_21, aI_22, aW_22, sI_22, aI_23, aW_23, sI_23, aI_25, aW_25, sI_25, aI_26, aW_26, sI_26, aI_29, aW_29, sI_29, aI_31, aW_31, sI_31, aI_32, aW_32, sI_32, aI_33, aW_33, sI_33, aI_34, aW_34, sI_34, aI_35, aW_35, sI_35, aI_36, aW_36, sI_36, aI_37, aW_37, sI_37, aI_38, aW_38, sI_38, aI_41, aW_41, sI_41, aI_42, aW_42, sI_42, aI_43, aW_43, sI_43, aL_19, sL_19, aL_20, sL_20, aL_27, sL_27, aL_39, sL_39, aL_40, sL_40, aL_44, sL_44, aB_30, aZ_30, sZ_30, aQ_10, aQ_11, sQ_10, hc, e, y_mem hc hM (show k < M by omega) g1, cl_f2 g2, cl_s2 g2, cl_rcO g2, cl_f3 g2, cl_s3 g2, nI_1, true_implies, false_implies, not_true_eq_false, not_false_eq_true, and_self, true_and, and_true, zqm5_m1, zqm5_0, zqm5_1, zqm5_2, zqm5_3, zqm5_4, zqm4_m1, zqm4_0, zqm4_1, zqm4_2, zqm4_3, zqm4_4, zqm3_m1, zqm3_0, zqm3_1, zqm3_2, zqm3_3, zqm3_4, zqm2_m1, zqm2_0, zqm2_1, zqm2_2, zqm2_3, zqm2_4, zqm1_m5, zqm1_m4, zqm1_m3, zqm1_m2, zqm1_0, zqm1_1, zqm1_2, zqm1_3, zqm1_4, zqm1_5, zqm1_6, zqm1_7, zqm1_8, zqm1_9, zq0_m5, zq0_m4, zq0_m3, zq0_m2, zq0_m1, zq0_1, zq0_2, zq0_3, zq0_4, zq0_5, zq0_6, zq0_7, zq0_8, zq0_9, zq1_m5, zq1_m4, zq1_m3, zq1_m2, zq1_m1, zq1_0, zq1_2, zq1_3, zq1_4, zq1_5, zq1_6, zq1_7, zq1_8, zq1_9, zq2_m5, zq2_m4, zq2_m3, zq2_m2, zq2_m1, zq2_0, zq2_1, zq2_3, zq2_4, zq2_5, zq2_6, zq2_7, zq2_8, zq2_9, zq3_m5, zq3_m4, zq3_m3, zq3_m2, zq3_m1, zq3_0, zq3_1, zq3_2, zq3_4, zq3_5, zq3_6, zq3_7, zq3_8, zq3_9, zq4_m5, zq4_m4, zq4_m3, zq4_m2, zq4_m1, zq4_0, zq4_1, zq4_2, zq4_3, zq4_5, zq4_6, zq4_7, zq4_8, zq4_9, zq5_m1, zq5_0, zq5_1, zq5_2, zq5_3, zq5_4, zq6_m1, zq6_0, zq6_1, zq6_2, zq6_3, zq6_4, zq7_m1, zq7_0, zq7_1, zq7_2, zq7_3, zq7_4, zq8_m1, zq8_0, zq8_1, zq8_2, zq8_3, zq8_4, zq9_m1, zq9_0, zq9_1, zq9_2, zq9_3, zq9_4, List.mem_cons, List.not_mem_nil, Nat.reduceEqDiff, or_false, false_or, or_true, true_or, or_self, if_true, if_false]
        exact f4 X d Q
    · have e9 : ¬ ss k ∈ ([9] : List Nat) := by simp [h9]
      have e10 : ss k ∈ ([0, 1, 2, 3, 4, 5, 6, 7, 8, 10, 11] : List Nat) := by
        rcases g2.2.2.2 with q | q | q | q <;> simp [q] at h9 ⊢
      obtain ⟨c2, f1, f2, f3, f4⟩ := ih (k + 1) (upd c (100 * pp k + 2) 0) (some (.ref (pp k))) l3 (by omega) (by rw [pk_un (by omega)]; exact hc)
      refine ⟨c2, fun q hq => ?_, fun i hi => ?_, fun i h1 h2 => ?_, fun X d Q => ?_⟩
      · rw [f1 q hq, pk_un (hq k (by omega)).1]
      · have hne : pp i ≠ pp k := fun z => by have := hd i k (by omega) (by omega) z; omega
        have := f2 i (by omega)
        rw [pk_un (by omega), pk_un (by omega)] at this
        exact this
      · by_cases hik : i = k
        · subst hik
          have := f2 i (by omega)
          rw [pk_us] at this
          exact ⟨this.1, fun z => absurd z h9⟩
        · exact f3 i (by omega) h2
      · rw [s9_2]
        simp only [s9_0, s9_1, s9_3, s9_4, s9_7, s9_10, s9_11, s9_12, s9_15, s9_15n, s9_16, s9_16n, s9_17n, s9_17, s9_20, s9_20n, s9_21, s9_22, s9_25, s9_25n, s9_26, s9_26n, s9_29, s9_32, s9_32n, s9_33, s9_36, s9_36n, s9_37, s9_37n, s9_38, s9_39, s9_42, s9_45, s9_48, zb0, zb1, ob_some, tl_s, tl_n, nk_i, nk_r, nk_n, nk_0, pk_us, pk_un, va_up_self, va_up_ne, ne_eq, Nat.reduceEqDiff, not_false_eq_true, true_and, and_true, eq_self, z11, z00, bI_z, gf_0_0, gf_0_1, gf_0_2, gf_0_3, gf_0_4, gf_0_5, gf_0_6, rcv_0, rcO_0, gf_1_0, gf_1_1, sf_1_1, gf_1_2, gf_1_3, gf_1_4, gf_1_5, sf_1_5, gf_1_6, sf_1_6, gf_1_7, sf_1_7, gf_1_8, sf_1_8, gf_1_9, sf_1_9, gf_1_10, sf_1_10, gf_1_11, sf_1_11, rcv_1, rcO_1, gf_6_0, sf_6_0, gf_6_1, sf_6_1, gf_6_2, sf_6_2, gf_6_3, sf_6_3, gf_6_4, gf_6_5, rcv_6, rcO_6, gf_9_0, gf_9_1, sf_9_1, rcv_9, rcO_9, gf_12_0, sf_12_0, gf_12_1, sf_12_1, gf_12_2, gf_12_3, rcv_12, rcO_12, gf_15_0, sf_15_0, gf_15_1, sf_15_1, gf_15_2, gf_15_3, rcv_15, rcO_15, gf_18_0, sf_18_0, gf_18_1, sf_18_1, gf_18_2, gf_18_3, gf_18_4, gf_18_5, sf_18_5, gf_18_6, sf_18_6, gf_18_7, sf_18_7, gf_18_8, sf_18_8, rcv_18, rcO_18, gf_24_0, gf_24_1, gf_24_2, sf_24_2, rcv_24, rcO_24, gf_28_0, gf_28_1, gf_28_2, gf_28_3, sf_28_3, gf_28_4, gf_28_5, sf_28_5, gf_28_6, sf_28_6, gf_28_7, gf_28_8, gf_28_9, gf_28_10, gf_28_11, gf_28_12, gf_28_13, sf_28_13, gf_28_14, sf_28_14, gf_28_15, sf_28_15, gf_28_16, sf_28_16, gf_28_17, sf_28_17, gf_28_18, sf_28_18, gf_28_19, gf_28_20, gf_28_21, gf_28_22, gf_28_23, gf_28_24, sf_28_24, gf_28_25, rcv_28, rcO_28, aI_2, aW_2, sI_2, aI_3, aW_3, sI_3, aI_4, aW_4, sI_4, aI_5, aW_5, sI_5, aI_7, aW_7, sI_7, aI_8, aW_8, sI_8, aI_13, aW_13, sI_13, aI_14, aW_14, sI_14, aI_16, aW_16, sI_16, aI_17, aW_17, sI_17, aI_21, aW_21, sI_21, aI_22, aW_22, sI_22, aI_23, aW_23, sI_23, aI_25, aW_25, sI_25, aI_26, aW_26, sI_26, aI_29, aW_29, sI_29, aI_31, aW_31, sI_31, aI_32, aW_32, sI_32, aI_33, aW_33, sI_33, aI_34, aW_34, sI_34, aI_35, aW_35, sI_35, aI_36, aW_36, sI_36, aI_37, aW_37, sI_37, aI_38, aW_38, sI_38, aI_41, aW_41, sI_41, aI_42, aW_42, sI_42, aI_43, aW_43, sI_43, aL_19, sL_19, aL_20, sL_20, aL_27, sL_27, aL_39, sL_39, aL_40, sL_40, aL_44, sL_44, aB_30, aZ_30, sZ_30, aQ_10, aQ_11, sQ_10, hc, e, y_mem hc hM (show k < M by omega) g1, cl_f2 g2, cl_s2 g2, cl_rcO g2, e9, e10, nI_1, if_true, if_false, true_implies, false_implies, not_true_eq_false, not_false_eq_true, and_self, true_and, and_true, zqm5_m1, zqm5_0, zqm5_1, zqm5_2, zqm5_3, zqm5_4, zqm4_m1, zqm4_0, zqm4_1, zqm4_2, zqm4_3, zqm4_4, zqm3_m1, zqm3_0, zqm3_1, zqm3_2, zqm3_3, zqm3_4, zqm2_m1, zqm2_0, zqm2_1, zqm2_2, zqm2_3, zqm2_4, zqm1_m5, zqm1_m4, zqm1_m3, zqm1_m2, zqm1_0, zqm1_1, zqm1_2, zqm1_3, zqm1_4, zqm1_5, zqm1_6, zqm1_7, zqm1_8, zqm1_9, zq0_m5, zq0_m4, zq0_m3, zq0_m2, zq0_m1, zq0_1, zq0_2, zq0_3, zq0_4, zq0_5, zq0_6, zq0_7, zq0_8, zq0_9, zq1_m5, zq1_m4, zq1_m3, zq1_m2, zq1_m1, zq1_0, zq1_2, zq1_3, zq1_4, zq1_5, zq1_6, zq1_7, zq1_8, zq1_9, zq2_m5, zq2_m4, zq2_m3, zq2_m2, zq2_m1, zq2_0, zq2_1, zq2_3, zq2_4, zq2_5, zq2_6, zq2_7, zq2_8, zq2_9, zq3_m5, zq3_m4, zq3_m3, zq3_m2, zq3_m1, zq3_0, zq3_1, zq3_2, zq3_4, zq3_5, zq3_6, zq3_7, zq3_8, zq3_9, zq4_m5, zq4_m4, zq4_m3, zq4_m2, zq4_m1, zq4_0, zq4_1, zq4_2, zq4_3, zq4_5, zq4_6, zq4_7, zq4_8, zq4_9, zq5_m1, zq5_0, zq5_1, zq5_2, zq5_3, zq5_4, zq6_m1, zq6_0, zq6_1, zq6_2, zq6_3, zq6_4, zq7_m1, zq7_0, zq7_1, zq7_2, zq7_3, zq7_4, zq8_m1, zq8_0, zq8_1, zq8_2, zq8_3, zq8_4, zq9_m1, zq9_0, zq9_1, zq9_2, zq9_3, zq9_4]
        exact f4 X d Q
variable {c : Nat → Int32}
theorem begin0 : ∀ j k r, k + j = 20 → (∀ i, i < k → r 29 i = -1) → ∃ r2 : Nat → Nat → Int32, (∀ q, q ≠ 29 → r2 q = r q) ∧ (∀ i, i < 20 → r2 29 i = -1) ∧ ∀ X d Q, Wp X d 112 2 [some (.ref 28), some (.int (nI k))] [] (G c r w mb n1 n2 sh) Q = Wp X d 112 23 [some (.ref 28), some (.int (nI 0))] [] (G c r2 w mb n1 n2 sh) Q := by
  intro j
  induction j with
  | zero =>
    intro k r hk hr
    obtain rfl : k = 20 := by omega
    have e : (20 : Int32) ≤ nI 20 := by decide
    refine ⟨r, fun _ _ => rfl, hr, fun X d Q => ?_⟩
    rw [s112_2]
    simp only [s112_0, s112_1, s112_3, s112_5, s112_8, s112_9, s112_12, s112_13, s112_14, s112_15, s112_18, s112_21, s112_22, s112_24, s112_25, s112_28, s112_29, s112_32, s112_34, s112_35, s112_36, s112_37, s112_38, s112_39, s112_42, s112_43, s112_44, s112_45, s112_48, s112_51, zb0, zb1, ob_some, tl_s, tl_n, nk_i, nk_r, nk_n, nk_0, pk_us, pk_un, va_up_self, va_up_ne, ne_eq, Nat.reduceEqDiff, not_false_eq_true, true_and, and_true, eq_self, z11, z00, bI_z, gf_0_0, gf_0_1, gf_0_2, gf_0_3, gf_0_4, gf_0_5, gf_0_6, rcv_0, rcO_0, gf_1_0, gf_1_1, sf_1_1, gf_1_2, gf_1_3, gf_1_4, gf_1_5, sf_1_5, gf_1_6, sf_1_6, gf_1_7, sf_1_7, gf_1_8, sf_1_8, gf_1_9, sf_1_9, gf_1_10, sf_1_10, gf_1_11, sf_1_11, rcv_1, rcO_1, gf_6_0, sf_6_0, gf_6_1, sf_6_1, gf_6_2, sf_6_2, gf_6_3, sf_6_3, gf_6_4, gf_6_5, rcv_6, rcO_6, gf_9_0, gf_9_1, sf_9_1, rcv_9, rcO_9, gf_12_0, sf_12_0, gf_12_1, sf_12_1, gf_12_2, gf_12_3, rcv_12, rcO_12, gf_15_0, sf_15_0, gf_15_1, sf_15_1, gf_15_2, gf_15_3, rcv_15, rcO_15, gf_18_0, sf_18_0, gf_18_1, sf_18_1, gf_18_2, gf_18_3, gf_18_4, gf_18_5, sf_18_5, gf_18_6, sf_18_6, gf_18_7, sf_18_7, gf_18_8, sf_18_8, rcv_18, rcO_18, gf_24_0, gf_24_1, gf_24_2, sf_24_2, rcv_24, rcO_24, gf_28_0, gf_28_1, gf_28_2, gf_28_3, sf_28_3, gf_28_4, gf_28_5, sf_28_5, gf_28_6, sf_28_6, gf_28_7, gf_28_8, gf_28_9, gf_28_10, gf_28_11, gf_28_12, gf_28_13, sf_28_13, gf_28_14, sf_28_14, gf_28_15, sf_28_15, gf_28_16, sf_28_16, gf_28_17, sf_28_17, gf_28_18, sf_28_18, gf_28_19, gf_28_20, gf_28_21, gf_28_22, gf_28_23, gf_28_24, sf_28_24, gf_28_25, rcv_28, rcO_28, aI_2, aW_2, sI_2, aI_3, aW_3, sI_3, aI_4, aW_4, sI_4, aI_5, aW_5, sI_5, aI_7, aW_7, sI_7, aI_8, aW_8, sI_8, aI_13, aW_13, sI_13, aI_14, aW_14, sI_14, aI_16, aW_16, sI_16, aI_17, aW_17, sI_17, aI_21, aW_21, sI_21, aI_22, aW_22, sI_22, aI_23, aW_23, sI_23, aI_25, aW_25, sI_25, aI_26, aW_26, sI_26, aI_29, aW_29, sI_29, aI_31, aW_31, sI_31, aI_32, aW_32, sI_32, aI_33, aW_33, sI_33, aI_34, aW_34, sI_34, aI_35, aW_35, sI_35, aI_36, aW_36, sI_36, aI_37, aW_37, sI_37, aI_38, aW_38, sI_38, aI_41, aW_41, sI_41, aI_42, aW_42, sI_42, aI_43, aW_43, sI_43, aL_19, sL_19, aL_20, sL_20, aL_27, sL_27, aL_39, sL_39, aL_40, sL_40, aL_44, sL_44, aB_30, aZ_30, sZ_30, aQ_10, aQ_11, sQ_10, e, true_implies, false_implies, not_true_eq_false, not_false_eq_true, and_self, true_and, and_true]
    rfl
  | succ j ih =>
    intro k r hk hr
    have e : ¬ (20 : Int32) ≤ nI k := nI_ge (b := 20) (by omega) (by omega)
    have i1 := inb_nI (show k < 100 by omega) (by omega)
    have z1 := nI_clamp (show k < 2 ^ 31 by omega)
    obtain ⟨r2, f1, f2, f3⟩ := ih (k + 1) (va_up r 29 (upd (r 29) k (-1))) (by omega) (fun i hi => by
      show upd (r 29) k (-1) i = -1
      by_cases h : i = k
      · rw [h, pk_us]
      · rw [pk_un h]; exact hr i (by omega))
    refine ⟨r2, fun q hq => (f1 q hq).trans (if_neg hq), f2, fun X d Q => ?_⟩
    rw [s112_2]
    simp only [s112_0, s112_1, s112_3, s112_5, s112_8, s112_9, s112_12, s112_13, s112_14, s112_15, s112_18, s112_21, s112_22, s112_24, s112_25, s112_28, s112_29, s112_32, s112_34, s112_35, s112_36, s112_37, s112_38, s112_39, s112_42, s112_43, s112_44, s112_45, s112_48, s112_51, zb0, zb1, ob_some, tl_s, tl_n, nk_i, nk_r, nk_n, nk_0, pk_us, pk_un, va_up_self, va_up_ne, ne_eq, Nat.reduceEqDiff, not_false_eq_true, true_and, and_true, eq_self, z11, z00, bI_z, gf_0_0, gf_0_1, gf_0_2, gf_0_3, gf_0_4, gf_0_5, gf_0_6, rcv_0, rcO_0, gf_1_0, gf_1_1, sf_1_1, gf_1_2, gf_1_3, gf_1_4, gf_1_5, sf_1_5, gf_1_6, sf_1_6, gf_1_7, sf_1_7, gf_1_8, sf_1_8, gf_1_9, sf_1_9, gf_1_10, sf_1_10, gf_1_11, sf_1_11, rcv_1, rcO_1, gf_6_0, sf_6_0, gf_6_1, sf_6_1, gf_6_2, sf_6_2, gf_6_3, sf_6_3, gf_6_4, gf_6_5, rcv_6, rcO_6, gf_9_0, gf_9_1, sf_9_1, rcv_9, rcO_9, gf_12_0, sf_12_0, gf_12_1, sf_12_1, gf_12_2, gf_12_3, rcv_12, rcO_12, gf_15_0, sf_15_0, gf_15_1, sf_15_1, gf_15_2, gf_15_3, rcv_15, rcO_15, gf_18_0, sf_18_0, gf_18_1, sf_18_1, gf_18_2, gf_18_3, gf_18_4, gf_18_5, sf_18_5, gf_18_6, sf_18_6, gf_18_7, sf_18_7, gf_18_8, sf_18_8, rcv_18, rcO_18, gf_24_0, gf_24_1, gf_24_2, sf_24_2, rcv_24, rcO_24, gf_28_0, gf_28_1, gf_28_2, gf_28_3, sf_28_3, gf_28_4, gf_28_5, sf_28_5, gf_28_6, sf_28_6, gf_28_7, gf_28_8, gf_28_9, gf_28_10, gf_28_11, gf_28_12, gf_28_13, sf_28_13, gf_28_14, sf_28_14, gf_28_15, sf_28_15, gf_28_16, sf_28_16, gf_28_17, sf_28_17, gf_28_18, sf_28_18, gf_28_19, gf_28_20, gf_28_21, gf_28_22, gf_28_23, gf_28_24, sf_28_24, gf_28_25, rcv_28, rcO_28, aI_2, aW_2, sI_2, aI_3, aW_3, sI_3, aI_4, aW_4, sI_4, aI_5, aW_5, sI_5, aI_7, aW_7, sI_7, aI_8, aW_8, sI_8, aI_13, aW_13, sI_13, aI_14, aW_14, sI_14, aI_16, aW_16, sI_16, aI_17, aW_17, sI_17, aI_21, aW_21, sI_21, aI_22, aW_22, sI_22, aI_23, aW_23, sI_23, aI_25, aW_25, sI_25, aI_26, aW_26, sI_26, aI_29, aW_29, sI_29, aI_31, aW_31, sI_31, aI_32, aW_32, sI_32, aI_33, aW_33, sI_33, aI_34, aW_34, sI_34, aI_35, aW_35, sI_35, aI_36, aW_36, sI_36, aI_37, aW_37, sI_37, aI_38, aW_38, sI_38, aI_41, aW_41, sI_41, aI_42, aW_42, sI_42, aI_43, aW_43, sI_43, aL_19, sL_19, aL_20, sL_20, aL_27, sL_27, aL_39, sL_39, aL_40, sL_40, aL_44, sL_44, aB_30, aZ_30, sZ_30, aQ_10, aQ_11, sQ_10, e, i1, z1, nI_1, true_implies, false_implies, not_true_eq_false, not_false_eq_true, and_self, true_and, and_true]
    exact f3 X d Q
theorem begin1 : ∀ j k r, k + j = 5 → (∀ i, i < k → r 29 (20 + i) = 0 ∧ r 38 i = 0) → ∃ r2 : Nat → Nat → Int32, (∀ q, q ≠ 29 → q ≠ 38 → r2 q = r q) ∧ (∀ i, i < 20 → r2 29 i = r 29 i) ∧ (∀ i, i < 5 → r2 29 (20 + i) = 0 ∧ r2 38 i = 0) ∧ ∀ X d Q, Wp X d 112 23 [some (.ref 28), some (.int (nI k))] [] (G c r w mb n1 n2 sh) Q = Q none (G c r2 w mb n1 n2 sh) := by
  intro j
  induction j with
  | zero =>
    intro k r hk hr
    obtain rfl : k = 5 := by omega
    have e : (5 : Int32) ≤ nI 5 := by decide
    refine ⟨r, fun _ _ _ => rfl, fun _ _ => rfl, hr, fun X d Q => ?_⟩
    rw [s112_23]
    simp only [s112_0, s112_1, s112_3, s112_5, s112_8, s112_9, s112_12, s112_13, s112_14, s112_15, s112_18, s112_21, s112_22, s112_24, s112_25, s112_28, s112_29, s112_32, s112_34, s112_35, s112_36, s112_37, s112_38, s112_39, s112_42, s112_43, s112_44, s112_45, s112_48, s112_51, zb0, zb1, ob_some, tl_s, tl_n, nk_i, nk_r, nk_n, nk_0, pk_us, pk_un, va_up_self, va_up_ne, ne_eq, Nat.reduceEqDiff, not_false_eq_true, true_and, and_true, eq_self, z11, z00, bI_z, gf_0_0, gf_0_1, gf_0_2, gf_0_3, gf_0_4, gf_0_5, gf_0_6, rcv_0, rcO_0, gf_1_0, gf_1_1, sf_1_1, gf_1_2, gf_1_3, gf_1_4, gf_1_5, sf_1_5, gf_1_6, sf_1_6, gf_1_7, sf_1_7, gf_1_8, sf_1_8, gf_1_9, sf_1_9, gf_1_10, sf_1_10, gf_1_11, sf_1_11, rcv_1, rcO_1, gf_6_0, sf_6_0, gf_6_1, sf_6_1, gf_6_2, sf_6_2, gf_6_3, sf_6_3, gf_6_4, gf_6_5, rcv_6, rcO_6, gf_9_0, gf_9_1, sf_9_1, rcv_9, rcO_9, gf_12_0, sf_12_0, gf_12_1, sf_12_1, gf_12_2, gf_12_3, rcv_12, rcO_12, gf_15_0, sf_15_0, gf_15_1, sf_15_1, gf_15_2, gf_15_3, rcv_15, rcO_15, gf_18_0, sf_18_0, gf_18_1, sf_18_1, gf_18_2, gf_18_3, gf_18_4, gf_18_5, sf_18_5, gf_18_6, sf_18_6, gf_18_7, sf_18_7, gf_18_8, sf_18_8, rcv_18, rcO_18, gf_24_0, gf_24_1, gf_24_2, sf_24_2, rcv_24, rcO_24, gf_28_0, gf_28_1, gf_28_2, gf_28_3, sf_28_3, gf_28_4, gf_28_5, sf_28_5, gf_28_6, sf_28_6, gf_28_7, gf_28_8, gf_28_9, gf_28_10, gf_28_11, gf_28_12, gf_28_13, sf_28_13, gf_28_14, sf_28_14, gf_28_15, sf_28_15, gf_28_16, sf_28_16, gf_28_17, sf_28_17, gf_28_18, sf_28_18, gf_28_19, gf_28_20, gf_28_21, gf_28_22, gf_28_23, gf_28_24, sf_28_24, gf_28_25, rcv_28, rcO_28, aI_2, aW_2, sI_2, aI_3, aW_3, sI_3, aI_4, aW_4, sI_4, aI_5, aW_5, sI_5, aI_7, aW_7, sI_7, aI_8, aW_8, sI_8, aI_13, aW_13, sI_13, aI_14, aW_14, sI_14, aI_16, aW_16, sI_16, aI_17, aW_17, sI_17, aI_21, aW_21, sI_21, aI_22, aW_22, sI_22, aI_23, aW_23, sI_23, aI_25, aW_25, sI_25, aI_26, aW_26, sI_26, aI_29, aW_29, sI_29, aI_31, aW_31, sI_31, aI_32, aW_32, sI_32, aI_33, aW_33, sI_33, aI_34, aW_34, sI_34, aI_35, aW_35, sI_35, aI_36, aW_36, sI_36, aI_37, aW_37, sI_37, aI_38, aW_38, sI_38, aI_41, aW_41, sI_41, aI_42, aW_42, sI_42, aI_43, aW_43, sI_43, aL_19, sL_19, aL_20, sL_20, aL_27, sL_27, aL_39, sL_39, aL_40, sL_40, aL_44, sL_44, aB_30, aZ_30, sZ_30, aQ_10, aQ_11, sQ_10, e, true_implies, false_implies, not_true_eq_false, not_false_eq_true, and_self, true_and, and_true]
  | succ j ih =>
    intro k r hk hr
    have e : ¬ (5 : Int32) ≤ nI k := nI_ge (b := 5) (by omega) (by omega)
    have i1 := inb_nI (show 20 + k < 100 by omega) (by omega)
    have z1 := nI_clamp (show 20 + k < 2 ^ 31 by omega)
    have i2 := inb_nI (show k < 5 by omega) (by omega)
    have z2 := nI_clamp (show k < 2 ^ 31 by omega)
    obtain ⟨r2, f1, f2, f3, f4⟩ := ih (k + 1) (va_up (va_up r 29 (upd (r 29) (20 + k) 0)) 38 (upd (r 38) k 0)) (by omega) (fun i hi => by
      show upd (r 29) (20 + k) 0 (20 + i) = 0 ∧ upd (r 38) k 0 i = 0
      by_cases h : i = k
      · rw [h, pk_us, pk_us]; exact ⟨rfl, rfl⟩
      · rw [pk_un (by omega), pk_un h]; exact hr i (by omega))
    refine ⟨r2, fun q h1 h2 => (f1 q h1 h2).trans ((if_neg h2).trans (if_neg h1)), fun i hi => (f2 i hi).trans (pk_un (by omega)), f3, fun X d Q => ?_⟩
    rw [s112_23]
    simp only [s112_0, s112_1, s112_3, s112_5, s112_8, s112_9, s112_12, s112_13, s112_14, s112_15, s112_18, s112_21, s112_22, s112_24, s112_25, s112_28, s112_29, s112_32, s112_34, s112_35, s112_36, s112_37, s112_38, s112_39, s112_42, s112_43, s112_44, s112_45, s112_48, s112_51, zb0, zb1, ob_some, tl_s, tl_n, nk_i, nk_r, nk_n, nk_0, pk_us, pk_un, va_up_self, va_up_ne, ne_eq, Nat.reduceEqDiff, not_false_eq_true, true_and, and_true, eq_self, z11, z00, bI_z, gf_0_0, gf_0_1, gf_0_2, gf_0_3, gf_0_4, gf_0_5, gf_0_6, rcv_0, rcO_0, gf_1_0, gf_1_1, sf_1_1, gf_1_2, gf_1_3, gf_1_4, gf_1_5, sf_1_5, gf_1_6, sf_1_6, gf_1_7, sf_1_7, gf_1_8, sf_1_8, gf_1_9, sf_1_9, gf_1_10, sf_1_10, gf_1_11, sf_1_11, rcv_1, rcO_1, gf_6_0, sf_6_0, gf_6_1, sf_6_1, gf_6_2, sf_6_2, gf_6_3, sf_6_3, gf_6_4, gf_6_5, rcv_6, rcO_6, gf_9_0, gf_9_1, sf_9_1, rcv_9, rcO_9, gf_12_0, sf_12_0, gf_12_1, sf_12_1, gf_12_2, gf_12_3, rcv_12, rcO_12, gf_15_0, sf_15_0, gf_15_1, sf_15_1, gf_15_2, gf_15_3, rcv_15, rcO_15, gf_18_0, sf_18_0, gf_18_1, sf_18_1, gf_18_2, gf_18_3, gf_18_4, gf_18_5, sf_18_5, gf_18_6, sf_18_6, gf_18_7, sf_18_7, gf_18_8, sf_18_8, rcv_18, rcO_18, gf_24_0, gf_24_1, gf_24_2, sf_24_2, rcv_24, rcO_24, gf_28_0, gf_28_1, gf_28_2, gf_28_3, sf_28_3, gf_28_4, gf_28_5, sf_28_5, gf_28_6, sf_28_6, gf_28_7, gf_28_8, gf_28_9, gf_28_10, gf_28_11, gf_28_12, gf_28_13, sf_28_13, gf_28_14, sf_28_14, gf_28_15, sf_28_15, gf_28_16, sf_28_16, gf_28_17, sf_28_17, gf_28_18, sf_28_18, gf_28_19, gf_28_20, gf_28_21, gf_28_22, gf_28_23, gf_28_24, sf_28_24, gf_28_25, rcv_28, rcO_28, aI_2, aW_2, sI_2, aI_3, aW_3, sI_3, aI_4, aW_4, sI_4, aI_5, aW_5, sI_5, aI_7, aW_7, sI_7, aI_8, aW_8, sI_8, aI_13, aW_13, sI_13, aI_14, aW_14, sI_14, aI_16, aW_16, sI_16, aI_17, aW_17, sI_17, aI_21, aW_21, sI_21, aI_22, aW_22, sI_22, aI_23, aW_23, sI_23, aI_25, aW_25, sI_25, aI_26, aW_26, sI_26, aI_29, aW_29, sI_29, aI_31, aW_31, sI_31, aI_32, aW_32, sI_32, aI_33, aW_33, sI_33, aI_34, aW_34, sI_34, aI_35, aW_35, sI_35, aI_36, aW_36, sI_36, aI_37, aW_37, sI_37, aI_38, aW_38, sI_38, aI_41, aW_41, sI_41, aI_42, aW_42, sI_42, aI_43, aW_43, sI_43, aL_19, sL_19, aL_20, sL_20, aL_27, sL_27, aL_39, sL_39, aL_40, sL_40, aL_44, sL_44, aB_30, aZ_30, sZ_30, aQ_10, aQ_11, sQ_10, e, n20, i1, z1, i2, z2, nI_1, true_implies, false_implies, not_true_eq_false, not_false_eq_true, and_self, true_and, and_true]
    exact f4 X d Q
theorem m_begin : ∃ r2 : Nat → Nat → Int32, (∀ q, q ≠ 29 → q ≠ 38 → r2 q = r q) ∧ (∀ i, i < 20 → r2 29 i = -1) ∧ (∀ i, i < 5 → r2 29 (20 + i) = 0 ∧ r2 38 i = 0) ∧ ∀ X d K, Cl X d 112 [.ref 28] (G c r w mb n1 n2 sh) K = K none (G c r2 w mb n1 n2 sh) := by
  obtain ⟨r2, f1, f2, f3⟩ := begin0 (c := c) (w := w) (mb := mb) (n1 := n1) (n2 := n2) (sh := sh) 20 0 r (by omega) (fun i hi => absurd hi (Nat.not_lt_zero i))
  obtain ⟨r3, g1, g2, g3, g4⟩ := begin1 (c := c) (w := w) (mb := mb) (n1 := n1) (n2 := n2) (sh := sh) 5 0 r2 (by omega) (fun i hi => absurd hi (Nat.not_lt_zero i))
  refine ⟨r3, fun q h1 h2 => (g1 q h1 h2).trans (f1 q h1), fun i hi => (g2 i hi).trans (f2 i hi), g3, fun X d K => ?_⟩
  rw [e112]
  simp only [s112_0, s112_1, s112_3, s112_5, s112_8, s112_9, s112_12, s112_13, s112_14, s112_15, s112_18, s112_21, s112_22, s112_24, s112_25, s112_28, s112_29, s112_32, s112_34, s112_35, s112_36, s112_37, s112_38, s112_39, s112_42, s112_43, s112_44, s112_45, s112_48, s112_51, zb0, zb1, ob_some, tl_s, tl_n, nk_i, nk_r, nk_n, nk_0, pk_us, pk_un, va_up_self, va_up_ne, ne_eq, Nat.reduceEqDiff, not_false_eq_true, true_and, and_true, eq_self, z11, z00, bI_z, gf_0_0, gf_0_1, gf_0_2, gf_0_3, gf_0_4, gf_0_5, gf_0_6, rcv_0, rcO_0, gf_1_0, gf_1_1, sf_1_1, gf_1_2, gf_1_3, gf_1_4, gf_1_5, sf_1_5, gf_1_6, sf_1_6, gf_1_7, sf_1_7, gf_1_8, sf_1_8, gf_1_9, sf_1_9, gf_1_10, sf_1_10, gf_1_11, sf_1_11, rcv_1, rcO_1, gf_6_0, sf_6_0, gf_6_1, sf_6_1, gf_6_2, sf_6_2, gf_6_3, sf_6_3, gf_6_4, gf_6_5, rcv_6, rcO_6, gf_9_0, gf_9_1, sf_9_1, rcv_9, rcO_9, gf_12_0, sf_12_0, gf_12_1, sf_12_1, gf_12_2, gf_12_3, rcv_12, rcO_12, gf_15_0, sf_15_0, gf_15_1, sf_15_1, gf_15_2, gf_15_3, rcv_15, rcO_15, gf_18_0, sf_18_0, gf_18_1, sf_18_1, gf_18_2, gf_18_3, gf_18_4, gf_18_5, sf_18_5, gf_18_6, sf_18_6, gf_18_7, sf_18_7, gf_18_8, sf_18_8, rcv_18, rcO_18, gf_24_0, gf_24_1, gf_24_2, sf_24_2, rcv_24, rcO_24, gf_28_0, gf_28_1, gf_28_2, gf_28_3, sf_28_3, gf_28_4, gf_28_5, sf_28_5, gf_28_6, sf_28_6, gf_28_7, gf_28_8, gf_28_9, gf_28_10, gf_28_11, gf_28_12, gf_28_13, sf_28_13, gf_28_14, sf_28_14, gf_28_15, sf_28_15, gf_28_16, sf_28_16, gf_28_17, sf_28_17, gf_28_18, sf_28_18, gf_28_19, gf_28_20, gf_28_21, gf_28_22, gf_28_23, gf_28_24, sf_28_24, gf_28_25, rcv_28, rcO_28, aI_2, aW_2, sI_2, aI_3, aW_3, sI_3, aI_4, aW_4, sI_4, aI_5, aW_5, sI_5, aI_7, aW_7, sI_7, aI_8, aW_8, sI_8, aI_13, aW_13, sI_13, aI_14, aW_14, sI_14, aI_16, aW_16, sI_16, aI_17, aW_17, sI_17, aI_21, aW_21, sI_21, aI_22, aW_22, sI_22, aI_23, aW_23, sI_23, aI_25, aW_25, sI_25, aI_26, aW_26, sI_26, aI_29, aW_29, sI_29, aI_31, aW_31, sI_31, aI_32, aW_32, sI_32, aI_33, aW_33, sI_33, aI_34, aW_34, sI_34, aI_35, aW_35, sI_35, aI_36, aW_36, sI_36, aI_37, aW_37, sI_37, aI_38, aW_38, sI_38, aI_41, aW_41, sI_41, aI_42, aW_42, sI_42, aI_43, aW_43, sI_43, aL_19, sL_19, aL_20, sL_20, aL_27, sL_27, aL_39, sL_39, aL_40, sL_40, aL_44, sL_44, aB_30, aZ_30, sZ_30, aQ_10, aQ_11, sQ_10]
  exact (f3 X d K).trans (g4 X d K)
end LG
theorem nar0 : vp_nar .boolean 0 = 0 := by decide
theorem ln_fb {t : Nat → Nat} {L p H M f : Nat} (hp : p ≤ L) (h : ln t L p H M = .inl f) : f ≤ L := by
  have h1 := tB_le (t := t) hp
  have h2 := tB_le (t := t) (nxt_le (t := t) hp)
  have h3 := tB_le (t := t) (nxt_le (t := t) (nxt_le (t := t) hp))
  unfold ln at h
  repeat' (split at h)
  all_goals first | (cases h; assumption) | cases h
theorem ln_pb {t : Nat → Nat} {L p H M u a b p2 H2 M2 : Nat} (hp : p ≤ L) (h : ln t L p H M = .inr (u, a, b, p2, H2, M2)) : p2 ≤ L := by
  have h1 := nxt_le (t := t) hp
  have h2 := nxt_le (t := t) h1
  have h3 := nxt_le (t := t) h2
  unfold ln at h
  repeat' (split at h)
  all_goals first | (cases h; assumption) | cases h
theorem ft_fb {t : Nat → Nat} {L : Nat} : ∀ {j p H M f : Nat}, p ≤ L → ft t L j p H M = .inl f → f ≤ L
  | 0, p, H, M, f, hp, h => by
    cases h
    omega
  | j + 1, p, H, M, f, hp, h => by
    rw [ft_s] at h
    cases hl : ln t L p H M with
    | inl g =>
      rw [hl] at h
      cases h
      exact ln_fb hp hl
    | inr x =>
      obtain ⟨u, a, b, p2, H2, M2⟩ := x
      rw [hl] at h
      dsimp only at h
      have hp2 := ln_pb hp hl
      unfold aftN at h
      by_cases h1 : tB t L p2 < L
      · rw [if_pos h1] at h
        by_cases h2 : t (tB t L p2) = 59
        · rw [if_pos h2] at h
          cases hf : ft t L j (nxt t L p2) H2 M2 with
          | inl g =>
            rw [hf] at h
            cases h
            exact ft_fb (nxt_le hp2) hf
          | inr l => rw [hf] at h; cases h
        · rw [if_neg h2] at h
          cases h
          omega
      · rw [if_neg h1] at h
        cases h
section OLd
variable {X : XS}
theorem op_ladder : Op X 69 126 [] := by
  unfold Op
  rintro h n hn ⟨c, r, w, mb, n1, n2, sh, H, M, L, pp, ss, rc, ld, aa, rfl, hI⟩
  have hI2 := hI
  obtain ⟨⟨hT1, hT2, hT3, hT4⟩, ⟨hR1, hR2, hR3, hR4, hR5, hR6⟩, hS, ⟨hC1, hC2, hC3, hC4, hC5⟩, hK, hN, hn1, hn2⟩ := hI2
  obtain ⟨t, htt⟩ : ∃ t : Nat → Nat, t = fun i => (r 31 i).toNatClampNeg := ⟨_, rfl⟩
  have ht : ∀ i, i < L → r 31 i = nI (t i) ∧ t i < 256 := by
    intro i hi
    obtain ⟨_, b, hb, e⟩ := hT4 i hi
    have : t i = b := by rw [htt]; show (r 31 i).toNatClampNeg = b; rw [e]; exact nI_clamp (by omega)
    rw [this]
    exact ⟨e, hb⟩
  have ht2 : ∀ i, i < L → r 2 i = nI (t i) ∧ t i < 256 := fun i hi => ⟨(hT4 i hi).1.trans (ht i hi).1, (ht i hi).2⟩
  have hE := c_fault (w := w) (mb := mb) (n1 := n1) (n2 := n2) (sh := sh) hT3 hT1 ht2 ⟨hR3, hR4⟩ hC3
  cases hz : ft t L 12 0 H M with
  | inl f =>
    rw [hz] at hE
    obtain ⟨c2, r2, g1, g2⟩ := hE
    have s1 := Sm.ff g1
    have hI3 := hI.sm s1
    obtain ⟨⟨k1, k2, k3, k4⟩, ⟨m1, m2, m3, m4, m5, m6⟩, _, ⟨o1, o2, o3, o4, o5⟩, _⟩ := id hI3
    have hm := m_fault (r := r2) (t := t) (w := w) (mb := mb) (n1 := n1) (n2 := n2) (sh := sh) hT3 k2 (by rw [s1.2.1 31 (by decide)]; exact ht) m2 ⟨hR3, hR4⟩ o2 hC3
    rw [hz] at hm
    obtain ⟨c3, r3, j1, j2⟩ := hm
    have hf := ft_fb (Nat.zero_le L) hz
    have e : ¬ nI f = -1 := nI_nm1 (by omega)
    rw [e69]
    simp only [s69_0, s69_1, s69_4, s69_5, s69_8, s69_11, s69_12, s69_15, s69_18, s69_21, s69_22, s69_25, s69_27, s69_28, s69_29, s69_32, s69_35, s69_36, s69_37, s69_39, s69_40, s69_43, s69_44, s69_46, s69_49, s69_50, s69_51, s69_54, s69_57, s69_58, s69_59, s69_60, s69_63, s69_66, s69_67, s69_68, s69_69, s69_72, s69_75, s69_76, s69_77, s69_80, s69_83, s69_86, s69_87, s69_90, s69_91, s69_94, s69_95, s69_98, s69_99, zb0, zb1, ob_some, tl_s, tl_n, nk_i, nk_r, nk_n, nk_0, pk_us, pk_un, va_up_self, va_up_ne, ne_eq, Nat.reduceEqDiff, not_false_eq_true, true_and, and_true, eq_self, z11, z00, bI_z, gf_0_0, gf_0_1, gf_0_2, gf_0_3, gf_0_4, gf_0_5, gf_0_6, rcv_0, rcO_0, gf_1_0, gf_1_1, sf_1_1, gf_1_2, gf_1_3, gf_1_4, gf_1_5, sf_1_5, gf_1_6, sf_1_6, gf_1_7, sf_1_7, gf_1_8, sf_1_8, gf_1_9, sf_1_9, gf_1_10, sf_1_10, gf_1_11, sf_1_11, rcv_1, rcO_1, gf_6_0, sf_6_0, gf_6_1, sf_6_1, gf_6_2, sf_6_2, gf_6_3, sf_6_3, gf_6_4, gf_6_5, rcv_6, rcO_6, gf_9_0, gf_9_1, sf_9_1, rcv_9, rcO_9, gf_12_0, sf_12_0, gf_12_1, sf_12_1, gf_12_2, gf_12_3, rcv_12, rcO_12, gf_15_0, sf_15_0, gf_15_1, sf_15_1, gf_15_2, gf_15_3, rcv_15, rcO_15, gf_18_0, sf_18_0, gf_18_1, sf_18_1, gf_18_2, gf_18_3, gf_18_4, gf_18_5, sf_18_5, gf_18_6, sf_18_6, gf_18_7, sf_18_7, gf_18_8, sf_18_8, rcv_18, rcO_18, gf_24_0, gf_24_1, gf_24_2, sf_24_2, rcv_24, rcO_24, gf_28_0, gf_28_1, gf_28_2, gf_28_3, sf_28_3, gf_28_4, gf_28_5, sf_28_5, gf_28_6, sf_28_6, gf_28_7, gf_28_8, gf_28_9, gf_28_10, gf_28_11, gf_28_12, gf_28_13, sf_28_13, gf_28_14, sf_28_14, gf_28_15, sf_28_15, gf_28_16, sf_28_16, gf_28_17, sf_28_17, gf_28_18, sf_28_18, gf_28_19, gf_28_20, gf_28_21, gf_28_22, gf_28_23, gf_28_24, sf_28_24, gf_28_25, rcv_28, rcO_28, aI_2, aW_2, sI_2, aI_3, aW_3, sI_3, aI_4, aW_4, sI_4, aI_5, aW_5, sI_5, aI_7, aW_7, sI_7, aI_8, aW_8, sI_8, aI_13, aW_13, sI_13, aI_14, aW_14, sI_14, aI_16, aW_16, sI_16, aI_17, aW_17, sI_17, aI_21, aW_21, sI_21, aI_22, aW_22, sI_22, aI_23, aW_23, sI_23, aI_25, aW_25, sI_25, aI_26, aW_26, sI_26, aI_29, aW_29, sI_29, aI_31, aW_31, sI_31, aI_32, aW_32, sI_32, aI_33, aW_33, sI_33, aI_34, aW_34, sI_34, aI_35, aW_35, sI_35, aI_36, aW_36, sI_36, aI_37, aW_37, sI_37, aI_38, aW_38, sI_38, aI_41, aW_41, sI_41, aI_42, aW_42, sI_42, aI_43, aW_43, sI_43, aL_19, sL_19, aL_20, sL_20, aL_27, sL_27, aL_39, sL_39, aL_40, sL_40, aL_44, sL_44, aB_30, aZ_30, sZ_30, aQ_10, aQ_11, sQ_10, hR1, hC1, g2, e, true_implies, false_implies, not_true_eq_false, not_false_eq_true, and_self, true_and, and_true]
    rw [e126]
    simp only [s126_0, s126_1, s126_4, s126_5, s126_8, s126_10, s126_11, s126_12, s126_14, s126_15, s126_18, s126_21, s126_22, s126_23, s126_24, s126_25, s126_28, s126_31, s126_34, s126_35, s126_38, s126_39, s126_42, s126_43, s126_44, s126_45, s126_46, s126_49, s126_50, s126_51, s126_52, s126_53, s126_54, s126_57, s126_58, s126_61, zb0, zb1, ob_some, tl_s, tl_n, nk_i, nk_r, nk_n, nk_0, pk_us, pk_un, va_up_self, va_up_ne, ne_eq, Nat.reduceEqDiff, not_false_eq_true, true_and, and_true, eq_self, z11, z00, bI_z, gf_0_0, gf_0_1, gf_0_2, gf_0_3, gf_0_4, gf_0_5, gf_0_6, rcv_0, rcO_0, gf_1_0, gf_1_1, sf_1_1, gf_1_2, gf_1_3, gf_1_4, gf_1_5, sf_1_5, gf_1_6, sf_1_6, gf_1_7, sf_1_7, gf_1_8, sf_1_8, gf_1_9, sf_1_9, gf_1_10, sf_1_10, gf_1_11, sf_1_11, rcv_1, rcO_1, gf_6_0, sf_6_0, gf_6_1, sf_6_1, gf_6_2, sf_6_2, gf_6_3, sf_6_3, gf_6_4, gf_6_5, rcv_6, rcO_6, gf_9_0, gf_9_1, sf_9_1, rcv_9, rcO_9, gf_12_0, sf_12_0, gf_12_1, sf_12_1, gf_12_2, gf_12_3, rcv_12, rcO_12, gf_15_0, sf_15_0, gf_15_1, sf_15_1, gf_15_2, gf_15_3, rcv_15, rcO_15, gf_18_0, sf_18_0, gf_18_1, sf_18_1, gf_18_2, gf_18_3, gf_18_4, gf_18_5, sf_18_5, gf_18_6, sf_18_6, gf_18_7, sf_18_7, gf_18_8, sf_18_8, rcv_18, rcO_18, gf_24_0, gf_24_1, gf_24_2, sf_24_2, rcv_24, rcO_24, gf_28_0, gf_28_1, gf_28_2, gf_28_3, sf_28_3, gf_28_4, gf_28_5, sf_28_5, gf_28_6, sf_28_6, gf_28_7, gf_28_8, gf_28_9, gf_28_10, gf_28_11, gf_28_12, gf_28_13, sf_28_13, gf_28_14, sf_28_14, gf_28_15, sf_28_15, gf_28_16, sf_28_16, gf_28_17, sf_28_17, gf_28_18, sf_28_18, gf_28_19, gf_28_20, gf_28_21, gf_28_22, gf_28_23, gf_28_24, sf_28_24, gf_28_25, rcv_28, rcO_28, aI_2, aW_2, sI_2, aI_3, aW_3, sI_3, aI_4, aW_4, sI_4, aI_5, aW_5, sI_5, aI_7, aW_7, sI_7, aI_8, aW_8, sI_8, aI_13, aW_13, sI_13, aI_14, aW_14, sI_14, aI_16, aW_16, sI_16, aI_17, aW_17, sI_17, aI_21, aW_21, sI_21, aI_22, aW_22, sI_22, aI_23, aW_23, sI_23, aI_25, aW_25, sI_25, aI_26, aW_26, sI_26, aI_29, aW_29, sI_29, aI_31, aW_31, sI_31, aI_32, aW_32, sI_32, aI_33, aW_33, sI_33, aI_34, aW_34, sI_34, aI_35, aW_35, sI_35, aI_36, aW_36, sI_36, aI_37, aW_37, sI_37, aI_38, aW_38, sI_38, aI_41, aW_41, sI_41, aI_42, aW_42, sI_42, aI_43, aW_43, sI_43, aL_19, sL_19, aL_20, sL_20, aL_27, sL_27, aL_39, sL_39, aL_40, sL_40, aL_44, sL_44, aB_30, aZ_30, sZ_30, aQ_10, aQ_11, sQ_10, j2, e, true_implies, false_implies, not_true_eq_false, not_false_eq_true, and_self, true_and, and_true]
    exact ⟨⟨_, rfl⟩, ((hI3.sm (Sm.fm j1)).up hn).is⟩
  | inr l =>
    obtain ⟨hV, hlen⟩ := ft_ok hC3 ⟨hR3, hR4⟩ hz
    rw [hz] at hE
    obtain ⟨c2, r2, g1, g3, g4, g2⟩ := hE
    have s1 := Sm.ff g1
    have hI3 := hI.sm s1
    obtain ⟨⟨k1, k2, k3, k4⟩, ⟨m1, m2, m3, m4, m5, m6⟩, _, ⟨o1, o2, o3, o4, o5⟩, _⟩ := id hI3
    obtain ⟨s0, hs0⟩ : ∃ s0 : AS, s0 = (H, M, bt (c2 602), bt (c2 601), fun i => (r2 34 (i + 1)).toNatClampNeg, ss, rc, ld) := ⟨_, rfl⟩
    have tn0 : ∀ i, bt (c2 601) i = true → i < 20 ∧ (r2 34 (i + 1)).toNatClampNeg ≤ 10 ∧ r2 34 (i + 1) = nI (r2 34 (i + 1)).toNatClampNeg := by
      intro i hi
      have hiH : i < H := by
        rcases Nat.lt_or_ge i H with q | q
        · exact q
        · rw [(m5 i q).1] at hi; cases hi
      obtain ⟨_, _, t0, e1, e2⟩ := (m6 i (by omega)).2 hi
      have e3 : (r2 34 (i + 1)).toNatClampNeg = t0 := by rw [e2]; exact nI_clamp (by omega)
      exact ⟨by omega, by omega, by rw [e3]; exact e2⟩
    have hA0 : AV s0 := by
      rw [hs0]
      refine ⟨⟨hR3, hR4⟩, hC3, fun i hi => m5 i hi, fun i hi => ⟨?_, (tn0 i hi).2.1⟩, fun i hi => ?_⟩
      · exact ((m6 i (tn0 i hi).1).2 hi).1
      · obtain ⟨q1, q2, q3, ⟨q4a, q4b, q4c, q4d⟩, ⟨q5a, q5b, q5c⟩, ⟨q6a, q6b, q6c⟩, q7⟩ := o5 i hi
        exact ⟨⟨q4c, q4d⟩, q5c⟩
    have hCA0 : CA s0 c2 r2 mb sh pp := by
      rw [hs0]
      refine ⟨m1, fun i _ => ⟨rfl, rfl⟩, fun i hi h => ?_, o1, o4, fun i hi => ?_⟩
      · rw [((m6 i hi).2 h).2.1]; exact (tn0 i h).2.2
      · obtain ⟨q1, q2, q3, ⟨q4a, q4b, q4c, q4d⟩, ⟨q5a, q5b, q5c⟩, ⟨q6a, q6b, q6c⟩, q7⟩ := o5 i hi
        exact ⟨q1, q2, q4a, q5a⟩
    have hMA0 : MA s0 c2 r2 := by
      rw [hs0]
      refine ⟨m2, o2, fun i hi => ⟨(m6 i hi).1, fun h => (tn0 i h).2.2⟩, fun i hi => ?_⟩
      obtain ⟨q1, q2, q3, ⟨q4a, q4b, q4c, q4d⟩, ⟨q5a, q5b, q5c⟩, ⟨q6a, q6b, q6c⟩, q7⟩ := o5 i hi
      exact ⟨q3, q4b, q5b⟩
    have hV0 : VL l s0.1 s0.2.1 := by rw [hs0]; exact hV
    have hll : sh.length + l.length < 800000 := by omega
    obtain ⟨c3, r3, mb3, sh3, pp3, a1, a2, a3, a4⟩ := cl_loop (w := w) (n1 := n1) (n2 := n2) (N := l.length) (by omega) l 0 s0 c2 r2 mb sh pp hV0 hA0 hCA0 g4 (by omega) hll
    obtain ⟨l0, sh3e, l0l, l01⟩ := a3.2.2
    generalize hs' : l.foldl apF s0 = s' at a1 a2
    obtain ⟨H', M', gn, wk, tn, kd, rc', ld'⟩ := s'
    obtain ⟨b1, b2, b3, b4, b5, b6⟩ := a1
    dsimp only at b1 b2 b3 b4 b5 b6
    obtain ⟨⟨d1, d2⟩, d3, d4, d5, d6⟩ := a2
    dsimp only at d1 d2 d3 d4 d5 d6
    have hm3 : ∀ i, i < M' → mb3 i = some (pp3 i) ∧ isC sh3 (pp3 i) (kd i) := fun i hi => ⟨(b6 i hi).1, (b6 i hi).2.1⟩
    have h45 : ∀ i, i < M' → 45 ≤ pp3 i := fun i hi => (b6 i hi).2.1.1
    obtain ⟨cm, hcm⟩ : ∃ cm, upd (upd c3 101 0) 603 0 = cm := ⟨_, rfl⟩
    have cm1 : ∀ q, q ≠ 101 → q ≠ 603 → cm q = c3 q := fun q h1 h2 => by rw [← hcm, pk_un h2, pk_un h1]
    obtain ⟨c4, f1, f2, f3, f4⟩ := ground_loop (r := r3) (w := w) (n1 := n1) (n2 := n2) d3 b5 hm3 M' 0 cm none none (by omega) ((cm1 901 (by omega) (by omega)).trans b4)
    have c4lo : ∀ q, q < 4500 → c4 q = cm q := fun q hq => f1 q (fun i hi => by have := h45 i hi; omega)
    have cg : ∀ X d K, Cl X (d + 1) 9 [.ref 9] (G cm r3 w mb3 n1 n2 sh3) K = K none (G c4 r3 w mb3 n1 n2 sh3) := by
      intro X d K
      rw [e9]
      simp only [s9_0, s9_1, s9_3, s9_4, s9_7, s9_10, s9_11, s9_12, s9_15, s9_15n, s9_16, s9_16n, s9_17n, s9_17, s9_20, s9_20n, s9_21, s9_22, s9_25, s9_25n, s9_26, s9_26n, s9_29, s9_32, s9_32n, s9_33, s9_36, s9_36n, s9_37, s9_37n, s9_38, s9_39, s9_42, s9_45, s9_48, zb0, zb1, ob_some, tl_s, tl_n, nk_i, nk_r, nk_n, nk_0, pk_us, pk_un, va_up_self, va_up_ne, ne_eq, Nat.reduceEqDiff, not_false_eq_true, true_and, and_true, eq_self, z11, z00, bI_z, gf_0_0, gf_0_1, gf_0_2, gf_0_3, gf_0_4, gf_0_5, gf_0_6, rcv_0, rcO_0, gf_1_0, gf_1_1, sf_1_1, gf_1_2, gf_1_3, gf_1_4, gf_1_5, sf_1_5, gf_1_6, sf_1_6, gf_1_7, sf_1_7, gf_1_8, sf_1_8, gf_1_9, sf_1_9, gf_1_10, sf_1_10, gf_1_11, sf_1_11, rcv_1, rcO_1, gf_6_0, sf_6_0, gf_6_1, sf_6_1, gf_6_2, sf_6_2, gf_6_3, sf_6_3, gf_6_4, gf_6_5, rcv_6, rcO_6, gf_9_0, gf_9_1, sf_9_1, rcv_9, rcO_9, gf_12_0, sf_12_0, gf_12_1, sf_12_1, gf_12_2, gf_12_3, rcv_12, rcO_12, gf_15_0, sf_15_0, gf_15_1, sf_15_1, gf_15_2, gf_15_3, rcv_15, rcO_15, gf_18_0, sf_18_0, gf_18_1, sf_18_1, gf_18_2, gf_18_3, gf_18_4, gf_18_5, sf_18_5, gf_18_6, sf_18_6, gf_18_7, sf_18_7, gf_18_8, sf_18_8, rcv_18, rcO_18, gf_24_0, gf_24_1, gf_24_2, sf_24_2, rcv_24, rcO_24, gf_28_0, gf_28_1, gf_28_2, gf_28_3, sf_28_3, gf_28_4, gf_28_5, sf_28_5, gf_28_6, sf_28_6, gf_28_7, gf_28_8, gf_28_9, gf_28_10, gf_28_11, gf_28_12, gf_28_13, sf_28_13, gf_28_14, sf_28_14, gf_28_15, sf_28_15, gf_28_16, sf_28_16, gf_28_17, sf_28_17, gf_28_18, sf_28_18, gf_28_19, gf_28_20, gf_28_21, gf_28_22, gf_28_23, gf_28_24, sf_28_24, gf_28_25, rcv_28, rcO_28, aI_2, aW_2, sI_2, aI_3, aW_3, sI_3, aI_4, aW_4, sI_4, aI_5, aW_5, sI_5, aI_7, aW_7, sI_7, aI_8, aW_8, sI_8, aI_13, aW_13, sI_13, aI_14, aW_14, sI_14, aI_16, aW_16, sI_16, aI_17, aW_17, sI_17, aI_21, aW_21, sI_21, aI_22, aW_22, sI_22, aI_23, aW_23, sI_23, aI_25, aW_25, sI_25, aI_26, aW_26, sI_26, aI_29, aW_29, sI_29, aI_31, aW_31, sI_31, aI_32, aW_32, sI_32, aI_33, aW_33, sI_33, aI_34, aW_34, sI_34, aI_35, aW_35, sI_35, aI_36, aW_36, sI_36, aI_37, aW_37, sI_37, aI_38, aW_38, sI_38, aI_41, aW_41, sI_41, aI_42, aW_42, sI_42, aI_43, aW_43, sI_43, aL_19, sL_19, aL_20, sL_20, aL_27, sL_27, aL_39, sL_39, aL_40, sL_40, aL_44, sL_44, aB_30, aZ_30, sZ_30, aQ_10, aQ_11, sQ_10]
      exact f4 X d K
    obtain ⟨c5, hc5⟩ : ∃ c5, upd (upd c4 1200 0) 1500 0 = c5 := ⟨_, rfl⟩
    have c51 : ∀ q, q ≠ 1200 → q ≠ 1500 → c5 q = c4 q := fun q h1 h2 => by rw [← hc5, pk_un h2, pk_un h1]
    have cs : ∀ X d K, Cl X (d + 2) 92 [.ref 0] (G (upd c3 101 0) r3 w mb3 n1 n2 sh3) K = K none (G c5 r3 w mb3 n1 n2 sh3) := by
      intro X d K
      have e0 : ¬ (2 : Int32) ≤ 0 := by decide
      have e1 : ¬ (2 : Int32) ≤ 0 + 1 := by decide
      have e2 : (2 : Int32) ≤ 0 + 1 + 1 := by decide
      have j0 : inb 0 2 = true := by decide
      have j1 : inb (0 + 1) 2 = true := by decide
      have y0 : (0 : Int32).toNatClampNeg = 0 := by decide
      have y1 : ((0 : Int32) + 1).toNatClampNeg = 1 := by decide
      have w0 : va_rf (imQ 0) = .ref 12 := rfl
      have w1 : va_rf (imQ 1) = .ref 15 := rfl
      rw [e92]
      simp only [s92_0, s92_1, s92_4, s92_7, s92_8, s92_11, s92_14, s92_15, s92_17, s92_18, s92_21, s92_22, s92_25, s92_26, s92_27, s92_28, s92_31, s92_34, s92_37, zb0, zb1, ob_some, tl_s, tl_n, nk_i, nk_r, nk_n, nk_0, pk_us, pk_un, va_up_self, va_up_ne, ne_eq, Nat.reduceEqDiff, not_false_eq_true, true_and, and_true, eq_self, z11, z00, bI_z, gf_0_0, gf_0_1, gf_0_2, gf_0_3, gf_0_4, gf_0_5, gf_0_6, rcv_0, rcO_0, gf_1_0, gf_1_1, sf_1_1, gf_1_2, gf_1_3, gf_1_4, gf_1_5, sf_1_5, gf_1_6, sf_1_6, gf_1_7, sf_1_7, gf_1_8, sf_1_8, gf_1_9, sf_1_9, gf_1_10, sf_1_10, gf_1_11, sf_1_11, rcv_1, rcO_1, gf_6_0, sf_6_0, gf_6_1, sf_6_1, gf_6_2, sf_6_2, gf_6_3, sf_6_3, gf_6_4, gf_6_5, rcv_6, rcO_6, gf_9_0, gf_9_1, sf_9_1, rcv_9, rcO_9, gf_12_0, sf_12_0, gf_12_1, sf_12_1, gf_12_2, gf_12_3, rcv_12, rcO_12, gf_15_0, sf_15_0, gf_15_1, sf_15_1, gf_15_2, gf_15_3, rcv_15, rcO_15, gf_18_0, sf_18_0, gf_18_1, sf_18_1, gf_18_2, gf_18_3, gf_18_4, gf_18_5, sf_18_5, gf_18_6, sf_18_6, gf_18_7, sf_18_7, gf_18_8, sf_18_8, rcv_18, rcO_18, gf_24_0, gf_24_1, gf_24_2, sf_24_2, rcv_24, rcO_24, gf_28_0, gf_28_1, gf_28_2, gf_28_3, sf_28_3, gf_28_4, gf_28_5, sf_28_5, gf_28_6, sf_28_6, gf_28_7, gf_28_8, gf_28_9, gf_28_10, gf_28_11, gf_28_12, gf_28_13, sf_28_13, gf_28_14, sf_28_14, gf_28_15, sf_28_15, gf_28_16, sf_28_16, gf_28_17, sf_28_17, gf_28_18, sf_28_18, gf_28_19, gf_28_20, gf_28_21, gf_28_22, gf_28_23, gf_28_24, sf_28_24, gf_28_25, rcv_28, rcO_28, aI_2, aW_2, sI_2, aI_3, aW_3, sI_3, aI_4, aW_4, sI_4, aI_5, aW_5, sI_5, aI_7, aW_7, sI_7, aI_8, aW_8, sI_8, aI_13, aW_13, sI_13, aI_14, aW_14, sI_14, aI_16, aW_16, sI_16, aI_17, aW_17, sI_17, aI_21, aW_21, sI_21, aI_22, aW_22, sI_22, aI_23, aW_23, sI_23, aI_25, aW_25, sI_25, aI_26, aW_26, sI_26, aI_29, aW_29, sI_29, aI_31, aW_31, sI_31, aI_32, aW_32, sI_32, aI_33, aW_33, sI_33, aI_34, aW_34, sI_34, aI_35, aW_35, sI_35, aI_36, aW_36, sI_36, aI_37, aW_37, sI_37, aI_38, aW_38, sI_38, aI_41, aW_41, sI_41, aI_42, aW_42, sI_42, aI_43, aW_43, sI_43, aL_19, sL_19, aL_20, sL_20, aL_27, sL_27, aL_39, sL_39, aL_40, sL_40, aL_44, sL_44, aB_30, aZ_30, sZ_30, aQ_10, aQ_11, sQ_10, c_freeAll, hcm, cg]
      rw [s92_16]
      simp only [s92_0, s92_1, s92_4, s92_7, s92_8, s92_11, s92_14, s92_15, s92_17, s92_18, s92_21, s92_22, s92_25, s92_26, s92_27, s92_28, s92_31, s92_34, s92_37, zb0, zb1, ob_some, tl_s, tl_n, nk_i, nk_r, nk_n, nk_0, pk_us, pk_un, va_up_self, va_up_ne, ne_eq, Nat.reduceEqDiff, not_false_eq_true, true_and, and_true, eq_self, z11, z00, bI_z, gf_0_0, gf_0_1, gf_0_2, gf_0_3, gf_0_4, gf_0_5, gf_0_6, rcv_0, rcO_0, gf_1_0, gf_1_1, sf_1_1, gf_1_2, gf_1_3, gf_1_4, gf_1_5, sf_1_5, gf_1_6, sf_1_6, gf_1_7, sf_1_7, gf_1_8, sf_1_8, gf_1_9, sf_1_9, gf_1_10, sf_1_10, gf_1_11, sf_1_11, rcv_1, rcO_1, gf_6_0, sf_6_0, gf_6_1, sf_6_1, gf_6_2, sf_6_2, gf_6_3, sf_6_3, gf_6_4, gf_6_5, rcv_6, rcO_6, gf_9_0, gf_9_1, sf_9_1, rcv_9, rcO_9, gf_12_0, sf_12_0, gf_12_1, sf_12_1, gf_12_2, gf_12_3, rcv_12, rcO_12, gf_15_0, sf_15_0, gf_15_1, sf_15_1, gf_15_2, gf_15_3, rcv_15, rcO_15, gf_18_0, sf_18_0, gf_18_1, sf_18_1, gf_18_2, gf_18_3, gf_18_4, gf_18_5, sf_18_5, gf_18_6, sf_18_6, gf_18_7, sf_18_7, gf_18_8, sf_18_8, rcv_18, rcO_18, gf_24_0, gf_24_1, gf_24_2, sf_24_2, rcv_24, rcO_24, gf_28_0, gf_28_1, gf_28_2, gf_28_3, sf_28_3, gf_28_4, gf_28_5, sf_28_5, gf_28_6, sf_28_6, gf_28_7, gf_28_8, gf_28_9, gf_28_10, gf_28_11, gf_28_12, gf_28_13, sf_28_13, gf_28_14, sf_28_14, gf_28_15, sf_28_15, gf_28_16, sf_28_16, gf_28_17, sf_28_17, gf_28_18, sf_28_18, gf_28_19, gf_28_20, gf_28_21, gf_28_22, gf_28_23, gf_28_24, sf_28_24, gf_28_25, rcv_28, rcO_28, aI_2, aW_2, sI_2, aI_3, aW_3, sI_3, aI_4, aW_4, sI_4, aI_5, aW_5, sI_5, aI_7, aW_7, sI_7, aI_8, aW_8, sI_8, aI_13, aW_13, sI_13, aI_14, aW_14, sI_14, aI_16, aW_16, sI_16, aI_17, aW_17, sI_17, aI_21, aW_21, sI_21, aI_22, aW_22, sI_22, aI_23, aW_23, sI_23, aI_25, aW_25, sI_25, aI_26, aW_26, sI_26, aI_29, aW_29, sI_29, aI_31, aW_31, sI_31, aI_32, aW_32, sI_32, aI_33, aW_33, sI_33, aI_34, aW_34, sI_34, aI_35, aW_35, sI_35, aI_36, aW_36, sI_36, aI_37, aW_37, sI_37, aI_38, aW_38, sI_38, aI_41, aW_41, sI_41, aI_42, aW_42, sI_42, aI_43, aW_43, sI_43, aL_19, sL_19, aL_20, sL_20, aL_27, sL_27, aL_39, sL_39, aL_40, sL_40, aL_44, sL_44, aB_30, aZ_30, sZ_30, aQ_10, aQ_11, sQ_10, e0, j0, y0, w0, true_implies, false_implies, not_true_eq_false, not_false_eq_true, and_self, true_and, and_true]
      rw [s92_16]
      simp only [s92_0, s92_1, s92_4, s92_7, s92_8, s92_11, s92_14, s92_15, s92_17, s92_18, s92_21, s92_22, s92_25, s92_26, s92_27, s92_28, s92_31, s92_34, s92_37, zb0, zb1, ob_some, tl_s, tl_n, nk_i, nk_r, nk_n, nk_0, pk_us, pk_un, va_up_self, va_up_ne, ne_eq, Nat.reduceEqDiff, not_false_eq_true, true_and, and_true, eq_self, z11, z00, bI_z, gf_0_0, gf_0_1, gf_0_2, gf_0_3, gf_0_4, gf_0_5, gf_0_6, rcv_0, rcO_0, gf_1_0, gf_1_1, sf_1_1, gf_1_2, gf_1_3, gf_1_4, gf_1_5, sf_1_5, gf_1_6, sf_1_6, gf_1_7, sf_1_7, gf_1_8, sf_1_8, gf_1_9, sf_1_9, gf_1_10, sf_1_10, gf_1_11, sf_1_11, rcv_1, rcO_1, gf_6_0, sf_6_0, gf_6_1, sf_6_1, gf_6_2, sf_6_2, gf_6_3, sf_6_3, gf_6_4, gf_6_5, rcv_6, rcO_6, gf_9_0, gf_9_1, sf_9_1, rcv_9, rcO_9, gf_12_0, sf_12_0, gf_12_1, sf_12_1, gf_12_2, gf_12_3, rcv_12, rcO_12, gf_15_0, sf_15_0, gf_15_1, sf_15_1, gf_15_2, gf_15_3, rcv_15, rcO_15, gf_18_0, sf_18_0, gf_18_1, sf_18_1, gf_18_2, gf_18_3, gf_18_4, gf_18_5, sf_18_5, gf_18_6, sf_18_6, gf_18_7, sf_18_7, gf_18_8, sf_18_8, rcv_18, rcO_18, gf_24_0, gf_24_1, gf_24_2, sf_24_2, rcv_24, rcO_24, gf_28_0, gf_28_1, gf_28_2, gf_28_3, sf_28_3, gf_28_4, gf_28_5, sf_28_5, gf_28_6, sf_28_6, gf_28_7, gf_28_8, gf_28_9, gf_28_10, gf_28_11, gf_28_12, gf_28_13, sf_28_13, gf_28_14, sf_28_14, gf_28_15, sf_28_15, gf_28_16, sf_28_16, gf_28_17, sf_28_17, gf_28_18, sf_28_18, gf_28_19, gf_28_20, gf_28_21, gf_28_22, gf_28_23, gf_28_24, sf_28_24, gf_28_25, rcv_28, rcO_28, aI_2, aW_2, sI_2, aI_3, aW_3, sI_3, aI_4, aW_4, sI_4, aI_5, aW_5, sI_5, aI_7, aW_7, sI_7, aI_8, aW_8, sI_8, aI_13, aW_13, sI_13, aI_14, aW_14, sI_14, aI_16, aW_16, sI_16, aI_17, aW_17, sI_17, aI_21, aW_21, sI_21, aI_22, aW_22, sI_22, aI_23, aW_23, sI_23, aI_25, aW_25, sI_25, aI_26, aW_26, sI_26, aI_29, aW_29, sI_29, aI_31, aW_31, sI_31, aI_32, aW_32, sI_32, aI_33, aW_33, sI_33, aI_34, aW_34, sI_34, aI_35, aW_35, sI_35, aI_36, aW_36, sI_36, aI_37, aW_37, sI_37, aI_38, aW_38, sI_38, aI_41, aW_41, sI_41, aI_42, aW_42, sI_42, aI_43, aW_43, sI_43, aL_19, sL_19, aL_20, sL_20, aL_27, sL_27, aL_39, sL_39, aL_40, sL_40, aL_44, sL_44, aB_30, aZ_30, sZ_30, aQ_10, aQ_11, sQ_10, e1, j1, y1, w1, hc5, true_implies, false_implies, not_true_eq_false, not_false_eq_true, and_self, true_and, and_true]
      rw [s92_16]
      simp only [s92_0, s92_1, s92_4, s92_7, s92_8, s92_11, s92_14, s92_15, s92_17, s92_18, s92_21, s92_22, s92_25, s92_26, s92_27, s92_28, s92_31, s92_34, s92_37, zb0, zb1, ob_some, tl_s, tl_n, nk_i, nk_r, nk_n, nk_0, pk_us, pk_un, va_up_self, va_up_ne, ne_eq, Nat.reduceEqDiff, not_false_eq_true, true_and, and_true, eq_self, z11, z00, bI_z, gf_0_0, gf_0_1, gf_0_2, gf_0_3, gf_0_4, gf_0_5, gf_0_6, rcv_0, rcO_0, gf_1_0, gf_1_1, sf_1_1, gf_1_2, gf_1_3, gf_1_4, gf_1_5, sf_1_5, gf_1_6, sf_1_6, gf_1_7, sf_1_7, gf_1_8, sf_1_8, gf_1_9, sf_1_9, gf_1_10, sf_1_10, gf_1_11, sf_1_11, rcv_1, rcO_1, gf_6_0, sf_6_0, gf_6_1, sf_6_1, gf_6_2, sf_6_2, gf_6_3, sf_6_3, gf_6_4, gf_6_5, rcv_6, rcO_6, gf_9_0, gf_9_1, sf_9_1, rcv_9, rcO_9, gf_12_0, sf_12_0, gf_12_1, sf_12_1, gf_12_2, gf_12_3, rcv_12, rcO_12, gf_15_0, sf_15_0, gf_15_1, sf_15_1, gf_15_2, gf_15_3, rcv_15, rcO_15, gf_18_0, sf_18_0, gf_18_1, sf_18_1, gf_18_2, gf_18_3, gf_18_4, gf_18_5, sf_18_5, gf_18_6, sf_18_6, gf_18_7, sf_18_7, gf_18_8, sf_18_8, rcv_18, rcO_18, gf_24_0, gf_24_1, gf_24_2, sf_24_2, rcv_24, rcO_24, gf_28_0, gf_28_1, gf_28_2, gf_28_3, sf_28_3, gf_28_4, gf_28_5, sf_28_5, gf_28_6, sf_28_6, gf_28_7, gf_28_8, gf_28_9, gf_28_10, gf_28_11, gf_28_12, gf_28_13, sf_28_13, gf_28_14, sf_28_14, gf_28_15, sf_28_15, gf_28_16, sf_28_16, gf_28_17, sf_28_17, gf_28_18, sf_28_18, gf_28_19, gf_28_20, gf_28_21, gf_28_22, gf_28_23, gf_28_24, sf_28_24, gf_28_25, rcv_28, rcO_28, aI_2, aW_2, sI_2, aI_3, aW_3, sI_3, aI_4, aW_4, sI_4, aI_5, aW_5, sI_5, aI_7, aW_7, sI_7, aI_8, aW_8, sI_8, aI_13, aW_13, sI_13, aI_14, aW_14, sI_14, aI_16, aW_16, sI_16, aI_17, aW_17, sI_17, aI_21, aW_21, sI_21, aI_22, aW_22, sI_22, aI_23, aW_23, sI_23, aI_25, aW_25, sI_25, aI_26, aW_26, sI_26, aI_29, aW_29, sI_29, aI_31, aW_31, sI_31, aI_32, aW_32, sI_32, aI_33, aW_33, sI_33, aI_34, aW_34, sI_34, aI_35, aW_35, sI_35, aI_36, aW_36, sI_36, aI_37, aW_37, sI_37, aI_38, aW_38, sI_38, aI_41, aW_41, sI_41, aI_42, aW_42, sI_42, aI_43, aW_43, sI_43, aL_19, sL_19, aL_20, sL_20, aL_27, sL_27, aL_39, sL_39, aL_40, sL_40, aL_44, sL_44, aB_30, aZ_30, sZ_30, aQ_10, aQ_11, sQ_10, e2, true_implies, false_implies, not_true_eq_false, not_false_eq_true, and_self, true_and, and_true]
    have c5c : ∀ q, q < 4500 → ¬ (105 ≤ q ∧ q ≤ 111) → q ≠ 600 → q ≠ 601 → q ≠ 602 → q ≠ 603 → q ≠ 901 → q ≠ 101 → q ≠ 1200 → q ≠ 1500 → c5 q = c q := fun q h1 h2 h3 h4 h5 h6 h7 h8 h9 h10 => by
      rw [c51 q h9 h10, c4lo q h1, cm1 q h8 h6, a3.1 q h1 h3 h4 h5 h7]
      exact g1.1 q h2
    have r3c : ∀ q, q ≠ 3 → q ≠ 4 → q ≠ 5 → q ≠ 7 → r3 q = r q := fun q h1 h2 h3 h4 => (a3.2.1 q h4).trans (g1.2.1 q h1 h2 h3)
    have hm := m_fault (c := c5) (r := r3) (t := t) (w := w) (mb := mb3) (n1 := n1) (n2 := n2) (sh := sh3) hT3 ((c5c 2803 (by omega) (by omega) (by omega) (by omega) (by omega) (by omega) (by omega) (by omega) (by omega) (by omega)).trans hT2) (by rw [r3c 31 (by omega) (by omega) (by omega) (by omega)]; exact ht) ((c5c 2806 (by omega) (by omega) (by omega) (by omega) (by omega) (by omega) (by omega) (by omega) (by omega) (by omega)).trans hR2) ⟨hR3, hR4⟩ ((c5c 2813 (by omega) (by omega) (by omega) (by omega) (by omega) (by omega) (by omega) (by omega) (by omega) (by omega)).trans hC2) hC3
    rw [hz] at hm
    obtain ⟨c6, r6, p1, p2, p3, p4⟩ := hm
    have hMA6 : MA s0 c6 r6 := by
      rw [hs0] at hMA0 ⊢
      obtain ⟨u1, u2, u3, u4⟩ := hMA0
      have rr : ∀ q, q ≠ 3 → q ≠ 4 → q ≠ 5 → q ≠ 7 → q ≠ 32 → r6 q = r2 q := fun q h1 h2 h3 h4 h5 => (p1.2.1 q h5).trans ((r3c q h1 h2 h3 h4).trans (g1.2.1 q h1 h2 h3).symm)
      refine ⟨?_, ?_, ?_, ?_⟩
      · rw [p1.1 2806 (by omega) (by omega), c5c 2806 (by omega) (by omega) (by omega) (by omega) (by omega) (by omega) (by omega) (by omega) (by omega) (by omega)]; exact hR2
      · rw [p1.1 2813 (by omega) (by omega), c5c 2813 (by omega) (by omega) (by omega) (by omega) (by omega) (by omega) (by omega) (by omega) (by omega) (by omega)]; exact hC2
      · rw [rr 33 (by omega) (by omega) (by omega) (by omega) (by omega), rr 34 (by omega) (by omega) (by omega) (by omega) (by omega)]; exact u3
      · rw [rr 35 (by omega) (by omega) (by omega) (by omega) (by omega), rr 36 (by omega) (by omega) (by omega) (by omega) (by omega), rr 37 (by omega) (by omega) (by omega) (by omega) (by omega)]; exact u4
    obtain ⟨c7, r7, t1, t2, t3⟩ := ml_loop (w := w) (mb := mb3) (n1 := n1) (n2 := n2) (sh := sh3) (N := l.length) (by omega) l 0 s0 c6 r6 hV0 hA0 hMA6 p3 (by omega) p2
    rw [hs'] at t1
    obtain ⟨x1, x2, x3, x4⟩ := t1
    dsimp only at x1 x2 x3 x4
    obtain ⟨r8, y1, y2, y3, y4⟩ := m_begin (c := c7) (r := r7) (w := w) (mb := mb3) (n1 := n1) (n2 := n2) (sh := sh3)
    have i0 : inb 0 2 = true := by decide
    have i1 : inb 1 2 = true := by decide
    have z0 : (0 : Int32).toNatClampNeg = 0 := by decide
    have z1 : (1 : Int32).toNatClampNeg = 1 := by decide
    have c75 : c7 2805 = nI l.length := (t2.1 2805 (by omega) (by omega)).trans p2
    have b75 : ¬ (nI l.length = -1 ∧ False) := fun q => q.2
    rw [e69]
    simp only [s69_0, s69_1, s69_4, s69_5, s69_8, s69_11, s69_12, s69_15, s69_18, s69_21, s69_22, s69_25, s69_27, s69_28, s69_29, s69_32, s69_35, s69_36, s69_37, s69_39, s69_40, s69_43, s69_44, s69_46, s69_49, s69_50, s69_51, s69_54, s69_57, s69_58, s69_59, s69_60, s69_63, s69_66, s69_67, s69_68, s69_69, s69_72, s69_75, s69_76, s69_77, s69_80, s69_83, s69_86, s69_87, s69_90, s69_91, s69_94, s69_95, s69_98, s69_99, zb0, zb1, ob_some, tl_s, tl_n, nk_i, nk_r, nk_n, nk_0, pk_us, pk_un, va_up_self, va_up_ne, ne_eq, Nat.reduceEqDiff, not_false_eq_true, true_and, and_true, eq_self, z11, z00, bI_z, gf_0_0, gf_0_1, gf_0_2, gf_0_3, gf_0_4, gf_0_5, gf_0_6, rcv_0, rcO_0, gf_1_0, gf_1_1, sf_1_1, gf_1_2, gf_1_3, gf_1_4, gf_1_5, sf_1_5, gf_1_6, sf_1_6, gf_1_7, sf_1_7, gf_1_8, sf_1_8, gf_1_9, sf_1_9, gf_1_10, sf_1_10, gf_1_11, sf_1_11, rcv_1, rcO_1, gf_6_0, sf_6_0, gf_6_1, sf_6_1, gf_6_2, sf_6_2, gf_6_3, sf_6_3, gf_6_4, gf_6_5, rcv_6, rcO_6, gf_9_0, gf_9_1, sf_9_1, rcv_9, rcO_9, gf_12_0, sf_12_0, gf_12_1, sf_12_1, gf_12_2, gf_12_3, rcv_12, rcO_12, gf_15_0, sf_15_0, gf_15_1, sf_15_1, gf_15_2, gf_15_3, rcv_15, rcO_15, gf_18_0, sf_18_0, gf_18_1, sf_18_1, gf_18_2, gf_18_3, gf_18_4, gf_18_5, sf_18_5, gf_18_6, sf_18_6, gf_18_7, sf_18_7, gf_18_8, sf_18_8, rcv_18, rcO_18, gf_24_0, gf_24_1, gf_24_2, sf_24_2, rcv_24, rcO_24, gf_28_0, gf_28_1, gf_28_2, gf_28_3, sf_28_3, gf_28_4, gf_28_5, sf_28_5, gf_28_6, sf_28_6, gf_28_7, gf_28_8, gf_28_9, gf_28_10, gf_28_11, gf_28_12, gf_28_13, sf_28_13, gf_28_14, sf_28_14, gf_28_15, sf_28_15, gf_28_16, sf_28_16, gf_28_17, sf_28_17, gf_28_18, sf_28_18, gf_28_19, gf_28_20, gf_28_21, gf_28_22, gf_28_23, gf_28_24, sf_28_24, gf_28_25, rcv_28, rcO_28, aI_2, aW_2, sI_2, aI_3, aW_3, sI_3, aI_4, aW_4, sI_4, aI_5, aW_5, sI_5, aI_7, aW_7, sI_7, aI_8, aW_8, sI_8, aI_13, aW_13, sI_13, aI_14, aW_14, sI_14, aI_16, aW_16, sI_16, aI_17, aW_17, sI_17, aI_21, aW_21, sI_21, aI_22, aW_22, sI_22, aI_23, aW_23, sI_23, aI_25, aW_25, sI_25, aI_26, aW_26, sI_26, aI_29, aW_29, sI_29, aI_31, aW_31, sI_31, aI_32, aW_32, sI_32, aI_33, aW_33, sI_33, aI_34, aW_34, sI_34, aI_35, aW_35, sI_35, aI_36, aW_36, sI_36, aI_37, aW_37, sI_37, aI_38, aW_38, sI_38, aI_41, aW_41, sI_41, aI_42, aW_42, sI_42, aI_43, aW_43, sI_43, aL_19, sL_19, aL_20, sL_20, aL_27, sL_27, aL_39, sL_39, aL_40, sL_40, aL_44, sL_44, aB_30, aZ_30, sZ_30, aQ_10, aQ_11, sQ_10, hR1, hC1, g2, g3, true_implies, false_implies, not_true_eq_false, not_false_eq_true, and_self, true_and, and_true]
    refine Eq.mpr (a4 X 54 _) ?_
    simp only [s69_0, s69_1, s69_4, s69_5, s69_8, s69_11, s69_12, s69_15, s69_18, s69_21, s69_22, s69_25, s69_27, s69_28, s69_29, s69_32, s69_35, s69_36, s69_37, s69_39, s69_40, s69_43, s69_44, s69_46, s69_49, s69_50, s69_51, s69_54, s69_57, s69_58, s69_59, s69_60, s69_63, s69_66, s69_67, s69_68, s69_69, s69_72, s69_75, s69_76, s69_77, s69_80, s69_83, s69_86, s69_87, s69_90, s69_91, s69_94, s69_95, s69_98, s69_99, zb0, zb1, ob_some, tl_s, tl_n, nk_i, nk_r, nk_n, nk_0, pk_us, pk_un, va_up_self, va_up_ne, ne_eq, Nat.reduceEqDiff, not_false_eq_true, true_and, and_true, eq_self, z11, z00, bI_z, gf_0_0, gf_0_1, gf_0_2, gf_0_3, gf_0_4, gf_0_5, gf_0_6, rcv_0, rcO_0, gf_1_0, gf_1_1, sf_1_1, gf_1_2, gf_1_3, gf_1_4, gf_1_5, sf_1_5, gf_1_6, sf_1_6, gf_1_7, sf_1_7, gf_1_8, sf_1_8, gf_1_9, sf_1_9, gf_1_10, sf_1_10, gf_1_11, sf_1_11, rcv_1, rcO_1, gf_6_0, sf_6_0, gf_6_1, sf_6_1, gf_6_2, sf_6_2, gf_6_3, sf_6_3, gf_6_4, gf_6_5, rcv_6, rcO_6, gf_9_0, gf_9_1, sf_9_1, rcv_9, rcO_9, gf_12_0, sf_12_0, gf_12_1, sf_12_1, gf_12_2, gf_12_3, rcv_12, rcO_12, gf_15_0, sf_15_0, gf_15_1, sf_15_1, gf_15_2, gf_15_3, rcv_15, rcO_15, gf_18_0, sf_18_0, gf_18_1, sf_18_1, gf_18_2, gf_18_3, gf_18_4, gf_18_5, sf_18_5, gf_18_6, sf_18_6, gf_18_7, sf_18_7, gf_18_8, sf_18_8, rcv_18, rcO_18, gf_24_0, gf_24_1, gf_24_2, sf_24_2, rcv_24, rcO_24, gf_28_0, gf_28_1, gf_28_2, gf_28_3, sf_28_3, gf_28_4, gf_28_5, sf_28_5, gf_28_6, sf_28_6, gf_28_7, gf_28_8, gf_28_9, gf_28_10, gf_28_11, gf_28_12, gf_28_13, sf_28_13, gf_28_14, sf_28_14, gf_28_15, sf_28_15, gf_28_16, sf_28_16, gf_28_17, sf_28_17, gf_28_18, sf_28_18, gf_28_19, gf_28_20, gf_28_21, gf_28_22, gf_28_23, gf_28_24, sf_28_24, gf_28_25, rcv_28, rcO_28, aI_2, aW_2, sI_2, aI_3, aW_3, sI_3, aI_4, aW_4, sI_4, aI_5, aW_5, sI_5, aI_7, aW_7, sI_7, aI_8, aW_8, sI_8, aI_13, aW_13, sI_13, aI_14, aW_14, sI_14, aI_16, aW_16, sI_16, aI_17, aW_17, sI_17, aI_21, aW_21, sI_21, aI_22, aW_22, sI_22, aI_23, aW_23, sI_23, aI_25, aW_25, sI_25, aI_26, aW_26, sI_26, aI_29, aW_29, sI_29, aI_31, aW_31, sI_31, aI_32, aW_32, sI_32, aI_33, aW_33, sI_33, aI_34, aW_34, sI_34, aI_35, aW_35, sI_35, aI_36, aW_36, sI_36, aI_37, aW_37, sI_37, aI_38, aW_38, sI_38, aI_41, aW_41, sI_41, aI_42, aW_42, sI_42, aI_43, aW_43, sI_43, aL_19, sL_19, aL_20, sL_20, aL_27, sL_27, aL_39, sL_39, aL_40, sL_40, aL_44, sL_44, aB_30, aZ_30, sZ_30, aQ_10, aQ_11, sQ_10, cs, true_implies, false_implies, not_true_eq_false, not_false_eq_true, and_self, true_and, and_true]
    rw [e126]
    simp only [s126_0, s126_1, s126_4, s126_5, s126_8, s126_10, s126_11, s126_12, s126_14, s126_15, s126_18, s126_21, s126_22, s126_23, s126_24, s126_25, s126_28, s126_31, s126_34, s126_35, s126_38, s126_39, s126_42, s126_43, s126_44, s126_45, s126_46, s126_49, s126_50, s126_51, s126_52, s126_53, s126_54, s126_57, s126_58, s126_61, zb0, zb1, ob_some, tl_s, tl_n, nk_i, nk_r, nk_n, nk_0, pk_us, pk_un, va_up_self, va_up_ne, ne_eq, Nat.reduceEqDiff, not_false_eq_true, true_and, and_true, eq_self, z11, z00, bI_z, gf_0_0, gf_0_1, gf_0_2, gf_0_3, gf_0_4, gf_0_5, gf_0_6, rcv_0, rcO_0, gf_1_0, gf_1_1, sf_1_1, gf_1_2, gf_1_3, gf_1_4, gf_1_5, sf_1_5, gf_1_6, sf_1_6, gf_1_7, sf_1_7, gf_1_8, sf_1_8, gf_1_9, sf_1_9, gf_1_10, sf_1_10, gf_1_11, sf_1_11, rcv_1, rcO_1, gf_6_0, sf_6_0, gf_6_1, sf_6_1, gf_6_2, sf_6_2, gf_6_3, sf_6_3, gf_6_4, gf_6_5, rcv_6, rcO_6, gf_9_0, gf_9_1, sf_9_1, rcv_9, rcO_9, gf_12_0, sf_12_0, gf_12_1, sf_12_1, gf_12_2, gf_12_3, rcv_12, rcO_12, gf_15_0, sf_15_0, gf_15_1, sf_15_1, gf_15_2, gf_15_3, rcv_15, rcO_15, gf_18_0, sf_18_0, gf_18_1, sf_18_1, gf_18_2, gf_18_3, gf_18_4, gf_18_5, sf_18_5, gf_18_6, sf_18_6, gf_18_7, sf_18_7, gf_18_8, sf_18_8, rcv_18, rcO_18, gf_24_0, gf_24_1, gf_24_2, sf_24_2, rcv_24, rcO_24, gf_28_0, gf_28_1, gf_28_2, gf_28_3, sf_28_3, gf_28_4, gf_28_5, sf_28_5, gf_28_6, sf_28_6, gf_28_7, gf_28_8, gf_28_9, gf_28_10, gf_28_11, gf_28_12, gf_28_13, sf_28_13, gf_28_14, sf_28_14, gf_28_15, sf_28_15, gf_28_16, sf_28_16, gf_28_17, sf_28_17, gf_28_18, sf_28_18, gf_28_19, gf_28_20, gf_28_21, gf_28_22, gf_28_23, gf_28_24, sf_28_24, gf_28_25, rcv_28, rcO_28, aI_2, aW_2, sI_2, aI_3, aW_3, sI_3, aI_4, aW_4, sI_4, aI_5, aW_5, sI_5, aI_7, aW_7, sI_7, aI_8, aW_8, sI_8, aI_13, aW_13, sI_13, aI_14, aW_14, sI_14, aI_16, aW_16, sI_16, aI_17, aW_17, sI_17, aI_21, aW_21, sI_21, aI_22, aW_22, sI_22, aI_23, aW_23, sI_23, aI_25, aW_25, sI_25, aI_26, aW_26, sI_26, aI_29, aW_29, sI_29, aI_31, aW_31, sI_31, aI_32, aW_32, sI_32, aI_33, aW_33, sI_33, aI_34, aW_34, sI_34, aI_35, aW_35, sI_35, aI_36, aW_36, sI_36, aI_37, aW_37, sI_37, aI_38, aW_38, sI_38, aI_41, aW_41, sI_41, aI_42, aW_42, sI_42, aI_43, aW_43, sI_43, aL_19, sL_19, aL_20, sL_20, aL_27, sL_27, aL_39, sL_39, aL_40, sL_40, aL_44, sL_44, aB_30, aZ_30, sZ_30, aQ_10, aQ_11, sQ_10, p4, true_implies, false_implies, not_true_eq_false, not_false_eq_true, and_self, true_and, and_true]
    refine Eq.mpr (t3 X 58 _) ?_
    simp only [s126_0, s126_1, s126_4, s126_5, s126_8, s126_10, s126_11, s126_12, s126_14, s126_15, s126_18, s126_21, s126_22, s126_23, s126_24, s126_25, s126_28, s126_31, s126_34, s126_35, s126_38, s126_39, s126_42, s126_43, s126_44, s126_45, s126_46, s126_49, s126_50, s126_51, s126_52, s126_53, s126_54, s126_57, s126_58, s126_61, zb0, zb1, ob_some, tl_s, tl_n, nk_i, nk_r, nk_n, nk_0, pk_us, pk_un, va_up_self, va_up_ne, ne_eq, Nat.reduceEqDiff, not_false_eq_true, true_and, and_true, eq_self, z11, z00, bI_z, gf_0_0, gf_0_1, gf_0_2, gf_0_3, gf_0_4, gf_0_5, gf_0_6, rcv_0, rcO_0, gf_1_0, gf_1_1, sf_1_1, gf_1_2, gf_1_3, gf_1_4, gf_1_5, sf_1_5, gf_1_6, sf_1_6, gf_1_7, sf_1_7, gf_1_8, sf_1_8, gf_1_9, sf_1_9, gf_1_10, sf_1_10, gf_1_11, sf_1_11, rcv_1, rcO_1, gf_6_0, sf_6_0, gf_6_1, sf_6_1, gf_6_2, sf_6_2, gf_6_3, sf_6_3, gf_6_4, gf_6_5, rcv_6, rcO_6, gf_9_0, gf_9_1, sf_9_1, rcv_9, rcO_9, gf_12_0, sf_12_0, gf_12_1, sf_12_1, gf_12_2, gf_12_3, rcv_12, rcO_12, gf_15_0, sf_15_0, gf_15_1, sf_15_1, gf_15_2, gf_15_3, rcv_15, rcO_15, gf_18_0, sf_18_0, gf_18_1, sf_18_1, gf_18_2, gf_18_3, gf_18_4, gf_18_5, sf_18_5, gf_18_6, sf_18_6, gf_18_7, sf_18_7, gf_18_8, sf_18_8, rcv_18, rcO_18, gf_24_0, gf_24_1, gf_24_2, sf_24_2, rcv_24, rcO_24, gf_28_0, gf_28_1, gf_28_2, gf_28_3, sf_28_3, gf_28_4, gf_28_5, sf_28_5, gf_28_6, sf_28_6, gf_28_7, gf_28_8, gf_28_9, gf_28_10, gf_28_11, gf_28_12, gf_28_13, sf_28_13, gf_28_14, sf_28_14, gf_28_15, sf_28_15, gf_28_16, sf_28_16, gf_28_17, sf_28_17, gf_28_18, sf_28_18, gf_28_19, gf_28_20, gf_28_21, gf_28_22, gf_28_23, gf_28_24, sf_28_24, gf_28_25, rcv_28, rcO_28, aI_2, aW_2, sI_2, aI_3, aW_3, sI_3, aI_4, aW_4, sI_4, aI_5, aW_5, sI_5, aI_7, aW_7, sI_7, aI_8, aW_8, sI_8, aI_13, aW_13, sI_13, aI_14, aW_14, sI_14, aI_16, aW_16, sI_16, aI_17, aW_17, sI_17, aI_21, aW_21, sI_21, aI_22, aW_22, sI_22, aI_23, aW_23, sI_23, aI_25, aW_25, sI_25, aI_26, aW_26, sI_26, aI_29, aW_29, sI_29, aI_31, aW_31, sI_31, aI_32, aW_32, sI_32, aI_33, aW_33, sI_33, aI_34, aW_34, sI_34, aI_35, aW_35, sI_35, aI_36, aW_36, sI_36, aI_37, aW_37, sI_37, aI_38, aW_38, sI_38, aI_41, aW_41, sI_41, aI_42, aW_42, sI_42, aI_43, aW_43, sI_43, aL_19, sL_19, aL_20, sL_20, aL_27, sL_27, aL_39, sL_39, aL_40, sL_40, aL_44, sL_44, aB_30, aZ_30, sZ_30, aQ_10, aQ_11, sQ_10, y4, i0, i1, z0, z1, nar0, c75, vup2, true_implies, false_implies, not_true_eq_false, not_false_eq_true, and_self, true_and, and_true]
    refine ⟨⟨_, rfl⟩, ?_⟩
    obtain ⟨r9, hr9⟩ : ∃ r9, va_up r8 30 (upd (upd (r8 30) 0 0) 1 0) = r9 := ⟨_, rfl⟩
    rw [hr9]
    have r9c : ∀ q, q ≠ 30 → r9 q = r8 q := fun q hq => by rw [← hr9]; exact if_neg hq
    have r90 : r9 30 0 = 0 ∧ r9 30 1 = 0 := by rw [← hr9]; exact ⟨rfl, rfl⟩
    obtain ⟨c8, hc8⟩ : ∃ c8, upd c7 2803 0 = c8 := ⟨_, rfl⟩
    rw [hc8]
    have c8c : ∀ q, q ≠ 2803 → q ≠ 2806 → q ≠ 2813 → q ≠ 2805 → ¬ (2814 ≤ q ∧ q ≤ 2818) → c8 q = c5 q := fun q h1 h2 h3 h4 h5 => by rw [← hc8, pk_un h1, t2.1 q h2 h3, p1.1 q h4 h5]
    have e600 : c8 600 = nI H' := by rw [c8c 600 (by omega) (by omega) (by omega) (by omega) (by omega), c51 600 (by omega) (by omega), c4lo 600 (by omega), cm1 600 (by omega) (by omega)]; exact b1
    have e601 : c8 601 = c3 601 := by rw [c8c 601 (by omega) (by omega) (by omega) (by omega) (by omega), c51 601 (by omega) (by omega), c4lo 601 (by omega), cm1 601 (by omega) (by omega)]
    have e602 : c8 602 = c3 602 := by rw [c8c 602 (by omega) (by omega) (by omega) (by omega) (by omega), c51 602 (by omega) (by omega), c4lo 602 (by omega), cm1 602 (by omega) (by omega)]
    have e603 : c8 603 = 0 := by rw [c8c 603 (by omega) (by omega) (by omega) (by omega) (by omega), c51 603 (by omega) (by omega), c4lo 603 (by omega), ← hcm]; rfl
    have e101 : c8 101 = 0 := by rw [c8c 101 (by omega) (by omega) (by omega) (by omega) (by omega), c51 101 (by omega) (by omega), c4lo 101 (by omega), ← hcm]; rfl
    have e901 : c8 901 = nI M' := by rw [c8c 901 (by omega) (by omega) (by omega) (by omega) (by omega), c51 901 (by omega) (by omega), c4lo 901 (by omega), cm1 901 (by omega) (by omega)]; exact b4
    have e1200 : c8 1200 = 0 := by rw [c8c 1200 (by omega) (by omega) (by omega) (by omega) (by omega), ← hc5]; rfl
    have e1500 : c8 1500 = 0 := by rw [c8c 1500 (by omega) (by omega) (by omega) (by omega) (by omega), ← hc5]; rfl
    have e2806 : c8 2806 = nI H' := by rw [← hc8]; exact x1
    have e2813 : c8 2813 = nI M' := by rw [← hc8]; exact x2
    have e2803 : c8 2803 = nI 0 := by rw [← hc8]; rfl
    have ehi : ∀ q, 4500 ≤ q → c8 q = c4 q := fun q hq => by rw [c8c q (by omega) (by omega) (by omega) (by omega) (by omega), c51 q (by omega) (by omega)]
    have r97 : r9 7 = r3 7 := by rw [r9c 7 (by omega), y1 7 (by omega) (by omega), t2.2 7 (by omega) (by omega) (by omega) (by omega) (by omega), p1.2.1 7 (by omega)]
    have r9m : ∀ q, q ≠ 30 → q ≠ 29 → q ≠ 38 → r9 q = r7 q := fun q h1 h2 h3 => by rw [r9c q h1, y1 q h2 h3]
    have wkb : ∀ i, bt (c8 601) i = wk i := by
      intro i
      rw [e601]
      rcases Nat.lt_or_ge i 32 with q | q
      · exact (b2 i q).1
      · rw [b_big q, (d4 i (by omega)).1]
    have gnb : ∀ i, bt (c8 602) i = gn i := by
      intro i
      rw [e602]
      rcases Nat.lt_or_ge i 32 with q | q
      · exact (b2 i q).2
      · rw [b_big q, (d4 i (by omega)).2]
    refine Inv.is (H := H') (M := M') (L := 0) (pp := pp3) (ss := kd) (rc := rc') (ld := ld') (aa := fun _ => 0) ⟨⟨e101, e2803, Nat.zero_le _, fun i hi => absurd hi (Nat.not_lt_zero i)⟩, ⟨e600, e2806, d1, d2, fun i hi => ?_, fun i hi => ?_⟩, ⟨fun i _ => by rw [e603]; exact b_0 i, fun i hi => ?_⟩, ⟨e901, e2813, d3, b5, fun i hi => ?_⟩, ⟨⟨?_, Or.inl e1200⟩, ⟨?_, Or.inl e1500⟩⟩, ?_, ?_, by omega⟩
    · rw [wkb, gnb]; exact d4 i hi
    · rw [wkb, gnb, r9m 33 (by omega) (by omega) (by omega), r9m 34 (by omega) (by omega) (by omega), r97]
      refine ⟨(x3 i hi).1, fun h => ⟨(d5 i h).1, ?_, tn i, (d5 i h).2, (x3 i hi).2 h⟩⟩
      rw [b3 i hi h, (x3 i hi).2 h]
    · rw [e603, b_0, r9c 29 (by omega), y2 i hi]
      exact ⟨rfl, fun h => (by cases h)⟩
    · have g := b6 i hi
      have q45 := h45 i hi
      have y5 := y3 i (by omega)
      have f5 := f3 i (Nat.zero_le i) hi
      have ne1 : ∀ o, o < 2 → c4 (100 * pp3 i + o) = cm (100 * pp3 i + o) := fun o ho => f1 _ (fun j hj => by omega)
      have n0 := ne1 0 (by omega)
      have n1' := ne1 1 (by omega)
      rw [Nat.add_zero] at n0
      refine ⟨g.1, g.2.1, ?_, ⟨?_, ?_, (d6 i hi).1.1, (d6 i hi).1.2⟩, ⟨?_, ?_, (d6 i hi).2⟩, ⟨?_, ?_, Nat.zero_le _⟩, fun h9 => ?_⟩
      · rw [r9m 35 (by omega) (by omega) (by omega)]; exact (x4 i hi).1
      · rw [ehi _ (by omega), n0, cm1 _ (by omega) (by omega)]; exact g.2.2.1
      · rw [r9m 36 (by omega) (by omega) (by omega)]; exact (x4 i hi).2.1
      · rw [ehi _ (by omega), n1', cm1 _ (by omega) (by omega)]; exact g.2.2.2
      · rw [r9m 37 (by omega) (by omega) (by omega)]; exact (x4 i hi).2.2
      · rw [ehi _ (by omega)]; exact f5.1
      · rw [r9c 29 (by omega)]; exact y5.1
      · rw [ehi _ (by omega), r9c 38 (by omega), f5.2 h9, y5.2]
    · rw [e1200]; exact r90.1
    · rw [e1500]; exact r90.2
    · have h0 : l0.count 1 = 0 := List.count_eq_zero.mpr (fun q => l01 1 q rfl)
      rw [sh3e]
      rcases hN with ⟨w1, w2⟩ | ⟨w1, w2, w3, w4, w5, w6⟩
      · exact Or.inl ⟨w1, by rw [List.count_append, w2, h0]⟩
      · refine Or.inr ⟨w1, w2, w3, ?_, ?_, by rw [List.count_append, h0]; exact w6⟩
        · rw [List.getElem?_append_left (List.getElem?_eq_some_iff.mp w4).1]; exact w4
        · rw [List.getElem?_append_left (List.getElem?_eq_some_iff.mp w5).1]; exact w5
    · rw [sh3e, List.length_append]
      omega
end OLd
