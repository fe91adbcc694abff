/-! the objects are made -/
def imq0 : Nat → Option Nat := va_up (va_up (fun _ => none) 0 (some 12)) 1 (some 15)
def Hc : AH := [
  .inr (10, [.ref 1, .ref 6, .ref 9, .ref 11, .ref 18, .ref 24, .ref 27]),
  .inr (8, [.ref 2, .int (0), .ref 3, .ref 4, .ref 5, .int (0), .int (0), .int (0), .int (0), .int (0), .int (0), .int (0)]),
  .inl (0, 200, .inl (fun _ => 0)),
  .inl (0, 12, .inl (fun _ => 0)),
  .inl (0, 12, .inl (fun _ => 0)),
  .inl (0, 12, .inl (fun _ => 0)),
  .inr (7, [.int (8), .int (0), .int (0), .int (0), .ref 7, .ref 8]),
  .inl (0, 20, .inl (fun _ => 0)),
  .inl (0, 20, .inl (fun _ => 0)),
  .inr (0, [.ref 10, .int (0)]),
  .inl (3, 5, .inr (.inr (.inr (.inr (fun _ => none))))),
  .inl (4, 2, .inr (.inr (.inr (.inr imq0)))),
  .inr (3, [.int (0), .int (0), .ref 13, .ref 14]),
  .inl (0, 20, .inl (fun _ => 0)),
  .inl (0, 5, .inl (fun _ => 0)),
  .inr (3, [.int (0), .int (0), .ref 16, .ref 17]),
  .inl (0, 20, .inl (fun _ => 0)),
  .inl (0, 5, .inl (fun _ => 0)),
  .inr (1, [.ref 19, .ref 20, .ref 21, .ref 22, .ref 23, .int (0), .int (0), .int (0), .int (0)]),
  .inl (1, 216, .inr (.inl (fun _ => 0))),
  .inl (1, 216, .inr (.inl (fun _ => 0))),
  .inl (0, 5, .inl (fun _ => 0)),
  .inl (0, 5, .inl (fun _ => 0)),
  .inl (0, 5, .inl (fun _ => 0)),
  .inr (6, [.ref 25, .ref 26, .int (0)]),
  .inl (0, 5, .inl (fun _ => 0)),
  .inl (0, 5, .inl (fun _ => 0)),
  .inl (1, 6, .inr (.inl (fun _ => 0)))]
def Hm : AH := [
  .inr (10, [.ref 1, .ref 6, .ref 9, .ref 11, .ref 18, .ref 24, .ref 27]),
  .inr (8, [.ref 2, .int (0), .ref 3, .ref 4, .ref 5, .int (0), .int (0), .int (0), .int (0), .int (0), .int (0), .int (0)]),
  .inl (0, 200, .inl (fun _ => 0)),
  .inl (0, 12, .inl (fun _ => 0)),
  .inl (0, 12, .inl (fun _ => 0)),
  .inl (0, 12, .inl (fun _ => 0)),
  .inr (7, [.int (8), .int (0), .int (0), .int (0), .ref 7, .ref 8]),
  .inl (0, 20, .inl (fun _ => 0)),
  .inl (0, 20, .inl (fun _ => 0)),
  .inr (0, [.ref 10, .int (0)]),
  .inl (3, 5, .inr (.inr (.inr (.inr (fun _ => none))))),
  .inl (4, 2, .inr (.inr (.inr (.inr imq0)))),
  .inr (3, [.int (0), .int (0), .ref 13, .ref 14]),
  .inl (0, 20, .inl (fun _ => 0)),
  .inl (0, 5, .inl (fun _ => 0)),
  .inr (3, [.int (0), .int (0), .ref 16, .ref 17]),
  .inl (0, 20, .inl (fun _ => 0)),
  .inl (0, 5, .inl (fun _ => 0)),
  .inr (1, [.ref 19, .ref 20, .ref 21, .ref 22, .ref 23, .int (0), .int (0), .int (0), .int (0)]),
  .inl (1, 216, .inr (.inl (fun _ => 0))),
  .inl (1, 216, .inr (.inl (fun _ => 0))),
  .inl (0, 5, .inl (fun _ => 0)),
  .inl (0, 5, .inl (fun _ => 0)),
  .inl (0, 5, .inl (fun _ => 0)),
  .inr (6, [.ref 25, .ref 26, .int (0)]),
  .inl (0, 5, .inl (fun _ => 0)),
  .inl (0, 5, .inl (fun _ => 0)),
  .inl (1, 6, .inr (.inl (fun _ => 0))),
  .inr (11, [.ref 29, .ref 30, .ref 31, .int (0), .ref 32, .int (0), .int (8), .ref 33, .ref 34, .ref 35, .ref 36, .ref 37, .ref 38, .int (0), .int (0), .int (0), .int (0), .int (0), .int (0), .ref 39, .ref 40, .ref 41, .ref 42, .ref 43, .int (0), .ref 44]),
  .inl (0, 100, .inl (fun _ => 0)),
  .inl (2, 2, .inl (fun _ => 0)),
  .inl (0, 200, .inl (fun _ => 0)),
  .inl (0, 36, .inl (fun _ => 0)),
  .inl (0, 21, .inl (fun _ => 0)),
  .inl (0, 21, .inl (fun _ => 0)),
  .inl (0, 5, .inl (fun _ => 0)),
  .inl (0, 5, .inl (fun _ => 0)),
  .inl (0, 5, .inl (fun _ => 0)),
  .inl (0, 5, .inl (fun _ => 0)),
  .inl (1, 7776, .inr (.inl (fun _ => 0))),
  .inl (1, 7776, .inr (.inl (fun _ => 0))),
  .inl (0, 7776, .inl (fun _ => 0)),
  .inl (0, 7776, .inl (fun _ => 0)),
  .inl (0, 5, .inl (fun _ => 0)),
  .inl (1, 7, .inr (.inl (fun _ => 0)))]
set_option maxRecDepth 100000 in
theorem init_c (X : XS) : run X 400 59 65 0 (ent (mL 65) [.ref 0]) [] [.inr (10, DF.getD 10 [])] = some (none, Hc) := rfl
def stTo (X : XS) (mi tgt : Nat) : Nat → (Nat × LV × List Value × AH) → Option (Nat × LV × List Value × AH)
  | 0, _ => none
  | n + 1, q => if q.1 = tgt then some q else match stp X mi q.1 q.2.1 q.2.2.1 q.2.2.2 with
    | some (.inl q2) => stTo X mi tgt n q2
    | _ => none
theorem Wp_stTo {X : XS} {d mi tgt : Nat} {Q : Option Value → AH → Prop} : ∀ n (q q2 : Nat × LV × List Value × AH), stTo X mi tgt n q = some q2 → Wp X d mi q.1 q.2.1 q.2.2.1 q.2.2.2 Q = Wp X d mi q2.1 q2.2.1 q2.2.2.1 q2.2.2.2 Q
  | 0, _, _, h => by cases h
  | n + 1, q, q2, h => by
    unfold stTo at h
    split at h
    · cases h; rfl
    · split at h
      · next q3 hq =>
        obtain ⟨a, b, e, f⟩ := q3
        exact (Wp_go hq).trans (Wp_stTo n _ _ h)
      · cases h
set_option maxRecDepth 100000 in
theorem init_m (X : XS) : stTo X 108 138 100 (0, ent (mL 108) [.ref 28], [], Hc ++ [.inr (11, DF.getD 11 [])]) = some (138, [some (.ref 28)], [.ref 28], Hm) := rfl
def c00 : Nat → Int32 := fun k => if k = 600 then 8 else if k = 2806 then 8 else 0
theorem imq_eq : imq0 = imQ := by
  funext j
  unfold imq0 imQ va_up
  by_cases h1 : j = 1
  · simp [h1]
  · simp [h1]
theorem Hm_G : Hm = G c00 (fun _ _ => 0) (fun _ _ => 0) (fun _ => none) 19 20 [] := by
  unfold Hm
  rw [imq_eq]
  rfl
theorem Cl_mono {X : XS} {d mi : Nat} {as : List Value} {ah : AH} {P K : Option Value → AH → Prop} (h : Cl X d mi as ah P) (hK : ∀ v a, P v a → K v a) : Cl X d mi as ah K := ⟨h.1, Wp_mono h.2 hK⟩
theorem Cl_post {X : XS} {d mi : Nat} {as : List Value} {ah : AH} {P : Option Value → AH → Prop} (h : Cl X d mi as ah P) : ∃ v a, P v a := by
  obtain ⟨_, n, r, _, hp⟩ := h
  exact ⟨_, _, hp⟩
theorem c_initC {X : XS} {K : Option Value → AH → Prop} : Cl X 59 65 [.ref 0] [.inr (10, DF.getD 10 [])] K = K none Hc :=
  Cl_eq ⟨Nat.le_of_ble_eq_true rfl, 400, (none, Hc), init_c X, rfl, rfl⟩ K
set_option maxRecDepth 100000 in
theorem c_initM {X : XS} {P : Option Value → AH → Prop} (hP : ∀ h, IS 0 h → P none h) : Cl X 59 108 [.ref 28] (Hc ++ [.inr (11, DF.getD 11 [])]) P := by
  refine ⟨Nat.le_of_ble_eq_true rfl, ?_⟩
  have e : Wp X 59 108 0 (ent (mL 108) [.ref 28]) [] (Hc ++ [.inr (11, DF.getD 11 [])]) P = Wp X 59 108 138 [some (.ref 28)] [.ref 28] Hm P := @Wp_stTo X 59 108 138 P 100 (0, ent (mL 108) [.ref 28], [], Hc ++ [.inr (11, DF.getD 11 [])]) (138, [some (.ref 28)], [.ref 28], Hm) (init_m X)
  rw [e]
  rw [Hm_G]
  obtain ⟨r2, y1, y2, y3, y4⟩ := m_begin (c := c00) (r := fun _ _ => 0) (w := fun _ _ => 0) (mb := fun _ => none) (n1 := 19) (n2 := 20) (sh := [])
  simp only [s108_0, s108_1, s108_4, s108_5, s108_7, s108_9, s108_12, s108_13, s108_14, s108_16, s108_19, s108_20, s108_23, s108_25, s108_28, s108_29, s108_31, s108_33, s108_36, s108_37, s108_39, s108_42, s108_43, s108_45, s108_47, s108_50, s108_51, s108_53, s108_55, s108_58, s108_59, s108_60, s108_62, s108_65, s108_66, s108_67, s108_69, s108_72, s108_73, s108_74, s108_76, s108_79, s108_80, s108_81, s108_83, s108_86, s108_87, s108_90, s108_92, s108_95, s108_96, s108_99, s108_101, s108_104, s108_105, s108_108, s108_110, s108_113, s108_114, s108_117, s108_119, s108_122, s108_123, s108_124, s108_126, s108_129, s108_130, s108_132, s108_134, s108_137, s108_138, s108_141, zb0, zb1, ob_some, tl_s, tl_n, nk_i, nk_r, nk_n, nk_0, pk_us, pk_un, va_up_self, va_up_ne, ne_eq, Nat.reduceEqDiff, not_false_eq_true, true_and, and_true, eq_self, z11, z00, bI_z, gf_0_0, gf_0_1, gf_0_2, gf_0_3, gf_0_4, gf_0_5, gf_0_6, rcv_0, rcO_0, gf_1_0, gf_1_1, sf_1_1, gf_1_2, gf_1_3, gf_1_4, gf_1_5, sf_1_5, gf_1_6, sf_1_6, gf_1_7, sf_1_7, gf_1_8, sf_1_8, gf_1_9, sf_1_9, gf_1_10, sf_1_10, gf_1_11, sf_1_11, rcv_1, rcO_1, gf_6_0, sf_6_0, gf_6_1, sf_6_1, gf_6_2, sf_6_2, gf_6_3, sf_6_3, gf_6_4, gf_6_5, rcv_6, rcO_6, gf_9_0, gf_9_1, sf_9_1, rcv_9, rcO_9, gf_12_0, sf_12_0, gf_12_1, sf_12_1, gf_12_2, gf_12_3, rcv_12, rcO_12, gf_15_0, sf_15_0, gf_15_1, sf_15_1, gf_15_2, gf_15_3, rcv_15, rcO_15, gf_18_0, sf_18_0, gf_18_1, sf_18_1, gf_18_2, gf_18_3, gf_18_4, gf_18_5, sf_18_5, gf_18_6, sf_18_6, gf_18_7, sf_18_7, gf_18_8, sf_18_8, rcv_18, rcO_18, gf_24_0, gf_24_1, gf_24_2, sf_24_2, rcv_24, rcO_24, gf_28_0, gf_28_1, gf_28_2, gf_28_3, sf_28_3, gf_28_4, gf_28_5, sf_28_5, gf_28_6, sf_28_6, gf_28_7, gf_28_8, gf_28_9, gf_28_10, gf_28_11, gf_28_12, gf_28_13, sf_28_13, gf_28_14, sf_28_14, gf_28_15, sf_28_15, gf_28_16, sf_28_16, gf_28_17, sf_28_17, gf_28_18, sf_28_18, gf_28_19, gf_28_20, gf_28_21, gf_28_22, gf_28_23, gf_28_24, sf_28_24, gf_28_25, rcv_28, rcO_28, aI_2, aW_2, sI_2, aI_3, aW_3, sI_3, aI_4, aW_4, sI_4, aI_5, aW_5, sI_5, aI_7, aW_7, sI_7, aI_8, aW_8, sI_8, aI_13, aW_13, sI_13, aI_14, aW_14, sI_14, aI_16, aW_16, sI_16, aI_17, aW_17, sI_17, aI_21, aW_21, sI_21, aI_22, aW_22, sI_22, aI_23, aW_23, sI_23, aI_25, aW_25, sI_25, aI_26, aW_26, sI_26, aI_29, aW_29, sI_29, aI_31, aW_31, sI_31, aI_32, aW_32, sI_32, aI_33, aW_33, sI_33, aI_34, aW_34, sI_34, aI_35, aW_35, sI_35, aI_36, aW_36, sI_36, aI_37, aW_37, sI_37, aI_38, aW_38, sI_38, aI_41, aW_41, sI_41, aI_42, aW_42, sI_42, aI_43, aW_43, sI_43, aL_19, sL_19, aL_20, sL_20, aL_27, sL_27, aL_39, sL_39, aL_40, sL_40, aL_44, sL_44, aB_30, aZ_30, sZ_30, aQ_10, aQ_11, sQ_10, y4, true_implies, false_implies, not_true_eq_false, not_false_eq_true, and_self, true_and, and_true]
  apply hP
  refine Inv.is (H := 8) (M := 0) (L := 0) (pp := fun _ => 0) (ss := fun _ => 0) (rc := fun _ => 0) (ld := fun _ => 0) (aa := fun _ => 0) ⟨⟨rfl, rfl, by omega, fun i hi => absurd hi (Nat.not_lt_zero i)⟩, ⟨rfl, rfl, by omega, by omega, fun i _ => ⟨b_0 i, b_0 i⟩, fun i hi => ⟨?_, fun h => ?_⟩⟩, ⟨fun i _ => b_0 i, fun i hi => ⟨?_, fun h => ?_⟩⟩, ⟨rfl, rfl, by omega, fun i j hi => absurd hi (Nat.not_lt_zero i), fun i hi => absurd hi (Nat.not_lt_zero i)⟩, ⟨⟨?_, Or.inl rfl⟩, ⟨?_, Or.inl rfl⟩⟩, Or.inl ⟨Or.inl ⟨rfl, rfl⟩, rfl⟩, by decide, by omega⟩
  · rw [y1 33 (by omega) (by omega), show c00 602 = 0 from rfl, show c00 601 = 0 from rfl, b_0]
    rfl
  · have : bt (c00 601) i = false := b_0 i
    rw [this] at h
    cases h
  · rw [y2 i hi, show c00 603 = 0 from rfl, b_0]
    rfl
  · have : bt (c00 603) i = false := b_0 i
    rw [this] at h
    cases h
  · rw [y1 30 (by omega) (by omega)]; rfl
  · rw [y1 30 (by omega) (by omega)]; rfl
