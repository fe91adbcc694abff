/-! the reference: up by a row -/
theorem n95 (i : Nat) : (95 : Int32) + nI i = nI (95 + i) := nI_add 95 i
section OU
variable {H i k lo : Nat}
theorem mRl_ne {b q : Nat} (hq : q ≠ 29) : ∀ (l : List Nat) (r : Nat → Nat → Int32), mRl H b i l r q = r q
  | [], _ => rfl
  | t :: l, r => by
    show mRl H b i l (mR1 H b i t r) q = r q
    rw [mRl_ne hq l]
    exact if_neg hq
theorem goR_o {f : Nat → Int32} {b t q : Nat} (h1 : q ≠ b + 20 + i) (h2 : t ≤ H → q ≠ b + t - 1) : goR f H b i t q = f q := by
  unfold goR
  split
  · next h => rw [pk_un (h2 h), pk_un h1]
  · rw [pk_un h1]
theorem mRl_lo {q : Nat} (hq : q < 75) : ∀ (l : List Nat) (lo : Nat) (r : Nat → Nat → Int32), Asc (H + 1) lo l → mRl H 75 i l r 29 q = r 29 q
  | [], _, _, _ => rfl
  | t :: l, lo, r, h => by
    have := h.1
    show mRl H 75 i l (mR1 H 75 i t r) 29 q = r 29 q
    rw [mRl_lo hq l t _ h.2.2]
    exact goR_o (by omega) (fun _ => by omega)
theorem mRl_sp (hi : i < 5) (hH : H ≤ 20) (hk : k < H) : ∀ (l : List Nat) (lo : Nat) (r : Nat → Nat → Int32), Asc (H + 1) lo l → spF (mRl H 75 i l r) 75 k = (spF r 75 k || decide (k + 1 ∈ l))
  | [], _, r, _ => by
    show spF r 75 k = _
    simp
  | t :: l, lo, r, h => by
    have h1 := h.1
    show spF (mRl H 75 i l (mR1 H 75 i t r)) 75 k = _
    rw [mRl_sp hi hH hk l t _ h.2.2]
    have e : spF (mR1 H 75 i t r) 75 k = (spF r 75 k || decide (k + 1 = t)) := by
      show (!decide (goR (r 29) H 75 i t (75 + k) = -1)) = _
      by_cases q : k + 1 = t
      · have e2 : goR (r 29) H 75 i t (75 + k) = nI i := by
          unfold goR
          rw [if_pos (by omega), show 75 + t - 1 = 75 + k by omega, pk_us]
        rw [e2, decide_eq_true q, decide_eq_false (nI_nm1 (show i < 2 ^ 31 by omega)), Bool.or_true]
        rfl
      · rw [goR_o (by omega) (fun _ => by omega), decide_eq_false q, Bool.or_false]
        rfl
    rw [e, Bool.or_assoc]
    congr 1
    by_cases q : k + 1 = t
    · subst q; simp
    · simp [q]
theorem mRl_fr {r : Nat → Nat → Int32} {l : List Nat} (hi : i < 5) (hH : H ≤ 20) (h : Asc (H + 1) lo l) : rfN (mRl H 75 i l r) H 75 = rfN r H 75 &&& (pm l 0 ^^^ -1) := by
  apply b_ext
  intro k hk
  rw [b_and, b_xor, b_m1 k hk, bt_rfN hH hk, bt_rfN hH hk, pm_bt (T := H + 1) (by omega) hk h, b_0]
  rcases Nat.lt_or_ge k H with q | q
  · have et : thF (mRl H 75 i l r) k = thF r k := by
      unfold thF
      rw [mRl_ne (by decide)]
    rw [mRl_sp hi hH q l lo r h, et]
    cases decide (k < H) <;> cases thF r k <;> cases spF r 75 k <;> cases decide (k + 1 ∈ l) <;> rfl
  · rw [decide_eq_false (show ¬ k < H by omega)]
    rfl
theorem mRl_at (hi : i < 5) (hH : H ≤ 20) : ∀ (l : List Nat) (a : Nat) (r : Nat → Nat → Int32), Asc (H + 1) a l → a ≤ H + 1 → r 29 (95 + i) = nI a → ∃ t, t ≤ H + 1 ∧ mRl H 75 i l r 29 (95 + i) = nI t ∧ (H < t ↔ (H + 1 ∈ l ∨ H < a))
  | [], a, r, _, ha, hr => ⟨a, ha, hr, by simp⟩
  | t :: l, a, r, h, ha, hr => by
    have h1 := h.1
    have h2 := h.2.1
    obtain ⟨t2, g1, g2, g3⟩ := mRl_at hi hH l t (mR1 H 75 i t r) h.2.2 h2 (by
      show goR (r 29) H 75 i t (95 + i) = nI t
      unfold goR
      rw [show 75 + 20 + i = 95 + i by omega]
      split
      · rw [pk_un (by omega), pk_us]
      · rw [pk_us])
    refine ⟨t2, g1, g2, g3.trans ?_⟩
    rw [List.mem_cons]
    constructor
    · rintro (q | q)
      · exact Or.inl (Or.inr q)
      · exact Or.inl (Or.inl (by omega))
    · rintro ((q | q) | q)
      · exact Or.inr (by omega)
      · exact Or.inl q
      · omega
end OU
theorem prC_mem {j : Nat} : ∀ k x v, (∀ i, 5 ≤ i → bt x i = false) → cnt (bt x) 5 = k → v < fct k → j < k → bt x ((prC k x v).getD j 0) = true := by
  intro k
  induction k generalizing j with
  | zero => intro x v _ _ _ hj; omega
  | succ k ih =>
    intro x v hx hc hv hj
    have hd : v / fct k < k + 1 := by
      apply Nat.div_lt_of_lt_mul
      rw [Nat.mul_comm]
      exact hv
    have sp := pos_spec (g := bt x) (k := v / fct k) (by rw [cnt_ext (show 5 ≤ 20 by omega) hx, hc]; exact hd)
    have hp5 : pos (bt x) (v / fct k) < 5 := by
      rcases Nat.lt_or_ge (pos (bt x) (v / fct k)) 5 with q | q
      · exact q
      · rw [hx _ q] at sp
        cases sp.2.1
    show bt x ((pos (bt x) (v / fct k) :: prC k (dlt x (pos (bt x) (v / fct k))) (v % fct k)).getD j 0) = true
    cases j with
    | zero => exact sp.2.1
    | succ j =>
      have hcd := cnt_dlt hp5 sp.2.1
      have := ih (j := j) (dlt x (pos (bt x) (v / fct k))) (v % fct k) (fun q hq => bt_dlt2 (by omega) (hx q hq)) (by omega) (Nat.mod_lt _ (fct_pos k)) (by omega)
      show bt x ((prC k (dlt x (pos (bt x) (v / fct k))) (v % fct k)).getD j 0) = true
      generalize (prC k (dlt x (pos (bt x) (v / fct k))) (v % fct k)).getD j 0 = q at this ⊢
      rcases Nat.lt_or_ge q 32 with z | z
      · rw [bt_dlt (by omega) z] at this
        cases hb : bt x q with
        | true => rfl
        | false => rw [hb] at this; cases this
      · rw [show bt (dlt x (pos (bt x) (v / fct k))) q = false from b_big z] at this
        cases this
/-- what the reference knows of the climbers -/
def HM (r : Nat → Nat → Int32) (N M : Nat) (x : Int32) (ss st : Nat → Nat) (mk : Nat → Int32) : Prop := (∀ k, k < N → r 43 k = nI (pos (bt x) k)) ∧ ∀ i, i < M → r 35 i = kdN (ss i) ∧ rsN r i = nI (st i) ∧ 1 ≤ st i ∧ st i ≤ 6 ∧ (ss i = 9 → mk i = r 38 i) ∧ (ss i = 2 ∨ ss i = 4 ∨ ss i = 5 ∨ ss i = 9)
theorem HM.cg {r r2 : Nat → Nat → Int32} {N M : Nat} {x : Int32} {ss st : Nat → Nat} {mk : Nat → Int32} (h : HM r N M x ss st mk) (hr : ∀ q, q ≠ 29 → r2 q = r q) : HM r2 N M x ss st mk := by
  refine ⟨fun k hk => by rw [hr 43 (by decide)]; exact h.1 k hk, fun i hi => ?_⟩
  obtain ⟨o1, o2, o3, o4, o5, o6⟩ := h.2 i hi
  refine ⟨by rw [hr 35 (by decide)]; exact o1, ?_, o3, o4, fun q => by rw [hr 38 (by decide)]; exact o5 q, o6⟩
  unfold rsN at o2 ⊢
  rw [hr 36 (by decide), hr 37 (by decide)]
  exact o2
section UB
variable {N M H vn : Nat} {x : Int32} {ss st : Nat → Nat} {mk : Nat → Int32} {c : Nat → Int32} {w : Nat → Nat → Int64} {mb : Nat → Option Nat} {n1 n2 : Nat} {sh : List Nat}
theorem up_loop (hM : M ≤ 5) (hx : ∀ i, M ≤ i → bt x i = false) (hN2 : cnt (bt x) 5 = N) (hc : c 2824 = nI N) (hH : H ≤ 20) (hc6 : c 2806 = nI H) (hv : vn < fct N) : ∀ (l2 : List Nat) j r F u, l2.length + j = N → (∀ q, q < l2.length → l2.getD q 0 = (prC N x vn).getD (j + q) 0) → HM r N M x ss st mk → rfN r H 75 = F → ∃ r2, (∀ q, q ≠ 29 → r2 q = r q) ∧ (∀ q, q < 75 → r2 29 q = r 29 q) ∧ ∀ X d Q l4, Wp X (d + 5) 169 10 [some (.ref 28), some (.int (nI vn)), some (.int (nI u)), some (.int (nI j)), l4] [] (G c r w mb n1 n2 sh) Q = Q (some (.int (nI (upC (pth H ss st mk) H l2 F u)))) (G c r2 w mb n1 n2 sh) := by
  have hN : N ≤ 5 := by rw [← hN2]; exact cnt_le _ _
  have hx5 : ∀ i, 5 ≤ i → bt x i = false := fun i hi => hx i (by omega)
  intro l2
  induction l2 with
  | nil =>
    intro j r F u hj hl hm hF
    obtain rfl : j = N := by
      have : ([] : List Nat).length = 0 := rfl
      omega
    have e : nI j ≤ nI j := Int32.le_refl _
    refine ⟨r, fun _ _ => rfl, fun _ _ => rfl, fun X d Q l4 => ?_⟩
    rw [s169_10]
    simp only [s169_0, s169_1, s169_2, s169_3, s169_6, s169_7, s169_8, s169_9, s169_11, s169_12, s169_15, s169_18, s169_19, s169_20, s169_21, s169_24, s169_26, s169_27, s169_30, s169_32, s169_34, s169_35, s169_36, s169_37, s169_38, s169_40, s169_42, s169_45, s169_46, s169_47, s169_50, s169_52, s169_54, s169_55, s169_56, s169_57, s169_60, s169_63, s169_64, s169_67, s169_68, s169_69, s169_70, s169_73, s169_76, s169_77, zb0, zb1, ob_some, tl_s, tl_n, nk_i, nk_r, nk_n, nk_0, pk_us, pk_un, va_up_self, va_up_ne, ne_eq, Nat.reduceEqDiff, not_false_eq_true, true_and, and_true, eq_self, z11, z00, bI_z, gf_0_0, gf_0_1, gf_0_2, gf_0_3, gf_0_4, gf_0_5, gf_0_6, rcv_0, rcO_0, gf_1_0, gf_1_1, sf_1_1, gf_1_2, gf_1_3, gf_1_4, gf_1_5, sf_1_5, gf_1_6, sf_1_6, gf_1_7, sf_1_7, gf_1_8, sf_1_8, gf_1_9, sf_1_9, gf_1_10, sf_1_10, gf_1_11, sf_1_11, rcv_1, rcO_1, gf_6_0, sf_6_0, gf_6_1, sf_6_1, gf_6_2, sf_6_2, gf_6_3, sf_6_3, gf_6_4, gf_6_5, rcv_6, rcO_6, gf_9_0, gf_9_1, sf_9_1, rcv_9, rcO_9, gf_12_0, sf_12_0, gf_12_1, sf_12_1, gf_12_2, gf_12_3, rcv_12, rcO_12, gf_15_0, sf_15_0, gf_15_1, sf_15_1, gf_15_2, gf_15_3, rcv_15, rcO_15, gf_18_0, sf_18_0, gf_18_1, sf_18_1, gf_18_2, gf_18_3, gf_18_4, gf_18_5, sf_18_5, gf_18_6, sf_18_6, gf_18_7, sf_18_7, gf_18_8, sf_18_8, rcv_18, rcO_18, gf_24_0, gf_24_1, gf_24_2, sf_24_2, rcv_24, rcO_24, gf_28_0, gf_28_1, gf_28_2, gf_28_3, sf_28_3, gf_28_4, gf_28_5, sf_28_5, gf_28_6, sf_28_6, gf_28_7, gf_28_8, gf_28_9, gf_28_10, gf_28_11, gf_28_12, gf_28_13, sf_28_13, gf_28_14, sf_28_14, gf_28_15, sf_28_15, gf_28_16, sf_28_16, gf_28_17, sf_28_17, gf_28_18, sf_28_18, gf_28_19, gf_28_20, gf_28_21, gf_28_22, gf_28_23, gf_28_24, sf_28_24, gf_28_25, rcv_28, rcO_28, aI_2, aW_2, sI_2, aI_3, aW_3, sI_3, aI_4, aW_4, sI_4, aI_5, aW_5, sI_5, aI_7, aW_7, sI_7, aI_8, aW_8, sI_8, aI_13, aW_13, sI_13, aI_14, aW_14, sI_14, aI_16, aW_16, sI_16, aI_17, aW_17, sI_17, aI_21, aW_21, sI_21, aI_22, aW_22, sI_22, aI_23, aW_23, sI_23, aI_25, aW_25, sI_25, aI_26, aW_26, sI_26, aI_29, aW_29, sI_29, aI_31, aW_31, sI_31, aI_32, aW_32, sI_32, aI_33, aW_33, sI_33, aI_34, aW_34, sI_34, aI_35, aW_35, sI_35, aI_36, aW_36, sI_36, aI_37, aW_37, sI_37, aI_38, aW_38, sI_38, aI_41, aW_41, sI_41, aI_42, aW_42, sI_42, aI_43, aW_43, sI_43, aL_19, sL_19, aL_20, sL_20, aL_27, sL_27, aL_39, sL_39, aL_40, sL_40, aL_44, sL_44, aB_30, aZ_30, sZ_30, aQ_10, aQ_11, sQ_10, hc, e, true_implies, false_implies, not_true_eq_false, not_false_eq_true, and_self, true_and, and_true]
    rfl
  | cons i l2 ih =>
    intro j r F u hj hl hm hF
    have hlen : (i :: l2).length = l2.length + 1 := rfl
    have hi0 : i = (prC N x vn).getD j 0 := hl 0 (by omega)
    have hbi : bt x i = true := by
      rw [hi0]
      exact prC_mem N x vn hx5 hN2 hv (by omega)
    have hiM : i < M := by
      rcases Nat.lt_or_ge i M with q | q
      · exact q
      · rw [hx i q] at hbi; cases hbi
    obtain ⟨o1, o2, o3, o4, o5, o6⟩ := hm.2 i hiM
    obtain ⟨ra, hra⟩ : ∃ ra, va_up r 29 (upd (r 29) (95 + i) 0) = ra := ⟨_, rfl⟩
    have ra1 : ∀ q, q ≠ 29 → ra q = r q := fun q hq => by rw [← hra]; exact if_neg hq
    have ra2 : ∀ q, q ≠ 95 + i → ra 29 q = r 29 q := fun q hq => by rw [← hra]; exact pk_un hq
    have ra3 : ra 29 (95 + i) = nI 0 := by rw [← hra]; exact pk_us
    have hma := hm.cg ra1
    obtain ⟨p1, p2, p3, p4, p5, p6⟩ := hma.2 i hiM
    have hFa : rfN ra H 75 = F := by
      rw [← hF]
      apply b_ext
      intro k hk
      rw [bt_rfN hH hk, bt_rfN hH hk]
      rcases Nat.lt_or_ge k H with q | q
      · unfold thF spF
        rw [ra1 33 (by decide), ra2 (75 + k) (by omega)]
      · rw [decide_eq_false (show ¬ k < H by omega)]
        rfl
    obtain ⟨l, hl1⟩ : ∃ l, walk (fun a => nxN (ss i) H a (st i) (bt F) (bt (mk i))) (H + 1) 21 0 = l := ⟨_, rfl⟩
    have hl2 : walk (fun a => nxN (ss i) H a (st i) (bt (rfN ra H 75)) (bt (ra 38 i))) (H + 1) 21 0 = l := by
      rw [hFa, ← hl1]
      congr 1
      funext a
      exact (nx_eq p6 p5).symm
    have hasc : Asc (H + 1) 0 l := by rw [← hl1]; exact walk_asc (fun a ha => nxN_le (by omega) o3) 21 0
    have hP : pth H ss st mk i F = pm l 0 := by
      unfold pth
      rw [hl1]
    obtain ⟨t, t1, t2, t3⟩ := mRl_at (i := i) (by omega) hH l 0 ra hasc (by omega) ra3
    have hbP : bt (pm l 0) H = decide (H + 1 ∈ l) := by
      rw [pm_bt (T := H + 1) (by omega) (by omega) hasc, b_0]
      rfl
    obtain ⟨r3, f1, f2, f3⟩ := ih (j + 1) (mRl H 75 i l ra) (F &&& (pm l 0 ^^^ -1)) (u + (if bt (pm l 0) H then 1 else 0)) (by omega) (fun q hq => by
      have := hl (q + 1) (by omega)
      rw [show j + 1 + q = j + (q + 1) by omega]
      exact this) (hma.cg (fun q hq => mRl_ne hq l ra)) (by rw [mRl_fr (by omega) hH hasc, hFa])
    refine ⟨r3, fun q hq => (f1 q hq).trans ((mRl_ne hq l ra).trans (ra1 q hq)), fun q hq => (f2 q hq).trans ((mRl_lo hq l 0 ra hasc).trans (ra2 q (by omega))), fun X d Q l4 => ?_⟩
    have e : ¬ nI N ≤ nI j := nI_ge (by omega) (by omega)
    have i1 := inb_nI (show 95 + i < 100 by omega) (by omega)
    have z1 := nI_clamp (show 95 + i < 2 ^ 31 by omega)
    have hco : ∀ K, Cl X (d + 4) 146 [.ref 28, .int 75, .int (nI i)] (G c ra w mb n1 n2 sh) K = K none (G c (mRl H 75 i l ra) w mb n1 n2 sh) := by
      intro K
      have := c_climbOn (X := X) (d := d) (K := K) (r := ra) (w := w) (mb := mb) (n1 := n1) (n2 := n2) (sh := sh) (b := 75) (Nat.le_refl 75) (show i < 5 by omega) hH hc6 p6 p3 p4 (Nat.zero_le H) ra3 p1 p2
      rw [hl2] at this
      exact this
    have hro : ∀ K, Cl X (d + 4) 167 [.ref 28, .int (nI vn), .int (nI j)] (G c r w mb n1 n2 sh) K = K (some (.int (nI i))) (G c r w mb n1 n2 sh) := by
      intro K
      have := m_rowOf (X := X) (d := d + 2) (K := K) (w := w) (mb := mb) (n1 := n1) (n2 := n2) (sh := sh) hx5 hN2 hc hm.1 (show j < N by omega) hv
      rw [← hi0] at this
      exact this
    rw [s169_10]
    have hup : upC (pth H ss st mk) H (i :: l2) F u = upC (pth H ss st mk) H l2 (F &&& (pm l 0 ^^^ -1)) (u + (if bt (pm l 0) H then 1 else 0)) := by
      show upC (pth H ss st mk) H l2 (F &&& (pth H ss st mk i F ^^^ -1)) (u + (if bt (pth H ss st mk i F) H then 1 else 0)) = _
      rw [hP]
    rw [hup]
    rw [← f3 X d Q (some (.int (nI i)))]
    by_cases hm1 : H + 1 ∈ l
    · have e2 : ¬ nI t ≤ nI H := nI_ge (t3.mpr (Or.inl hm1)) (by omega)
      rw [hbP, decide_eq_true hm1, if_pos rfl]
      simp only [s169_0, s169_1, s169_2, s169_3, s169_6, s169_7, s169_8, s169_9, s169_11, s169_12, s169_15, s169_18, s169_19, s169_20, s169_21, s169_24, s169_26, s169_27, s169_30, s169_32, s169_34, s169_35, s169_36, s169_37, s169_38, s169_40, s169_42, s169_45, s169_46, s169_47, s169_50, s169_52, s169_54, s169_55, s169_56, s169_57, s169_60, s169_63, s169_64, s169_67, s169_68, s169_69, s169_70, s169_73, s169_76, s169_77, zb0, zb1, ob_some, tl_s, tl_n, nk_i, nk_r, nk_n, nk_0, pk_us, pk_un, va_up_self, va_up_ne, ne_eq, Nat.reduceEqDiff, not_false_eq_true, true_and, and_true, eq_self, z11, z00, bI_z, gf_0_0, gf_0_1, gf_0_2, gf_0_3, gf_0_4, gf_0_5, gf_0_6, rcv_0, rcO_0, gf_1_0, gf_1_1, sf_1_1, gf_1_2, gf_1_3, gf_1_4, gf_1_5, sf_1_5, gf_1_6, sf_1_6, gf_1_7, sf_1_7, gf_1_8, sf_1_8, gf_1_9, sf_1_9, gf_1_10, sf_1_10, gf_1_11, sf_1_11, rcv_1, rcO_1, gf_6_0, sf_6_0, gf_6_1, sf_6_1, gf_6_2, sf_6_2, gf_6_3, sf_6_3, gf_6_4, gf_6_5, rcv_6, rcO_6, gf_9_0, gf_9_1, sf_9_1, rcv_9, rcO_9, gf_12_0, sf_12_0, gf_12_1, sf_12_1, gf_12_2, gf_12_3, rcv_12, rcO_12, gf_15_0, sf_15_0, gf_15_1, sf_15_1, gf_15_2, gf_15_3, rcv_15, rcO_15, gf_18_0, sf_18_0, gf_18_1, sf_18_1, gf_18_2, gf_18_3, gf_18_4, gf_18_5, sf_18_5, gf_18_6, sf_18_6, gf_18_7, sf_18_7, gf_18_8, sf_18_8, rcv_18, rcO_18, gf_24_0, gf_24_1, gf_24_2, sf_24_2, rcv_24, rcO_24, gf_28_0, gf_28_1, gf_28_2, gf_28_3, sf_28_3, gf_28_4, gf_28_5, sf_28_5, gf_28_6, sf_28_6, gf_28_7, gf_28_8, gf_28_9, gf_28_10, gf_28_11, gf_28_12, gf_28_13, sf_28_13, gf_28_14, sf_28_14, gf_28_15, sf_28_15, gf_28_16, sf_28_16, gf_28_17, sf_28_17, gf_28_18, sf_28_18, gf_28_19, gf_28_20, gf_28_21, gf_28_22, gf_28_23, gf_28_24, sf_28_24, gf_28_25, rcv_28, rcO_28, aI_2, aW_2, sI_2, aI_3, aW_3, sI_3, aI_4, aW_4, sI_4, aI_5, aW_5, sI_5, aI_7, aW_7, sI_7, aI_8, aW_8, sI_8, aI_13, aW_13, sI_13, aI_14, aW_14, sI_14, aI_16, aW_16, sI_16, aI_17, aW_17, sI_17, aI_21, aW_21, sI_21, aI_22, aW_22, sI_22, aI_23, aW_23, sI_23, aI_25, aW_25, sI_25, aI_26, aW_26, sI_26, aI_29, aW_29, sI_29, aI_31, aW_31, sI_31, aI_32, aW_32, sI_32, aI_33, aW_33, sI_33, aI_34, aW_34, sI_34, aI_35, aW_35, sI_35, aI_36, aW_36, sI_36, aI_37, aW_37, sI_37, aI_38, aW_38, sI_38, aI_41, aW_41, sI_41, aI_42, aW_42, sI_42, aI_43, aW_43, sI_43, aL_19, sL_19, aL_20, sL_20, aL_27, sL_27, aL_39, sL_39, aL_40, sL_40, aL_44, sL_44, aB_30, aZ_30, sZ_30, aQ_10, aQ_11, sQ_10, hc, e, hro, n95, i1, z1, hra, hco, t2, hc6, e2, nI_1, true_implies, false_implies, not_true_eq_false, not_false_eq_true, and_self, true_and, and_true]
    · have e2 : nI t ≤ nI H := by
        refine nI_le ?_ (by omega)
        rcases Nat.lt_or_ge H t with q | q
        · rcases t3.mp q with z | z
          · exact absurd z hm1
          · omega
        · exact q
      rw [hbP, decide_eq_false hm1, if_neg (by decide), Nat.add_zero]
      simp only [s169_0, s169_1, s169_2, s169_3, s169_6, s169_7, s169_8, s169_9, s169_11, s169_12, s169_15, s169_18, s169_19, s169_20, s169_21, s169_24, s169_26, s169_27, s169_30, s169_32, s169_34, s169_35, s169_36, s169_37, s169_38, s169_40, s169_42, s169_45, s169_46, s169_47, s169_50, s169_52, s169_54, s169_55, s169_56, s169_57, s169_60, s169_63, s169_64, s169_67, s169_68, s169_69, s169_70, s169_73, s169_76, s169_77, zb0, zb1, ob_some, tl_s, tl_n, nk_i, nk_r, nk_n, nk_0, pk_us, pk_un, va_up_self, va_up_ne, ne_eq, Nat.reduceEqDiff, not_false_eq_true, true_and, and_true, eq_self, z11, z00, bI_z, gf_0_0, gf_0_1, gf_0_2, gf_0_3, gf_0_4, gf_0_5, gf_0_6, rcv_0, rcO_0, gf_1_0, gf_1_1, sf_1_1, gf_1_2, gf_1_3, gf_1_4, gf_1_5, sf_1_5, gf_1_6, sf_1_6, gf_1_7, sf_1_7, gf_1_8, sf_1_8, gf_1_9, sf_1_9, gf_1_10, sf_1_10, gf_1_11, sf_1_11, rcv_1, rcO_1, gf_6_0, sf_6_0, gf_6_1, sf_6_1, gf_6_2, sf_6_2, gf_6_3, sf_6_3, gf_6_4, gf_6_5, rcv_6, rcO_6, gf_9_0, gf_9_1, sf_9_1, rcv_9, rcO_9, gf_12_0, sf_12_0, gf_12_1, sf_12_1, gf_12_2, gf_12_3, rcv_12, rcO_12, gf_15_0, sf_15_0, gf_15_1, sf_15_1, gf_15_2, gf_15_3, rcv_15, rcO_15, gf_18_0, sf_18_0, gf_18_1, sf_18_1, gf_18_2, gf_18_3, gf_18_4, gf_18_5, sf_18_5, gf_18_6, sf_18_6, gf_18_7, sf_18_7, gf_18_8, sf_18_8, rcv_18, rcO_18, gf_24_0, gf_24_1, gf_24_2, sf_24_2, rcv_24, rcO_24, gf_28_0, gf_28_1, gf_28_2, gf_28_3, sf_28_3, gf_28_4, gf_28_5, sf_28_5, gf_28_6, sf_28_6, gf_28_7, gf_28_8, gf_28_9, gf_28_10, gf_28_11, gf_28_12, gf_28_13, sf_28_13, gf_28_14, sf_28_14, gf_28_15, sf_28_15, gf_28_16, sf_28_16, gf_28_17, sf_28_17, gf_28_18, sf_28_18, gf_28_19, gf_28_20, gf_28_21, gf_28_22, gf_28_23, gf_28_24, sf_28_24, gf_28_25, rcv_28, rcO_28, aI_2, aW_2, sI_2, aI_3, aW_3, sI_3, aI_4, aW_4, sI_4, aI_5, aW_5, sI_5, aI_7, aW_7, sI_7, aI_8, aW_8, sI_8, aI_13, aW_13, sI_13, aI_14, aW_14, sI_14, aI_16, aW_16, sI_16, aI_17, aW_17, sI_17, aI_21, aW_21, sI_21, aI_22, aW_22, sI_22, aI_23, aW_23, sI_23, aI_25, aW_25, sI_25, aI_26, aW_26, sI_26, aI_29, aW_29, sI_29, aI_31, aW_31, sI_31, aI_32, aW_32, sI_32, aI_33, aW_33, sI_33, aI_34, aW_34, sI_34, aI_35, aW_35, sI_35, aI_36, aW_36, sI_36, aI_37, aW_37, sI_37, aI_38, aW_38, sI_38, aI_41, aW_41, sI_41, aI_42, aW_42, sI_42, aI_43, aW_43, sI_43, aL_19, sL_19, aL_20, sL_20, aL_27, sL_27, aL_39, sL_39, aL_40, sL_40, aL_44, sL_44, aB_30, aZ_30, sZ_30, aQ_10, aQ_11, sQ_10, hc, e, hro, n95, i1, z1, hra, hco, t2, hc6, e2, nI_1, Int32.add_zero, true_implies, false_implies, not_true_eq_false, not_false_eq_true, and_self, true_and, and_true]
      rfl
end UB
