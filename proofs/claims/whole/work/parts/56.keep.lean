/-! calls: keep, back -/
section IG
variable {n : Nat} {c c2 : Nat → Int32} {r r2 : Nat → Nat → Int32} {mb : Nat → Option Nat} {n1 n2 m1 m2 : Nat} {sh sh2 : List Nat} {H M L : Nat} {pp ss rc ld aa : Nat → Nat}
theorem IvT.cg (h : IvT c r L) (e1 : c2 101 = c 101) (e2 : c2 2803 = c 2803) (e3 : r2 2 = r 2) (e4 : r2 31 = r 31) : IvT c2 r2 L := by
  unfold IvT at h ⊢
  rw [e1, e2, e3, e4]
  exact h
theorem IvR.cg (h : IvR c r H) (e1 : c2 600 = c 600) (e2 : c2 2806 = c 2806) (e3 : c2 601 = c 601) (e4 : c2 602 = c 602) (e5 : r2 33 = r 33) (e6 : r2 7 = r 7) (e7 : r2 34 = r 34) : IvR c2 r2 H := by
  unfold IvR at h ⊢
  rw [e1, e2, e3, e4, e5, e6, e7]
  exact h
theorem IvC.cg (h : IvC c r mb sh H M pp ss rc ld aa) (e1 : c2 901 = c 901) (e2 : c2 2813 = c 2813) (e3 : ∀ k, 4500 ≤ k → c2 k = c k) (e4 : r2 35 = r 35) (e5 : r2 36 = r 36) (e6 : r2 37 = r 37) (e7 : r2 38 = r 38) (e8 : ∀ i, i < 5 → r2 29 (20 + i) = r 29 (20 + i)) : IvC c2 r2 mb sh H M pp ss rc ld aa := by
  obtain ⟨a1, a2, a3, a4, a5⟩ := h
  refine ⟨e1.trans a1, e2.trans a2, a3, a4, fun i hi => ?_⟩
  have h45 := (a5 i hi).2.1.1
  exact (a5 i hi).cg (fun k hk => e3 _ (by omega)) rfl (by rw [e4]) (by rw [e5]) (by rw [e6]) (by rw [e7]) (e8 i (by omega)) id
theorem IvK1.cg {x y z x2 y2 z2 : Int32} {tr pl rw tr2 pl2 rw2 : Nat → Int32} (h : IvK1 x y z tr pl rw H M) (hM : M ≤ 5) (e1 : x2 = x) (e2 : y2 = y) (e3 : z2 = z) (e4 : tr2 = tr) (e5 : pl2 = pl) (e6 : ∀ i, i < 25 → rw2 i = rw i) : IvK1 x2 y2 z2 tr2 pl2 rw2 H M := by
  subst e1 e2 e3 e4 e5
  refine ⟨h.1, h.2.imp id (fun q => ⟨q.1, q.2.1.cg rfl (fun _ _ => rfl) (fun i hi => e6 i (by omega)), fun i hi => ?_⟩)⟩
  rw [e6 (20 + i) (by omega)]
  exact q.2.2 i hi
end IG
def plN (c : Nat → Int32) (M : Nat) (pp : Nat → Nat) (i : Nat) : Int32 := if i < M then c (100 * pp i + 2) else 0
def rsL (M : Nat) (pp : Nat → Nat) (f : Nat → Int32) : Nat → Nat → (Nat → Int32) → (Nat → Int32)
  | 0, _, c => c
  | j + 1, k, c => rsL M pp f j (k + 1) (if k < M then upd c (100 * pp k + 2) (f k) else c)
theorem rsL_ne {M : Nat} {pp : Nat → Nat} {f : Nat → Int32} {q : Nat} (h : ∀ k, k < M → q ≠ 100 * pp k + 2) : ∀ j k c, rsL M pp f j k c q = c q
  | 0, _, _ => rfl
  | j + 1, k, c => by
    show rsL M pp f j (k + 1) (if k < M then upd c (100 * pp k + 2) (f k) else c) q = c q
    rw [rsL_ne h j]
    split
    · next hk => exact pk_un (h k hk)
    · rfl
theorem rsL_i {M : Nat} {pp : Nat → Nat} {f : Nat → Int32} (hd : ∀ i j, i < M → j < M → pp i = pp j → i = j) {i : Nat} (hi : i < M) : ∀ j k c, k ≤ i → i < k + j → rsL M pp f j k c (100 * pp i + 2) = f i
  | 0, k, c, h1, h2 => by omega
  | j + 1, k, c, h1, h2 => by
    show rsL M pp f j (k + 1) (if k < M then upd c (100 * pp k + 2) (f k) else c) (100 * pp i + 2) = f i
    by_cases h : k = i
    · subst h
      rw [if_pos hi]
      have : ∀ j m c, k < m → rsL M pp f j m c (100 * pp k + 2) = c (100 * pp k + 2) := by
        intro j
        induction j with
        | zero => intro m c _; rfl
        | succ j ih =>
          intro m c hm
          show rsL M pp f j (m + 1) (if m < M then upd c (100 * pp m + 2) (f m) else c) (100 * pp k + 2) = _
          rw [ih (m + 1) _ (by omega)]
          split
          · next hmM => exact pk_un (fun e => by have := hd k m hi hmM (by omega); omega)
          · rfl
      rw [this j (k + 1) _ (by omega), pk_us]
    · exact rsL_i hd hi j (k + 1) _ (by omega) (by omega)
section KB
variable {X : XS} {d : Nat} {x y : Int32} {K Q : Option Value → AH → Prop} {c : Nat → Int32} {r : Nat → Nat → Int32} {w : Nat → Nat → Int64} {mb : Nat → Option Nat} {n1 n2 : Nat} {sh : List Nat} {H M : Nat} {pp ss : Nat → Nat}
theorem copy_loop {f t : Nat} (hf : f < 4) (ht : t < 4) (hft : f ≠ t) : ∀ j k r, k + j = 25 → Wp X d 150 2 [some (.ref 28), some (.int (nI f)), some (.int (nI t)), some (.int (nI k))] [] (G c r w mb n1 n2 sh) Q = Q none (G c (va_up r 29 (fun q => if 25 * t + k ≤ q ∧ q < 25 * t + 25 then r 29 (25 * f + (q - 25 * t)) else r 29 q)) w mb n1 n2 sh) := by
  intro j
  induction j with
  | zero =>
    intro k r hk
    obtain rfl : k = 25 := by omega
    have e : (25 : Int32) ≤ nI 25 := by decide
    rw [s150_2]
    simp only [s150_0, s150_1, s150_3, s150_5, s150_8, s150_9, s150_12, s150_14, s150_15, s150_16, s150_17, s150_18, s150_19, s150_22, s150_24, s150_25, s150_26, s150_27, s150_28, s150_29, s150_30, s150_33, s150_36, zb0, zb1, ob_some, tl_s, tl_n, nk_i, nk_r, nk_n, nk_0, pk_us, pk_un, va_up_self, va_up_ne, ne_eq, Nat.reduceEqDiff, not_false_eq_true, true_and, and_true, eq_self, z11, z00, bI_z, gf_0_0, gf_0_1, gf_0_2, gf_0_3, gf_0_4, gf_0_5, gf_0_6, rcv_0, rcO_0, gf_1_0, gf_1_1, sf_1_1, gf_1_2, gf_1_3, gf_1_4, gf_1_5, sf_1_5, gf_1_6, sf_1_6, gf_1_7, sf_1_7, gf_1_8, sf_1_8, gf_1_9, sf_1_9, gf_1_10, sf_1_10, gf_1_11, sf_1_11, rcv_1, rcO_1, gf_6_0, sf_6_0, gf_6_1, sf_6_1, gf_6_2, sf_6_2, gf_6_3, sf_6_3, gf_6_4, gf_6_5, rcv_6, rcO_6, gf_9_0, gf_9_1, sf_9_1, rcv_9, rcO_9, gf_12_0, sf_12_0, gf_12_1, sf_12_1, gf_12_2, gf_12_3, rcv_12, rcO_12, gf_15_0, sf_15_0, gf_15_1, sf_15_1, gf_15_2, gf_15_3, rcv_15, rcO_15, gf_18_0, sf_18_0, gf_18_1, sf_18_1, gf_18_2, gf_18_3, gf_18_4, gf_18_5, sf_18_5, gf_18_6, sf_18_6, gf_18_7, sf_18_7, gf_18_8, sf_18_8, rcv_18, rcO_18, gf_24_0, gf_24_1, gf_24_2, sf_24_2, rcv_24, rcO_24, gf_28_0, gf_28_1, gf_28_2, gf_28_3, sf_28_3, gf_28_4, gf_28_5, sf_28_5, gf_28_6, sf_28_6, gf_28_7, gf_28_8, gf_28_9, gf_28_10, gf_28_11, gf_28_12, gf_28_13, sf_28_13, gf_28_14, sf_28_14, gf_28_15, sf_28_15, gf_28_16, sf_28_16, gf_28_17, sf_28_17, gf_28_18, sf_28_18, gf_28_19, gf_28_20, gf_28_21, gf_28_22, gf_28_23, gf_28_24, sf_28_24, gf_28_25, rcv_28, rcO_28, aI_2, aW_2, sI_2, aI_3, aW_3, sI_3, aI_4, aW_4, sI_4, aI_5, aW_5, sI_5, aI_7, aW_7, sI_7, aI_8, aW_8, sI_8, aI_13, aW_13, sI_13, aI_14, aW_14, sI_14, aI_16, aW_16, sI_16, aI_17, aW_17, sI_17, aI_21, aW_21, sI_21, aI_22, aW_22, sI_22, aI_23, aW_23, sI_23, aI_25, aW_25, sI_25, aI_26, aW_26, sI_26, aI_29, aW_29, sI_29, aI_31, aW_31, sI_31, aI_32, aW_32, sI_32, aI_33, aW_33, sI_33, aI_34, aW_34, sI_34, aI_35, aW_35, sI_35, aI_36, aW_36, sI_36, aI_37, aW_37, sI_37, aI_38, aW_38, sI_38, aI_41, aW_41, sI_41, aI_42, aW_42, sI_42, aI_43, aW_43, sI_43, aL_19, sL_19, aL_20, sL_20, aL_27, sL_27, aL_39, sL_39, aL_40, sL_40, aL_44, sL_44, aB_30, aZ_30, sZ_30, aQ_10, aQ_11, sQ_10, e, true_implies, false_implies, not_true_eq_false, not_false_eq_true, and_self, true_and, and_true]
    congr 2
    funext q
    unfold va_up
    split
    · next h =>
      subst h
      funext q
      rw [if_neg (by omega)]
    · rfl
  | succ j ih =>
    intro k r hk
    have e : ¬ (25 : Int32) ≤ nI k := nI_ge (b := 25) (by omega) (by omega)
    have m1 : (25 : Int32) * nI t + nI k = nI (25 * t + k) := by rw [show (25 : Int32) = nI 25 from rfl, nI_mul, nI_add]
    have m2 : (25 : Int32) * nI f + nI k = nI (25 * f + k) := by rw [show (25 : Int32) = nI 25 from rfl, nI_mul, nI_add]
    have i1 := inb_nI (show 25 * t + k < 100 by omega) (by omega)
    have i2 := inb_nI (show 25 * f + k < 100 by omega) (by omega)
    have z1 := nI_clamp (show 25 * t + k < 2 ^ 31 by omega)
    have z2 := nI_clamp (show 25 * f + k < 2 ^ 31 by omega)
    rw [s150_2]
    simp only [s150_0, s150_1, s150_3, s150_5, s150_8, s150_9, s150_12, s150_14, s150_15, s150_16, s150_17, s150_18, s150_19, s150_22, s150_24, s150_25, s150_26, s150_27, s150_28, s150_29, s150_30, s150_33, s150_36, zb0, zb1, ob_some, tl_s, tl_n, nk_i, nk_r, nk_n, nk_0, pk_us, pk_un, va_up_self, va_up_ne, ne_eq, Nat.reduceEqDiff, not_false_eq_true, true_and, and_true, eq_self, z11, z00, bI_z, gf_0_0, gf_0_1, gf_0_2, gf_0_3, gf_0_4, gf_0_5, gf_0_6, rcv_0, rcO_0, gf_1_0, gf_1_1, sf_1_1, gf_1_2, gf_1_3, gf_1_4, gf_1_5, sf_1_5, gf_1_6, sf_1_6, gf_1_7, sf_1_7, gf_1_8, sf_1_8, gf_1_9, sf_1_9, gf_1_10, sf_1_10, gf_1_11, sf_1_11, rcv_1, rcO_1, gf_6_0, sf_6_0, gf_6_1, sf_6_1, gf_6_2, sf_6_2, gf_6_3, sf_6_3, gf_6_4, gf_6_5, rcv_6, rcO_6, gf_9_0, gf_9_1, sf_9_1, rcv_9, rcO_9, gf_12_0, sf_12_0, gf_12_1, sf_12_1, gf_12_2, gf_12_3, rcv_12, rcO_12, gf_15_0, sf_15_0, gf_15_1, sf_15_1, gf_15_2, gf_15_3, rcv_15, rcO_15, gf_18_0, sf_18_0, gf_18_1, sf_18_1, gf_18_2, gf_18_3, gf_18_4, gf_18_5, sf_18_5, gf_18_6, sf_18_6, gf_18_7, sf_18_7, gf_18_8, sf_18_8, rcv_18, rcO_18, gf_24_0, gf_24_1, gf_24_2, sf_24_2, rcv_24, rcO_24, gf_28_0, gf_28_1, gf_28_2, gf_28_3, sf_28_3, gf_28_4, gf_28_5, sf_28_5, gf_28_6, sf_28_6, gf_28_7, gf_28_8, gf_28_9, gf_28_10, gf_28_11, gf_28_12, gf_28_13, sf_28_13, gf_28_14, sf_28_14, gf_28_15, sf_28_15, gf_28_16, sf_28_16, gf_28_17, sf_28_17, gf_28_18, sf_28_18, gf_28_19, gf_28_20, gf_28_21, gf_28_22, gf_28_23, gf_28_24, sf_28_24, gf_28_25, rcv_28, rcO_28, aI_2, aW_2, sI_2, aI_3, aW_3, sI_3, aI_4, aW_4, sI_4, aI_5, aW_5, sI_5, aI_7, aW_7, sI_7, aI_8, aW_8, sI_8, aI_13, aW_13, sI_13, aI_14, aW_14, sI_14, aI_16, aW_16, sI_16, aI_17, aW_17, sI_17, aI_21, aW_21, sI_21, aI_22, aW_22, sI_22, aI_23, aW_23, sI_23, aI_25, aW_25, sI_25, aI_26, aW_26, sI_26, aI_29, aW_29, sI_29, aI_31, aW_31, sI_31, aI_32, aW_32, sI_32, aI_33, aW_33, sI_33, aI_34, aW_34, sI_34, aI_35, aW_35, sI_35, aI_36, aW_36, sI_36, aI_37, aW_37, sI_37, aI_38, aW_38, sI_38, aI_41, aW_41, sI_41, aI_42, aW_42, sI_42, aI_43, aW_43, sI_43, aL_19, sL_19, aL_20, sL_20, aL_27, sL_27, aL_39, sL_39, aL_40, sL_40, aL_44, sL_44, aB_30, aZ_30, sZ_30, aQ_10, aQ_11, sQ_10, e, m1, m2, i1, i2, z1, z2, nI_1, true_implies, false_implies, not_true_eq_false, not_false_eq_true, and_self, true_and, and_true]
    rw [ih (k + 1) _ (by omega), vup2]
    congr 2
    have e29 : va_up r 29 (upd (r 29) (25 * t + k) (r 29 (25 * f + k))) 29 = upd (r 29) (25 * t + k) (r 29 (25 * f + k)) := if_pos rfl
    rw [e29]
    congr 1
    funext q
    by_cases h1 : q = 25 * t + k
    · subst h1
      rw [if_neg (by omega), pk_us, if_pos (by omega), show 25 * t + k - 25 * t = k by omega]
    · rw [pk_un h1]
      by_cases h2 : 25 * t + (k + 1) ≤ q ∧ q < 25 * t + 25
      · rw [if_pos h2, if_pos (by omega), pk_un (by omega)]
      · rw [if_neg h2, if_neg (by omega)]
theorem c_copy {f t : Nat} (hf : f < 4) (ht : t < 4) (hft : f ≠ t) : Cl X d 150 [.ref 28, .int (nI f), .int (nI t)] (G c r w mb n1 n2 sh) K = K none (G c (va_up r 29 (fun q => if 25 * t ≤ q ∧ q < 25 * t + 25 then r 29 (25 * f + (q - 25 * t)) else r 29 q)) w mb n1 n2 sh) := by
  rw [e150]
  simp only [s150_0, s150_1, s150_3, s150_5, s150_8, s150_9, s150_12, s150_14, s150_15, s150_16, s150_17, s150_18, s150_19, s150_22, s150_24, s150_25, s150_26, s150_27, s150_28, s150_29, s150_30, s150_33, s150_36, zb0, zb1, ob_some, tl_s, tl_n, nk_i, nk_r, nk_n, nk_0, pk_us, pk_un, va_up_self, va_up_ne, ne_eq, Nat.reduceEqDiff, not_false_eq_true, true_and, and_true, eq_self, z11, z00, bI_z, gf_0_0, gf_0_1, gf_0_2, gf_0_3, gf_0_4, gf_0_5, gf_0_6, rcv_0, rcO_0, gf_1_0, gf_1_1, sf_1_1, gf_1_2, gf_1_3, gf_1_4, gf_1_5, sf_1_5, gf_1_6, sf_1_6, gf_1_7, sf_1_7, gf_1_8, sf_1_8, gf_1_9, sf_1_9, gf_1_10, sf_1_10, gf_1_11, sf_1_11, rcv_1, rcO_1, gf_6_0, sf_6_0, gf_6_1, sf_6_1, gf_6_2, sf_6_2, gf_6_3, sf_6_3, gf_6_4, gf_6_5, rcv_6, rcO_6, gf_9_0, gf_9_1, sf_9_1, rcv_9, rcO_9, gf_12_0, sf_12_0, gf_12_1, sf_12_1, gf_12_2, gf_12_3, rcv_12, rcO_12, gf_15_0, sf_15_0, gf_15_1, sf_15_1, gf_15_2, gf_15_3, rcv_15, rcO_15, gf_18_0, sf_18_0, gf_18_1, sf_18_1, gf_18_2, gf_18_3, gf_18_4, gf_18_5, sf_18_5, gf_18_6, sf_18_6, gf_18_7, sf_18_7, gf_18_8, sf_18_8, rcv_18, rcO_18, gf_24_0, gf_24_1, gf_24_2, sf_24_2, rcv_24, rcO_24, gf_28_0, gf_28_1, gf_28_2, gf_28_3, sf_28_3, gf_28_4, gf_28_5, sf_28_5, gf_28_6, sf_28_6, gf_28_7, gf_28_8, gf_28_9, gf_28_10, gf_28_11, gf_28_12, gf_28_13, sf_28_13, gf_28_14, sf_28_14, gf_28_15, sf_28_15, gf_28_16, sf_28_16, gf_28_17, sf_28_17, gf_28_18, sf_28_18, gf_28_19, gf_28_20, gf_28_21, gf_28_22, gf_28_23, gf_28_24, sf_28_24, gf_28_25, rcv_28, rcO_28, aI_2, aW_2, sI_2, aI_3, aW_3, sI_3, aI_4, aW_4, sI_4, aI_5, aW_5, sI_5, aI_7, aW_7, sI_7, aI_8, aW_8, sI_8, aI_13, aW_13, sI_13, aI_14, aW_14, sI_14, aI_16, aW_16, sI_16, aI_17, aW_17, sI_17, aI_21, aW_21, sI_21, aI_22, aW_22, sI_22, aI_23, aW_23, sI_23, aI_25, aW_25, sI_25, aI_26, aW_26, sI_26, aI_29, aW_29, sI_29, aI_31, aW_31, sI_31, aI_32, aW_32, sI_32, aI_33, aW_33, sI_33, aI_34, aW_34, sI_34, aI_35, aW_35, sI_35, aI_36, aW_36, sI_36, aI_37, aW_37, sI_37, aI_38, aW_38, sI_38, aI_41, aW_41, sI_41, aI_42, aW_42, sI_42, aI_43, aW_43, sI_43, aL_19, sL_19, aL_20, sL_20, aL_27, sL_27, aL_39, sL_39, aL_40, sL_40, aL_44, sL_44, aB_30, aZ_30, sZ_30, aQ_10, aQ_11, sQ_10]
  exact copy_loop hf ht hft 25 0 r (by omega)
theorem c_copy0 {t : Nat} (ht : t < 4) (hft : 0 ≠ t) : Cl X d 150 [.ref 28, .int 0, .int (nI t)] (G c r w mb n1 n2 sh) K = K none (G c (va_up r 29 (fun q => if 25 * t ≤ q ∧ q < 25 * t + 25 then r 29 (25 * 0 + (q - 25 * t)) else r 29 q)) w mb n1 n2 sh) := c_copy (f := 0) (by omega) ht hft
theorem c_copyT {f : Nat} (hf : f < 4) (hft : f ≠ 0) : Cl X d 150 [.ref 28, .int (nI f), .int 0] (G c r w mb n1 n2 sh) K = K none (G c (va_up r 29 (fun q => if 25 * 0 ≤ q ∧ q < 25 * 0 + 25 then r 29 (25 * f + (q - 25 * 0)) else r 29 q)) w mb n1 n2 sh) := c_copy (t := 0) hf (by omega) hft
theorem in01 (x : Int32) : (x = 0 ∨ x = 1) ∨ ((x < 0 ∨ ¬ x < 2) ∧ bI (!decide (x.toInt64 < 0) && !decide ((1 : Int64) < x.toInt64)) = 0) := by
  rcases sw2 x with h | h | h
  · exact Or.inl (Or.inl h)
  · exact Or.inl (Or.inr h)
  · refine Or.inr ⟨?_, ?_⟩
    · rw [Int32.lt_iff_toInt_lt, Int32.lt_iff_toInt_lt]
      have e0 : (0 : Int32).toInt = 0 := rfl
      have e2 : (2 : Int32).toInt = 2 := rfl
      omega
    · simp only [i64_lt0, i64_gt1]
      have e0 : (0 : Int32).toInt = 0 := rfl
      have e1 : (1 : Int32).toInt = 1 := rfl
      rcases h with h | h
      · have : x < 0 := by rw [Int32.lt_iff_toInt_lt, e0]; exact h
        simp [this, bI]
      · have : (1 : Int32) < x := by rw [Int32.lt_iff_toInt_lt, e1]; exact h
        simp [this, bI]
theorem c_in01_0 {ah : AH} : Cl X d 109 [.long (Int32.toInt64 0), .long 0, .long 1] ah K = K (some (.int 1)) ah := by
  rw [c_in]
  rfl
theorem c_in01_1 {ah : AH} : Cl X d 109 [.long (Int32.toInt64 1), .long 0, .long 1] ah K = K (some (.int 1)) ah := by
  rw [c_in]
  rfl
theorem bits_low {x : Int32} {ah : AH} (h : low20 x) : Cl X d 111 [.int x] ah K = K (some (.int (nI (cnt (bt x) 20)))) ah := by
  rw [c_bits, cnt_ext (show 20 ≤ 21 by omega) h]
theorem one_add0 : (1 : Int32) + 0 = nI 1 := by decide
theorem one_add1 : (1 : Int32) + 1 = nI 2 := by decide
theorem nar1 : vp_nar .boolean 1 = 1 := by decide

theorem take_loop0 (hc : c 901 = nI M) (hM : M ≤ 5) (hm : ∀ i, i < M → mb i = some (pp i) ∧ isC sh (pp i) (ss i)) : ∀ j k r l4, k + j = 5 → Wp X (d + 1) 26 30 [some (.ref 12), some (.ref 6), some (.ref 9), some (.int (nI k)), l4] [] (G c r w mb n1 n2 sh) Q = Q none (G c (va_up r 14 (fun i => if k ≤ i ∧ i < 5 then plN c M pp i else r 14 i)) w mb n1 n2 sh) := by
  intro j
  induction j with
  | zero =>
    intro k r l4 hk
    obtain rfl : k = 5 := by omega
    have e : (5 : Int32) ≤ nI 5 := by decide
    rw [s26_30]
    simp only [s26_0, s26_1, s26_2, s26_5, s26_6, s26_6n, s26_7, s26_10, s26_13, s26_13n, s26_14, s26_17, s26_18, s26_19, s26_22, s26_23, s26_25, s26_28, s26_29, s26_31, s26_32, s26_35, s26_35n, s26_36, s26_37, s26_40, s26_40n, s26_42, s26_43, s26_46, s26_47, s26_47n, s26_49n, s26_49, s26_52, s26_53, s26_56, s26_56n, s26_58, s26_61, s26_62, s26_65, s26_68, zb0, zb1, ob_some, tl_s, tl_n, nk_i, nk_r, nk_n, nk_0, pk_us, pk_un, va_up_self, va_up_ne, ne_eq, Nat.reduceEqDiff, not_false_eq_true, true_and, and_true, eq_self, z11, z00, bI_z, gf_0_0, gf_0_1, gf_0_2, gf_0_3, gf_0_4, gf_0_5, gf_0_6, rcv_0, rcO_0, gf_1_0, gf_1_1, sf_1_1, gf_1_2, gf_1_3, gf_1_4, gf_1_5, sf_1_5, gf_1_6, sf_1_6, gf_1_7, sf_1_7, gf_1_8, sf_1_8, gf_1_9, sf_1_9, gf_1_10, sf_1_10, gf_1_11, sf_1_11, rcv_1, rcO_1, gf_6_0, sf_6_0, gf_6_1, sf_6_1, gf_6_2, sf_6_2, gf_6_3, sf_6_3, gf_6_4, gf_6_5, rcv_6, rcO_6, gf_9_0, gf_9_1, sf_9_1, rcv_9, rcO_9, gf_12_0, sf_12_0, gf_12_1, sf_12_1, gf_12_2, gf_12_3, rcv_12, rcO_12, gf_15_0, sf_15_0, gf_15_1, sf_15_1, gf_15_2, gf_15_3, rcv_15, rcO_15, gf_18_0, sf_18_0, gf_18_1, sf_18_1, gf_18_2, gf_18_3, gf_18_4, gf_18_5, sf_18_5, gf_18_6, sf_18_6, gf_18_7, sf_18_7, gf_18_8, sf_18_8, rcv_18, rcO_18, gf_24_0, gf_24_1, gf_24_2, sf_24_2, rcv_24, rcO_24, gf_28_0, gf_28_1, gf_28_2, gf_28_3, sf_28_3, gf_28_4, gf_28_5, sf_28_5, gf_28_6, sf_28_6, gf_28_7, gf_28_8, gf_28_9, gf_28_10, gf_28_11, gf_28_12, gf_28_13, sf_28_13, gf_28_14, sf_28_14, gf_28_15, sf_28_15, gf_28_16, sf_28_16, gf_28_17, sf_28_17, gf_28_18, sf_28_18, gf_28_19, gf_28_20, gf_28_21, gf_28_22, gf_28_23, gf_28_24, sf_28_24, gf_28_25, rcv_28, rcO_28, aI_2, aW_2, sI_2, aI_3, aW_3, sI_3, aI_4, aW_4, sI_4, aI_5, aW_5, sI_5, aI_7, aW_7, sI_7, aI_8, aW_8, sI_8, aI_13, aW_13, sI_13, aI_14, aW_14, sI_14, aI_16, aW_16, sI_16, aI_17, aW_17, sI_17, aI_21, aW_21, sI_21, aI_22, aW_22, sI_22, aI_23, aW_23, sI_23, aI_25, aW_25, sI_25, aI_26, aW_26, sI_26, aI_29, aW_29, sI_29, aI_31, aW_31, sI_31, aI_32, aW_32, sI_32, aI_33, aW_33, sI_33, aI_34, aW_34, sI_34, aI_35, aW_35, sI_35, aI_36, aW_36, sI_36, aI_37, aW_37, sI_37, aI_38, aW_38, sI_38, aI_41, aW_41, sI_41, aI_42, aW_42, sI_42, aI_43, aW_43, sI_43, aL_19, sL_19, aL_20, sL_20, aL_27, sL_27, aL_39, sL_39, aL_40, sL_40, aL_44, sL_44, aB_30, aZ_30, sZ_30, aQ_10, aQ_11, sQ_10, e, true_implies, false_implies, not_true_eq_false, not_false_eq_true, and_self, true_and, and_true]
    congr 2
    funext q
    unfold va_up
    split
    · next h =>
      subst h
      funext q
      rw [if_neg (by omega)]
    · rfl
  | succ j ih =>
    intro k r l4 hk
    have e : ¬ (5 : Int32) ≤ nI k := nI_ge (b := 5) (by omega) (by omega)
    have i1 := inb_nI (show k < 5 by omega) (by omega)
    have z1 := nI_clamp (show k < 2 ^ 31 by omega)
    have key : va_up r 14 (fun i => if k + 1 ≤ i ∧ i < 5 then plN c M pp i else upd (r 14) k (plN c M pp k) i) = va_up r 14 (fun i => if k ≤ i ∧ i < 5 then plN c M pp i else r 14 i) := by
      congr 1
      funext q
      by_cases h1 : q = k
      · subst h1
        rw [if_neg (by omega), pk_us, if_pos (by omega)]
      · rw [pk_un h1]
        by_cases h2 : k + 1 ≤ q ∧ q < 5
        · rw [if_pos h2, if_pos (by omega)]
        · rw [if_neg h2, if_neg (by omega)]
    rw [s26_30]
    by_cases hkM : k < M
    · obtain ⟨g1, g2⟩ := hm k hkM
      have e2 : plN c M pp k = c (100 * pp k + 2) := if_pos hkM
      simp only [s26_0, s26_1, s26_2, s26_5, s26_6, s26_6n, s26_7, s26_10, s26_13, s26_13n, s26_14, s26_17, s26_18, s26_19, s26_22, s26_23, s26_25, s26_28, s26_29, s26_31, s26_32, s26_35, s26_35n, s26_36, s26_37, s26_40, s26_40n, s26_42, s26_43, s26_46, s26_47, s26_47n, s26_49n, s26_49, s26_52, s26_53, s26_56, s26_56n, s26_58, s26_61, s26_62, s26_65, s26_68, zb0, zb1, ob_some, tl_s, tl_n, nk_i, nk_r, nk_n, nk_0, pk_us, pk_un, va_up_self, va_up_ne, ne_eq, Nat.reduceEqDiff, not_false_eq_true, true_and, and_true, eq_self, z11, z00, bI_z, gf_0_0, gf_0_1, gf_0_2, gf_0_3, gf_0_4, gf_0_5, gf_0_6, rcv_0, rcO_0, gf_1_0, gf_1_1, sf_1_1, gf_1_2, gf_1_3, gf_1_4, gf_1_5, sf_1_5, gf_1_6, sf_1_6, gf_1_7, sf_1_7, gf_1_8, sf_1_8, gf_1_9, sf_1_9, gf_1_10, sf_1_10, gf_1_11, sf_1_11, rcv_1, rcO_1, gf_6_0, sf_6_0, gf_6_1, sf_6_1, gf_6_2, sf_6_2, gf_6_3, sf_6_3, gf_6_4, gf_6_5, rcv_6, rcO_6, gf_9_0, gf_9_1, sf_9_1, rcv_9, rcO_9, gf_12_0, sf_12_0, gf_12_1, sf_12_1, gf_12_2, gf_12_3, rcv_12, rcO_12, gf_15_0, sf_15_0, gf_15_1, sf_15_1, gf_15_2, gf_15_3, rcv_15, rcO_15, gf_18_0, sf_18_0, gf_18_1, sf_18_1, gf_18_2, gf_18_3, gf_18_4, gf_18_5, sf_18_5, gf_18_6, sf_18_6, gf_18_7, sf_18_7, gf_18_8, sf_18_8, rcv_18, rcO_18, gf_24_0, gf_24_1, gf_24_2, sf_24_2, rcv_24, rcO_24, gf_28_0, gf_28_1, gf_28_2, gf_28_3, sf_28_3, gf_28_4, gf_28_5, sf_28_5, gf_28_6, sf_28_6, gf_28_7, gf_28_8, gf_28_9, gf_28_10, gf_28_11, gf_28_12, gf_28_13, sf_28_13, gf_28_14, sf_28_14, gf_28_15, sf_28_15, gf_28_16, sf_28_16, gf_28_17, sf_28_17, gf_28_18, sf_28_18, gf_28_19, gf_28_20, gf_28_21, gf_28_22, gf_28_23, gf_28_24, sf_28_24, gf_28_25, rcv_28, rcO_28, aI_2, aW_2, sI_2, aI_3, aW_3, sI_3, aI_4, aW_4, sI_4, aI_5, aW_5, sI_5, aI_7, aW_7, sI_7, aI_8, aW_8, sI_8, aI_13, aW_13, sI_13, aI_14, aW_14, sI_14, aI_16, aW_16, sI_16, aI_17, aW_17, sI_17, aI_21, aW_21, sI_21, aI_22, aW_22, sI_22, aI_23, aW_23, sI_23, aI_25, aW_25, sI_25, aI_26, aW_26, sI_26, aI_29, aW_29, sI_29, aI_31, aW_31, sI_31, aI_32, aW_32, sI_32, aI_33, aW_33, sI_33, aI_34, aW_34, sI_34, aI_35, aW_35, sI_35, aI_36, aW_36, sI_36, aI_37, aW_37, sI_37, aI_38, aW_38, sI_38, aI_41, aW_41, sI_41, aI_42, aW_42, sI_42, aI_43, aW_43, sI_43, aL_19, sL_19, aL_20, sL_20, aL_27, sL_27, aL_39, sL_39, aL_40, sL_40, aL_44, sL_44, aB_30, aZ_30, sZ_30, aQ_10, aQ_11, sQ_10, e, y_mem hc hM hkM g1, i1, z1, cl_f2 g2, ← e2, nI_1, true_implies, false_implies, not_true_eq_false, not_false_eq_true, and_self, true_and, and_true]
      rw [ih (k + 1) _ _ (by omega), vup2]
      have e29 : va_up r 14 (upd (r 14) k (plN c M pp k)) 14 = upd (r 14) k (plN c M pp k) := if_pos rfl
      rw [e29, key]
    · have e2 : plN c M pp k = 0 := if_neg hkM
      simp only [s26_0, s26_1, s26_2, s26_5, s26_6, s26_6n, s26_7, s26_10, s26_13, s26_13n, s26_14, s26_17, s26_18, s26_19, s26_22, s26_23, s26_25, s26_28, s26_29, s26_31, s26_32, s26_35, s26_35n, s26_36, s26_37, s26_40, s26_40n, s26_42, s26_43, s26_46, s26_47, s26_47n, s26_49n, s26_49, s26_52, s26_53, s26_56, s26_56n, s26_58, s26_61, s26_62, s26_65, s26_68, zb0, zb1, ob_some, tl_s, tl_n, nk_i, nk_r, nk_n, nk_0, pk_us, pk_un, va_up_self, va_up_ne, ne_eq, Nat.reduceEqDiff, not_false_eq_true, true_and, and_true, eq_self, z11, z00, bI_z, gf_0_0, gf_0_1, gf_0_2, gf_0_3, gf_0_4, gf_0_5, gf_0_6, rcv_0, rcO_0, gf_1_0, gf_1_1, sf_1_1, gf_1_2, gf_1_3, gf_1_4, gf_1_5, sf_1_5, gf_1_6, sf_1_6, gf_1_7, sf_1_7, gf_1_8, sf_1_8, gf_1_9, sf_1_9, gf_1_10, sf_1_10, gf_1_11, sf_1_11, rcv_1, rcO_1, gf_6_0, sf_6_0, gf_6_1, sf_6_1, gf_6_2, sf_6_2, gf_6_3, sf_6_3, gf_6_4, gf_6_5, rcv_6, rcO_6, gf_9_0, gf_9_1, sf_9_1, rcv_9, rcO_9, gf_12_0, sf_12_0, gf_12_1, sf_12_1, gf_12_2, gf_12_3, rcv_12, rcO_12, gf_15_0, sf_15_0, gf_15_1, sf_15_1, gf_15_2, gf_15_3, rcv_15, rcO_15, gf_18_0, sf_18_0, gf_18_1, sf_18_1, gf_18_2, gf_18_3, gf_18_4, gf_18_5, sf_18_5, gf_18_6, sf_18_6, gf_18_7, sf_18_7, gf_18_8, sf_18_8, rcv_18, rcO_18, gf_24_0, gf_24_1, gf_24_2, sf_24_2, rcv_24, rcO_24, gf_28_0, gf_28_1, gf_28_2, gf_28_3, sf_28_3, gf_28_4, gf_28_5, sf_28_5, gf_28_6, sf_28_6, gf_28_7, gf_28_8, gf_28_9, gf_28_10, gf_28_11, gf_28_12, gf_28_13, sf_28_13, gf_28_14, sf_28_14, gf_28_15, sf_28_15, gf_28_16, sf_28_16, gf_28_17, sf_28_17, gf_28_18, sf_28_18, gf_28_19, gf_28_20, gf_28_21, gf_28_22, gf_28_23, gf_28_24, sf_28_24, gf_28_25, rcv_28, rcO_28, aI_2, aW_2, sI_2, aI_3, aW_3, sI_3, aI_4, aW_4, sI_4, aI_5, aW_5, sI_5, aI_7, aW_7, sI_7, aI_8, aW_8, sI_8, aI_13, aW_13, sI_13, aI_14, aW_14, sI_14, aI_16, aW_16, sI_16, aI_17, aW_17, sI_17, aI_21, aW_21, sI_21, aI_22, aW_22, sI_22, aI_23, aW_23, sI_23, aI_25, aW_25, sI_25, aI_26, aW_26, sI_26, aI_29, aW_29, sI_29, aI_31, aW_31, sI_31, aI_32, aW_32, sI_32, aI_33, aW_33, sI_33, aI_34, aW_34, sI_34, aI_35, aW_35, sI_35, aI_36, aW_36, sI_36, aI_37, aW_37, sI_37, aI_38, aW_38, sI_38, aI_41, aW_41, sI_41, aI_42, aW_42, sI_42, aI_43, aW_43, sI_43, aL_19, sL_19, aL_20, sL_20, aL_27, sL_27, aL_39, sL_39, aL_40, sL_40, aL_44, sL_44, aB_30, aZ_30, sZ_30, aQ_10, aQ_11, sQ_10, e, n_mem hc (Or.inr (nI_le (show M ≤ k by omega) (show k < 2 ^ 31 by omega))), i1, z1, nI_1, true_implies, false_implies, not_true_eq_false, not_false_eq_true, and_self, true_and, and_true]
      rw [← e2, ih (k + 1) _ _ (by omega), vup2]
      have e29 : va_up r 14 (upd (r 14) k (plN c M pp k)) 14 = upd (r 14) k (plN c M pp k) := if_pos rfl
      rw [e29, key]
theorem c_take0 (hc : c 901 = nI M) (hM : M ≤ 5) (hm : ∀ i, i < M → mb i = some (pp i) ∧ isC sh (pp i) (ss i)) : Cl X (d + 1) 26 [.ref 12, .ref 6, .ref 9] (G c r w mb n1 n2 sh) K = K none (G (upd (upd c 1200 1) 1201 (c 603)) (va_up (va_up r 13 (va_cpy (r 8) (r 13) 0 0 20)) 14 (fun i => if i < 5 then plN (upd (upd c 1200 1) 1201 (c 603)) M pp i else r 14 i)) w mb n1 n2 sh) := by
  have l20 : 20 ≤ 20 := Nat.le_refl 20
  rw [e26]
  simp only [s26_0, s26_1, s26_2, s26_5, s26_6, s26_6n, s26_7, s26_10, s26_13, s26_13n, s26_14, s26_17, s26_18, s26_19, s26_22, s26_23, s26_25, s26_28, s26_29, s26_31, s26_32, s26_35, s26_35n, s26_36, s26_37, s26_40, s26_40n, s26_42, s26_43, s26_46, s26_47, s26_47n, s26_49n, s26_49, s26_52, s26_53, s26_56, s26_56n, s26_58, s26_61, s26_62, s26_65, s26_68, zb0, zb1, ob_some, tl_s, tl_n, nk_i, nk_r, nk_n, nk_0, pk_us, pk_un, va_up_self, va_up_ne, ne_eq, Nat.reduceEqDiff, not_false_eq_true, true_and, and_true, eq_self, z11, z00, bI_z, gf_0_0, gf_0_1, gf_0_2, gf_0_3, gf_0_4, gf_0_5, gf_0_6, rcv_0, rcO_0, gf_1_0, gf_1_1, sf_1_1, gf_1_2, gf_1_3, gf_1_4, gf_1_5, sf_1_5, gf_1_6, sf_1_6, gf_1_7, sf_1_7, gf_1_8, sf_1_8, gf_1_9, sf_1_9, gf_1_10, sf_1_10, gf_1_11, sf_1_11, rcv_1, rcO_1, gf_6_0, sf_6_0, gf_6_1, sf_6_1, gf_6_2, sf_6_2, gf_6_3, sf_6_3, gf_6_4, gf_6_5, rcv_6, rcO_6, gf_9_0, gf_9_1, sf_9_1, rcv_9, rcO_9, gf_12_0, sf_12_0, gf_12_1, sf_12_1, gf_12_2, gf_12_3, rcv_12, rcO_12, gf_15_0, sf_15_0, gf_15_1, sf_15_1, gf_15_2, gf_15_3, rcv_15, rcO_15, gf_18_0, sf_18_0, gf_18_1, sf_18_1, gf_18_2, gf_18_3, gf_18_4, gf_18_5, sf_18_5, gf_18_6, sf_18_6, gf_18_7, sf_18_7, gf_18_8, sf_18_8, rcv_18, rcO_18, gf_24_0, gf_24_1, gf_24_2, sf_24_2, rcv_24, rcO_24, gf_28_0, gf_28_1, gf_28_2, gf_28_3, sf_28_3, gf_28_4, gf_28_5, sf_28_5, gf_28_6, sf_28_6, gf_28_7, gf_28_8, gf_28_9, gf_28_10, gf_28_11, gf_28_12, gf_28_13, sf_28_13, gf_28_14, sf_28_14, gf_28_15, sf_28_15, gf_28_16, sf_28_16, gf_28_17, sf_28_17, gf_28_18, sf_28_18, gf_28_19, gf_28_20, gf_28_21, gf_28_22, gf_28_23, gf_28_24, sf_28_24, gf_28_25, rcv_28, rcO_28, aI_2, aW_2, sI_2, aI_3, aW_3, sI_3, aI_4, aW_4, sI_4, aI_5, aW_5, sI_5, aI_7, aW_7, sI_7, aI_8, aW_8, sI_8, aI_13, aW_13, sI_13, aI_14, aW_14, sI_14, aI_16, aW_16, sI_16, aI_17, aW_17, sI_17, aI_21, aW_21, sI_21, aI_22, aW_22, sI_22, aI_23, aW_23, sI_23, aI_25, aW_25, sI_25, aI_26, aW_26, sI_26, aI_29, aW_29, sI_29, aI_31, aW_31, sI_31, aI_32, aW_32, sI_32, aI_33, aW_33, sI_33, aI_34, aW_34, sI_34, aI_35, aW_35, sI_35, aI_36, aW_36, sI_36, aI_37, aW_37, sI_37, aI_38, aW_38, sI_38, aI_41, aW_41, sI_41, aI_42, aW_42, sI_42, aI_43, aW_43, sI_43, aL_19, sL_19, aL_20, sL_20, aL_27, sL_27, aL_39, sL_39, aL_40, sL_40, aL_44, sL_44, aB_30, aZ_30, sZ_30, aQ_10, aQ_11, sQ_10, Nat.le_refl, true_implies, false_implies, not_true_eq_false, not_false_eq_true, and_self, true_and, and_true]
  refine (take_loop0 (show upd (upd c 1200 1) 1201 (c 603) 901 = nI M by rw [pk_un (by omega), pk_un (by omega)]; exact hc) hM hm 5 0 _ none (by omega)).trans ?_
  congr 2
  congr 1
  funext i
  simp
  rfl
theorem rest_loop0 (hM : M ≤ 5) (hm : ∀ i, i < M → mb i = some (pp i) ∧ isC sh (pp i) (ss i)) : ∀ j k c l4, k + j = 5 → c 901 = nI M → Wp X (d + 1) 27 25 [some (.ref 12), some (.ref 6), some (.ref 9), some (.int (nI k)), l4] [] (G c r w mb n1 n2 sh) Q = Q none (G (rsL M pp (r 14) j k c) r w mb n1 n2 sh) := by
  intro j
  induction j with
  | zero =>
    intro k c l4 hk hc
    obtain rfl : k = 5 := by omega
    have e : (5 : Int32) ≤ nI 5 := by decide
    rw [s27_25]
    simp only [s27_0, s27_0n, s27_1, s27_2, s27_5, s27_8, s27_9, s27_12, s27_13, s27_13n, s27_14, s27_17, s27_18, s27_20, s27_23, s27_24, s27_26, s27_27, s27_30, s27_30n, s27_31, s27_32, s27_35, s27_35n, s27_37, s27_37n, s27_39n, s27_39, s27_42, s27_42n, s27_44, s27_45, s27_48, s27_49, s27_50, s27_53, s27_56, s27_59, zb0, zb1, ob_some, tl_s, tl_n, nk_i, nk_r, nk_n, nk_0, pk_us, pk_un, va_up_self, va_up_ne, ne_eq, Nat.reduceEqDiff, not_false_eq_true, true_and, and_true, eq_self, z11, z00, bI_z, gf_0_0, gf_0_1, gf_0_2, gf_0_3, gf_0_4, gf_0_5, gf_0_6, rcv_0, rcO_0, gf_1_0, gf_1_1, sf_1_1, gf_1_2, gf_1_3, gf_1_4, gf_1_5, sf_1_5, gf_1_6, sf_1_6, gf_1_7, sf_1_7, gf_1_8, sf_1_8, gf_1_9, sf_1_9, gf_1_10, sf_1_10, gf_1_11, sf_1_11, rcv_1, rcO_1, gf_6_0, sf_6_0, gf_6_1, sf_6_1, gf_6_2, sf_6_2, gf_6_3, sf_6_3, gf_6_4, gf_6_5, rcv_6, rcO_6, gf_9_0, gf_9_1, sf_9_1, rcv_9, rcO_9, gf_12_0, sf_12_0, gf_12_1, sf_12_1, gf_12_2, gf_12_3, rcv_12, rcO_12, gf_15_0, sf_15_0, gf_15_1, sf_15_1, gf_15_2, gf_15_3, rcv_15, rcO_15, gf_18_0, sf_18_0, gf_18_1, sf_18_1, gf_18_2, gf_18_3, gf_18_4, gf_18_5, sf_18_5, gf_18_6, sf_18_6, gf_18_7, sf_18_7, gf_18_8, sf_18_8, rcv_18, rcO_18, gf_24_0, gf_24_1, gf_24_2, sf_24_2, rcv_24, rcO_24, gf_28_0, gf_28_1, gf_28_2, gf_28_3, sf_28_3, gf_28_4, gf_28_5, sf_28_5, gf_28_6, sf_28_6, gf_28_7, gf_28_8, gf_28_9, gf_28_10, gf_28_11, gf_28_12, gf_28_13, sf_28_13, gf_28_14, sf_28_14, gf_28_15, sf_28_15, gf_28_16, sf_28_16, gf_28_17, sf_28_17, gf_28_18, sf_28_18, gf_28_19, gf_28_20, gf_28_21, gf_28_22, gf_28_23, gf_28_24, sf_28_24, gf_28_25, rcv_28, rcO_28, aI_2, aW_2, sI_2, aI_3, aW_3, sI_3, aI_4, aW_4, sI_4, aI_5, aW_5, sI_5, aI_7, aW_7, sI_7, aI_8, aW_8, sI_8, aI_13, aW_13, sI_13, aI_14, aW_14, sI_14, aI_16, aW_16, sI_16, aI_17, aW_17, sI_17, aI_21, aW_21, sI_21, aI_22, aW_22, sI_22, aI_23, aW_23, sI_23, aI_25, aW_25, sI_25, aI_26, aW_26, sI_26, aI_29, aW_29, sI_29, aI_31, aW_31, sI_31, aI_32, aW_32, sI_32, aI_33, aW_33, sI_33, aI_34, aW_34, sI_34, aI_35, aW_35, sI_35, aI_36, aW_36, sI_36, aI_37, aW_37, sI_37, aI_38, aW_38, sI_38, aI_41, aW_41, sI_41, aI_42, aW_42, sI_42, aI_43, aW_43, sI_43, aL_19, sL_19, aL_20, sL_20, aL_27, sL_27, aL_39, sL_39, aL_40, sL_40, aL_44, sL_44, aB_30, aZ_30, sZ_30, aQ_10, aQ_11, sQ_10, e, true_implies, false_implies, not_true_eq_false, not_false_eq_true, and_self, true_and, and_true]
    rfl
  | succ j ih =>
    intro k c l4 hk hc
    have e : ¬ (5 : Int32) ≤ nI k := nI_ge (b := 5) (by omega) (by omega)
    have i1 := inb_nI (show k < 5 by omega) (by omega)
    have z1 := nI_clamp (show k < 2 ^ 31 by omega)
    rw [s27_25]
    unfold rsL
    by_cases hkM : k < M
    · obtain ⟨g1, g2⟩ := hm k hkM
      have h45 := g2.1
      rw [if_pos hkM]
      simp only [s27_0, s27_0n, s27_1, s27_2, s27_5, s27_8, s27_9, s27_12, s27_13, s27_13n, s27_14, s27_17, s27_18, s27_20, s27_23, s27_24, s27_26, s27_27, s27_30, s27_30n, s27_31, s27_32, s27_35, s27_35n, s27_37, s27_37n, s27_39n, s27_39, s27_42, s27_42n, s27_44, s27_45, s27_48, s27_49, s27_50, s27_53, s27_56, s27_59, zb0, zb1, ob_some, tl_s, tl_n, nk_i, nk_r, nk_n, nk_0, pk_us, pk_un, va_up_self, va_up_ne, ne_eq, Nat.reduceEqDiff, not_false_eq_true, true_and, and_true, eq_self, z11, z00, bI_z, gf_0_0, gf_0_1, gf_0_2, gf_0_3, gf_0_4, gf_0_5, gf_0_6, rcv_0, rcO_0, gf_1_0, gf_1_1, sf_1_1, gf_1_2, gf_1_3, gf_1_4, gf_1_5, sf_1_5, gf_1_6, sf_1_6, gf_1_7, sf_1_7, gf_1_8, sf_1_8, gf_1_9, sf_1_9, gf_1_10, sf_1_10, gf_1_11, sf_1_11, rcv_1, rcO_1, gf_6_0, sf_6_0, gf_6_1, sf_6_1, gf_6_2, sf_6_2, gf_6_3, sf_6_3, gf_6_4, gf_6_5, rcv_6, rcO_6, gf_9_0, gf_9_1, sf_9_1, rcv_9, rcO_9, gf_12_0, sf_12_0, gf_12_1, sf_12_1, gf_12_2, gf_12_3, rcv_12, rcO_12, gf_15_0, sf_15_0, gf_15_1, sf_15_1, gf_15_2, gf_15_3, rcv_15, rcO_15, gf_18_0, sf_18_0, gf_18_1, sf_18_1, gf_18_2, gf_18_3, gf_18_4, gf_18_5, sf_18_5, gf_18_6, sf_18_6, gf_18_7, sf_18_7, gf_18_8, sf_18_8, rcv_18, rcO_18, gf_24_0, gf_24_1, gf_24_2, sf_24_2, rcv_24, rcO_24, gf_28_0, gf_28_1, gf_28_2, gf_28_3, sf_28_3, gf_28_4, gf_28_5, sf_28_5, gf_28_6, sf_28_6, gf_28_7, gf_28_8, gf_28_9, gf_28_10, gf_28_11, gf_28_12, gf_28_13, sf_28_13, gf_28_14, sf_28_14, gf_28_15, sf_28_15, gf_28_16, sf_28_16, gf_28_17, sf_28_17, gf_28_18, sf_28_18, gf_28_19, gf_28_20, gf_28_21, gf_28_22, gf_28_23, gf_28_24, sf_28_24, gf_28_25, rcv_28, rcO_28, aI_2, aW_2, sI_2, aI_3, aW_3, sI_3, aI_4, aW_4, sI_4, aI_5, aW_5, sI_5, aI_7, aW_7, sI_7, aI_8, aW_8, sI_8, aI_13, aW_13, sI_13, aI_14, aW_14, sI_14, aI_16, aW_16, sI_16, aI_17, aW_17, sI_17, aI_21, aW_21, sI_21, aI_22, aW_22, sI_22, aI_23, aW_23, sI_23, aI_25, aW_25, sI_25, aI_26, aW_26, sI_26, aI_29, aW_29, sI_29, aI_31, aW_31, sI_31, aI_32, aW_32, sI_32, aI_33, aW_33, sI_33, aI_34, aW_34, sI_34, aI_35, aW_35, sI_35, aI_36, aW_36, sI_36, aI_37, aW_37, sI_37, aI_38, aW_38, sI_38, aI_41, aW_41, sI_41, aI_42, aW_42, sI_42, aI_43, aW_43, sI_43, aL_19, sL_19, aL_20, sL_20, aL_27, sL_27, aL_39, sL_39, aL_40, sL_40, aL_44, sL_44, aB_30, aZ_30, sZ_30, aQ_10, aQ_11, sQ_10, e, y_mem hc hM hkM g1, i1, z1, cl_f2 g2, cl_s2 g2, nI_1, true_implies, false_implies, not_true_eq_false, not_false_eq_true, and_self, true_and, and_true]
      exact ih (k + 1) _ _ (by omega) (by rw [pk_un (by omega)]; exact hc)
    · rw [if_neg hkM]
      simp only [s27_0, s27_0n, s27_1, s27_2, s27_5, s27_8, s27_9, s27_12, s27_13, s27_13n, s27_14, s27_17, s27_18, s27_20, s27_23, s27_24, s27_26, s27_27, s27_30, s27_30n, s27_31, s27_32, s27_35, s27_35n, s27_37, s27_37n, s27_39n, s27_39, s27_42, s27_42n, s27_44, s27_45, s27_48, s27_49, s27_50, s27_53, s27_56, s27_59, zb0, zb1, ob_some, tl_s, tl_n, nk_i, nk_r, nk_n, nk_0, pk_us, pk_un, va_up_self, va_up_ne, ne_eq, Nat.reduceEqDiff, not_false_eq_true, true_and, and_true, eq_self, z11, z00, bI_z, gf_0_0, gf_0_1, gf_0_2, gf_0_3, gf_0_4, gf_0_5, gf_0_6, rcv_0, rcO_0, gf_1_0, gf_1_1, sf_1_1, gf_1_2, gf_1_3, gf_1_4, gf_1_5, sf_1_5, gf_1_6, sf_1_6, gf_1_7, sf_1_7, gf_1_8, sf_1_8, gf_1_9, sf_1_9, gf_1_10, sf_1_10, gf_1_11, sf_1_11, rcv_1, rcO_1, gf_6_0, sf_6_0, gf_6_1, sf_6_1, gf_6_2, sf_6_2, gf_6_3, sf_6_3, gf_6_4, gf_6_5, rcv_6, rcO_6, gf_9_0, gf_9_1, sf_9_1, rcv_9, rcO_9, gf_12_0, sf_12_0, gf_12_1, sf_12_1, gf_12_2, gf_12_3, rcv_12, rcO_12, gf_15_0, sf_15_0, gf_15_1, sf_15_1, gf_15_2, gf_15_3, rcv_15, rcO_15, gf_18_0, sf_18_0, gf_18_1, sf_18_1, gf_18_2, gf_18_3, gf_18_4, gf_18_5, sf_18_5, gf_18_6, sf_18_6, gf_18_7, sf_18_7, gf_18_8, sf_18_8, rcv_18, rcO_18, gf_24_0, gf_24_1, gf_24_2, sf_24_2, rcv_24, rcO_24, gf_28_0, gf_28_1, gf_28_2, gf_28_3, sf_28_3, gf_28_4, gf_28_5, sf_28_5, gf_28_6, sf_28_6, gf_28_7, gf_28_8, gf_28_9, gf_28_10, gf_28_11, gf_28_12, gf_28_13, sf_28_13, gf_28_14, sf_28_14, gf_28_15, sf_28_15, gf_28_16, sf_28_16, gf_28_17, sf_28_17, gf_28_18, sf_28_18, gf_28_19, gf_28_20, gf_28_21, gf_28_22, gf_28_23, gf_28_24, sf_28_24, gf_28_25, rcv_28, rcO_28, aI_2, aW_2, sI_2, aI_3, aW_3, sI_3, aI_4, aW_4, sI_4, aI_5, aW_5, sI_5, aI_7, aW_7, sI_7, aI_8, aW_8, sI_8, aI_13, aW_13, sI_13, aI_14, aW_14, sI_14, aI_16, aW_16, sI_16, aI_17, aW_17, sI_17, aI_21, aW_21, sI_21, aI_22, aW_22, sI_22, aI_23, aW_23, sI_23, aI_25, aW_25, sI_25, aI_26, aW_26, sI_26, aI_29, aW_29, sI_29, aI_31, aW_31, sI_31, aI_32, aW_32, sI_32, aI_33, aW_33, sI_33, aI_34, aW_34, sI_34, aI_35, aW_35, sI_35, aI_36, aW_36, sI_36, aI_37, aW_37, sI_37, aI_38, aW_38, sI_38, aI_41, aW_41, sI_41, aI_42, aW_42, sI_42, aI_43, aW_43, sI_43, aL_19, sL_19, aL_20, sL_20, aL_27, sL_27, aL_39, sL_39, aL_40, sL_40, aL_44, sL_44, aB_30, aZ_30, sZ_30, aQ_10, aQ_11, sQ_10, e, n_mem hc (Or.inr (nI_le (show M ≤ k by omega) (show k < 2 ^ 31 by omega))), nI_1, true_implies, false_implies, not_true_eq_false, not_false_eq_true, and_self, true_and, and_true]
      exact ih (k + 1) _ _ (by omega) hc
theorem c_rest0 (hc : c 901 = nI M) (hM : M ≤ 5) (hm : ∀ i, i < M → mb i = some (pp i) ∧ isC sh (pp i) (ss i)) : Cl X (d + 1) 27 [.ref 12, .ref 6, .ref 9] (G c r w mb n1 n2 sh) K = K none (G (rsL M pp (r 14) 5 0 (upd c 603 (c 1201))) (va_up r 8 (va_cpy (r 13) (r 8) 0 0 20)) w mb n1 n2 sh) := by
  rw [e27]
  simp only [s27_0, s27_0n, s27_1, s27_2, s27_5, s27_8, s27_9, s27_12, s27_13, s27_13n, s27_14, s27_17, s27_18, s27_20, s27_23, s27_24, s27_26, s27_27, s27_30, s27_30n, s27_31, s27_32, s27_35, s27_35n, s27_37, s27_37n, s27_39n, s27_39, s27_42, s27_42n, s27_44, s27_45, s27_48, s27_49, s27_50, s27_53, s27_56, s27_59, zb0, zb1, ob_some, tl_s, tl_n, nk_i, nk_r, nk_n, nk_0, pk_us, pk_un, va_up_self, va_up_ne, ne_eq, Nat.reduceEqDiff, not_false_eq_true, true_and, and_true, eq_self, z11, z00, bI_z, gf_0_0, gf_0_1, gf_0_2, gf_0_3, gf_0_4, gf_0_5, gf_0_6, rcv_0, rcO_0, gf_1_0, gf_1_1, sf_1_1, gf_1_2, gf_1_3, gf_1_4, gf_1_5, sf_1_5, gf_1_6, sf_1_6, gf_1_7, sf_1_7, gf_1_8, sf_1_8, gf_1_9, sf_1_9, gf_1_10, sf_1_10, gf_1_11, sf_1_11, rcv_1, rcO_1, gf_6_0, sf_6_0, gf_6_1, sf_6_1, gf_6_2, sf_6_2, gf_6_3, sf_6_3, gf_6_4, gf_6_5, rcv_6, rcO_6, gf_9_0, gf_9_1, sf_9_1, rcv_9, rcO_9, gf_12_0, sf_12_0, gf_12_1, sf_12_1, gf_12_2, gf_12_3, rcv_12, rcO_12, gf_15_0, sf_15_0, gf_15_1, sf_15_1, gf_15_2, gf_15_3, rcv_15, rcO_15, gf_18_0, sf_18_0, gf_18_1, sf_18_1, gf_18_2, gf_18_3, gf_18_4, gf_18_5, sf_18_5, gf_18_6, sf_18_6, gf_18_7, sf_18_7, gf_18_8, sf_18_8, rcv_18, rcO_18, gf_24_0, gf_24_1, gf_24_2, sf_24_2, rcv_24, rcO_24, gf_28_0, gf_28_1, gf_28_2, gf_28_3, sf_28_3, gf_28_4, gf_28_5, sf_28_5, gf_28_6, sf_28_6, gf_28_7, gf_28_8, gf_28_9, gf_28_10, gf_28_11, gf_28_12, gf_28_13, sf_28_13, gf_28_14, sf_28_14, gf_28_15, sf_28_15, gf_28_16, sf_28_16, gf_28_17, sf_28_17, gf_28_18, sf_28_18, gf_28_19, gf_28_20, gf_28_21, gf_28_22, gf_28_23, gf_28_24, sf_28_24, gf_28_25, rcv_28, rcO_28, aI_2, aW_2, sI_2, aI_3, aW_3, sI_3, aI_4, aW_4, sI_4, aI_5, aW_5, sI_5, aI_7, aW_7, sI_7, aI_8, aW_8, sI_8, aI_13, aW_13, sI_13, aI_14, aW_14, sI_14, aI_16, aW_16, sI_16, aI_17, aW_17, sI_17, aI_21, aW_21, sI_21, aI_22, aW_22, sI_22, aI_23, aW_23, sI_23, aI_25, aW_25, sI_25, aI_26, aW_26, sI_26, aI_29, aW_29, sI_29, aI_31, aW_31, sI_31, aI_32, aW_32, sI_32, aI_33, aW_33, sI_33, aI_34, aW_34, sI_34, aI_35, aW_35, sI_35, aI_36, aW_36, sI_36, aI_37, aW_37, sI_37, aI_38, aW_38, sI_38, aI_41, aW_41, sI_41, aI_42, aW_42, sI_42, aI_43, aW_43, sI_43, aL_19, sL_19, aL_20, sL_20, aL_27, sL_27, aL_39, sL_39, aL_40, sL_40, aL_44, sL_44, aB_30, aZ_30, sZ_30, aQ_10, aQ_11, sQ_10, Nat.le_refl, true_implies, false_implies, not_true_eq_false, not_false_eq_true, and_self, true_and, and_true]
  exact rest_loop0 hM hm 5 0 _ none (by omega) (by rw [pk_un (by omega)]; exact hc)
theorem op_keep0 : Op X 78 151 [.int 0] := by
  unfold Op
  rintro h n hn ⟨c, r, w, mb, n1, n2, sh, H, M, L, pp, ss, rc, ld, aa, rfl, hI⟩
  have hI2 := hI
  obtain ⟨⟨hT1, hT2, hT3, hT4⟩, ⟨hR1, hR2, hR3, hR4, hR5, hR6⟩, hS, ⟨hC1, hC2, hC3, hC4, hC5⟩, hK, hN, hn1, hn2⟩ := hI2
  have hm : ∀ i, i < M → mb i = some (pp i) ∧ isC sh (pp i) (ss i) := fun i hi => ⟨(hC5 i hi).1, (hC5 i hi).2.1⟩
  have e1 : ¬ (0 : Int32) < 0 := by decide
  have e2 : (0 : Int32) < 2 := by decide
  have i1 : inb 0 2 = true := by decide
  have z1 : (0 : Int32).toNatClampNeg = 0 := by decide
  have hq : va_rf (imQ 0) = .ref 12 := rfl
  have hl := low_of hS.1 hR4
  obtain ⟨c2, hc2⟩ : ∃ c2, upd (upd c 1200 1) 1201 (c 603) = c2 := ⟨_, rfl⟩
  obtain ⟨r2, hr2⟩ : ∃ r2, va_up (va_up r 13 (va_cpy (r 8) (r 13) 0 0 20)) 14 (fun i => if i < 5 then plN c2 M pp i else r 14 i) = r2 := ⟨_, rfl⟩
  have g0 : c2 1200 = 1 := by rw [← hc2]; exact (pk_un (by omega)).trans pk_us
  have g1 : c2 1201 = c 603 := by rw [← hc2]; exact pk_us
  have gc : ∀ k, k ≠ 1200 → k ≠ 1201 → c2 k = c k := fun k h1 h2 => by rw [← hc2]; exact (pk_un h2).trans (pk_un h1)
  have gr : ∀ k, k ≠ 13 → k ≠ 14 → r2 k = r k := fun k h1 h2 => by rw [← hr2]; exact (if_neg h2).trans (if_neg h1)
  have gt : ∀ i, i < 20 → r2 13 i = r 8 i := fun i hi => by
    rw [← hr2]
    show va_cpy (r 8) (r 13) 0 0 20 i = r 8 i
    rw [pk_cpy_in (by omega) (by omega), Nat.zero_add, Nat.sub_zero]
  have gp : ∀ i, i < M → r2 14 i = nI (aa i) := fun i hi => by
    rw [← hr2]
    show (if i < 5 then plN c2 M pp i else r 14 i) = _
    have h45 := (hm i hi).2.1
    rw [if_pos (by omega)]
    unfold plN
    rw [if_pos hi, gc _ (by omega) (by omega)]
    exact (hC5 i hi).2.2.2.2.2.1.1
  have r29 : r2 29 = r 29 := gr 29 (by omega) (by omega)
  have r30 : r2 30 = r 30 := gr 30 (by omega) (by omega)
  have spe : msk (spF (va_up (va_up r2 29 (fun q => if 25 * 1 ≤ q ∧ q < 25 * 1 + 25 then r2 29 (25 * 0 + (q - 25 * 1)) else r2 29 q)) 30 (upd (r2 30) 0 1)) 0) H = c 603 := by
    refine sp_eq (tr := r 8) (hS.cg rfl (fun _ _ => rfl) (fun i hi => ?_)) hR4
    show (if 25 * 1 ≤ 0 + i ∧ 0 + i < 25 * 1 + 25 then r2 29 (25 * 0 + (0 + i - 25 * 1)) else r2 29 (0 + i)) = r 29 i
    rw [if_neg (by omega), r29, Nat.zero_add]
  rw [e78]
  simp only [s78_0, s78_1, s78_4, s78_5, s78_6, s78_9, s78_11, s78_12, s78_13, s78_16, s78_17, s78_18, s78_19, s78_22, s78_23, s78_26, s78_29, s78_30, s78_33, s78_36, s78_39, zb0, zb1, ob_some, tl_s, tl_n, nk_i, nk_r, nk_n, nk_0, pk_us, pk_un, va_up_self, va_up_ne, ne_eq, Nat.reduceEqDiff, not_false_eq_true, true_and, and_true, eq_self, z11, z00, bI_z, gf_0_0, gf_0_1, gf_0_2, gf_0_3, gf_0_4, gf_0_5, gf_0_6, rcv_0, rcO_0, gf_1_0, gf_1_1, sf_1_1, gf_1_2, gf_1_3, gf_1_4, gf_1_5, sf_1_5, gf_1_6, sf_1_6, gf_1_7, sf_1_7, gf_1_8, sf_1_8, gf_1_9, sf_1_9, gf_1_10, sf_1_10, gf_1_11, sf_1_11, rcv_1, rcO_1, gf_6_0, sf_6_0, gf_6_1, sf_6_1, gf_6_2, sf_6_2, gf_6_3, sf_6_3, gf_6_4, gf_6_5, rcv_6, rcO_6, gf_9_0, gf_9_1, sf_9_1, rcv_9, rcO_9, gf_12_0, sf_12_0, gf_12_1, sf_12_1, gf_12_2, gf_12_3, rcv_12, rcO_12, gf_15_0, sf_15_0, gf_15_1, sf_15_1, gf_15_2, gf_15_3, rcv_15, rcO_15, gf_18_0, sf_18_0, gf_18_1, sf_18_1, gf_18_2, gf_18_3, gf_18_4, gf_18_5, sf_18_5, gf_18_6, sf_18_6, gf_18_7, sf_18_7, gf_18_8, sf_18_8, rcv_18, rcO_18, gf_24_0, gf_24_1, gf_24_2, sf_24_2, rcv_24, rcO_24, gf_28_0, gf_28_1, gf_28_2, gf_28_3, sf_28_3, gf_28_4, gf_28_5, sf_28_5, gf_28_6, sf_28_6, gf_28_7, gf_28_8, gf_28_9, gf_28_10, gf_28_11, gf_28_12, gf_28_13, sf_28_13, gf_28_14, sf_28_14, gf_28_15, sf_28_15, gf_28_16, sf_28_16, gf_28_17, sf_28_17, gf_28_18, sf_28_18, gf_28_19, gf_28_20, gf_28_21, gf_28_22, gf_28_23, gf_28_24, sf_28_24, gf_28_25, rcv_28, rcO_28, aI_2, aW_2, sI_2, aI_3, aW_3, sI_3, aI_4, aW_4, sI_4, aI_5, aW_5, sI_5, aI_7, aW_7, sI_7, aI_8, aW_8, sI_8, aI_13, aW_13, sI_13, aI_14, aW_14, sI_14, aI_16, aW_16, sI_16, aI_17, aW_17, sI_17, aI_21, aW_21, sI_21, aI_22, aW_22, sI_22, aI_23, aW_23, sI_23, aI_25, aW_25, sI_25, aI_26, aW_26, sI_26, aI_29, aW_29, sI_29, aI_31, aW_31, sI_31, aI_32, aW_32, sI_32, aI_33, aW_33, sI_33, aI_34, aW_34, sI_34, aI_35, aW_35, sI_35, aI_36, aW_36, sI_36, aI_37, aW_37, sI_37, aI_38, aW_38, sI_38, aI_41, aW_41, sI_41, aI_42, aW_42, sI_42, aI_43, aW_43, sI_43, aL_19, sL_19, aL_20, sL_20, aL_27, sL_27, aL_39, sL_39, aL_40, sL_40, aL_44, sL_44, aB_30, aZ_30, sZ_30, aQ_10, aQ_11, sQ_10, e1, e2, i1, z1, hq, c_take0 hC1 hC3 hm, hc2, hr2, gc 603 (by omega) (by omega), c_pop hl, true_implies, false_implies, not_true_eq_false, not_false_eq_true, and_self, true_and, and_true, zqm5_m1, zqm5_0, zqm5_1, zqm5_2, zqm5_3, zqm5_4, zqm4_m1, zqm4_0, zqm4_1, zqm4_2, zqm4_3, zqm4_4, zqm3_m1, zqm3_0, zqm3_1, zqm3_2, zqm3_3, zqm3_4, zqm2_m1, zqm2_0, zqm2_1, zqm2_2, zqm2_3, zqm2_4, zqm1_m5, zqm1_m4, zqm1_m3, zqm1_m2, zqm1_0, zqm1_1, zqm1_2, zqm1_3, zqm1_4, zqm1_5, zqm1_6, zqm1_7, zqm1_8, zqm1_9, zq0_m5, zq0_m4, zq0_m3, zq0_m2, zq0_m1, zq0_1, zq0_2, zq0_3, zq0_4, zq0_5, zq0_6, zq0_7, zq0_8, zq0_9, zq1_m5, zq1_m4, zq1_m3, zq1_m2, zq1_m1, zq1_0, zq1_2, zq1_3, zq1_4, zq1_5, zq1_6, zq1_7, zq1_8, zq1_9, zq2_m5, zq2_m4, zq2_m3, zq2_m2, zq2_m1, zq2_0, zq2_1, zq2_3, zq2_4, zq2_5, zq2_6, zq2_7, zq2_8, zq2_9, zq3_m5, zq3_m4, zq3_m3, zq3_m2, zq3_m1, zq3_0, zq3_1, zq3_2, zq3_4, zq3_5, zq3_6, zq3_7, zq3_8, zq3_9, zq4_m5, zq4_m4, zq4_m3, zq4_m2, zq4_m1, zq4_0, zq4_1, zq4_2, zq4_3, zq4_5, zq4_6, zq4_7, zq4_8, zq4_9, zq5_m1, zq5_0, zq5_1, zq5_2, zq5_3, zq5_4, zq6_m1, zq6_0, zq6_1, zq6_2, zq6_3, zq6_4, zq7_m1, zq7_0, zq7_1, zq7_2, zq7_3, zq7_4, zq8_m1, zq8_0, zq8_1, zq8_2, zq8_3, zq8_4, zq9_m1, zq9_0, zq9_1, zq9_2, zq9_3, zq9_4]
  rw [e151]
  simp only [s151_0, s151_1, s151_2, s151_3, s151_4, s151_7, s151_10, s151_12, s151_13, s151_14, s151_15, s151_16, s151_17, s151_18, s151_21, s151_22, s151_25, s151_26, s151_27, s151_28, s151_29, s151_30, s151_33, s151_36, zb0, zb1, ob_some, tl_s, tl_n, nk_i, nk_r, nk_n, nk_0, pk_us, pk_un, va_up_self, va_up_ne, ne_eq, Nat.reduceEqDiff, not_false_eq_true, true_and, and_true, eq_self, z11, z00, bI_z, gf_0_0, gf_0_1, gf_0_2, gf_0_3, gf_0_4, gf_0_5, gf_0_6, rcv_0, rcO_0, gf_1_0, gf_1_1, sf_1_1, gf_1_2, gf_1_3, gf_1_4, gf_1_5, sf_1_5, gf_1_6, sf_1_6, gf_1_7, sf_1_7, gf_1_8, sf_1_8, gf_1_9, sf_1_9, gf_1_10, sf_1_10, gf_1_11, sf_1_11, rcv_1, rcO_1, gf_6_0, sf_6_0, gf_6_1, sf_6_1, gf_6_2, sf_6_2, gf_6_3, sf_6_3, gf_6_4, gf_6_5, rcv_6, rcO_6, gf_9_0, gf_9_1, sf_9_1, rcv_9, rcO_9, gf_12_0, sf_12_0, gf_12_1, sf_12_1, gf_12_2, gf_12_3, rcv_12, rcO_12, gf_15_0, sf_15_0, gf_15_1, sf_15_1, gf_15_2, gf_15_3, rcv_15, rcO_15, gf_18_0, sf_18_0, gf_18_1, sf_18_1, gf_18_2, gf_18_3, gf_18_4, gf_18_5, sf_18_5, gf_18_6, sf_18_6, gf_18_7, sf_18_7, gf_18_8, sf_18_8, rcv_18, rcO_18, gf_24_0, gf_24_1, gf_24_2, sf_24_2, rcv_24, rcO_24, gf_28_0, gf_28_1, gf_28_2, gf_28_3, sf_28_3, gf_28_4, gf_28_5, sf_28_5, gf_28_6, sf_28_6, gf_28_7, gf_28_8, gf_28_9, gf_28_10, gf_28_11, gf_28_12, gf_28_13, sf_28_13, gf_28_14, sf_28_14, gf_28_15, sf_28_15, gf_28_16, sf_28_16, gf_28_17, sf_28_17, gf_28_18, sf_28_18, gf_28_19, gf_28_20, gf_28_21, gf_28_22, gf_28_23, gf_28_24, sf_28_24, gf_28_25, rcv_28, rcO_28, aI_2, aW_2, sI_2, aI_3, aW_3, sI_3, aI_4, aW_4, sI_4, aI_5, aW_5, sI_5, aI_7, aW_7, sI_7, aI_8, aW_8, sI_8, aI_13, aW_13, sI_13, aI_14, aW_14, sI_14, aI_16, aW_16, sI_16, aI_17, aW_17, sI_17, aI_21, aW_21, sI_21, aI_22, aW_22, sI_22, aI_23, aW_23, sI_23, aI_25, aW_25, sI_25, aI_26, aW_26, sI_26, aI_29, aW_29, sI_29, aI_31, aW_31, sI_31, aI_32, aW_32, sI_32, aI_33, aW_33, sI_33, aI_34, aW_34, sI_34, aI_35, aW_35, sI_35, aI_36, aW_36, sI_36, aI_37, aW_37, sI_37, aI_38, aW_38, sI_38, aI_41, aW_41, sI_41, aI_42, aW_42, sI_42, aI_43, aW_43, sI_43, aL_19, sL_19, aL_20, sL_20, aL_27, sL_27, aL_39, sL_39, aL_40, sL_40, aL_44, sL_44, aB_30, aZ_30, sZ_30, aQ_10, aQ_11, sQ_10, c_in01_0, one_add0, c_copy0 (show 1 < 4 by omega) (show 0 ≠ 1 by omega), i1, z1, nar1, c_spent0 (c := c2) (show c2 2806 = nI H from (gc 2806 (by omega) (by omega)).trans hR2) hR4, spe, bits_low hl, true_implies, false_implies, not_true_eq_false, not_false_eq_true, and_self, true_and, and_true, zqm5_m1, zqm5_0, zqm5_1, zqm5_2, zqm5_3, zqm5_4, zqm4_m1, zqm4_0, zqm4_1, zqm4_2, zqm4_3, zqm4_4, zqm3_m1, zqm3_0, zqm3_1, zqm3_2, zqm3_3, zqm3_4, zqm2_m1, zqm2_0, zqm2_1, zqm2_2, zqm2_3, zqm2_4, zqm1_m5, zqm1_m4, zqm1_m3, zqm1_m2, zqm1_0, zqm1_1, zqm1_2, zqm1_3, zqm1_4, zqm1_5, zqm1_6, zqm1_7, zqm1_8, zqm1_9, zq0_m5, zq0_m4, zq0_m3, zq0_m2, zq0_m1, zq0_1, zq0_2, zq0_3, zq0_4, zq0_5, zq0_6, zq0_7, zq0_8, zq0_9, zq1_m5, zq1_m4, zq1_m3, zq1_m2, zq1_m1, zq1_0, zq1_2, zq1_3, zq1_4, zq1_5, zq1_6, zq1_7, zq1_8, zq1_9, zq2_m5, zq2_m4, zq2_m3, zq2_m2, zq2_m1, zq2_0, zq2_1, zq2_3, zq2_4, zq2_5, zq2_6, zq2_7, zq2_8, zq2_9, zq3_m5, zq3_m4, zq3_m3, zq3_m2, zq3_m1, zq3_0, zq3_1, zq3_2, zq3_4, zq3_5, zq3_6, zq3_7, zq3_8, zq3_9, zq4_m5, zq4_m4, zq4_m3, zq4_m2, zq4_m1, zq4_0, zq4_1, zq4_2, zq4_3, zq4_5, zq4_6, zq4_7, zq4_8, zq4_9, zq5_m1, zq5_0, zq5_1, zq5_2, zq5_3, zq5_4, zq6_m1, zq6_0, zq6_1, zq6_2, zq6_3, zq6_4, zq7_m1, zq7_0, zq7_1, zq7_2, zq7_3, zq7_4, zq8_m1, zq8_0, zq8_1, zq8_2, zq8_3, zq8_4, zq9_m1, zq9_0, zq9_1, zq9_2, zq9_3, zq9_4]
  refine ⟨⟨_, rfl⟩, ?_⟩
  obtain ⟨r3, hr3⟩ : ∃ r3, va_up (va_up r2 29 (fun q => if 25 * 1 ≤ q ∧ q < 25 * 1 + 25 then r2 29 (25 * 0 + (q - 25 * 1)) else r2 29 q)) 30 (upd (r2 30) 0 1) = r3 := ⟨_, rfl⟩
  rw [hr3]
  have g3 : ∀ k, k ≠ 29 → k ≠ 30 → r3 k = r2 k := fun k h1 h2 => by rw [← hr3]; exact (if_neg h2).trans (if_neg h1)
  have g4 : ∀ k, k ≠ 13 → k ≠ 14 → k ≠ 29 → k ≠ 30 → r3 k = r k := fun k h1 h2 h3 h4 => (g3 k h3 h4).trans (gr k h1 h2)
  have g29 : ∀ q, r3 29 q = if 25 ≤ q ∧ q < 25 + 25 then r 29 (q - 25) else r 29 q := by
    intro q
    rw [← hr3]
    show (if 25 * 1 ≤ q ∧ q < 25 * 1 + 25 then r2 29 (25 * 0 + (q - 25 * 1)) else r2 29 q) = _
    rw [r29]
    simp
  have g30 : r3 30 = upd (r 30) 0 1 := by rw [← hr3, r30]; exact if_pos rfl
  have hIu := hI.up hn
  refine Inv.is (H := H) (M := M) (L := L) (pp := pp) (ss := ss) (rc := rc) (ld := ld) (aa := aa) ⟨?_, ?_, ?_, ?_, ?_, hN, hIu.2.2.2.2.2.2⟩
  · exact hI.1.cg (gc _ (by omega) (by omega)) (gc _ (by omega) (by omega)) (g4 _ (by omega) (by omega) (by omega) (by omega)) (g4 _ (by omega) (by omega) (by omega) (by omega))
  · exact hI.2.1.cg (gc _ (by omega) (by omega)) (gc _ (by omega) (by omega)) (gc _ (by omega) (by omega)) (gc _ (by omega) (by omega)) (g4 _ (by omega) (by omega) (by omega) (by omega)) (g4 _ (by omega) (by omega) (by omega) (by omega)) (g4 _ (by omega) (by omega) (by omega) (by omega))
  · exact hS.cg (gc _ (by omega) (by omega)) (fun i _ => by rw [g4 8 (by omega) (by omega) (by omega) (by omega)]) (fun i hi => by rw [g29, if_neg (by omega)])
  · exact hI.2.2.2.1.cg (gc _ (by omega) (by omega)) (gc _ (by omega) (by omega)) (fun k hk => gc _ (by omega) (by omega)) (g4 _ (by omega) (by omega) (by omega) (by omega)) (g4 _ (by omega) (by omega) (by omega) (by omega)) (g4 _ (by omega) (by omega) (by omega) (by omega)) (g4 _ (by omega) (by omega) (by omega) (by omega)) (fun i hi => by rw [g29, if_neg (by omega)])
  · have kA : IvK1 (c2 1200) (c2 1201) (r3 30 0) (r3 13) (r3 14) (fun i => r3 29 (25 + i)) H M := by
      rw [g0, g1, g30]
      refine ⟨pk_us, Or.inr ⟨rfl, hS.cg rfl (fun i hi => ?_) (fun i hi => ?_), fun i hi => ⟨aa i, (hC5 i hi).2.2.2.2.2.1.2.2, ?_, ?_⟩⟩⟩
      · rw [g3 13 (by omega) (by omega)]; exact gt i hi
      · show r3 29 (25 + i) = r 29 i
        rw [g29, if_pos (by omega), Nat.add_sub_cancel_left]
      · rw [g3 14 (by omega) (by omega)]; exact gp i hi
      · show r3 29 (25 + (20 + i)) = nI (aa i)
        rw [g29, if_pos (by omega), Nat.add_sub_cancel_left]
        exact (hC5 i hi).2.2.2.2.2.1.2.1
    have kB : IvK1 (c2 1500) (c2 1501) (r3 30 1) (r3 16) (r3 17) (fun i => r3 29 (50 + i)) H M := by
      refine hK.2.cg hC3 (gc _ (by omega) (by omega)) (gc _ (by omega) (by omega)) (by rw [g30]; exact pk_un (by omega)) (g4 _ (by omega) (by omega) (by omega) (by omega)) (g4 _ (by omega) (by omega) (by omega) (by omega)) (fun i hi => ?_)
      show r3 29 (50 + i) = r 29 (50 + i)
      rw [g29, if_neg (by omega)]
    exact ⟨kA, kB⟩

theorem take_loop1 (hc : c 901 = nI M) (hM : M ≤ 5) (hm : ∀ i, i < M → mb i = some (pp i) ∧ isC sh (pp i) (ss i)) : ∀ j k r l4, k + j = 5 → Wp X (d + 1) 26 30 [some (.ref 15), some (.ref 6), some (.ref 9), some (.int (nI k)), l4] [] (G c r w mb n1 n2 sh) Q = Q none (G c (va_up r 17 (fun i => if k ≤ i ∧ i < 5 then plN c M pp i else r 17 i)) w mb n1 n2 sh) := by
  intro j
  induction j with
  | zero =>
    intro k r l4 hk
    obtain rfl : k = 5 := by omega
    have e : (5 : Int32) ≤ nI 5 := by decide
    rw [s26_30]
    simp only [s26_0, s26_1, s26_2, s26_5, s26_6, s26_6n, s26_7, s26_10, s26_13, s26_13n, s26_14, s26_17, s26_18, s26_19, s26_22, s26_23, s26_25, s26_28, s26_29, s26_31, s26_32, s26_35, s26_35n, s26_36, s26_37, s26_40, s26_40n, s26_42, s26_43, s26_46, s26_47, s26_47n, s26_49n, s26_49, s26_52, s26_53, s26_56, s26_56n, s26_58, s26_61, s26_62, s26_65, s26_68, zb0, zb1, ob_some, tl_s, tl_n, nk_i, nk_r, nk_n, nk_0, pk_us, pk_un, va_up_self, va_up_ne, ne_eq, Nat.reduceEqDiff, not_false_eq_true, true_and, and_true, eq_self, z11, z00, bI_z, gf_0_0, gf_0_1, gf_0_2, gf_0_3, gf_0_4, gf_0_5, gf_0_6, rcv_0, rcO_0, gf_1_0, gf_1_1, sf_1_1, gf_1_2, gf_1_3, gf_1_4, gf_1_5, sf_1_5, gf_1_6, sf_1_6, gf_1_7, sf_1_7, gf_1_8, sf_1_8, gf_1_9, sf_1_9, gf_1_10, sf_1_10, gf_1_11, sf_1_11, rcv_1, rcO_1, gf_6_0, sf_6_0, gf_6_1, sf_6_1, gf_6_2, sf_6_2, gf_6_3, sf_6_3, gf_6_4, gf_6_5, rcv_6, rcO_6, gf_9_0, gf_9_1, sf_9_1, rcv_9, rcO_9, gf_12_0, sf_12_0, gf_12_1, sf_12_1, gf_12_2, gf_12_3, rcv_12, rcO_12, gf_15_0, sf_15_0, gf_15_1, sf_15_1, gf_15_2, gf_15_3, rcv_15, rcO_15, gf_18_0, sf_18_0, gf_18_1, sf_18_1, gf_18_2, gf_18_3, gf_18_4, gf_18_5, sf_18_5, gf_18_6, sf_18_6, gf_18_7, sf_18_7, gf_18_8, sf_18_8, rcv_18, rcO_18, gf_24_0, gf_24_1, gf_24_2, sf_24_2, rcv_24, rcO_24, gf_28_0, gf_28_1, gf_28_2, gf_28_3, sf_28_3, gf_28_4, gf_28_5, sf_28_5, gf_28_6, sf_28_6, gf_28_7, gf_28_8, gf_28_9, gf_28_10, gf_28_11, gf_28_12, gf_28_13, sf_28_13, gf_28_14, sf_28_14, gf_28_15, sf_28_15, gf_28_16, sf_28_16, gf_28_17, sf_28_17, gf_28_18, sf_28_18, gf_28_19, gf_28_20, gf_28_21, gf_28_22, gf_28_23, gf_28_24, sf_28_24, gf_28_25, rcv_28, rcO_28, aI_2, aW_2, sI_2, aI_3, aW_3, sI_3, aI_4, aW_4, sI_4, aI_5, aW_5, sI_5, aI_7, aW_7, sI_7, aI_8, aW_8, sI_8, aI_13, aW_13, sI_13, aI_14, aW_14, sI_14, aI_16, aW_16, sI_16, aI_17, aW_17, sI_17, aI_21, aW_21, sI_21, aI_22, aW_22, sI_22, aI_23, aW_23, sI_23, aI_25, aW_25, sI_25, aI_26, aW_26, sI_26, aI_29, aW_29, sI_29, aI_31, aW_31, sI_31, aI_32, aW_32, sI_32, aI_33, aW_33, sI_33, aI_34, aW_34, sI_34, aI_35, aW_35, sI_35, aI_36, aW_36, sI_36, aI_37, aW_37, sI_37, aI_38, aW_38, sI_38, aI_41, aW_41, sI_41, aI_42, aW_42, sI_42, aI_43, aW_43, sI_43, aL_19, sL_19, aL_20, sL_20, aL_27, sL_27, aL_39, sL_39, aL_40, sL_40, aL_44, sL_44, aB_30, aZ_30, sZ_30, aQ_10, aQ_11, sQ_10, e, true_implies, false_implies, not_true_eq_false, not_false_eq_true, and_self, true_and, and_true]
    congr 2
    funext q
    unfold va_up
    split
    · next h =>
      subst h
      funext q
      rw [if_neg (by omega)]
    · rfl
  | succ j ih =>
    intro k r l4 hk
    have e : ¬ (5 : Int32) ≤ nI k := nI_ge (b := 5) (by omega) (by omega)
    have i1 := inb_nI (show k < 5 by omega) (by omega)
    have z1 := nI_clamp (show k < 2 ^ 31 by omega)
    have key : va_up r 17 (fun i => if k + 1 ≤ i ∧ i < 5 then plN c M pp i else upd (r 17) k (plN c M pp k) i) = va_up r 17 (fun i => if k ≤ i ∧ i < 5 then plN c M pp i else r 17 i) := by
      congr 1
      funext q
      by_cases h1 : q = k
      · subst h1
        rw [if_neg (by omega), pk_us, if_pos (by omega)]
      · rw [pk_un h1]
        by_cases h2 : k + 1 ≤ q ∧ q < 5
        · rw [if_pos h2, if_pos (by omega)]
        · rw [if_neg h2, if_neg (by omega)]
    rw [s26_30]
    by_cases hkM : k < M
    · obtain ⟨g1, g2⟩ := hm k hkM
      have e2 : plN c M pp k = c (100 * pp k + 2) := if_pos hkM
      simp only [s26_0, s26_1, s26_2, s26_5, s26_6, s26_6n, s26_7, s26_10, s26_13, s26_13n, s26_14, s26_17, s26_18, s26_19, s26_22, s26_23, s26_25, s26_28, s26_29, s26_31, s26_32, s26_35, s26_35n, s26_36, s26_37, s26_40, s26_40n, s26_42, s26_43, s26_46, s26_47, s26_47n, s26_49n, s26_49, s26_52, s26_53, s26_56, s26_56n, s26_58, s26_61, s26_62, s26_65, s26_68, zb0, zb1, ob_some, tl_s, tl_n, nk_i, nk_r, nk_n, nk_0, pk_us, pk_un, va_up_self, va_up_ne, ne_eq, Nat.reduceEqDiff, not_false_eq_true, true_and, and_true, eq_self, z11, z00, bI_z, gf_0_0, gf_0_1, gf_0_2, gf_0_3, gf_0_4, gf_0_5, gf_0_6, rcv_0, rcO_0, gf_1_0, gf_1_1, sf_1_1, gf_1_2, gf_1_3, gf_1_4, gf_1_5, sf_1_5, gf_1_6, sf_1_6, gf_1_7, sf_1_7, gf_1_8, sf_1_8, gf_1_9, sf_1_9, gf_1_10, sf_1_10, gf_1_11, sf_1_11, rcv_1, rcO_1, gf_6_0, sf_6_0, gf_6_1, sf_6_1, gf_6_2, sf_6_2, gf_6_3, sf_6_3, gf_6_4, gf_6_5, rcv_6, rcO_6, gf_9_0, gf_9_1, sf_9_1, rcv_9, rcO_9, gf_12_0, sf_12_0, gf_12_1, sf_12_1, gf_12_2, gf_12_3, rcv_12, rcO_12, gf_15_0, sf_15_0, gf_15_1, sf_15_1, gf_15_2, gf_15_3, rcv_15, rcO_15, gf_18_0, sf_18_0, gf_18_1, sf_18_1, gf_18_2, gf_18_3, gf_18_4, gf_18_5, sf_18_5, gf_18_6, sf_18_6, gf_18_7, sf_18_7, gf_18_8, sf_18_8, rcv_18, rcO_18, gf_24_0, gf_24_1, gf_24_2, sf_24_2, rcv_24, rcO_24, gf_28_0, gf_28_1, gf_28_2, gf_28_3, sf_28_3, gf_28_4, gf_28_5, sf_28_5, gf_28_6, sf_28_6, gf_28_7, gf_28_8, gf_28_9, gf_28_10, gf_28_11, gf_28_12, gf_28_13, sf_28_13, gf_28_14, sf_28_14, gf_28_15, sf_28_15, gf_28_16, sf_28_16, gf_28_17, sf_28_17, gf_28_18, sf_28_18, gf_28_19, gf_28_20, gf_28_21, gf_28_22, gf_28_23, gf_28_24, sf_28_24, gf_28_25, rcv_28, rcO_28, aI_2, aW_2, sI_2, aI_3, aW_3, sI_3, aI_4, aW_4, sI_4, aI_5, aW_5, sI_5, aI_7, aW_7, sI_7, aI_8, aW_8, sI_8, aI_13, aW_13, sI_13, aI_14, aW_14, sI_14, aI_16, aW_16, sI_16, aI_17, aW_17, sI_17, aI_21, aW_21, sI_21, aI_22, aW_22, sI_22, aI_23, aW_23, sI_23, aI_25, aW_25, sI_25, aI_26, aW_26, sI_26, aI_29, aW_29, sI_29, aI_31, aW_31, sI_31, aI_32, aW_32, sI_32, aI_33, aW_33, sI_33, aI_34, aW_34, sI_34, aI_35, aW_35, sI_35, aI_36, aW_36, sI_36, aI_37, aW_37, sI_37, aI_38, aW_38, sI_38, aI_41, aW_41, sI_41, aI_42, aW_42, sI_42, aI_43, aW_43, sI_43, aL_19, sL_19, aL_20, sL_20, aL_27, sL_27, aL_39, sL_39, aL_40, sL_40, aL_44, sL_44, aB_30, aZ_30, sZ_30, aQ_10, aQ_11, sQ_10, e, y_mem hc hM hkM g1, i1, z1, cl_f2 g2, ← e2, nI_1, true_implies, false_implies, not_true_eq_false, not_false_eq_true, and_self, true_and, and_true]
      rw [ih (k + 1) _ _ (by omega), vup2]
      have e29 : va_up r 17 (upd (r 17) k (plN c M pp k)) 17 = upd (r 17) k (plN c M pp k) := if_pos rfl
      rw [e29, key]
    · have e2 : plN c M pp k = 0 := if_neg hkM
      simp only [s26_0, s26_1, s26_2, s26_5, s26_6, s26_6n, s26_7, s26_10, s26_13, s26_13n, s26_14, s26_17, s26_18, s26_19, s26_22, s26_23, s26_25, s26_28, s26_29, s26_31, s26_32, s26_35, s26_35n, s26_36, s26_37, s26_40, s26_40n, s26_42, s26_43, s26_46, s26_47, s26_47n, s26_49n, s26_49, s26_52, s26_53, s26_56, s26_56n, s26_58, s26_61, s26_62, s26_65, s26_68, zb0, zb1, ob_some, tl_s, tl_n, nk_i, nk_r, nk_n, nk_0, pk_us, pk_un, va_up_self, va_up_ne, ne_eq, Nat.reduceEqDiff, not_false_eq_true, true_and, and_true, eq_self, z11, z00, bI_z, gf_0_0, gf_0_1, gf_0_2, gf_0_3, gf_0_4, gf_0_5, gf_0_6, rcv_0, rcO_0, gf_1_0, gf_1_1, sf_1_1, gf_1_2, gf_1_3, gf_1_4, gf_1_5, sf_1_5, gf_1_6, sf_1_6, gf_1_7, sf_1_7, gf_1_8, sf_1_8, gf_1_9, sf_1_9, gf_1_10, sf_1_10, gf_1_11, sf_1_11, rcv_1, rcO_1, gf_6_0, sf_6_0, gf_6_1, sf_6_1, gf_6_2, sf_6_2, gf_6_3, sf_6_3, gf_6_4, gf_6_5, rcv_6, rcO_6, gf_9_0, gf_9_1, sf_9_1, rcv_9, rcO_9, gf_12_0, sf_12_0, gf_12_1, sf_12_1, gf_12_2, gf_12_3, rcv_12, rcO_12, gf_15_0, sf_15_0, gf_15_1, sf_15_1, gf_15_2, gf_15_3, rcv_15, rcO_15, gf_18_0, sf_18_0, gf_18_1, sf_18_1, gf_18_2, gf_18_3, gf_18_4, gf_18_5, sf_18_5, gf_18_6, sf_18_6, gf_18_7, sf_18_7, gf_18_8, sf_18_8, rcv_18, rcO_18, gf_24_0, gf_24_1, gf_24_2, sf_24_2, rcv_24, rcO_24, gf_28_0, gf_28_1, gf_28_2, gf_28_3, sf_28_3, gf_28_4, gf_28_5, sf_28_5, gf_28_6, sf_28_6, gf_28_7, gf_28_8, gf_28_9, gf_28_10, gf_28_11, gf_28_12, gf_28_13, sf_28_13, gf_28_14, sf_28_14, gf_28_15, sf_28_15, gf_28_16, sf_28_16, gf_28_17, sf_28_17, gf_28_18, sf_28_18, gf_28_19, gf_28_20, gf_28_21, gf_28_22, gf_28_23, gf_28_24, sf_28_24, gf_28_25, rcv_28, rcO_28, aI_2, aW_2, sI_2, aI_3, aW_3, sI_3, aI_4, aW_4, sI_4, aI_5, aW_5, sI_5, aI_7, aW_7, sI_7, aI_8, aW_8, sI_8, aI_13, aW_13, sI_13, aI_14, aW_14, sI_14, aI_16, aW_16, sI_16, aI_17, aW_17, sI_17, aI_21, aW_21, sI_21, aI_22, aW_22, sI_22, aI_23, aW_23, sI_23, aI_25, aW_25, sI_25, aI_26, aW_26, sI_26, aI_29, aW_29, sI_29, aI_31, aW_31, sI_31, aI_32, aW_32, sI_32, aI_33, aW_33, sI_33, aI_34, aW_34, sI_34, aI_35, aW_35, sI_35, aI_36, aW_36, sI_36, aI_37, aW_37, sI_37, aI_38, aW_38, sI_38, aI_41, aW_41, sI_41, aI_42, aW_42, sI_42, aI_43, aW_43, sI_43, aL_19, sL_19, aL_20, sL_20, aL_27, sL_27, aL_39, sL_39, aL_40, sL_40, aL_44, sL_44, aB_30, aZ_30, sZ_30, aQ_10, aQ_11, sQ_10, e, n_mem hc (Or.inr (nI_le (show M ≤ k by omega) (show k < 2 ^ 31 by omega))), i1, z1, nI_1, true_implies, false_implies, not_true_eq_false, not_false_eq_true, and_self, true_and, and_true]
      rw [← e2, ih (k + 1) _ _ (by omega), vup2]
      have e29 : va_up r 17 (upd (r 17) k (plN c M pp k)) 17 = upd (r 17) k (plN c M pp k) := if_pos rfl
      rw [e29, key]
theorem c_take1 (hc : c 901 = nI M) (hM : M ≤ 5) (hm : ∀ i, i < M → mb i = some (pp i) ∧ isC sh (pp i) (ss i)) : Cl X (d + 1) 26 [.ref 15, .ref 6, .ref 9] (G c r w mb n1 n2 sh) K = K none (G (upd (upd c 1500 1) 1501 (c 603)) (va_up (va_up r 16 (va_cpy (r 8) (r 16) 0 0 20)) 17 (fun i => if i < 5 then plN (upd (upd c 1500 1) 1501 (c 603)) M pp i else r 17 i)) w mb n1 n2 sh) := by
  have l20 : 20 ≤ 20 := Nat.le_refl 20
  rw [e26]
  simp only [s26_0, s26_1, s26_2, s26_5, s26_6, s26_6n, s26_7, s26_10, s26_13, s26_13n, s26_14, s26_17, s26_18, s26_19, s26_22, s26_23, s26_25, s26_28, s26_29, s26_31, s26_32, s26_35, s26_35n, s26_36, s26_37, s26_40, s26_40n, s26_42, s26_43, s26_46, s26_47, s26_47n, s26_49n, s26_49, s26_52, s26_53, s26_56, s26_56n, s26_58, s26_61, s26_62, s26_65, s26_68, zb0, zb1, ob_some, tl_s, tl_n, nk_i, nk_r, nk_n, nk_0, pk_us, pk_un, va_up_self, va_up_ne, ne_eq, Nat.reduceEqDiff, not_false_eq_true, true_and, and_true, eq_self, z11, z00, bI_z, gf_0_0, gf_0_1, gf_0_2, gf_0_3, gf_0_4, gf_0_5, gf_0_6, rcv_0, rcO_0, gf_1_0, gf_1_1, sf_1_1, gf_1_2, gf_1_3, gf_1_4, gf_1_5, sf_1_5, gf_1_6, sf_1_6, gf_1_7, sf_1_7, gf_1_8, sf_1_8, gf_1_9, sf_1_9, gf_1_10, sf_1_10, gf_1_11, sf_1_11, rcv_1, rcO_1, gf_6_0, sf_6_0, gf_6_1, sf_6_1, gf_6_2, sf_6_2, gf_6_3, sf_6_3, gf_6_4, gf_6_5, rcv_6, rcO_6, gf_9_0, gf_9_1, sf_9_1, rcv_9, rcO_9, gf_12_0, sf_12_0, gf_12_1, sf_12_1, gf_12_2, gf_12_3, rcv_12, rcO_12, gf_15_0, sf_15_0, gf_15_1, sf_15_1, gf_15_2, gf_15_3, rcv_15, rcO_15, gf_18_0, sf_18_0, gf_18_1, sf_18_1, gf_18_2, gf_18_3, gf_18_4, gf_18_5, sf_18_5, gf_18_6, sf_18_6, gf_18_7, sf_18_7, gf_18_8, sf_18_8, rcv_18, rcO_18, gf_24_0, gf_24_1, gf_24_2, sf_24_2, rcv_24, rcO_24, gf_28_0, gf_28_1, gf_28_2, gf_28_3, sf_28_3, gf_28_4, gf_28_5, sf_28_5, gf_28_6, sf_28_6, gf_28_7, gf_28_8, gf_28_9, gf_28_10, gf_28_11, gf_28_12, gf_28_13, sf_28_13, gf_28_14, sf_28_14, gf_28_15, sf_28_15, gf_28_16, sf_28_16, gf_28_17, sf_28_17, gf_28_18, sf_28_18, gf_28_19, gf_28_20, gf_28_21, gf_28_22, gf_28_23, gf_28_24, sf_28_24, gf_28_25, rcv_28, rcO_28, aI_2, aW_2, sI_2, aI_3, aW_3, sI_3, aI_4, aW_4, sI_4, aI_5, aW_5, sI_5, aI_7, aW_7, sI_7, aI_8, aW_8, sI_8, aI_13, aW_13, sI_13, aI_14, aW_14, sI_14, aI_16, aW_16, sI_16, aI_17, aW_17, sI_17, aI_21, aW_21, sI_21, aI_22, aW_22, sI_22, aI_23, aW_23, sI_23, aI_25, aW_25, sI_25, aI_26, aW_26, sI_26, aI_29, aW_29, sI_29, aI_31, aW_31, sI_31, aI_32, aW_32, sI_32, aI_33, aW_33, sI_33, aI_34, aW_34, sI_34, aI_35, aW_35, sI_35, aI_36, aW_36, sI_36, aI_37, aW_37, sI_37, aI_38, aW_38, sI_38, aI_41, aW_41, sI_41, aI_42, aW_42, sI_42, aI_43, aW_43, sI_43, aL_19, sL_19, aL_20, sL_20, aL_27, sL_27, aL_39, sL_39, aL_40, sL_40, aL_44, sL_44, aB_30, aZ_30, sZ_30, aQ_10, aQ_11, sQ_10, Nat.le_refl, true_implies, false_implies, not_true_eq_false, not_false_eq_true, and_self, true_and, and_true]
  refine (take_loop1 (show upd (upd c 1500 1) 1501 (c 603) 901 = nI M by rw [pk_un (by omega), pk_un (by omega)]; exact hc) hM hm 5 0 _ none (by omega)).trans ?_
  congr 2
  congr 1
  funext i
  simp
  rfl
theorem rest_loop1 (hM : M ≤ 5) (hm : ∀ i, i < M → mb i = some (pp i) ∧ isC sh (pp i) (ss i)) : ∀ j k c l4, k + j = 5 → c 901 = nI M → Wp X (d + 1) 27 25 [some (.ref 15), some (.ref 6), some (.ref 9), some (.int (nI k)), l4] [] (G c r w mb n1 n2 sh) Q = Q none (G (rsL M pp (r 17) j k c) r w mb n1 n2 sh) := by
  intro j
  induction j with
  | zero =>
    intro k c l4 hk hc
    obtain rfl : k = 5 := by omega
    have e : (5 : Int32) ≤ nI 5 := by decide
    rw [s27_25]
    simp only [s27_0, s27_0n, s27_1, s27_2, s27_5, s27_8, s27_9, s27_12, s27_13, s27_13n, s27_14, s27_17, s27_18, s27_20, s27_23, s27_24, s27_26, s27_27, s27_30, s27_30n, s27_31, s27_32, s27_35, s27_35n, s27_37, s27_37n, s27_39n, s27_39, s27_42, s27_42n, s27_44, s27_45, s27_48, s27_49, s27_50, s27_53, s27_56, s27_59, zb0, zb1, ob_some, tl_s, tl_n, nk_i, nk_r, nk_n, nk_0, pk_us, pk_un, va_up_self, va_up_ne, ne_eq, Nat.reduceEqDiff, not_false_eq_true, true_and, and_true, eq_self, z11, z00, bI_z, gf_0_0, gf_0_1, gf_0_2, gf_0_3, gf_0_4, gf_0_5, gf_0_6, rcv_0, rcO_0, gf_1_0, gf_1_1, sf_1_1, gf_1_2, gf_1_3, gf_1_4, gf_1_5, sf_1_5, gf_1_6, sf_1_6, gf_1_7, sf_1_7, gf_1_8, sf_1_8, gf_1_9, sf_1_9, gf_1_10, sf_1_10, gf_1_11, sf_1_11, rcv_1, rcO_1, gf_6_0, sf_6_0, gf_6_1, sf_6_1, gf_6_2, sf_6_2, gf_6_3, sf_6_3, gf_6_4, gf_6_5, rcv_6, rcO_6, gf_9_0, gf_9_1, sf_9_1, rcv_9, rcO_9, gf_12_0, sf_12_0, gf_12_1, sf_12_1, gf_12_2, gf_12_3, rcv_12, rcO_12, gf_15_0, sf_15_0, gf_15_1, sf_15_1, gf_15_2, gf_15_3, rcv_15, rcO_15, gf_18_0, sf_18_0, gf_18_1, sf_18_1, gf_18_2, gf_18_3, gf_18_4, gf_18_5, sf_18_5, gf_18_6, sf_18_6, gf_18_7, sf_18_7, gf_18_8, sf_18_8, rcv_18, rcO_18, gf_24_0, gf_24_1, gf_24_2, sf_24_2, rcv_24, rcO_24, gf_28_0, gf_28_1, gf_28_2, gf_28_3, sf_28_3, gf_28_4, gf_28_5, sf_28_5, gf_28_6, sf_28_6, gf_28_7, gf_28_8, gf_28_9, gf_28_10, gf_28_11, gf_28_12, gf_28_13, sf_28_13, gf_28_14, sf_28_14, gf_28_15, sf_28_15, gf_28_16, sf_28_16, gf_28_17, sf_28_17, gf_28_18, sf_28_18, gf_28_19, gf_28_20, gf_28_21, gf_28_22, gf_28_23, gf_28_24, sf_28_24, gf_28_25, rcv_28, rcO_28, aI_2, aW_2, sI_2, aI_3, aW_3, sI_3, aI_4, aW_4, sI_4, aI_5, aW_5, sI_5, aI_7, aW_7, sI_7, aI_8, aW_8, sI_8, aI_13, aW_13, sI_13, aI_14, aW_14, sI_14, aI_16, aW_16, sI_16, aI_17, aW_17, sI_17, aI_21, aW_21, sI_21, aI_22, aW_22, sI_22, aI_23, aW_23, sI_23, aI_25, aW_25, sI_25, aI_26, aW_26, sI_26, aI_29, aW_29, sI_29, aI_31, aW_31, sI_31, aI_32, aW_32, sI_32, aI_33, aW_33, sI_33, aI_34, aW_34, sI_34, aI_35, aW_35, sI_35, aI_36, aW_36, sI_36, aI_37, aW_37, sI_37, aI_38, aW_38, sI_38, aI_41, aW_41, sI_41, aI_42, aW_42, sI_42, aI_43, aW_43, sI_43, aL_19, sL_19, aL_20, sL_20, aL_27, sL_27, aL_39, sL_39, aL_40, sL_40, aL_44, sL_44, aB_30, aZ_30, sZ_30, aQ_10, aQ_11, sQ_10, e, true_implies, false_implies, not_true_eq_false, not_false_eq_true, and_self, true_and, and_true]
    rfl
  | succ j ih =>
    intro k c l4 hk hc
    have e : ¬ (5 : Int32) ≤ nI k := nI_ge (b := 5) (by omega) (by omega)
    have i1 := inb_nI (show k < 5 by omega) (by omega)
    have z1 := nI_clamp (show k < 2 ^ 31 by omega)
    rw [s27_25]
    unfold rsL
    by_cases hkM : k < M
    · obtain ⟨g1, g2⟩ := hm k hkM
      have h45 := g2.1
      rw [if_pos hkM]
      simp only [s27_0, s27_0n, s27_1, s27_2, s27_5, s27_8, s27_9, s27_12, s27_13, s27_13n, s27_14, s27_17, s27_18, s27_20, s27_23, s27_24, s27_26, s27_27, s27_30, s27_30n, s27_31, s27_32, s27_35, s27_35n, s27_37, s27_37n, s27_39n, s27_39, s27_42, s27_42n, s27_44, s27_45, s27_48, s27_49, s27_50, s27_53, s27_56, s27_59, zb0, zb1, ob_some, tl_s, tl_n, nk_i, nk_r, nk_n, nk_0, pk_us, pk_un, va_up_self, va_up_ne, ne_eq, Nat.reduceEqDiff, not_false_eq_true, true_and, and_true, eq_self, z11, z00, bI_z, gf_0_0, gf_0_1, gf_0_2, gf_0_3, gf_0_4, gf_0_5, gf_0_6, rcv_0, rcO_0, gf_1_0, gf_1_1, sf_1_1, gf_1_2, gf_1_3, gf_1_4, gf_1_5, sf_1_5, gf_1_6, sf_1_6, gf_1_7, sf_1_7, gf_1_8, sf_1_8, gf_1_9, sf_1_9, gf_1_10, sf_1_10, gf_1_11, sf_1_11, rcv_1, rcO_1, gf_6_0, sf_6_0, gf_6_1, sf_6_1, gf_6_2, sf_6_2, gf_6_3, sf_6_3, gf_6_4, gf_6_5, rcv_6, rcO_6, gf_9_0, gf_9_1, sf_9_1, rcv_9, rcO_9, gf_12_0, sf_12_0, gf_12_1, sf_12_1, gf_12_2, gf_12_3, rcv_12, rcO_12, gf_15_0, sf_15_0, gf_15_1, sf_15_1, gf_15_2, gf_15_3, rcv_15, rcO_15, gf_18_0, sf_18_0, gf_18_1, sf_18_1, gf_18_2, gf_18_3, gf_18_4, gf_18_5, sf_18_5, gf_18_6, sf_18_6, gf_18_7, sf_18_7, gf_18_8, sf_18_8, rcv_18, rcO_18, gf_24_0, gf_24_1, gf_24_2, sf_24_2, rcv_24, rcO_24, gf_28_0, gf_28_1, gf_28_2, gf_28_3, sf_28_3, gf_28_4, gf_28_5, sf_28_5, gf_28_6, sf_28_6, gf_28_7, gf_28_8, gf_28_9, gf_28_10, gf_28_11, gf_28_12, gf_28_13, sf_28_13, gf_28_14, sf_28_14, gf_28_15, sf_28_15, gf_28_16, sf_28_16, gf_28_17, sf_28_17, gf_28_18, sf_28_18, gf_28_19, gf_28_20, gf_28_21, gf_28_22, gf_28_23, gf_28_24, sf_28_24, gf_28_25, rcv_28, rcO_28, aI_2, aW_2, sI_2, aI_3, aW_3, sI_3, aI_4, aW_4, sI_4, aI_5, aW_5, sI_5, aI_7, aW_7, sI_7, aI_8, aW_8, sI_8, aI_13, aW_13, sI_13, aI_14, aW_14, sI_14, aI_16, aW_16, sI_16, aI_17, aW_17, sI_17, aI_21, aW_21, sI_21, aI_22, aW_22, sI_22, aI_23, aW_23, sI_23, aI_25, aW_25, sI_25, aI_26, aW_26, sI_26, aI_29, aW_29, sI_29, aI_31, aW_31, sI_31, aI_32, aW_32, sI_32, aI_33, aW_33, sI_33, aI_34, aW_34, sI_34, aI_35, aW_35, sI_35, aI_36, aW_36, sI_36, aI_37, aW_37, sI_37, aI_38, aW_38, sI_38, aI_41, aW_41, sI_41, aI_42, aW_42, sI_42, aI_43, aW_43, sI_43, aL_19, sL_19, aL_20, sL_20, aL_27, sL_27, aL_39, sL_39, aL_40, sL_40, aL_44, sL_44, aB_30, aZ_30, sZ_30, aQ_10, aQ_11, sQ_10, e, y_mem hc hM hkM g1, i1, z1, cl_f2 g2, cl_s2 g2, nI_1, true_implies, false_implies, not_true_eq_false, not_false_eq_true, and_self, true_and, and_true]
      exact ih (k + 1) _ _ (by omega) (by rw [pk_un (by omega)]; exact hc)
    · rw [if_neg hkM]
      simp only [s27_0, s27_0n, s27_1, s27_2, s27_5, s27_8, s27_9, s27_12, s27_13, s27_13n, s27_14, s27_17, s27_18, s27_20, s27_23, s27_24, s27_26, s27_27, s27_30, s27_30n, s27_31, s27_32, s27_35, s27_35n, s27_37, s27_37n, s27_39n, s27_39, s27_42, s27_42n, s27_44, s27_45, s27_48, s27_49, s27_50, s27_53, s27_56, s27_59, zb0, zb1, ob_some, tl_s, tl_n, nk_i, nk_r, nk_n, nk_0, pk_us, pk_un, va_up_self, va_up_ne, ne_eq, Nat.reduceEqDiff, not_false_eq_true, true_and, and_true, eq_self, z11, z00, bI_z, gf_0_0, gf_0_1, gf_0_2, gf_0_3, gf_0_4, gf_0_5, gf_0_6, rcv_0, rcO_0, gf_1_0, gf_1_1, sf_1_1, gf_1_2, gf_1_3, gf_1_4, gf_1_5, sf_1_5, gf_1_6, sf_1_6, gf_1_7, sf_1_7, gf_1_8, sf_1_8, gf_1_9, sf_1_9, gf_1_10, sf_1_10, gf_1_11, sf_1_11, rcv_1, rcO_1, gf_6_0, sf_6_0, gf_6_1, sf_6_1, gf_6_2, sf_6_2, gf_6_3, sf_6_3, gf_6_4, gf_6_5, rcv_6, rcO_6, gf_9_0, gf_9_1, sf_9_1, rcv_9, rcO_9, gf_12_0, sf_12_0, gf_12_1, sf_12_1, gf_12_2, gf_12_3, rcv_12, rcO_12, gf_15_0, sf_15_0, gf_15_1, sf_15_1, gf_15_2, gf_15_3, rcv_15, rcO_15, gf_18_0, sf_18_0, gf_18_1, sf_18_1, gf_18_2, gf_18_3, gf_18_4, gf_18_5, sf_18_5, gf_18_6, sf_18_6, gf_18_7, sf_18_7, gf_18_8, sf_18_8, rcv_18, rcO_18, gf_24_0, gf_24_1, gf_24_2, sf_24_2, rcv_24, rcO_24, gf_28_0, gf_28_1, gf_28_2, gf_28_3, sf_28_3, gf_28_4, gf_28_5, sf_28_5, gf_28_6, sf_28_6, gf_28_7, gf_28_8, gf_28_9, gf_28_10, gf_28_11, gf_28_12, gf_28_13, sf_28_13, gf_28_14, sf_28_14, gf_28_15, sf_28_15, gf_28_16, sf_28_16, gf_28_17, sf_28_17, gf_28_18, sf_28_18, gf_28_19, gf_28_20, gf_28_21, gf_28_22, gf_28_23, gf_28_24, sf_28_24, gf_28_25, rcv_28, rcO_28, aI_2, aW_2, sI_2, aI_3, aW_3, sI_3, aI_4, aW_4, sI_4, aI_5, aW_5, sI_5, aI_7, aW_7, sI_7, aI_8, aW_8, sI_8, aI_13, aW_13, sI_13, aI_14, aW_14, sI_14, aI_16, aW_16, sI_16, aI_17, aW_17, sI_17, aI_21, aW_21, sI_21, aI_22, aW_22, sI_22, aI_23, aW_23, sI_23, aI_25, aW_25, sI_25, aI_26, aW_26, sI_26, aI_29, aW_29, sI_29, aI_31, aW_31, sI_31, aI_32, aW_32, sI_32, aI_33, aW_33, sI_33, aI_34, aW_34, sI_34, aI_35, aW_35, sI_35, aI_36, aW_36, sI_36, aI_37, aW_37, sI_37, aI_38, aW_38, sI_38, aI_41, aW_41, sI_41, aI_42, aW_42, sI_42, aI_43, aW_43, sI_43, aL_19, sL_19, aL_20, sL_20, aL_27, sL_27, aL_39, sL_39, aL_40, sL_40, aL_44, sL_44, aB_30, aZ_30, sZ_30, aQ_10, aQ_11, sQ_10, e, n_mem hc (Or.inr (nI_le (show M ≤ k by omega) (show k < 2 ^ 31 by omega))), nI_1, true_implies, false_implies, not_true_eq_false, not_false_eq_true, and_self, true_and, and_true]
      exact ih (k + 1) _ _ (by omega) hc
theorem c_rest1 (hc : c 901 = nI M) (hM : M ≤ 5) (hm : ∀ i, i < M → mb i = some (pp i) ∧ isC sh (pp i) (ss i)) : Cl X (d + 1) 27 [.ref 15, .ref 6, .ref 9] (G c r w mb n1 n2 sh) K = K none (G (rsL M pp (r 17) 5 0 (upd c 603 (c 1501))) (va_up r 8 (va_cpy (r 16) (r 8) 0 0 20)) w mb n1 n2 sh) := by
  rw [e27]
  simp only [s27_0, s27_0n, s27_1, s27_2, s27_5, s27_8, s27_9, s27_12, s27_13, s27_13n, s27_14, s27_17, s27_18, s27_20, s27_23, s27_24, s27_26, s27_27, s27_30, s27_30n, s27_31, s27_32, s27_35, s27_35n, s27_37, s27_37n, s27_39n, s27_39, s27_42, s27_42n, s27_44, s27_45, s27_48, s27_49, s27_50, s27_53, s27_56, s27_59, zb0, zb1, ob_some, tl_s, tl_n, nk_i, nk_r, nk_n, nk_0, pk_us, pk_un, va_up_self, va_up_ne, ne_eq, Nat.reduceEqDiff, not_false_eq_true, true_and, and_true, eq_self, z11, z00, bI_z, gf_0_0, gf_0_1, gf_0_2, gf_0_3, gf_0_4, gf_0_5, gf_0_6, rcv_0, rcO_0, gf_1_0, gf_1_1, sf_1_1, gf_1_2, gf_1_3, gf_1_4, gf_1_5, sf_1_5, gf_1_6, sf_1_6, gf_1_7, sf_1_7, gf_1_8, sf_1_8, gf_1_9, sf_1_9, gf_1_10, sf_1_10, gf_1_11, sf_1_11, rcv_1, rcO_1, gf_6_0, sf_6_0, gf_6_1, sf_6_1, gf_6_2, sf_6_2, gf_6_3, sf_6_3, gf_6_4, gf_6_5, rcv_6, rcO_6, gf_9_0, gf_9_1, sf_9_1, rcv_9, rcO_9, gf_12_0, sf_12_0, gf_12_1, sf_12_1, gf_12_2, gf_12_3, rcv_12, rcO_12, gf_15_0, sf_15_0, gf_15_1, sf_15_1, gf_15_2, gf_15_3, rcv_15, rcO_15, gf_18_0, sf_18_0, gf_18_1, sf_18_1, gf_18_2, gf_18_3, gf_18_4, gf_18_5, sf_18_5, gf_18_6, sf_18_6, gf_18_7, sf_18_7, gf_18_8, sf_18_8, rcv_18, rcO_18, gf_24_0, gf_24_1, gf_24_2, sf_24_2, rcv_24, rcO_24, gf_28_0, gf_28_1, gf_28_2, gf_28_3, sf_28_3, gf_28_4, gf_28_5, sf_28_5, gf_28_6, sf_28_6, gf_28_7, gf_28_8, gf_28_9, gf_28_10, gf_28_11, gf_28_12, gf_28_13, sf_28_13, gf_28_14, sf_28_14, gf_28_15, sf_28_15, gf_28_16, sf_28_16, gf_28_17, sf_28_17, gf_28_18, sf_28_18, gf_28_19, gf_28_20, gf_28_21, gf_28_22, gf_28_23, gf_28_24, sf_28_24, gf_28_25, rcv_28, rcO_28, aI_2, aW_2, sI_2, aI_3, aW_3, sI_3, aI_4, aW_4, sI_4, aI_5, aW_5, sI_5, aI_7, aW_7, sI_7, aI_8, aW_8, sI_8, aI_13, aW_13, sI_13, aI_14, aW_14, sI_14, aI_16, aW_16, sI_16, aI_17, aW_17, sI_17, aI_21, aW_21, sI_21, aI_22, aW_22, sI_22, aI_23, aW_23, sI_23, aI_25, aW_25, sI_25, aI_26, aW_26, sI_26, aI_29, aW_29, sI_29, aI_31, aW_31, sI_31, aI_32, aW_32, sI_32, aI_33, aW_33, sI_33, aI_34, aW_34, sI_34, aI_35, aW_35, sI_35, aI_36, aW_36, sI_36, aI_37, aW_37, sI_37, aI_38, aW_38, sI_38, aI_41, aW_41, sI_41, aI_42, aW_42, sI_42, aI_43, aW_43, sI_43, aL_19, sL_19, aL_20, sL_20, aL_27, sL_27, aL_39, sL_39, aL_40, sL_40, aL_44, sL_44, aB_30, aZ_30, sZ_30, aQ_10, aQ_11, sQ_10, Nat.le_refl, true_implies, false_implies, not_true_eq_false, not_false_eq_true, and_self, true_and, and_true]
  exact rest_loop1 hM hm 5 0 _ none (by omega) (by rw [pk_un (by omega)]; exact hc)
theorem op_keep1 : Op X 78 151 [.int 1] := by
  unfold Op
  rintro h n hn ⟨c, r, w, mb, n1, n2, sh, H, M, L, pp, ss, rc, ld, aa, rfl, hI⟩
  have hI2 := hI
  obtain ⟨⟨hT1, hT2, hT3, hT4⟩, ⟨hR1, hR2, hR3, hR4, hR5, hR6⟩, hS, ⟨hC1, hC2, hC3, hC4, hC5⟩, hK, hN, hn1, hn2⟩ := hI2
  have hm : ∀ i, i < M → mb i = some (pp i) ∧ isC sh (pp i) (ss i) := fun i hi => ⟨(hC5 i hi).1, (hC5 i hi).2.1⟩
  have e1 : ¬ (1 : Int32) < 0 := by decide
  have e2 : (1 : Int32) < 2 := by decide
  have i1 : inb 1 2 = true := by decide
  have z1 : (1 : Int32).toNatClampNeg = 1 := by decide
  have hq : va_rf (imQ 1) = .ref 15 := rfl
  have hl := low_of hS.1 hR4
  obtain ⟨c2, hc2⟩ : ∃ c2, upd (upd c 1500 1) 1501 (c 603) = c2 := ⟨_, rfl⟩
  obtain ⟨r2, hr2⟩ : ∃ r2, va_up (va_up r 16 (va_cpy (r 8) (r 16) 0 0 20)) 17 (fun i => if i < 5 then plN c2 M pp i else r 17 i) = r2 := ⟨_, rfl⟩
  have g0 : c2 1500 = 1 := by rw [← hc2]; exact (pk_un (by omega)).trans pk_us
  have g1 : c2 1501 = c 603 := by rw [← hc2]; exact pk_us
  have gc : ∀ k, k ≠ 1500 → k ≠ 1501 → c2 k = c k := fun k h1 h2 => by rw [← hc2]; exact (pk_un h2).trans (pk_un h1)
  have gr : ∀ k, k ≠ 16 → k ≠ 17 → r2 k = r k := fun k h1 h2 => by rw [← hr2]; exact (if_neg h2).trans (if_neg h1)
  have gt : ∀ i, i < 20 → r2 16 i = r 8 i := fun i hi => by
    rw [← hr2]
    show va_cpy (r 8) (r 16) 0 0 20 i = r 8 i
    rw [pk_cpy_in (by omega) (by omega), Nat.zero_add, Nat.sub_zero]
  have gp : ∀ i, i < M → r2 17 i = nI (aa i) := fun i hi => by
    rw [← hr2]
    show (if i < 5 then plN c2 M pp i else r 17 i) = _
    have h45 := (hm i hi).2.1
    rw [if_pos (by omega)]
    unfold plN
    rw [if_pos hi, gc _ (by omega) (by omega)]
    exact (hC5 i hi).2.2.2.2.2.1.1
  have r29 : r2 29 = r 29 := gr 29 (by omega) (by omega)
  have r30 : r2 30 = r 30 := gr 30 (by omega) (by omega)
  have spe : msk (spF (va_up (va_up r2 29 (fun q => if 25 * 2 ≤ q ∧ q < 25 * 2 + 25 then r2 29 (25 * 0 + (q - 25 * 2)) else r2 29 q)) 30 (upd (r2 30) 1 1)) 0) H = c 603 := by
    refine sp_eq (tr := r 8) (hS.cg rfl (fun _ _ => rfl) (fun i hi => ?_)) hR4
    show (if 25 * 2 ≤ 0 + i ∧ 0 + i < 25 * 2 + 25 then r2 29 (25 * 0 + (0 + i - 25 * 2)) else r2 29 (0 + i)) = r 29 i
    rw [if_neg (by omega), r29, Nat.zero_add]
  rw [e78]
  simp only [s78_0, s78_1, s78_4, s78_5, s78_6, s78_9, s78_11, s78_12, s78_13, s78_16, s78_17, s78_18, s78_19, s78_22, s78_23, s78_26, s78_29, s78_30, s78_33, s78_36, s78_39, zb0, zb1, ob_some, tl_s, tl_n, nk_i, nk_r, nk_n, nk_0, pk_us, pk_un, va_up_self, va_up_ne, ne_eq, Nat.reduceEqDiff, not_false_eq_true, true_and, and_true, eq_self, z11, z00, bI_z, gf_0_0, gf_0_1, gf_0_2, gf_0_3, gf_0_4, gf_0_5, gf_0_6, rcv_0, rcO_0, gf_1_0, gf_1_1, sf_1_1, gf_1_2, gf_1_3, gf_1_4, gf_1_5, sf_1_5, gf_1_6, sf_1_6, gf_1_7, sf_1_7, gf_1_8, sf_1_8, gf_1_9, sf_1_9, gf_1_10, sf_1_10, gf_1_11, sf_1_11, rcv_1, rcO_1, gf_6_0, sf_6_0, gf_6_1, sf_6_1, gf_6_2, sf_6_2, gf_6_3, sf_6_3, gf_6_4, gf_6_5, rcv_6, rcO_6, gf_9_0, gf_9_1, sf_9_1, rcv_9, rcO_9, gf_12_0, sf_12_0, gf_12_1, sf_12_1, gf_12_2, gf_12_3, rcv_12, rcO_12, gf_15_0, sf_15_0, gf_15_1, sf_15_1, gf_15_2, gf_15_3, rcv_15, rcO_15, gf_18_0, sf_18_0, gf_18_1, sf_18_1, gf_18_2, gf_18_3, gf_18_4, gf_18_5, sf_18_5, gf_18_6, sf_18_6, gf_18_7, sf_18_7, gf_18_8, sf_18_8, rcv_18, rcO_18, gf_24_0, gf_24_1, gf_24_2, sf_24_2, rcv_24, rcO_24, gf_28_0, gf_28_1, gf_28_2, gf_28_3, sf_28_3, gf_28_4, gf_28_5, sf_28_5, gf_28_6, sf_28_6, gf_28_7, gf_28_8, gf_28_9, gf_28_10, gf_28_11, gf_28_12, gf_28_13, sf_28_13, gf_28_14, sf_28_14, gf_28_15, sf_28_15, gf_28_16, sf_28_16, gf_28_17, sf_28_17, gf_28_18, sf_28_18, gf_28_19, gf_28_20, gf_28_21, gf_28_22, gf_28_23, gf_28_24, sf_28_24, gf_28_25, rcv_28, rcO_28, aI_2, aW_2, sI_2, aI_3, aW_3, sI_3, aI_4, aW_4, sI_4, aI_5, aW_5, sI_5, aI_7, aW_7, sI_7, aI_8, aW_8, sI_8, aI_13, aW_13, sI_13, aI_14, aW_14, sI_14, aI_16, aW_16, sI_16, aI_17, aW_17, sI_17, aI_21, aW_21, sI_21, aI_22, aW_22, sI_22, aI_23, aW_23, sI_23, aI_25, aW_25, sI_25, aI_26, aW_26, sI_26, aI_29, aW_29, sI_29, aI_31, aW_31, sI_31, aI_32, aW_32, sI_32, aI_33, aW_33, sI_33, aI_34, aW_34, sI_34, aI_35, aW_35, sI_35, aI_36, aW_36, sI_36, aI_37, aW_37, sI_37, aI_38, aW_38, sI_38, aI_41, aW_41, sI_41, aI_42, aW_42, sI_42, aI_43, aW_43, sI_43, aL_19, sL_19, aL_20, sL_20, aL_27, sL_27, aL_39, sL_39, aL_40, sL_40, aL_44, sL_44, aB_30, aZ_30, sZ_30, aQ_10, aQ_11, sQ_10, e1, e2, i1, z1, hq, c_take1 hC1 hC3 hm, hc2, hr2, gc 603 (by omega) (by omega), c_pop hl, true_implies, false_implies, not_true_eq_false, not_false_eq_true, and_self, true_and, and_true, zqm5_m1, zqm5_0, zqm5_1, zqm5_2, zqm5_3, zqm5_4, zqm4_m1, zqm4_0, zqm4_1, zqm4_2, zqm4_3, zqm4_4, zqm3_m1, zqm3_0, zqm3_1, zqm3_2, zqm3_3, zqm3_4, zqm2_m1, zqm2_0, zqm2_1, zqm2_2, zqm2_3, zqm2_4, zqm1_m5, zqm1_m4, zqm1_m3, zqm1_m2, zqm1_0, zqm1_1, zqm1_2, zqm1_3, zqm1_4, zqm1_5, zqm1_6, zqm1_7, zqm1_8, zqm1_9, zq0_m5, zq0_m4, zq0_m3, zq0_m2, zq0_m1, zq0_1, zq0_2, zq0_3, zq0_4, zq0_5, zq0_6, zq0_7, zq0_8, zq0_9, zq1_m5, zq1_m4, zq1_m3, zq1_m2, zq1_m1, zq1_0, zq1_2, zq1_3, zq1_4, zq1_5, zq1_6, zq1_7, zq1_8, zq1_9, zq2_m5, zq2_m4, zq2_m3, zq2_m2, zq2_m1, zq2_0, zq2_1, zq2_3, zq2_4, zq2_5, zq2_6, zq2_7, zq2_8, zq2_9, zq3_m5, zq3_m4, zq3_m3, zq3_m2, zq3_m1, zq3_0, zq3_1, zq3_2, zq3_4, zq3_5, zq3_6, zq3_7, zq3_8, zq3_9, zq4_m5, zq4_m4, zq4_m3, zq4_m2, zq4_m1, zq4_0, zq4_1, zq4_2, zq4_3, zq4_5, zq4_6, zq4_7, zq4_8, zq4_9, zq5_m1, zq5_0, zq5_1, zq5_2, zq5_3, zq5_4, zq6_m1, zq6_0, zq6_1, zq6_2, zq6_3, zq6_4, zq7_m1, zq7_0, zq7_1, zq7_2, zq7_3, zq7_4, zq8_m1, zq8_0, zq8_1, zq8_2, zq8_3, zq8_4, zq9_m1, zq9_0, zq9_1, zq9_2, zq9_3, zq9_4]
  rw [e151]
  simp only [s151_0, s151_1, s151_2, s151_3, s151_4, s151_7, s151_10, s151_12, s151_13, s151_14, s151_15, s151_16, s151_17, s151_18, s151_21, s151_22, s151_25, s151_26, s151_27, s151_28, s151_29, s151_30, s151_33, s151_36, zb0, zb1, ob_some, tl_s, tl_n, nk_i, nk_r, nk_n, nk_0, pk_us, pk_un, va_up_self, va_up_ne, ne_eq, Nat.reduceEqDiff, not_false_eq_true, true_and, and_true, eq_self, z11, z00, bI_z, gf_0_0, gf_0_1, gf_0_2, gf_0_3, gf_0_4, gf_0_5, gf_0_6, rcv_0, rcO_0, gf_1_0, gf_1_1, sf_1_1, gf_1_2, gf_1_3, gf_1_4, gf_1_5, sf_1_5, gf_1_6, sf_1_6, gf_1_7, sf_1_7, gf_1_8, sf_1_8, gf_1_9, sf_1_9, gf_1_10, sf_1_10, gf_1_11, sf_1_11, rcv_1, rcO_1, gf_6_0, sf_6_0, gf_6_1, sf_6_1, gf_6_2, sf_6_2, gf_6_3, sf_6_3, gf_6_4, gf_6_5, rcv_6, rcO_6, gf_9_0, gf_9_1, sf_9_1, rcv_9, rcO_9, gf_12_0, sf_12_0, gf_12_1, sf_12_1, gf_12_2, gf_12_3, rcv_12, rcO_12, gf_15_0, sf_15_0, gf_15_1, sf_15_1, gf_15_2, gf_15_3, rcv_15, rcO_15, gf_18_0, sf_18_0, gf_18_1, sf_18_1, gf_18_2, gf_18_3, gf_18_4, gf_18_5, sf_18_5, gf_18_6, sf_18_6, gf_18_7, sf_18_7, gf_18_8, sf_18_8, rcv_18, rcO_18, gf_24_0, gf_24_1, gf_24_2, sf_24_2, rcv_24, rcO_24, gf_28_0, gf_28_1, gf_28_2, gf_28_3, sf_28_3, gf_28_4, gf_28_5, sf_28_5, gf_28_6, sf_28_6, gf_28_7, gf_28_8, gf_28_9, gf_28_10, gf_28_11, gf_28_12, gf_28_13, sf_28_13, gf_28_14, sf_28_14, gf_28_15, sf_28_15, gf_28_16, sf_28_16, gf_28_17, sf_28_17, gf_28_18, sf_28_18, gf_28_19, gf_28_20, gf_28_21, gf_28_22, gf_28_23, gf_28_24, sf_28_24, gf_28_25, rcv_28, rcO_28, aI_2, aW_2, sI_2, aI_3, aW_3, sI_3, aI_4, aW_4, sI_4, aI_5, aW_5, sI_5, aI_7, aW_7, sI_7, aI_8, aW_8, sI_8, aI_13, aW_13, sI_13, aI_14, aW_14, sI_14, aI_16, aW_16, sI_16, aI_17, aW_17, sI_17, aI_21, aW_21, sI_21, aI_22, aW_22, sI_22, aI_23, aW_23, sI_23, aI_25, aW_25, sI_25, aI_26, aW_26, sI_26, aI_29, aW_29, sI_29, aI_31, aW_31, sI_31, aI_32, aW_32, sI_32, aI_33, aW_33, sI_33, aI_34, aW_34, sI_34, aI_35, aW_35, sI_35, aI_36, aW_36, sI_36, aI_37, aW_37, sI_37, aI_38, aW_38, sI_38, aI_41, aW_41, sI_41, aI_42, aW_42, sI_42, aI_43, aW_43, sI_43, aL_19, sL_19, aL_20, sL_20, aL_27, sL_27, aL_39, sL_39, aL_40, sL_40, aL_44, sL_44, aB_30, aZ_30, sZ_30, aQ_10, aQ_11, sQ_10, c_in01_1, one_add1, c_copy0 (show 2 < 4 by omega) (show 0 ≠ 2 by omega), i1, z1, nar1, c_spent0 (c := c2) (show c2 2806 = nI H from (gc 2806 (by omega) (by omega)).trans hR2) hR4, spe, bits_low hl, true_implies, false_implies, not_true_eq_false, not_false_eq_true, and_self, true_and, and_true, zqm5_m1, zqm5_0, zqm5_1, zqm5_2, zqm5_3, zqm5_4, zqm4_m1, zqm4_0, zqm4_1, zqm4_2, zqm4_3, zqm4_4, zqm3_m1, zqm3_0, zqm3_1, zqm3_2, zqm3_3, zqm3_4, zqm2_m1, zqm2_0, zqm2_1, zqm2_2, zqm2_3, zqm2_4, zqm1_m5, zqm1_m4, zqm1_m3, zqm1_m2, zqm1_0, zqm1_1, zqm1_2, zqm1_3, zqm1_4, zqm1_5, zqm1_6, zqm1_7, zqm1_8, zqm1_9, zq0_m5, zq0_m4, zq0_m3, zq0_m2, zq0_m1, zq0_1, zq0_2, zq0_3, zq0_4, zq0_5, zq0_6, zq0_7, zq0_8, zq0_9, zq1_m5, zq1_m4, zq1_m3, zq1_m2, zq1_m1, zq1_0, zq1_2, zq1_3, zq1_4, zq1_5, zq1_6, zq1_7, zq1_8, zq1_9, zq2_m5, zq2_m4, zq2_m3, zq2_m2, zq2_m1, zq2_0, zq2_1, zq2_3, zq2_4, zq2_5, zq2_6, zq2_7, zq2_8, zq2_9, zq3_m5, zq3_m4, zq3_m3, zq3_m2, zq3_m1, zq3_0, zq3_1, zq3_2, zq3_4, zq3_5, zq3_6, zq3_7, zq3_8, zq3_9, zq4_m5, zq4_m4, zq4_m3, zq4_m2, zq4_m1, zq4_0, zq4_1, zq4_2, zq4_3, zq4_5, zq4_6, zq4_7, zq4_8, zq4_9, zq5_m1, zq5_0, zq5_1, zq5_2, zq5_3, zq5_4, zq6_m1, zq6_0, zq6_1, zq6_2, zq6_3, zq6_4, zq7_m1, zq7_0, zq7_1, zq7_2, zq7_3, zq7_4, zq8_m1, zq8_0, zq8_1, zq8_2, zq8_3, zq8_4, zq9_m1, zq9_0, zq9_1, zq9_2, zq9_3, zq9_4]
  refine ⟨⟨_, rfl⟩, ?_⟩
  obtain ⟨r3, hr3⟩ : ∃ r3, va_up (va_up r2 29 (fun q => if 25 * 2 ≤ q ∧ q < 25 * 2 + 25 then r2 29 (25 * 0 + (q - 25 * 2)) else r2 29 q)) 30 (upd (r2 30) 1 1) = r3 := ⟨_, rfl⟩
  rw [hr3]
  have g3 : ∀ k, k ≠ 29 → k ≠ 30 → r3 k = r2 k := fun k h1 h2 => by rw [← hr3]; exact (if_neg h2).trans (if_neg h1)
  have g4 : ∀ k, k ≠ 16 → k ≠ 17 → k ≠ 29 → k ≠ 30 → r3 k = r k := fun k h1 h2 h3 h4 => (g3 k h3 h4).trans (gr k h1 h2)
  have g29 : ∀ q, r3 29 q = if 50 ≤ q ∧ q < 50 + 25 then r 29 (q - 50) else r 29 q := by
    intro q
    rw [← hr3]
    show (if 25 * 2 ≤ q ∧ q < 25 * 2 + 25 then r2 29 (25 * 0 + (q - 25 * 2)) else r2 29 q) = _
    rw [r29]
    simp
  have g30 : r3 30 = upd (r 30) 1 1 := by rw [← hr3, r30]; exact if_pos rfl
  have hIu := hI.up hn
  refine Inv.is (H := H) (M := M) (L := L) (pp := pp) (ss := ss) (rc := rc) (ld := ld) (aa := aa) ⟨?_, ?_, ?_, ?_, ?_, hN, hIu.2.2.2.2.2.2⟩
  · exact hI.1.cg (gc _ (by omega) (by omega)) (gc _ (by omega) (by omega)) (g4 _ (by omega) (by omega) (by omega) (by omega)) (g4 _ (by omega) (by omega) (by omega) (by omega))
  · exact hI.2.1.cg (gc _ (by omega) (by omega)) (gc _ (by omega) (by omega)) (gc _ (by omega) (by omega)) (gc _ (by omega) (by omega)) (g4 _ (by omega) (by omega) (by omega) (by omega)) (g4 _ (by omega) (by omega) (by omega) (by omega)) (g4 _ (by omega) (by omega) (by omega) (by omega))
  · exact hS.cg (gc _ (by omega) (by omega)) (fun i _ => by rw [g4 8 (by omega) (by omega) (by omega) (by omega)]) (fun i hi => by rw [g29, if_neg (by omega)])
  · exact hI.2.2.2.1.cg (gc _ (by omega) (by omega)) (gc _ (by omega) (by omega)) (fun k hk => gc _ (by omega) (by omega)) (g4 _ (by omega) (by omega) (by omega) (by omega)) (g4 _ (by omega) (by omega) (by omega) (by omega)) (g4 _ (by omega) (by omega) (by omega) (by omega)) (g4 _ (by omega) (by omega) (by omega) (by omega)) (fun i hi => by rw [g29, if_neg (by omega)])
  · have kA : IvK1 (c2 1500) (c2 1501) (r3 30 1) (r3 16) (r3 17) (fun i => r3 29 (50 + i)) H M := by
      rw [g0, g1, g30]
      refine ⟨pk_us, Or.inr ⟨rfl, hS.cg rfl (fun i hi => ?_) (fun i hi => ?_), fun i hi => ⟨aa i, (hC5 i hi).2.2.2.2.2.1.2.2, ?_, ?_⟩⟩⟩
      · rw [g3 16 (by omega) (by omega)]; exact gt i hi
      · show r3 29 (50 + i) = r 29 i
        rw [g29, if_pos (by omega), Nat.add_sub_cancel_left]
      · rw [g3 17 (by omega) (by omega)]; exact gp i hi
      · show r3 29 (50 + (20 + i)) = nI (aa i)
        rw [g29, if_pos (by omega), Nat.add_sub_cancel_left]
        exact (hC5 i hi).2.2.2.2.2.1.2.1
    have kB : IvK1 (c2 1200) (c2 1201) (r3 30 0) (r3 13) (r3 14) (fun i => r3 29 (25 + i)) H M := by
      refine hK.1.cg hC3 (gc _ (by omega) (by omega)) (gc _ (by omega) (by omega)) (by rw [g30]; exact pk_un (by omega)) (g4 _ (by omega) (by omega) (by omega) (by omega)) (g4 _ (by omega) (by omega) (by omega) (by omega)) (fun i hi => ?_)
      show r3 29 (25 + i) = r 29 (25 + i)
      rw [g29, if_neg (by omega)]
    exact ⟨kB, kA⟩
end KB
