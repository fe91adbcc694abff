/-! what holds between the calls: the class's cells and the reference's -/
/-- rungs that are trodden: a set, by whom, against the reference's row -/
def SpR (x : Int32) (tr rw : Nat → Int32) (H : Nat) : Prop := (∀ i, H ≤ i → bt x i = false) ∧ ∀ i, i < 20 → rw i = (if bt x i then tr i else -1) ∧ (bt x i = true → ∃ k, k < 5 ∧ tr i = nI k)
def IvT (c : Nat → Int32) (r : Nat → Nat → Int32) (L : Nat) : Prop := c 101 = nI L ∧ c 2803 = nI L ∧ L ≤ 200 ∧ ∀ i, i < L → r 2 i = r 31 i ∧ ∃ b, b < 256 ∧ r 31 i = nI b
def IvR (c : Nat → Int32) (r : Nat → Nat → Int32) (H : Nat) : Prop := c 600 = nI H ∧ c 2806 = nI H ∧ 1 ≤ H ∧ H ≤ 20 ∧ (∀ i, H ≤ i → bt (c 601) i = false ∧ bt (c 602) i = false) ∧ ∀ i, i < 20 → (r 33 (i + 1) = if bt (c 602) i then 2 else if bt (c 601) i then 1 else 0) ∧ (bt (c 601) i = true → bt (c 602) i = false ∧ r 7 i = r 34 (i + 1) ∧ ∃ t, t ≤ 10 ∧ r 34 (i + 1) = nI t)
def IvC1 (c : Nat → Int32) (r : Nat → Nat → Int32) (mb : Nat → Option Nat) (sh : List Nat) (H : Nat) (p s rc ld a i : Nat) : Prop :=
  mb i = some p ∧ isC sh p s ∧ r 35 i = kdN s ∧ (c (100 * p) = nI rc ∧ r 36 i = nI rc ∧ 1 ≤ rc ∧ rc ≤ 6) ∧ (c (100 * p + 1) = nI ld ∧ r 37 i = nI ld ∧ ld ≤ 5) ∧ (c (100 * p + 2) = nI a ∧ r 29 (20 + i) = nI a ∧ a ≤ H + 1) ∧ (s = 9 → c (100 * p + 3) = r 38 i)
def IvC (c : Nat → Int32) (r : Nat → Nat → Int32) (mb : Nat → Option Nat) (sh : List Nat) (H M : Nat) (pp ss rc ld aa : Nat → Nat) : Prop := c 901 = nI M ∧ c 2813 = nI M ∧ M ≤ 5 ∧ (∀ i j, i < M → j < M → pp i = pp j → i = j) ∧ ∀ i, i < M → IvC1 c r mb sh H (pp i) (ss i) (rc i) (ld i) (aa i) i
def IvK1 (x y : Int32) (z : Int32) (tr pl rw : Nat → Int32) (H M : Nat) : Prop := z = x ∧ (x = 0 ∨ (x = 1 ∧ SpR y tr rw H ∧ ∀ i, i < M → ∃ b, b ≤ H + 1 ∧ pl i = nI b ∧ rw (20 + i) = nI b))
def IvK (c : Nat → Int32) (r : Nat → Nat → Int32) (H M : Nat) : Prop := IvK1 (c 1200) (c 1201) (r 30 0) (r 13) (r 14) (fun i => r 29 (25 + i)) H M ∧ IvK1 (c 1500) (c 1501) (r 30 1) (r 16) (r 17) (fun i => r 29 (50 + i)) H M
def IvN (n1 n2 : Nat) (sh : List Nat) : Prop := (((n1 = 19 ∧ n2 = 20) ∨ (n1 = 20 ∧ n2 = 19)) ∧ sh.count 1 = 0) ∨ (45 ≤ n1 ∧ 45 ≤ n2 ∧ n1 ≠ n2 ∧ sh[n1 - 45]? = some 1 ∧ sh[n2 - 45]? = some 1 ∧ sh.count 1 ≤ 2)
def Inv (n : Nat) (c : Nat → Int32) (r : Nat → Nat → Int32) (mb : Nat → Option Nat) (n1 n2 : Nat) (sh : List Nat) (H M L : Nat) (pp ss rc ld aa : Nat → Nat) : Prop :=
  IvT c r L ∧ IvR c r H ∧ SpR (c 603) (r 8) (r 29) H ∧ IvC c r mb sh H M pp ss rc ld aa ∧ IvK c r H M ∧ IvN n1 n2 sh ∧ sh.length ≤ 12 * n + 2 ∧ n ≤ 512
def IS (n : Nat) (h : AH) : Prop := ∃ c r w mb n1 n2 sh H M L pp ss rc ld aa, h = G c r w mb n1 n2 sh ∧ Inv n c r mb n1 n2 sh H M L pp ss rc ld aa
/-- a call of the class and of the reference -/
def Op (X : XS) (m1 m2 : Nat) (as : List Value) : Prop := ∀ h n, n < 512 → IS n h → Cl X 59 m1 (.ref 0 :: as) h (fun v h1 => rcv h1 28 = some 11 ∧ Cl X 59 m2 (.ref 28 :: as) h1 (fun v2 h2 => v2 = v ∧ (∃ x, v = some (.int x)) ∧ IS (n + 1) h2))
def OpL (X : XS) (m1 m2 : Nat) (as : List Value) : Prop := ∀ h n, n < 512 → IS n h → Cl X 59 m1 (.ref 0 :: as) h (fun v h1 => rcv h1 28 = some 11 ∧ Cl X 59 m2 (.ref 28 :: as) h1 (fun v2 h2 => v2 = v ∧ (∃ x, v = some (.long x)) ∧ IS (n + 1) h2))
/-- cells that a question leaves as they are -/
def cC (k : Nat) : Bool := !(decide (105 ≤ k) && decide (k ≤ 111)) && !(decide (1805 ≤ k) && decide (k ≤ 1808)) && !decide (k = 2402) && !decide (k = 2805) && !(decide (2814 ≤ k) && decide (k ≤ 2818)) && !decide (k = 2824)
def Sm (c : Nat → Int32) (r : Nat → Nat → Int32) (c2 : Nat → Int32) (r2 : Nat → Nat → Int32) : Prop := (∀ k, cC k = true → c2 k = c k) ∧ (∀ k, k ∈ [2, 31, 7, 33, 34, 8, 35, 36, 37, 38, 30, 13, 14, 16, 17] → r2 k = r k) ∧ ∀ i, i < 75 → r2 29 i = r 29 i
theorem cC_hi {k : Nat} (h : 4500 ≤ k) : cC k = true := by
  unfold cC
  simp only [Bool.and_eq_true, Bool.not_eq_true', Bool.and_eq_false_iff, decide_eq_false_iff_not, decide_eq_true_eq]
  omega
theorem Sm.rf {c : Nat → Int32} {r : Nat → Nat → Int32} : Sm c r c r := ⟨fun _ _ => rfl, fun _ _ => rfl, fun _ _ => rfl⟩
theorem Sm.tr {c : Nat → Int32} {r : Nat → Nat → Int32} {c2 : Nat → Int32} {r2 : Nat → Nat → Int32} {c3 : Nat → Int32} {r3 : Nat → Nat → Int32} (h : Sm c r c2 r2) (g : Sm c2 r2 c3 r3) : Sm c r c3 r3 := ⟨fun k hk => (g.1 k hk).trans (h.1 k hk), fun k hk => (g.2.1 k hk).trans (h.2.1 k hk), fun i hi => (g.2.2 i hi).trans (h.2.2 i hi)⟩
theorem Sm.c {c : Nat → Int32} {r : Nat → Nat → Int32} {k : Nat} {x : Int32} (hk : cC k = false) : Sm c r (upd c k x) r := by
  refine ⟨fun j hj => ?_, fun _ _ => rfl, fun _ _ => rfl⟩
  have : j ≠ k := fun e => by rw [e, hk] at hj; cases hj
  exact if_neg this
theorem Sm.r {c : Nat → Int32} {r : Nat → Nat → Int32} {k : Nat} {f : Nat → Int32} (hk : decide (k ∈ [2, 31, 7, 33, 34, 8, 35, 36, 37, 38, 30, 13, 14, 16, 17, 29]) = false) : Sm c r c (va_up r k f) := by
  have hk2 := of_decide_eq_false hk
  simp only [List.mem_cons, List.not_mem_nil, or_false, not_or] at hk2
  refine ⟨fun _ _ => rfl, fun j hj => ?_, fun i _ => ?_⟩
  · have : j ≠ k := fun e => by
      subst e
      simp only [List.mem_cons, List.not_mem_nil, or_false] at hj
      omega
    exact if_neg this
  · have : 29 ≠ k := by omega
    show va_up r k f 29 i = _
    unfold va_up
    rw [if_neg this]
section IV
variable {n : Nat} {c c2 : Nat → Int32} {r r2 : Nat → Nat → Int32} {mb : Nat → Option Nat} {n1 n2 m1 m2 : Nat} {sh sh2 : List Nat} {H M L : Nat} {pp ss rc ld aa : Nat → Nat}
theorem SpR.cg {x y : Int32} {tr tr2 rw rw2 : Nat → Int32} (h : SpR x tr rw H) (hx : y = x) (ht : ∀ i, i < 20 → tr2 i = tr i) (hr : ∀ i, i < 20 → rw2 i = rw i) : SpR y tr2 rw2 H := by
  subst hx
  refine ⟨h.1, fun i hi => ?_⟩
  rw [ht i hi, hr i hi]
  exact h.2 i hi
theorem IvC1.cg {p s a b e i : Nat} {mb2 : Nat → Option Nat} (h : IvC1 c r mb sh H p s a b e i) (hc : ∀ k, k < 4 → c2 (100 * p + k) = c (100 * p + k)) (hm : mb2 i = mb i) (h35 : r2 35 i = r 35 i) (h36 : r2 36 i = r 36 i) (h37 : r2 37 i = r 37 i) (h38 : r2 38 i = r 38 i) (h29 : r2 29 (20 + i) = r 29 (20 + i)) (hs : isC sh p s → isC sh2 p s) : IvC1 c2 r2 mb2 sh2 H p s a b e i := by
  obtain ⟨g1, g2, g3, g4, g5, g6, g7⟩ := h
  have e0 := hc 0 (by omega)
  rw [Nat.add_zero] at e0
  refine ⟨by rw [hm, g1], hs g2, by rw [h35, g3], ?_, ?_, ?_, ?_⟩
  · rw [e0, h36]; exact g4
  · rw [hc 1 (by omega), h37]; exact g5
  · rw [hc 2 (by omega), h29]; exact g6
  · rw [hc 3 (by omega), h38]; exact g7
theorem Inv.sm (h : Inv n c r mb n1 n2 sh H M L pp ss rc ld aa) (g : Sm c r c2 r2) : Inv n c2 r2 mb n1 n2 sh H M L pp ss rc ld aa := by
  obtain ⟨hT, hR, hS, hC, hK, hN, hn⟩ := h
  obtain ⟨g1, g2, g3⟩ := g
  refine ⟨?_, ?_, ?_, ?_, ?_, hN, hn⟩
  · unfold IvT at hT ⊢
    rw [g1 101 rfl, g1 2803 rfl, g2 2 (by decide), g2 31 (by decide)]
    exact hT
  · unfold IvR at hR ⊢
    rw [g1 600 rfl, g1 2806 rfl, g1 601 rfl, g1 602 rfl, g2 33 (by decide), g2 7 (by decide), g2 34 (by decide)]
    exact hR
  · exact hS.cg (g1 603 rfl) (fun i _ => by rw [g2 8 (by decide)]) (fun i hi => g3 i (by omega))
  · obtain ⟨a1, a2, a3, a4, a5⟩ := hC
    refine ⟨by rw [g1 901 rfl, a1], by rw [g1 2813 rfl, a2], a3, a4, fun i hi => ?_⟩
    have a6 := a5 i hi
    have h45 := a6.2.1.1
    exact a6.cg (fun k hk => g1 _ (cC_hi (by omega))) rfl (by rw [g2 35 (by decide)]) (by rw [g2 36 (by decide)]) (by rw [g2 37 (by decide)]) (by rw [g2 38 (by decide)]) (g3 _ (by omega)) id
  · have hM := hC.2.2.1
    have kk : ∀ {x y z x2 y2 z2 : Int32} {tr pl rw tr2 pl2 rw2 : Nat → Int32}, IvK1 x y z tr pl rw H M → x2 = x → y2 = y → z2 = z → tr2 = tr → pl2 = pl → (∀ i, i < 25 → rw2 i = rw i) → IvK1 x2 y2 z2 tr2 pl2 rw2 H M := by
      intro x y z x2 y2 z2 tr pl rw tr2 pl2 rw2 h e1 e2 e3 e4 e5 e6
      subst e1 e2 e3 e4 e5
      refine ⟨h.1, h.2.imp id (fun q => ⟨q.1, q.2.1.cg rfl (fun _ _ => rfl) (fun i hi => e6 i (by omega)), fun i hi => ?_⟩)⟩
      rw [e6 (20 + i) (by omega)]
      exact q.2.2 i hi
    refine ⟨kk hK.1 (g1 _ rfl) (g1 _ rfl) (by rw [g2 30 (by decide)]) (g2 13 (by decide)) (g2 14 (by decide)) (fun i hi => g3 _ (by omega)), kk hK.2 (g1 _ rfl) (g1 _ rfl) (by rw [g2 30 (by decide)]) (g2 16 (by decide)) (g2 17 (by decide)) (fun i hi => g3 _ (by omega))⟩
theorem Inv.up (h : Inv n c r mb n1 n2 sh H M L pp ss rc ld aa) (hn : n < 512) : Inv (n + 1) c r mb n1 n2 sh H M L pp ss rc ld aa := by
  obtain ⟨hT, hR, hS, hC, hK, hN, h1, h2⟩ := h
  exact ⟨hT, hR, hS, hC, hK, hN, by omega, by omega⟩
theorem Inv.is {w : Nat → Nat → Int64} (h : Inv n c r mb n1 n2 sh H M L pp ss rc ld aa) : IS n (G c r w mb n1 n2 sh) := ⟨c, r, w, mb, n1, n2, sh, H, M, L, pp, ss, rc, ld, aa, rfl, h⟩
/-! strides -/
def sd (a b : Nat) : Nat := max 1 (a - b)
theorem sd_b {a b : Nat} (h1 : 1 ≤ a) (h : a ≤ 6) : 1 ≤ sd a b ∧ sd a b ≤ 6 := by unfold sd; omega
theorem stN_eq {p a b : Nat} (h1 : c (100 * p) = nI a) (h2 : c (100 * p + 1) = nI b) (ha : a ≤ 6) (hb : b ≤ 5) : stN c p = nI (sd a b) := by
  unfold stN sd
  rw [h1, h2]
  have := (by decide +kernel : ∀ a, a < 7 → ∀ b, b < 6 → (if 1 < nI a - nI b then nI a - nI b else 1) = nI (max 1 (a - b))) a (by omega) b (by omega)
  exact this
theorem rsN_eq {k a b : Nat} (h1 : r 36 k = nI a) (h2 : r 37 k = nI b) (ha : a ≤ 6) (hb : b ≤ 5) : rsN r k = nI (sd a b) := by
  unfold rsN sd
  rw [h1, h2]
  have := (by decide +kernel : ∀ a, a < 7 → ∀ b, b < 6 → (if 1 ≤ nI a - nI b then nI a - nI b else 1) = nI (max 1 (a - b))) a (by omega) b (by omega)
  exact this
theorem Inv.st (h : Inv n c r mb n1 n2 sh H M L pp ss rc ld aa) {i : Nat} (hi : i < M) : stN c (pp i) = nI (sd (rc i) (ld i)) ∧ rsN r i = nI (sd (rc i) (ld i)) ∧ 1 ≤ sd (rc i) (ld i) ∧ sd (rc i) (ld i) ≤ 6 := by
  obtain ⟨g1, g2, g3, g4, g5, g6, g7⟩ := h.2.2.2.1.2.2.2.2 i hi
  exact ⟨stN_eq g4.1 g5.1 g4.2.2.2 g5.2.2, rsN_eq g4.2.1 g5.2.1 g4.2.2.2 g5.2.2, sd_b g4.2.2.1 g4.2.2.2⟩
/-! free rungs -/
theorem bt_frN (hc : c 600 = nI H) (hH : H ≤ 20) {i : Nat} (hi : i < 32) : bt (frN c) i = (decide (i < H) && !bt (c 602) i && !bt (c 603) i) := by
  unfold frN whN
  rw [hc, b_and, b_and, b_xor, b_xor, bt_mask H (by omega) i hi, b_m1 i hi]
  cases decide (i < H) <;> cases bt (c 602) i <;> cases bt (c 603) i <;> rfl
theorem bt_whN (hc : c 600 = nI H) (hH : H ≤ 20) {i : Nat} (hi : i < 32) : bt (whN c) i = (decide (i < H) && !bt (c 602) i) := by
  unfold whN
  rw [hc, b_and, b_xor, bt_mask H (by omega) i hi, b_m1 i hi]
  cases decide (i < H) <;> cases bt (c 602) i <;> rfl
theorem thF_eq (h : IvR c r H) {i : Nat} (hi : i < 20) : thF r i = !bt (c 602) i := by
  unfold thF
  rw [(h.2.2.2.2.2 i hi).1]
  cases bt (c 602) i <;> cases bt (c 601) i <;> decide
theorem spF_eq {x : Int32} {tr : Nat → Int32} {b : Nat} (h : SpR x tr (fun i => r 29 (b + i)) H) {i : Nat} (hi : i < 20) : spF r b i = bt x i := by
  unfold spF
  have := h.2 i hi
  dsimp only at this
  rw [this.1]
  cases hb : bt x i with
  | false => simp
  | true =>
    obtain ⟨k, hk, e⟩ := this.2 hb
    simp [e, nI_nm1 (show k < 2 ^ 31 by omega)]
theorem wh_eq (h : IvR c r H) : whN c = msk (thF r) H := by
  apply b_ext
  intro i hi
  have hH := h.2.2.2.1
  rw [bt_whN h.1 hH hi, bt_msk _ _ (by omega) _ hi]
  rcases Nat.lt_or_ge i H with h1 | h1
  · rw [thF_eq h (by omega)]
  · simp [Nat.not_lt.mpr h1]
theorem sp_eq {x : Int32} {tr : Nat → Int32} {b : Nat} (h : SpR x tr (fun i => r 29 (b + i)) H) (hH : H ≤ 20) : msk (spF r b) H = x := by
  apply b_ext
  intro i hi
  rw [bt_msk _ _ (by omega) _ hi]
  rcases Nat.lt_or_ge i H with h1 | h1
  · rw [spF_eq h (by omega)]; simp [h1]
  · rw [h.1 i h1]; simp [Nat.not_lt.mpr h1]
theorem fr_eq (h : IvR c r H) {b : Nat} (g : SpR (c 603) (r 8) (fun i => r 29 (b + i)) H) : rfN r H b = frN c := by
  unfold rfN
  rw [← wh_eq h, sp_eq g h.2.2.2.1]
  rfl
theorem Sp0 (g : SpR (c 603) (r 8) (r 29) H) : SpR (c 603) (r 8) (fun i => r 29 (0 + i)) H := by
  simp only [Nat.zero_add]
  exact g
theorem Inv.fr (h : Inv n c r mb n1 n2 sh H M L pp ss rc ld aa) : rfN r H 0 = frN c := fr_eq h.2.1 (Sp0 h.2.2.1)
theorem fr_low (hc : c 600 = nI H) (hH : H ≤ 20) : low20 (frN c) := by
  intro i hi
  rcases Nat.lt_or_ge i 32 with h1 | h1
  · rw [bt_frN hc hH h1]; simp [show ¬ i < H by omega]
  · exact b_big h1
theorem low_of {x : Int32} (h : ∀ i, H ≤ i → bt x i = false) (hH : H ≤ 20) : low20 x := fun i hi => h i (by omega)
end IV
/-! tests of numbers and sets -/
theorem i64_lt (x y : Int32) : (x.toInt64 < y.toInt64) = (x < y) := by
  rw [Int64.lt_iff_toInt_lt, Int32.lt_iff_toInt_lt, Int32.toInt_toInt64, Int32.toInt_toInt64]
theorem i64_lt0 (x : Int32) : (x.toInt64 < 0) = (x < 0) := i64_lt x 0
theorem i64_lt1 (x : Int32) : (x.toInt64 < 1) = (x < 1) := i64_lt x 1
theorem i64_lt4 (x : Int32) : (x.toInt64 < 4) = (x < 4) := i64_lt x 4
theorem i64_gt6 (x : Int32) : ((6 : Int64) < x.toInt64) = (6 < x) := i64_lt 6 x
theorem i64_gt7 (x : Int32) : ((7 : Int64) < x.toInt64) = (7 < x) := i64_lt 7 x
theorem i64_gt8 (x : Int32) : ((8 : Int64) < x.toInt64) = (8 < x) := i64_lt 8 x
theorem i64_gt1 (x : Int32) : ((1 : Int64) < x.toInt64) = (1 < x) := i64_lt 1 x
theorem i64_gt4 (x : Int32) : ((4 : Int64) < x.toInt64) = (4 < x) := i64_lt 4 x
theorem i64_gt9 (x : Int32) : ((9 : Int64) < x.toInt64) = (9 < x) := i64_lt 9 x
theorem i64_gt20 (x : Int32) : ((20 : Int64) < x.toInt64) = (20 < x) := i64_lt 20 x
/-- a number of a row of n, or none -/
theorem idx (x : Int32) (n : Nat) (hn : n < 2 ^ 31) : (∃ i, i < n ∧ x = nI i) ∨ (x < 0 ∨ nI n ≤ x) := by
  rcases pk_ix x hn with h | h | ⟨j, h1, h2⟩
  · exact Or.inr (Or.inl h)
  · exact Or.inr (Or.inr h)
  · exact Or.inl ⟨j, h1, h2⟩
theorem nM1 {M : Nat} (hM : M ≤ 30) (x : Int32) : (nI M - 1 < x) = (nI M ≤ x) := by
  have h : (nI M - 1).toInt = (M : Int) - 1 := by
    have := pk_sub_toInt (a := M) (b := 1) (by omega) (by omega)
    exact this
  rw [Int32.lt_iff_toInt_lt, Int32.le_iff_toInt_le, h, nI_toInt (by omega)]
  exact propext ⟨fun q => by omega, fun q => by omega⟩
theorem msk_nI : ∀ n, n < 21 → (1 <<< (nI n &&& 31)) - 1 = nI (2 ^ n - 1) := by decide +kernel
theorem shr_nI : ∀ n, n < 21 → ((nI n &&& 31).toBitVec.smod 32).toNat = n := fun n hn => s_l n (by omega)
/-- sets: as the class tests them, as the reference does -/
theorem set_ok (x : Int32) (n : Nat) (hn : n ≤ 20) : (x >>> (nI n &&& 31) = 0 ∧ ¬ x < 0 ∧ ¬ nI (2 ^ n - 1) < x ∧ ∃ j, j < 2 ^ n ∧ x = nI j) ∨ (¬ x >>> (nI n &&& 31) = 0 ∧ (x < 0 ∨ nI (2 ^ n - 1) < x)) := by
  have hp : 2 ^ n ≤ 2 ^ 20 := Nat.pow_le_pow_right (by omega) hn
  have hp1 : 0 < 2 ^ n := Nat.two_pow_pos n
  by_cases h0 : x < 0
  · refine Or.inr ⟨fun e => ?_, Or.inl h0⟩
    have h1 := b_sshr n (by omega) x (i := 31) (by omega)
    rw [e, b_0] at h1
    have h2 : bt x 31 = false := by
      by_cases hz : n + 31 < 32
      · rw [if_pos hz, show n + 31 = 31 by omega] at h1; exact h1.symm
      · rw [if_neg hz] at h1; exact h1.symm
    have h3 : 0 ≤ x.toInt := by
      have q : x.toBitVec.msb = decide (x.toBitVec.toInt < 0) := BitVec.msb_eq_toInt
      rw [BitVec.msb_eq_getLsbD_last, show x.toBitVec.getLsbD (32 - 1) = false from h2] at q
      exact Int.not_lt.mp (of_decide_eq_false q.symm)
    rw [Int32.lt_iff_toInt_lt] at h0
    have : (0 : Int32).toInt = 0 := rfl
    omega
  · obtain ⟨j, hj, rfl⟩ := nI_of h0
    have hs : nI j >>> (nI n &&& 31) = nI (j / 2 ^ n) := pk_shrN hj _ n (shr_nI n (by omega))
    rw [hs]
    have hjd : j / 2 ^ n ≤ j := Nat.div_le_self _ _
    rcases Nat.lt_or_ge j (2 ^ n) with h1 | h1
    · refine Or.inl ⟨?_, h0, nI_nlt (by omega) (by omega), j, h1, rfl⟩
      rw [Nat.div_eq_of_lt h1]
      rfl
    · have h2 : 0 < j / 2 ^ n := Nat.div_pos h1 hp1
      exact Or.inr ⟨nI_ne0 h2 (by omega), Or.inr (nI_lt (by omega) hj)⟩
