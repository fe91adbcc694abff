/-! the reference's states against the class's -/
def RelA (st : Nat → Nat) (n : Nat) (md : Bool) (b : Nat) (f cn : Nat → Int64) (cs : Nat → Int32) : Prop := (∀ s, s < Wt st n → RelE md b (f s) (cn (JJ st n s)) (cs (JJ st n s))) ∧ ∀ m, m < 6 ^ n → (∀ s, s < Wt st n → JJ st n s ≠ m) → cs m = FAR ∧ cn m = 0
def stp1 (st : Nat → Nat) (n s : Nat) (md fr : Bool) (x : Int64) (who : Nat) (g : Nat → Int64) : Nat → Int64 := if vB st n s who then vp_updL g (sW st (dd st s who) n) (vvC md fr (g (sW st (dd st s who) n)) x) else g
def stpL (st : Nat → Nat) (n s : Nat) (md fr : Bool) (x : Int64) : Nat → Nat → (Nat → Int64) → (Nat → Int64)
  | 0, _, g => g
  | j + 1, i, g => stpL st n s md fr x j (i + 1) (stp1 st n s md fr x i g)
theorem updL_id {g : Nat → Int64} {T : Nat} : vp_updL g T (g T) = g := by
  funext q
  show (if q = T then g T else g q) = g q
  split
  · next h => rw [h]
  · rfl
section PA
variable {st : Nat → Nat} {n s who b k0 : Nat} {md fr : Bool} {x : Int64} {f g nc cn : Nat → Int64} {nk cs : Nat → Int32}
theorem JJ_inj (h : okS st n) {a b : Nat} (ha : a < Wt st n) (hb : b < Wt st n) (e : JJ st n a = JJ st n b) : a = b := by
  rcases Nat.lt_trichotomy a b with q | q | q
  · have := JJ_mono h q hb; omega
  · exact q
  · have := JJ_mono h q ha; omega
theorem stp1_id (hv : ∀ y, vvC md fr y x = y) : stp1 st n s md fr x who g = g := by
  unfold stp1
  rw [hv, updL_id]
  split <;> rfl
theorem stpL_id (hv : ∀ y, vvC md fr y x = y) : ∀ j i g, stpL st n s md fr x j i g = g
  | 0, _, _ => rfl
  | j + 1, i, g => by
    show stpL st n s md fr x j (i + 1) (stp1 st n s md fr x i g) = g
    rw [stp1_id hv]
    exact stpL_id hv j (i + 1) g
theorem gvL_st (hf : (fr || md) = true) (hx : ¬ x = 0) : ∀ j i g, gvL st n s md (if fr then x else x + 1) j i g = stpL st n s md fr x j i g
  | 0, _, _ => rfl
  | j + 1, i, g => by
    show gvL st n s md (if fr then x else x + 1) j (i + 1) (if vB st n s i then gv1 st n s i md (if fr then x else x + 1) g else g) = stpL st n s md fr x j (i + 1) (stp1 st n s md fr x i g)
    rw [gvL_st hf hx j (i + 1)]
    congr 1
    unfold stp1 gv1 vvC
    rw [if_neg hx, hf, if_pos rfl]
theorem step_eq : (if x = 0 then g else gvA st n s md fr x g) = stpL st n s md fr x n 0 (stp1 st n s md true x 99 g) := by
  by_cases hx : x = 0
  · rw [if_pos hx]
    have hv : ∀ fr y, vvC md fr y x = y := fun fr y => if_pos hx
    rw [stp1_id (hv true), stpL_id (hv fr)]
  · rw [if_neg hx]
    have h9 : (if vB st n s 99 then gv1 st n s 99 md x g else g) = stp1 st n s md true x 99 g := by
      unfold stp1 gv1 vvC
      rw [if_neg hx, Bool.true_or, if_pos rfl, if_pos rfl]
    unfold gvA
    rw [h9]
    cases hf : (fr || md) with
    | true => rw [if_pos rfl, gvL_st hf hx]
    | false =>
      rw [if_neg (by decide), stpL_id]
      intro y
      unfold vvC
      rw [if_neg hx, hf]
      rfl
theorem RelA.put {c0 : Int64} {x0 : Int64} (h : okS st n) (hb : b ≤ 20) (hg : RelA st n md (b + 1) g nc nk) (hx : RelE md b x0 c0 (nI k0)) (hk : k0 ≤ b) (hv : vB st n s who = true) : RelA st n md (b + 1) (stp1 st n s md fr x0 who g) (vp_updL nc (h6 (dd st s who) 0 n) (nc (h6 (dd st s who) 0 n) + (if fr then c0 else 0))) (upd nk (h6 (dd st s who) 0 n) (if nk (h6 (dd st s who) 0 n) ≤ nI k0 + (if fr then 0 else 1) then nk (h6 (dd st s who) 0 n) else nI k0 + (if fr then 0 else 1))) := by
  have hT := vB_lt hv
  rw [← JJ_sW (st := st) (of_decide_eq_true hv)]
  unfold stp1
  rw [if_pos hv]
  refine ⟨fun s2 hs2 => ?_, fun m hm hn => ?_⟩
  · by_cases e : s2 = sW st (dd st s who) n
    · subst e
      show RelE md (b + 1) (if _ = _ then _ else _) (if _ = _ then _ else _) (if _ = _ then _ else _)
      rw [if_pos rfl, if_pos rfl, if_pos rfl]
      exact E_put hb (hg.1 _ hT) hx hk rfl
    · have e2 : ¬ JJ st n s2 = JJ st n (sW st (dd st s who) n) := fun q => e (JJ_inj h hs2 hT q)
      show RelE md (b + 1) (if _ = _ then _ else _) (if _ = _ then _ else _) (if _ = _ then _ else _)
      rw [if_neg e, if_neg e2, if_neg e2]
      exact hg.1 s2 hs2
  · have e2 : ¬ m = JJ st n (sW st (dd st s who) n) := fun q => hn _ hT q.symm
    show (if _ = _ then _ else _) = _ ∧ (if _ = _ then _ else _) = _
    rw [if_neg e2, if_neg e2]
    exact hg.2 m hm hn
theorem RelA.no (hg : RelA st n md b g nc nk) (hv : vB st n s who = false) : RelA st n md b (stp1 st n s md fr x who g) nc nk := by
  unfold stp1
  rw [hv]
  exact hg
theorem RelA.cg {nc2 : Nat → Int64} {nk2 : Nat → Int32} (h : okS st n) (hg : RelA st n md b g nc nk) (h1 : ∀ m, m < 6 ^ n → nc2 m = nc m ∧ nk2 m = nk m) : RelA st n md b g nc2 nk2 := by
  refine ⟨fun s2 hs2 => ?_, fun m hm hn => ?_⟩
  · obtain ⟨e1, e2⟩ := h1 _ (JJ_lt h (s := s2))
    rw [e1, e2]
    exact hg.1 s2 hs2
  · obtain ⟨e1, e2⟩ := h1 m hm
    rw [e1, e2]
    exact hg.2 m hm hn
theorem JJ_0 (h : okS st n) : JJ st n 0 = 0 := by
  have : ∀ f i, i + f = n → h6 (dg st 0) i f = 0 := by
    intro f
    induction f with
    | zero => intro i _; rfl
    | succ f ih =>
      intro i hi
      show dg st 0 i + 6 * h6 (dg st 0) (i + 1) f = 0
      rw [ih (i + 1) (by omega)]
      unfold dg
      rw [dg_z h i (by omega), Nat.zero_mod]
  exact this n 0 (by omega)
theorem RelA_0 (h : okS st n) (hg : ∀ m, m < 6 ^ n → nc m = (if m = 0 then 1 else 0) ∧ nk m = (if m = 0 then 0 else FAR)) {fr : Nat → Bool} : RelA st n md 0 (Fw st n md fr 0) nc nk := by
  have h0 := JJ_0 h
  have hw := Wt_pos h n (Nat.le_refl n)
  refine ⟨fun s hs => ?_, fun m hm hn => ?_⟩
  · obtain ⟨e1, e2⟩ := hg _ (JJ_lt h (s := s))
    rw [e1, e2]
    show RelE md 0 (if s = 0 then 1 else 0) _ _
    by_cases hs0 : s = 0
    · subst hs0
      rw [h0, if_pos rfl, if_pos rfl]
      unfold RelE
      cases md with
      | true => exact Or.inr ⟨0, Nat.le_refl 0, by decide, rfl⟩
      | false => exact ⟨rfl, Or.inr ⟨0, Nat.le_refl 0, rfl⟩⟩
    · have : JJ st n 0 < JJ st n s := JJ_mono h (by omega) hs
      rw [if_neg hs0, if_neg (by omega), if_neg (by omega)]
      unfold RelE
      cases md with
      | true => exact Or.inl ⟨rfl, rfl⟩
      | false => exact ⟨rfl, Or.inl ⟨rfl, rfl⟩⟩
  · obtain ⟨e1, e2⟩ := hg m hm
    have : ¬ m = 0 := fun q => hn 0 hw (by rw [q]; exact h0)
    rw [e1, e2, if_neg this, if_neg this]
    exact ⟨rfl, rfl⟩
theorem RelA_z (h : okS st n) (hg : ∀ m, m < 6 ^ n → nc m = 0 ∧ nk m = FAR) : RelA st n md b (fun _ => 0) nc nk := by
  refine ⟨fun s hs => ?_, fun m hm _ => ⟨(hg m hm).2, (hg m hm).1⟩⟩
  obtain ⟨e1, e2⟩ := hg _ (JJ_lt h (s := s))
  rw [e1, e2]
  unfold RelE
  cases md with
  | true => exact Or.inl ⟨rfl, rfl⟩
  | false => exact ⟨rfl, Or.inl ⟨rfl, rfl⟩⟩
theorem RelE_c {x0 c0 : Int64} {y : Int32} (h : RelE md b x0 c0 y) : (y = FAR ∧ x0 = 0) ∨ ∃ k, k ≤ b ∧ y = nI k := by
  unfold RelE at h
  cases md with
  | true =>
    rcases h with ⟨h1, h2⟩ | ⟨k, h1, _, h2⟩
    · exact Or.inl ⟨h2, h1⟩
    · exact Or.inr ⟨k, h1, h2⟩
  | false => exact h.2
end PA
