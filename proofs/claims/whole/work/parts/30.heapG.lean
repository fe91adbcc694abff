/-! the heap of the law: the class's objects, the reference's object, climbers and long rows that came later; places as the constructors make them -/
def imQ (j : Nat) : Option Nat := if j = 0 then some 12 else if j = 1 then some 15 else none
def dcl (c : Nat → Int32) (w : Nat → Nat → Int64) (p s : Nat) : va_E := if s = 1 then .inl (1, 7776, .inr (.inl (w p))) else if s = 9 then .inr (9, [.int (c (100 * p)), .int (c (100 * p + 1)), .int (c (100 * p + 2)), .int (c (100 * p + 3))]) else .inr (s, [.int (c (100 * p)), .int (c (100 * p + 1)), .int (c (100 * p + 2))])
def dyn (c : Nat → Int32) (w : Nat → Nat → Int64) (sh : List Nat) : AH := sh.mapIdx (fun j s => dcl c w (45 + j) s)
def Gf (c : Nat → Int32) (r : Nat → Nat → Int32) (w : Nat → Nat → Int64) (mb : Nat → Option Nat) (n1 n2 : Nat) : AH := [
  .inr (10, [.ref 1, .ref 6, .ref 9, .ref 11, .ref 18, .ref 24, .ref 27]),
  .inr (8, [.ref 2, .int (c 101), .ref 3, .ref 4, .ref 5, .int (c 105), .int (c 106), .int (c 107), .int (c 108), .int (c 109), .int (c 110), .int (c 111)]),
  .inl (0, 200, .inl (r 2)),
  .inl (0, 12, .inl (r 3)),
  .inl (0, 12, .inl (r 4)),
  .inl (0, 12, .inl (r 5)),
  .inr (7, [.int (c 600), .int (c 601), .int (c 602), .int (c 603), .ref 7, .ref 8]),
  .inl (0, 20, .inl (r 7)),
  .inl (0, 20, .inl (r 8)),
  .inr (0, [.ref 10, .int (c 901)]),
  .inl (3, 5, .inr (.inr (.inr (.inr mb)))),
  .inl (4, 2, .inr (.inr (.inr (.inr imQ)))),
  .inr (3, [.int (c 1200), .int (c 1201), .ref 13, .ref 14]),
  .inl (0, 20, .inl (r 13)),
  .inl (0, 5, .inl (r 14)),
  .inr (3, [.int (c 1500), .int (c 1501), .ref 16, .ref 17]),
  .inl (0, 20, .inl (r 16)),
  .inl (0, 5, .inl (r 17)),
  .inr (1, [.ref n1, .ref n2, .ref 21, .ref 22, .ref 23, .int (c 1805), .int (c 1806), .int (c 1807), .int (c 1808)]),
  .inl (1, 216, .inr (.inl (w 19))),
  .inl (1, 216, .inr (.inl (w 20))),
  .inl (0, 5, .inl (r 21)),
  .inl (0, 5, .inl (r 22)),
  .inl (0, 5, .inl (r 23)),
  .inr (6, [.ref 25, .ref 26, .int (c 2402)]),
  .inl (0, 5, .inl (r 25)),
  .inl (0, 5, .inl (r 26)),
  .inl (1, 6, .inr (.inl (w 27))),
  .inr (11, [.ref 29, .ref 30, .ref 31, .int (c 2803), .ref 32, .int (c 2805), .int (c 2806), .ref 33, .ref 34, .ref 35, .ref 36, .ref 37, .ref 38, .int (c 2813), .int (c 2814), .int (c 2815), .int (c 2816), .int (c 2817), .int (c 2818), .ref 39, .ref 40, .ref 41, .ref 42, .ref 43, .int (c 2824), .ref 44]),
  .inl (0, 100, .inl (r 29)),
  .inl (2, 2, .inl (r 30)),
  .inl (0, 200, .inl (r 31)),
  .inl (0, 36, .inl (r 32)),
  .inl (0, 21, .inl (r 33)),
  .inl (0, 21, .inl (r 34)),
  .inl (0, 5, .inl (r 35)),
  .inl (0, 5, .inl (r 36)),
  .inl (0, 5, .inl (r 37)),
  .inl (0, 5, .inl (r 38)),
  .inl (1, 7776, .inr (.inl (w 39))),
  .inl (1, 7776, .inr (.inl (w 40))),
  .inl (0, 7776, .inl (r 41)),
  .inl (0, 7776, .inl (r 42)),
  .inl (0, 5, .inl (r 43)),
  .inl (1, 7, .inr (.inl (w 44)))]
def G (c : Nat → Int32) (r : Nat → Nat → Int32) (w : Nat → Nat → Int64) (mb : Nat → Option Nat) (n1 n2 : Nat) (sh : List Nat) : AH := Gf c r w mb n1 n2 ++ dyn c w sh
section HG
variable {X : XS} {c : Nat → Int32} {r : Nat → Nat → Int32} {w : Nat → Nat → Int64} {mb : Nat → Option Nat} {n1 n2 : Nat} {sh : List Nat}
theorem G_len : G c r w mb n1 n2 sh = Gf c r w mb n1 n2 ++ dyn c w sh ∧ (Gf c r w mb n1 n2).length = 45 := ⟨rfl, rfl⟩
theorem G_length : (G c r w mb n1 n2 sh).length = 45 + sh.length := by
  unfold G dyn
  rw [List.length_append, List.length_mapIdx]
  rfl
theorem G_at {p : Nat} {e : va_E} (h : (Gf c r w mb n1 n2)[p]? = some e) : (G c r w mb n1 n2 sh)[p]? = some e := by
  unfold G
  rw [List.getElem?_append_left (List.getElem?_eq_some_iff.mp h).1]
  exact h
theorem G_dy {j s : Nat} (h : sh[j]? = some s) : (G c r w mb n1 n2 sh)[45 + j]? = some (dcl c w (45 + j) s) := by
  unfold G dyn
  rw [List.getElem?_append_right (by show 45 ≤ 45 + j; omega)]
  show (sh.mapIdx fun j s => dcl c w (45 + j) s)[45 + j - 45]? = _
  rw [Nat.add_sub_cancel_left, List.getElem?_mapIdx, h]
  rfl
theorem dcl_up {c2 : Nat → Int32} {w2 : Nat → Nat → Int64} {p s : Nat} (hw : w2 p = w p) (hc : ∀ k, k < 4 → c2 (100 * p + k) = c (100 * p + k)) : dcl c2 w2 p s = dcl c w p s := by
  unfold dcl
  have h0 := hc 0 (by decide)
  have h1 := hc 1 (by decide)
  have h2 := hc 2 (by decide)
  have h3 := hc 3 (by decide)
  rw [Nat.add_zero] at h0
  rw [hw, h0, h1, h2, h3]
theorem dyn_up {c2 : Nat → Int32} {w2 : Nat → Nat → Int64} (hw : ∀ p, 45 ≤ p → w2 p = w p) (hc : ∀ k, 4500 ≤ k → c2 k = c k) : dyn c2 w2 sh = dyn c w sh := by
  unfold dyn
  apply List.ext_getElem?
  intro i
  rw [List.getElem?_mapIdx, List.getElem?_mapIdx]
  cases sh[i]? with
  | none => rfl
  | some s => exact congrArg some (dcl_up (hw _ (by omega)) (fun k hk => hc _ (by omega)))
theorem upd_hi {k : Nat} {v : Int32} (hk : k < 4500) : ∀ j, 4500 ≤ j → upd c k v j = c j := by
  intro j hj
  unfold upd
  rw [if_neg (by omega)]
theorem vup_hi {α : Type} {f : Nat → α} {k : Nat} {v : α} (hk : k < 45) : ∀ j, 45 ≤ j → va_up f k v j = f j := by
  intro j hj
  unfold va_up
  rw [if_neg (by omega)]
theorem G_set {p : Nat} {e : va_E} {c2 : Nat → Int32} {r2 : Nat → Nat → Int32} {w2 : Nat → Nat → Int64} {mb2 : Nat → Option Nat} {m1 m2 : Nat} (hp : p < 45) (hf : (Gf c r w mb n1 n2).set p e = Gf c2 r2 w2 mb2 m1 m2) (hd : dyn c2 w2 sh = dyn c w sh) : (G c r w mb n1 n2 sh).set p e = G c2 r2 w2 mb2 m1 m2 sh := by
  unfold G
  rw [List.set_append_left _ _ (by show p < 45; exact hp), hf, hd]
theorem fld_at {ah : AH} {a ci k : Nat} {fs : List Value} {cis : List Nat} (h : ah[a]? = some (.inr (ci, fs))) (hc : (decide (ci ∈ cis)) = true) : fld ah a cis k = fs[k]? := by
  unfold fld
  rw [h]
  exact if_pos (of_decide_eq_true hc)
theorem setF_at {ah : AH} {a ci k : Nat} {fs : List Value} {v : Value} (h : ah[a]? = some (.inr (ci, fs))) : setF ah a k v = ah.set a (.inr (ci, fs.set k v)) := by
  unfold setF
  rw [h]
theorem arW_at {ah : AH} {a n : Nat} {f : Nat → Int32} (h : ah[a]? = some (.inl (0, n, .inl f))) : arW ah a = some (n, f) := by
  unfold arW
  rw [h]
  rfl
theorem arI_at {ah : AH} {a n : Nat} {f : Nat → Int32} (ha : (decide (a = SCR)) = false) (h : ah[a]? = some (.inl (0, n, .inl f))) : arI X ah a = some (n, f) := by
  unfold arI
  rw [if_neg (of_decide_eq_false ha), h]
  rfl
theorem arL_at {ah : AH} {a n : Nat} {f : Nat → Int64} (h : ah[a]? = some (.inl (1, n, .inr (.inl f)))) : arL ah a = some (n, f) := by
  unfold arL
  rw [h]
  rfl
theorem arQ_at {ah : AH} {a t n : Nat} {f : Nat → Option Nat} (h : ah[a]? = some (.inl (t, n, .inr (.inr (.inr (.inr f)))))) (ht : t = 3 ∨ t = 4) : arQ ah a = some (t, n, f) := by
  unfold arQ
  rw [h]
  exact if_pos ht
theorem rcO_at {ah : AH} {a ci : Nat} {fs : List Value} (h : ah[a]? = some (.inr (ci, fs))) : rcO ah a = some ci := by
  unfold rcO
  rw [h]
theorem rcv_at {ah : AH} {a ci : Nat} {fs : List Value} (ha : (decide (1000000 ≤ a ∧ a < 1000010)) = false) (h : ah[a]? = some (.inr (ci, fs))) : rcv ah a = some ci := by
  unfold rcv
  rw [if_neg (of_decide_eq_false ha)]
  exact rcO_at h
theorem G_app {e : va_E} {c2 : Nat → Int32} {w2 : Nat → Nat → Int64} {s : Nat} (hf : Gf c2 r w2 mb n1 n2 = Gf c r w mb n1 n2) (hd : dyn c2 w2 sh = dyn c w sh) (he : dcl c2 w2 (45 + sh.length) s = e) : G c r w mb n1 n2 sh ++ [e] = G c2 r w2 mb n1 n2 (sh ++ [s]) := by
  unfold G
  rw [hf, List.append_assoc]
  congr 1
  unfold dyn at hd ⊢
  rw [List.mapIdx_concat, he, hd]
theorem gf_0_0 : fld (G c r w mb n1 n2 sh) 0 [10] 0 = some (.ref 1) := (fld_at (G_at rfl) rfl).trans rfl
theorem gf_0_1 : fld (G c r w mb n1 n2 sh) 0 [10] 1 = some (.ref 6) := (fld_at (G_at rfl) rfl).trans rfl
theorem gf_0_2 : fld (G c r w mb n1 n2 sh) 0 [10] 2 = some (.ref 9) := (fld_at (G_at rfl) rfl).trans rfl
theorem gf_0_3 : fld (G c r w mb n1 n2 sh) 0 [10] 3 = some (.ref 11) := (fld_at (G_at rfl) rfl).trans rfl
theorem gf_0_4 : fld (G c r w mb n1 n2 sh) 0 [10] 4 = some (.ref 18) := (fld_at (G_at rfl) rfl).trans rfl
theorem gf_0_5 : fld (G c r w mb n1 n2 sh) 0 [10] 5 = some (.ref 24) := (fld_at (G_at rfl) rfl).trans rfl
theorem gf_0_6 : fld (G c r w mb n1 n2 sh) 0 [10] 6 = some (.ref 27) := (fld_at (G_at rfl) rfl).trans rfl
theorem rcv_0 : rcv (G c r w mb n1 n2 sh) 0 = some 10 := rcv_at rfl (G_at rfl)
theorem rcO_0 : rcO (G c r w mb n1 n2 sh) 0 = some 10 := rcO_at (G_at rfl)
theorem gf_1_0 : fld (G c r w mb n1 n2 sh) 1 [8] 0 = some (.ref 2) := (fld_at (G_at rfl) rfl).trans rfl
theorem gf_1_1 : fld (G c r w mb n1 n2 sh) 1 [8] 1 = some (.int (c 101)) := (fld_at (G_at rfl) rfl).trans rfl
theorem sf_1_1 {v : Int32} : setF (G c r w mb n1 n2 sh) 1 1 (.int v) = G (upd c 101 v) r w mb n1 n2 sh := (setF_at (G_at rfl)).trans (G_set (by decide) rfl (dyn_up (fun _ _ => rfl) (upd_hi (by decide))))
theorem gf_1_2 : fld (G c r w mb n1 n2 sh) 1 [8] 2 = some (.ref 3) := (fld_at (G_at rfl) rfl).trans rfl
theorem gf_1_3 : fld (G c r w mb n1 n2 sh) 1 [8] 3 = some (.ref 4) := (fld_at (G_at rfl) rfl).trans rfl
theorem gf_1_4 : fld (G c r w mb n1 n2 sh) 1 [8] 4 = some (.ref 5) := (fld_at (G_at rfl) rfl).trans rfl
theorem gf_1_5 : fld (G c r w mb n1 n2 sh) 1 [8] 5 = some (.int (c 105)) := (fld_at (G_at rfl) rfl).trans rfl
theorem sf_1_5 {v : Int32} : setF (G c r w mb n1 n2 sh) 1 5 (.int v) = G (upd c 105 v) r w mb n1 n2 sh := (setF_at (G_at rfl)).trans (G_set (by decide) rfl (dyn_up (fun _ _ => rfl) (upd_hi (by decide))))
theorem gf_1_6 : fld (G c r w mb n1 n2 sh) 1 [8] 6 = some (.int (c 106)) := (fld_at (G_at rfl) rfl).trans rfl
theorem sf_1_6 {v : Int32} : setF (G c r w mb n1 n2 sh) 1 6 (.int v) = G (upd c 106 v) r w mb n1 n2 sh := (setF_at (G_at rfl)).trans (G_set (by decide) rfl (dyn_up (fun _ _ => rfl) (upd_hi (by decide))))
theorem gf_1_7 : fld (G c r w mb n1 n2 sh) 1 [8] 7 = some (.int (c 107)) := (fld_at (G_at rfl) rfl).trans rfl
theorem sf_1_7 {v : Int32} : setF (G c r w mb n1 n2 sh) 1 7 (.int v) = G (upd c 107 v) r w mb n1 n2 sh := (setF_at (G_at rfl)).trans (G_set (by decide) rfl (dyn_up (fun _ _ => rfl) (upd_hi (by decide))))
theorem gf_1_8 : fld (G c r w mb n1 n2 sh) 1 [8] 8 = some (.int (c 108)) := (fld_at (G_at rfl) rfl).trans rfl
theorem sf_1_8 {v : Int32} : setF (G c r w mb n1 n2 sh) 1 8 (.int v) = G (upd c 108 v) r w mb n1 n2 sh := (setF_at (G_at rfl)).trans (G_set (by decide) rfl (dyn_up (fun _ _ => rfl) (upd_hi (by decide))))
theorem gf_1_9 : fld (G c r w mb n1 n2 sh) 1 [8] 9 = some (.int (c 109)) := (fld_at (G_at rfl) rfl).trans rfl
theorem sf_1_9 {v : Int32} : setF (G c r w mb n1 n2 sh) 1 9 (.int v) = G (upd c 109 v) r w mb n1 n2 sh := (setF_at (G_at rfl)).trans (G_set (by decide) rfl (dyn_up (fun _ _ => rfl) (upd_hi (by decide))))
theorem gf_1_10 : fld (G c r w mb n1 n2 sh) 1 [8] 10 = some (.int (c 110)) := (fld_at (G_at rfl) rfl).trans rfl
theorem sf_1_10 {v : Int32} : setF (G c r w mb n1 n2 sh) 1 10 (.int v) = G (upd c 110 v) r w mb n1 n2 sh := (setF_at (G_at rfl)).trans (G_set (by decide) rfl (dyn_up (fun _ _ => rfl) (upd_hi (by decide))))
theorem gf_1_11 : fld (G c r w mb n1 n2 sh) 1 [8] 11 = some (.int (c 111)) := (fld_at (G_at rfl) rfl).trans rfl
theorem sf_1_11 {v : Int32} : setF (G c r w mb n1 n2 sh) 1 11 (.int v) = G (upd c 111 v) r w mb n1 n2 sh := (setF_at (G_at rfl)).trans (G_set (by decide) rfl (dyn_up (fun _ _ => rfl) (upd_hi (by decide))))
theorem rcv_1 : rcv (G c r w mb n1 n2 sh) 1 = some 8 := rcv_at rfl (G_at rfl)
theorem rcO_1 : rcO (G c r w mb n1 n2 sh) 1 = some 8 := rcO_at (G_at rfl)
theorem gf_6_0 : fld (G c r w mb n1 n2 sh) 6 [7] 0 = some (.int (c 600)) := (fld_at (G_at rfl) rfl).trans rfl
theorem sf_6_0 {v : Int32} : setF (G c r w mb n1 n2 sh) 6 0 (.int v) = G (upd c 600 v) r w mb n1 n2 sh := (setF_at (G_at rfl)).trans (G_set (by decide) rfl (dyn_up (fun _ _ => rfl) (upd_hi (by decide))))
theorem gf_6_1 : fld (G c r w mb n1 n2 sh) 6 [7] 1 = some (.int (c 601)) := (fld_at (G_at rfl) rfl).trans rfl
theorem sf_6_1 {v : Int32} : setF (G c r w mb n1 n2 sh) 6 1 (.int v) = G (upd c 601 v) r w mb n1 n2 sh := (setF_at (G_at rfl)).trans (G_set (by decide) rfl (dyn_up (fun _ _ => rfl) (upd_hi (by decide))))
theorem gf_6_2 : fld (G c r w mb n1 n2 sh) 6 [7] 2 = some (.int (c 602)) := (fld_at (G_at rfl) rfl).trans rfl
theorem sf_6_2 {v : Int32} : setF (G c r w mb n1 n2 sh) 6 2 (.int v) = G (upd c 602 v) r w mb n1 n2 sh := (setF_at (G_at rfl)).trans (G_set (by decide) rfl (dyn_up (fun _ _ => rfl) (upd_hi (by decide))))
theorem gf_6_3 : fld (G c r w mb n1 n2 sh) 6 [7] 3 = some (.int (c 603)) := (fld_at (G_at rfl) rfl).trans rfl
theorem sf_6_3 {v : Int32} : setF (G c r w mb n1 n2 sh) 6 3 (.int v) = G (upd c 603 v) r w mb n1 n2 sh := (setF_at (G_at rfl)).trans (G_set (by decide) rfl (dyn_up (fun _ _ => rfl) (upd_hi (by decide))))
theorem gf_6_4 : fld (G c r w mb n1 n2 sh) 6 [7] 4 = some (.ref 7) := (fld_at (G_at rfl) rfl).trans rfl
theorem gf_6_5 : fld (G c r w mb n1 n2 sh) 6 [7] 5 = some (.ref 8) := (fld_at (G_at rfl) rfl).trans rfl
theorem rcv_6 : rcv (G c r w mb n1 n2 sh) 6 = some 7 := rcv_at rfl (G_at rfl)
theorem rcO_6 : rcO (G c r w mb n1 n2 sh) 6 = some 7 := rcO_at (G_at rfl)
theorem gf_9_0 : fld (G c r w mb n1 n2 sh) 9 [0] 0 = some (.ref 10) := (fld_at (G_at rfl) rfl).trans rfl
theorem gf_9_1 : fld (G c r w mb n1 n2 sh) 9 [0] 1 = some (.int (c 901)) := (fld_at (G_at rfl) rfl).trans rfl
theorem sf_9_1 {v : Int32} : setF (G c r w mb n1 n2 sh) 9 1 (.int v) = G (upd c 901 v) r w mb n1 n2 sh := (setF_at (G_at rfl)).trans (G_set (by decide) rfl (dyn_up (fun _ _ => rfl) (upd_hi (by decide))))
theorem rcv_9 : rcv (G c r w mb n1 n2 sh) 9 = some 0 := rcv_at rfl (G_at rfl)
theorem rcO_9 : rcO (G c r w mb n1 n2 sh) 9 = some 0 := rcO_at (G_at rfl)
theorem gf_12_0 : fld (G c r w mb n1 n2 sh) 12 [3] 0 = some (.int (c 1200)) := (fld_at (G_at rfl) rfl).trans rfl
theorem sf_12_0 {v : Int32} : setF (G c r w mb n1 n2 sh) 12 0 (.int v) = G (upd c 1200 v) r w mb n1 n2 sh := (setF_at (G_at rfl)).trans (G_set (by decide) rfl (dyn_up (fun _ _ => rfl) (upd_hi (by decide))))
theorem gf_12_1 : fld (G c r w mb n1 n2 sh) 12 [3] 1 = some (.int (c 1201)) := (fld_at (G_at rfl) rfl).trans rfl
theorem sf_12_1 {v : Int32} : setF (G c r w mb n1 n2 sh) 12 1 (.int v) = G (upd c 1201 v) r w mb n1 n2 sh := (setF_at (G_at rfl)).trans (G_set (by decide) rfl (dyn_up (fun _ _ => rfl) (upd_hi (by decide))))
theorem gf_12_2 : fld (G c r w mb n1 n2 sh) 12 [3] 2 = some (.ref 13) := (fld_at (G_at rfl) rfl).trans rfl
theorem gf_12_3 : fld (G c r w mb n1 n2 sh) 12 [3] 3 = some (.ref 14) := (fld_at (G_at rfl) rfl).trans rfl
theorem rcv_12 : rcv (G c r w mb n1 n2 sh) 12 = some 3 := rcv_at rfl (G_at rfl)
theorem rcO_12 : rcO (G c r w mb n1 n2 sh) 12 = some 3 := rcO_at (G_at rfl)
theorem gf_15_0 : fld (G c r w mb n1 n2 sh) 15 [3] 0 = some (.int (c 1500)) := (fld_at (G_at rfl) rfl).trans rfl
theorem sf_15_0 {v : Int32} : setF (G c r w mb n1 n2 sh) 15 0 (.int v) = G (upd c 1500 v) r w mb n1 n2 sh := (setF_at (G_at rfl)).trans (G_set (by decide) rfl (dyn_up (fun _ _ => rfl) (upd_hi (by decide))))
theorem gf_15_1 : fld (G c r w mb n1 n2 sh) 15 [3] 1 = some (.int (c 1501)) := (fld_at (G_at rfl) rfl).trans rfl
theorem sf_15_1 {v : Int32} : setF (G c r w mb n1 n2 sh) 15 1 (.int v) = G (upd c 1501 v) r w mb n1 n2 sh := (setF_at (G_at rfl)).trans (G_set (by decide) rfl (dyn_up (fun _ _ => rfl) (upd_hi (by decide))))
theorem gf_15_2 : fld (G c r w mb n1 n2 sh) 15 [3] 2 = some (.ref 16) := (fld_at (G_at rfl) rfl).trans rfl
theorem gf_15_3 : fld (G c r w mb n1 n2 sh) 15 [3] 3 = some (.ref 17) := (fld_at (G_at rfl) rfl).trans rfl
theorem rcv_15 : rcv (G c r w mb n1 n2 sh) 15 = some 3 := rcv_at rfl (G_at rfl)
theorem rcO_15 : rcO (G c r w mb n1 n2 sh) 15 = some 3 := rcO_at (G_at rfl)
theorem gf_18_0 : fld (G c r w mb n1 n2 sh) 18 [1] 0 = some (.ref n1) := (fld_at (G_at rfl) rfl).trans rfl
theorem sf_18_0 {v : Nat} : setF (G c r w mb n1 n2 sh) 18 0 (.ref v) = G c r w mb v n2 sh := (setF_at (G_at rfl)).trans (G_set (by decide) rfl rfl)
theorem gf_18_1 : fld (G c r w mb n1 n2 sh) 18 [1] 1 = some (.ref n2) := (fld_at (G_at rfl) rfl).trans rfl
theorem sf_18_1 {v : Nat} : setF (G c r w mb n1 n2 sh) 18 1 (.ref v) = G c r w mb n1 v sh := (setF_at (G_at rfl)).trans (G_set (by decide) rfl rfl)
theorem gf_18_2 : fld (G c r w mb n1 n2 sh) 18 [1] 2 = some (.ref 21) := (fld_at (G_at rfl) rfl).trans rfl
theorem gf_18_3 : fld (G c r w mb n1 n2 sh) 18 [1] 3 = some (.ref 22) := (fld_at (G_at rfl) rfl).trans rfl
theorem gf_18_4 : fld (G c r w mb n1 n2 sh) 18 [1] 4 = some (.ref 23) := (fld_at (G_at rfl) rfl).trans rfl
theorem gf_18_5 : fld (G c r w mb n1 n2 sh) 18 [1] 5 = some (.int (c 1805)) := (fld_at (G_at rfl) rfl).trans rfl
theorem sf_18_5 {v : Int32} : setF (G c r w mb n1 n2 sh) 18 5 (.int v) = G (upd c 1805 v) r w mb n1 n2 sh := (setF_at (G_at rfl)).trans (G_set (by decide) rfl (dyn_up (fun _ _ => rfl) (upd_hi (by decide))))
theorem gf_18_6 : fld (G c r w mb n1 n2 sh) 18 [1] 6 = some (.int (c 1806)) := (fld_at (G_at rfl) rfl).trans rfl
theorem sf_18_6 {v : Int32} : setF (G c r w mb n1 n2 sh) 18 6 (.int v) = G (upd c 1806 v) r w mb n1 n2 sh := (setF_at (G_at rfl)).trans (G_set (by decide) rfl (dyn_up (fun _ _ => rfl) (upd_hi (by decide))))
theorem gf_18_7 : fld (G c r w mb n1 n2 sh) 18 [1] 7 = some (.int (c 1807)) := (fld_at (G_at rfl) rfl).trans rfl
theorem sf_18_7 {v : Int32} : setF (G c r w mb n1 n2 sh) 18 7 (.int v) = G (upd c 1807 v) r w mb n1 n2 sh := (setF_at (G_at rfl)).trans (G_set (by decide) rfl (dyn_up (fun _ _ => rfl) (upd_hi (by decide))))
theorem gf_18_8 : fld (G c r w mb n1 n2 sh) 18 [1] 8 = some (.int (c 1808)) := (fld_at (G_at rfl) rfl).trans rfl
theorem sf_18_8 {v : Int32} : setF (G c r w mb n1 n2 sh) 18 8 (.int v) = G (upd c 1808 v) r w mb n1 n2 sh := (setF_at (G_at rfl)).trans (G_set (by decide) rfl (dyn_up (fun _ _ => rfl) (upd_hi (by decide))))
theorem rcv_18 : rcv (G c r w mb n1 n2 sh) 18 = some 1 := rcv_at rfl (G_at rfl)
theorem rcO_18 : rcO (G c r w mb n1 n2 sh) 18 = some 1 := rcO_at (G_at rfl)
theorem gf_24_0 : fld (G c r w mb n1 n2 sh) 24 [6] 0 = some (.ref 25) := (fld_at (G_at rfl) rfl).trans rfl
theorem gf_24_1 : fld (G c r w mb n1 n2 sh) 24 [6] 1 = some (.ref 26) := (fld_at (G_at rfl) rfl).trans rfl
theorem gf_24_2 : fld (G c r w mb n1 n2 sh) 24 [6] 2 = some (.int (c 2402)) := (fld_at (G_at rfl) rfl).trans rfl
theorem sf_24_2 {v : Int32} : setF (G c r w mb n1 n2 sh) 24 2 (.int v) = G (upd c 2402 v) r w mb n1 n2 sh := (setF_at (G_at rfl)).trans (G_set (by decide) rfl (dyn_up (fun _ _ => rfl) (upd_hi (by decide))))
theorem rcv_24 : rcv (G c r w mb n1 n2 sh) 24 = some 6 := rcv_at rfl (G_at rfl)
theorem rcO_24 : rcO (G c r w mb n1 n2 sh) 24 = some 6 := rcO_at (G_at rfl)
theorem gf_28_0 : fld (G c r w mb n1 n2 sh) 28 [11] 0 = some (.ref 29) := (fld_at (G_at rfl) rfl).trans rfl
theorem gf_28_1 : fld (G c r w mb n1 n2 sh) 28 [11] 1 = some (.ref 30) := (fld_at (G_at rfl) rfl).trans rfl
theorem gf_28_2 : fld (G c r w mb n1 n2 sh) 28 [11] 2 = some (.ref 31) := (fld_at (G_at rfl) rfl).trans rfl
theorem gf_28_3 : fld (G c r w mb n1 n2 sh) 28 [11] 3 = some (.int (c 2803)) := (fld_at (G_at rfl) rfl).trans rfl
theorem sf_28_3 {v : Int32} : setF (G c r w mb n1 n2 sh) 28 3 (.int v) = G (upd c 2803 v) r w mb n1 n2 sh := (setF_at (G_at rfl)).trans (G_set (by decide) rfl (dyn_up (fun _ _ => rfl) (upd_hi (by decide))))
theorem gf_28_4 : fld (G c r w mb n1 n2 sh) 28 [11] 4 = some (.ref 32) := (fld_at (G_at rfl) rfl).trans rfl
theorem gf_28_5 : fld (G c r w mb n1 n2 sh) 28 [11] 5 = some (.int (c 2805)) := (fld_at (G_at rfl) rfl).trans rfl
theorem sf_28_5 {v : Int32} : setF (G c r w mb n1 n2 sh) 28 5 (.int v) = G (upd c 2805 v) r w mb n1 n2 sh := (setF_at (G_at rfl)).trans (G_set (by decide) rfl (dyn_up (fun _ _ => rfl) (upd_hi (by decide))))
theorem gf_28_6 : fld (G c r w mb n1 n2 sh) 28 [11] 6 = some (.int (c 2806)) := (fld_at (G_at rfl) rfl).trans rfl
theorem sf_28_6 {v : Int32} : setF (G c r w mb n1 n2 sh) 28 6 (.int v) = G (upd c 2806 v) r w mb n1 n2 sh := (setF_at (G_at rfl)).trans (G_set (by decide) rfl (dyn_up (fun _ _ => rfl) (upd_hi (by decide))))
theorem gf_28_7 : fld (G c r w mb n1 n2 sh) 28 [11] 7 = some (.ref 33) := (fld_at (G_at rfl) rfl).trans rfl
theorem gf_28_8 : fld (G c r w mb n1 n2 sh) 28 [11] 8 = some (.ref 34) := (fld_at (G_at rfl) rfl).trans rfl
theorem gf_28_9 : fld (G c r w mb n1 n2 sh) 28 [11] 9 = some (.ref 35) := (fld_at (G_at rfl) rfl).trans rfl
theorem gf_28_10 : fld (G c r w mb n1 n2 sh) 28 [11] 10 = some (.ref 36) := (fld_at (G_at rfl) rfl).trans rfl
theorem gf_28_11 : fld (G c r w mb n1 n2 sh) 28 [11] 11 = some (.ref 37) := (fld_at (G_at rfl) rfl).trans rfl
theorem gf_28_12 : fld (G c r w mb n1 n2 sh) 28 [11] 12 = some (.ref 38) := (fld_at (G_at rfl) rfl).trans rfl
theorem gf_28_13 : fld (G c r w mb n1 n2 sh) 28 [11] 13 = some (.int (c 2813)) := (fld_at (G_at rfl) rfl).trans rfl
theorem sf_28_13 {v : Int32} : setF (G c r w mb n1 n2 sh) 28 13 (.int v) = G (upd c 2813 v) r w mb n1 n2 sh := (setF_at (G_at rfl)).trans (G_set (by decide) rfl (dyn_up (fun _ _ => rfl) (upd_hi (by decide))))
theorem gf_28_14 : fld (G c r w mb n1 n2 sh) 28 [11] 14 = some (.int (c 2814)) := (fld_at (G_at rfl) rfl).trans rfl
theorem sf_28_14 {v : Int32} : setF (G c r w mb n1 n2 sh) 28 14 (.int v) = G (upd c 2814 v) r w mb n1 n2 sh := (setF_at (G_at rfl)).trans (G_set (by decide) rfl (dyn_up (fun _ _ => rfl) (upd_hi (by decide))))
theorem gf_28_15 : fld (G c r w mb n1 n2 sh) 28 [11] 15 = some (.int (c 2815)) := (fld_at (G_at rfl) rfl).trans rfl
theorem sf_28_15 {v : Int32} : setF (G c r w mb n1 n2 sh) 28 15 (.int v) = G (upd c 2815 v) r w mb n1 n2 sh := (setF_at (G_at rfl)).trans (G_set (by decide) rfl (dyn_up (fun _ _ => rfl) (upd_hi (by decide))))
theorem gf_28_16 : fld (G c r w mb n1 n2 sh) 28 [11] 16 = some (.int (c 2816)) := (fld_at (G_at rfl) rfl).trans rfl
theorem sf_28_16 {v : Int32} : setF (G c r w mb n1 n2 sh) 28 16 (.int v) = G (upd c 2816 v) r w mb n1 n2 sh := (setF_at (G_at rfl)).trans (G_set (by decide) rfl (dyn_up (fun _ _ => rfl) (upd_hi (by decide))))
theorem gf_28_17 : fld (G c r w mb n1 n2 sh) 28 [11] 17 = some (.int (c 2817)) := (fld_at (G_at rfl) rfl).trans rfl
theorem sf_28_17 {v : Int32} : setF (G c r w mb n1 n2 sh) 28 17 (.int v) = G (upd c 2817 v) r w mb n1 n2 sh := (setF_at (G_at rfl)).trans (G_set (by decide) rfl (dyn_up (fun _ _ => rfl) (upd_hi (by decide))))
theorem gf_28_18 : fld (G c r w mb n1 n2 sh) 28 [11] 18 = some (.int (c 2818)) := (fld_at (G_at rfl) rfl).trans rfl
theorem sf_28_18 {v : Int32} : setF (G c r w mb n1 n2 sh) 28 18 (.int v) = G (upd c 2818 v) r w mb n1 n2 sh := (setF_at (G_at rfl)).trans (G_set (by decide) rfl (dyn_up (fun _ _ => rfl) (upd_hi (by decide))))
theorem gf_28_19 : fld (G c r w mb n1 n2 sh) 28 [11] 19 = some (.ref 39) := (fld_at (G_at rfl) rfl).trans rfl
theorem gf_28_20 : fld (G c r w mb n1 n2 sh) 28 [11] 20 = some (.ref 40) := (fld_at (G_at rfl) rfl).trans rfl
theorem gf_28_21 : fld (G c r w mb n1 n2 sh) 28 [11] 21 = some (.ref 41) := (fld_at (G_at rfl) rfl).trans rfl
theorem gf_28_22 : fld (G c r w mb n1 n2 sh) 28 [11] 22 = some (.ref 42) := (fld_at (G_at rfl) rfl).trans rfl
theorem gf_28_23 : fld (G c r w mb n1 n2 sh) 28 [11] 23 = some (.ref 43) := (fld_at (G_at rfl) rfl).trans rfl
theorem gf_28_24 : fld (G c r w mb n1 n2 sh) 28 [11] 24 = some (.int (c 2824)) := (fld_at (G_at rfl) rfl).trans rfl
theorem sf_28_24 {v : Int32} : setF (G c r w mb n1 n2 sh) 28 24 (.int v) = G (upd c 2824 v) r w mb n1 n2 sh := (setF_at (G_at rfl)).trans (G_set (by decide) rfl (dyn_up (fun _ _ => rfl) (upd_hi (by decide))))
theorem gf_28_25 : fld (G c r w mb n1 n2 sh) 28 [11] 25 = some (.ref 44) := (fld_at (G_at rfl) rfl).trans rfl
theorem rcv_28 : rcv (G c r w mb n1 n2 sh) 28 = some 11 := rcv_at rfl (G_at rfl)
theorem rcO_28 : rcO (G c r w mb n1 n2 sh) 28 = some 11 := rcO_at (G_at rfl)
theorem aI_2 : arI X (G c r w mb n1 n2 sh) 2 = some (200, r 2) := arI_at rfl (G_at rfl)
theorem aW_2 : arW (G c r w mb n1 n2 sh) 2 = some (200, r 2) := arW_at (G_at rfl)
theorem sI_2 {f : Nat → Int32} : setI (G c r w mb n1 n2 sh) 2 200 f = G c (va_up r 2 f) w mb n1 n2 sh := G_set (by decide) rfl rfl
theorem aI_3 : arI X (G c r w mb n1 n2 sh) 3 = some (12, r 3) := arI_at rfl (G_at rfl)
theorem aW_3 : arW (G c r w mb n1 n2 sh) 3 = some (12, r 3) := arW_at (G_at rfl)
theorem sI_3 {f : Nat → Int32} : setI (G c r w mb n1 n2 sh) 3 12 f = G c (va_up r 3 f) w mb n1 n2 sh := G_set (by decide) rfl rfl
theorem aI_4 : arI X (G c r w mb n1 n2 sh) 4 = some (12, r 4) := arI_at rfl (G_at rfl)
theorem aW_4 : arW (G c r w mb n1 n2 sh) 4 = some (12, r 4) := arW_at (G_at rfl)
theorem sI_4 {f : Nat → Int32} : setI (G c r w mb n1 n2 sh) 4 12 f = G c (va_up r 4 f) w mb n1 n2 sh := G_set (by decide) rfl rfl
theorem aI_5 : arI X (G c r w mb n1 n2 sh) 5 = some (12, r 5) := arI_at rfl (G_at rfl)
theorem aW_5 : arW (G c r w mb n1 n2 sh) 5 = some (12, r 5) := arW_at (G_at rfl)
theorem sI_5 {f : Nat → Int32} : setI (G c r w mb n1 n2 sh) 5 12 f = G c (va_up r 5 f) w mb n1 n2 sh := G_set (by decide) rfl rfl
theorem aI_7 : arI X (G c r w mb n1 n2 sh) 7 = some (20, r 7) := arI_at rfl (G_at rfl)
theorem aW_7 : arW (G c r w mb n1 n2 sh) 7 = some (20, r 7) := arW_at (G_at rfl)
theorem sI_7 {f : Nat → Int32} : setI (G c r w mb n1 n2 sh) 7 20 f = G c (va_up r 7 f) w mb n1 n2 sh := G_set (by decide) rfl rfl
theorem aI_8 : arI X (G c r w mb n1 n2 sh) 8 = some (20, r 8) := arI_at rfl (G_at rfl)
theorem aW_8 : arW (G c r w mb n1 n2 sh) 8 = some (20, r 8) := arW_at (G_at rfl)
theorem sI_8 {f : Nat → Int32} : setI (G c r w mb n1 n2 sh) 8 20 f = G c (va_up r 8 f) w mb n1 n2 sh := G_set (by decide) rfl rfl
theorem aI_13 : arI X (G c r w mb n1 n2 sh) 13 = some (20, r 13) := arI_at rfl (G_at rfl)
theorem aW_13 : arW (G c r w mb n1 n2 sh) 13 = some (20, r 13) := arW_at (G_at rfl)
theorem sI_13 {f : Nat → Int32} : setI (G c r w mb n1 n2 sh) 13 20 f = G c (va_up r 13 f) w mb n1 n2 sh := G_set (by decide) rfl rfl
theorem aI_14 : arI X (G c r w mb n1 n2 sh) 14 = some (5, r 14) := arI_at rfl (G_at rfl)
theorem aW_14 : arW (G c r w mb n1 n2 sh) 14 = some (5, r 14) := arW_at (G_at rfl)
theorem sI_14 {f : Nat → Int32} : setI (G c r w mb n1 n2 sh) 14 5 f = G c (va_up r 14 f) w mb n1 n2 sh := G_set (by decide) rfl rfl
theorem aI_16 : arI X (G c r w mb n1 n2 sh) 16 = some (20, r 16) := arI_at rfl (G_at rfl)
theorem aW_16 : arW (G c r w mb n1 n2 sh) 16 = some (20, r 16) := arW_at (G_at rfl)
theorem sI_16 {f : Nat → Int32} : setI (G c r w mb n1 n2 sh) 16 20 f = G c (va_up r 16 f) w mb n1 n2 sh := G_set (by decide) rfl rfl
theorem aI_17 : arI X (G c r w mb n1 n2 sh) 17 = some (5, r 17) := arI_at rfl (G_at rfl)
theorem aW_17 : arW (G c r w mb n1 n2 sh) 17 = some (5, r 17) := arW_at (G_at rfl)
theorem sI_17 {f : Nat → Int32} : setI (G c r w mb n1 n2 sh) 17 5 f = G c (va_up r 17 f) w mb n1 n2 sh := G_set (by decide) rfl rfl
theorem aI_21 : arI X (G c r w mb n1 n2 sh) 21 = some (5, r 21) := arI_at rfl (G_at rfl)
theorem aW_21 : arW (G c r w mb n1 n2 sh) 21 = some (5, r 21) := arW_at (G_at rfl)
theorem sI_21 {f : Nat → Int32} : setI (G c r w mb n1 n2 sh) 21 5 f = G c (va_up r 21 f) w mb n1 n2 sh := G_set (by decide) rfl rfl
theorem aI_22 : arI X (G c r w mb n1 n2 sh) 22 = some (5, r 22) := arI_at rfl (G_at rfl)
theorem aW_22 : arW (G c r w mb n1 n2 sh) 22 = some (5, r 22) := arW_at (G_at rfl)
theorem sI_22 {f : Nat → Int32} : setI (G c r w mb n1 n2 sh) 22 5 f = G c (va_up r 22 f) w mb n1 n2 sh := G_set (by decide) rfl rfl
theorem aI_23 : arI X (G c r w mb n1 n2 sh) 23 = some (5, r 23) := arI_at rfl (G_at rfl)
theorem aW_23 : arW (G c r w mb n1 n2 sh) 23 = some (5, r 23) := arW_at (G_at rfl)
theorem sI_23 {f : Nat → Int32} : setI (G c r w mb n1 n2 sh) 23 5 f = G c (va_up r 23 f) w mb n1 n2 sh := G_set (by decide) rfl rfl
theorem aI_25 : arI X (G c r w mb n1 n2 sh) 25 = some (5, r 25) := arI_at rfl (G_at rfl)
theorem aW_25 : arW (G c r w mb n1 n2 sh) 25 = some (5, r 25) := arW_at (G_at rfl)
theorem sI_25 {f : Nat → Int32} : setI (G c r w mb n1 n2 sh) 25 5 f = G c (va_up r 25 f) w mb n1 n2 sh := G_set (by decide) rfl rfl
theorem aI_26 : arI X (G c r w mb n1 n2 sh) 26 = some (5, r 26) := arI_at rfl (G_at rfl)
theorem aW_26 : arW (G c r w mb n1 n2 sh) 26 = some (5, r 26) := arW_at (G_at rfl)
theorem sI_26 {f : Nat → Int32} : setI (G c r w mb n1 n2 sh) 26 5 f = G c (va_up r 26 f) w mb n1 n2 sh := G_set (by decide) rfl rfl
theorem aI_29 : arI X (G c r w mb n1 n2 sh) 29 = some (100, r 29) := arI_at rfl (G_at rfl)
theorem aW_29 : arW (G c r w mb n1 n2 sh) 29 = some (100, r 29) := arW_at (G_at rfl)
theorem sI_29 {f : Nat → Int32} : setI (G c r w mb n1 n2 sh) 29 100 f = G c (va_up r 29 f) w mb n1 n2 sh := G_set (by decide) rfl rfl
theorem aI_31 : arI X (G c r w mb n1 n2 sh) 31 = some (200, r 31) := arI_at rfl (G_at rfl)
theorem aW_31 : arW (G c r w mb n1 n2 sh) 31 = some (200, r 31) := arW_at (G_at rfl)
theorem sI_31 {f : Nat → Int32} : setI (G c r w mb n1 n2 sh) 31 200 f = G c (va_up r 31 f) w mb n1 n2 sh := G_set (by decide) rfl rfl
theorem aI_32 : arI X (G c r w mb n1 n2 sh) 32 = some (36, r 32) := arI_at rfl (G_at rfl)
theorem aW_32 : arW (G c r w mb n1 n2 sh) 32 = some (36, r 32) := arW_at (G_at rfl)
theorem sI_32 {f : Nat → Int32} : setI (G c r w mb n1 n2 sh) 32 36 f = G c (va_up r 32 f) w mb n1 n2 sh := G_set (by decide) rfl rfl
theorem aI_33 : arI X (G c r w mb n1 n2 sh) 33 = some (21, r 33) := arI_at rfl (G_at rfl)
theorem aW_33 : arW (G c r w mb n1 n2 sh) 33 = some (21, r 33) := arW_at (G_at rfl)
theorem sI_33 {f : Nat → Int32} : setI (G c r w mb n1 n2 sh) 33 21 f = G c (va_up r 33 f) w mb n1 n2 sh := G_set (by decide) rfl rfl
theorem aI_34 : arI X (G c r w mb n1 n2 sh) 34 = some (21, r 34) := arI_at rfl (G_at rfl)
theorem aW_34 : arW (G c r w mb n1 n2 sh) 34 = some (21, r 34) := arW_at (G_at rfl)
theorem sI_34 {f : Nat → Int32} : setI (G c r w mb n1 n2 sh) 34 21 f = G c (va_up r 34 f) w mb n1 n2 sh := G_set (by decide) rfl rfl
theorem aI_35 : arI X (G c r w mb n1 n2 sh) 35 = some (5, r 35) := arI_at rfl (G_at rfl)
theorem aW_35 : arW (G c r w mb n1 n2 sh) 35 = some (5, r 35) := arW_at (G_at rfl)
theorem sI_35 {f : Nat → Int32} : setI (G c r w mb n1 n2 sh) 35 5 f = G c (va_up r 35 f) w mb n1 n2 sh := G_set (by decide) rfl rfl
theorem aI_36 : arI X (G c r w mb n1 n2 sh) 36 = some (5, r 36) := arI_at rfl (G_at rfl)
theorem aW_36 : arW (G c r w mb n1 n2 sh) 36 = some (5, r 36) := arW_at (G_at rfl)
theorem sI_36 {f : Nat → Int32} : setI (G c r w mb n1 n2 sh) 36 5 f = G c (va_up r 36 f) w mb n1 n2 sh := G_set (by decide) rfl rfl
theorem aI_37 : arI X (G c r w mb n1 n2 sh) 37 = some (5, r 37) := arI_at rfl (G_at rfl)
theorem aW_37 : arW (G c r w mb n1 n2 sh) 37 = some (5, r 37) := arW_at (G_at rfl)
theorem sI_37 {f : Nat → Int32} : setI (G c r w mb n1 n2 sh) 37 5 f = G c (va_up r 37 f) w mb n1 n2 sh := G_set (by decide) rfl rfl
theorem aI_38 : arI X (G c r w mb n1 n2 sh) 38 = some (5, r 38) := arI_at rfl (G_at rfl)
theorem aW_38 : arW (G c r w mb n1 n2 sh) 38 = some (5, r 38) := arW_at (G_at rfl)
theorem sI_38 {f : Nat → Int32} : setI (G c r w mb n1 n2 sh) 38 5 f = G c (va_up r 38 f) w mb n1 n2 sh := G_set (by decide) rfl rfl
theorem aI_41 : arI X (G c r w mb n1 n2 sh) 41 = some (7776, r 41) := arI_at rfl (G_at rfl)
theorem aW_41 : arW (G c r w mb n1 n2 sh) 41 = some (7776, r 41) := arW_at (G_at rfl)
theorem sI_41 {f : Nat → Int32} : setI (G c r w mb n1 n2 sh) 41 7776 f = G c (va_up r 41 f) w mb n1 n2 sh := G_set (by decide) rfl rfl
theorem aI_42 : arI X (G c r w mb n1 n2 sh) 42 = some (7776, r 42) := arI_at rfl (G_at rfl)
theorem aW_42 : arW (G c r w mb n1 n2 sh) 42 = some (7776, r 42) := arW_at (G_at rfl)
theorem sI_42 {f : Nat → Int32} : setI (G c r w mb n1 n2 sh) 42 7776 f = G c (va_up r 42 f) w mb n1 n2 sh := G_set (by decide) rfl rfl
theorem aI_43 : arI X (G c r w mb n1 n2 sh) 43 = some (5, r 43) := arI_at rfl (G_at rfl)
theorem aW_43 : arW (G c r w mb n1 n2 sh) 43 = some (5, r 43) := arW_at (G_at rfl)
theorem sI_43 {f : Nat → Int32} : setI (G c r w mb n1 n2 sh) 43 5 f = G c (va_up r 43 f) w mb n1 n2 sh := G_set (by decide) rfl rfl
theorem aL_19 : arL (G c r w mb n1 n2 sh) 19 = some (216, w 19) := arL_at (G_at rfl)
theorem sL_19 {f : Nat → Int64} : setL (G c r w mb n1 n2 sh) 19 216 f = G c r (va_up w 19 f) mb n1 n2 sh := G_set (by decide) rfl (dyn_up (vup_hi (by decide)) (fun _ _ => rfl))
theorem aL_20 : arL (G c r w mb n1 n2 sh) 20 = some (216, w 20) := arL_at (G_at rfl)
theorem sL_20 {f : Nat → Int64} : setL (G c r w mb n1 n2 sh) 20 216 f = G c r (va_up w 20 f) mb n1 n2 sh := G_set (by decide) rfl (dyn_up (vup_hi (by decide)) (fun _ _ => rfl))
theorem aL_27 : arL (G c r w mb n1 n2 sh) 27 = some (6, w 27) := arL_at (G_at rfl)
theorem sL_27 {f : Nat → Int64} : setL (G c r w mb n1 n2 sh) 27 6 f = G c r (va_up w 27 f) mb n1 n2 sh := G_set (by decide) rfl (dyn_up (vup_hi (by decide)) (fun _ _ => rfl))
theorem aL_39 : arL (G c r w mb n1 n2 sh) 39 = some (7776, w 39) := arL_at (G_at rfl)
theorem sL_39 {f : Nat → Int64} : setL (G c r w mb n1 n2 sh) 39 7776 f = G c r (va_up w 39 f) mb n1 n2 sh := G_set (by decide) rfl (dyn_up (vup_hi (by decide)) (fun _ _ => rfl))
theorem aL_40 : arL (G c r w mb n1 n2 sh) 40 = some (7776, w 40) := arL_at (G_at rfl)
theorem sL_40 {f : Nat → Int64} : setL (G c r w mb n1 n2 sh) 40 7776 f = G c r (va_up w 40 f) mb n1 n2 sh := G_set (by decide) rfl (dyn_up (vup_hi (by decide)) (fun _ _ => rfl))
theorem aL_44 : arL (G c r w mb n1 n2 sh) 44 = some (7, w 44) := arL_at (G_at rfl)
theorem sL_44 {f : Nat → Int64} : setL (G c r w mb n1 n2 sh) 44 7 f = G c r (va_up w 44 f) mb n1 n2 sh := G_set (by decide) rfl (dyn_up (vup_hi (by decide)) (fun _ _ => rfl))
theorem aB_30 : arB (G c r w mb n1 n2 sh) 30 = some (2, r 30) := by
  show (match (none : Option (Nat × (Nat → Int32))) with | some q => some q | none => arZ (G c r w mb n1 n2 sh) 30) = _
  show arZ (G c r w mb n1 n2 sh) 30 = _
  unfold arZ
  rw [G_at (show (Gf c r w mb n1 n2)[30]? = some (.inl (2, 2, .inl (r 30))) from rfl)]
  rfl
theorem aZ_30 : arZ (G c r w mb n1 n2 sh) 30 = some (2, r 30) := by
  unfold arZ
  rw [G_at (show (Gf c r w mb n1 n2)[30]? = some (.inl (2, 2, .inl (r 30))) from rfl)]
  rfl
theorem sZ_30 {f : Nat → Int32} : setZ (G c r w mb n1 n2 sh) 30 2 f = G c (va_up r 30 f) w mb n1 n2 sh := G_set (by decide) rfl rfl
theorem aQ_10 : arQ (G c r w mb n1 n2 sh) 10 = some (3, 5, mb) := arQ_at (G_at rfl) (Or.inl rfl)
theorem aQ_11 : arQ (G c r w mb n1 n2 sh) 11 = some (4, 2, imQ) := arQ_at (G_at rfl) (Or.inr rfl)
theorem sQ_10 {f : Nat → Option Nat} : setQ (G c r w mb n1 n2 sh) 10 3 5 f = G c r w f n1 n2 sh := G_set (by decide) rfl rfl
theorem G_dat {p s : Nat} (hp : 45 ≤ p) (h : sh[p - 45]? = some s) : (G c r w mb n1 n2 sh)[p]? = some (dcl c w p s) := by
  have := G_dy (c := c) (r := r) (w := w) (mb := mb) (n1 := n1) (n2 := n2) h
  rw [show 45 + (p - 45) = p by omega] at this
  exact this
theorem Gf_up {c2 : Nat → Int32} {w2 : Nat → Nat → Int64} (hw : ∀ p, p < 45 → w2 p = w p) (hc : ∀ k, k < 4500 → c2 k = c k) : Gf c2 r w2 mb n1 n2 = Gf c r w mb n1 n2 := by
  unfold Gf
  simp only [hw 19 (by decide), hw 20 (by decide), hw 27 (by decide), hw 39 (by decide), hw 40 (by decide), hw 44 (by decide), hc 101 (by decide), hc 105 (by decide), hc 106 (by decide), hc 107 (by decide), hc 108 (by decide), hc 109 (by decide), hc 110 (by decide), hc 111 (by decide), hc 600 (by decide), hc 601 (by decide), hc 602 (by decide), hc 603 (by decide), hc 901 (by decide), hc 1200 (by decide), hc 1201 (by decide), hc 1500 (by decide), hc 1501 (by decide), hc 1805 (by decide), hc 1806 (by decide), hc 1807 (by decide), hc 1808 (by decide), hc 2402 (by decide), hc 2803 (by decide), hc 2805 (by decide), hc 2806 (by decide), hc 2813 (by decide), hc 2814 (by decide), hc 2815 (by decide), hc 2816 (by decide), hc 2817 (by decide), hc 2818 (by decide), hc 2824 (by decide)]
theorem G_dset {p s : Nat} {e : va_E} {c2 : Nat → Int32} {w2 : Nat → Nat → Int64} (hp : 45 ≤ p) (h : sh[p - 45]? = some s) (he : dcl c2 w2 p s = e) (hw : ∀ q, q ≠ p → w2 q = w q) (hc : ∀ k, (k < 100 * p ∨ 100 * p + 3 < k) → c2 k = c k) : (G c r w mb n1 n2 sh).set p e = G c2 r w2 mb n1 n2 sh := by
  have hl := (List.getElem?_eq_some_iff.mp h).1
  apply List.ext_getElem?
  intro i
  rw [List.getElem?_set, G_length]
  by_cases hi : p = i
  · subst hi
    rw [if_pos rfl, if_pos (by omega), G_dat hp h, he]
  · rw [if_neg hi]
    by_cases hi2 : i < 45
    · unfold G
      rw [List.getElem?_append_left (by show i < 45; exact hi2), List.getElem?_append_left (by show i < 45; exact hi2), Gf_up (fun q hq => hw q (by omega)) (fun k hk => hc k (by omega))]
    · cases hs : sh[i - 45]? with
      | none =>
        have h1 : sh.length ≤ i - 45 := by simpa using hs
        rw [List.getElem?_eq_none (by rw [G_length]; omega), List.getElem?_eq_none (by rw [G_length]; omega)]
      | some s2 =>
        rw [G_dat (by omega) hs, G_dat (by omega) hs, dcl_up (hw i (fun e => hi e.symm)) (fun k hk => hc _ (by omega))]
end HG
