/-! an instruction as an equation: the rows that the program fills in -/
def setI (ah : AH) (a n : Nat) (f : Nat → Int32) : AH := ah.set a (.inl (0, n, .inl f))
def setL (ah : AH) (a n : Nat) (f : Nat → Int64) : AH := ah.set a (.inl (1, n, .inr (.inl f)))
def setZ (ah : AH) (a n : Nat) (f : Nat → Int32) : AH := ah.set a (.inl (2, n, .inl f))
def setQ (ah : AH) (a t n : Nat) (f : Nat → Option Nat) : AH := ah.set a (.inl (t, n, .inr (.inr (.inr (.inr f)))))
theorem nk_i {x : Int32} : nk (some (.int x)) = true := rfl
theorem nk_r {x : Nat} : nk (some (.ref x)) = true := rfl
theorem nk_n : nk (some .null) = true := rfl
theorem nk_0 : nk none = true := rfl
theorem tl_s (v : Value) (r : List Value) : (some v).toList ++ r = v :: r := rfl
theorem tl_n (r : List Value) : (none : Option Value).toList ++ r = r := rfl
section RW
variable {X : XS} {d mi pc : Nat} {ls : LV} {st : List Value} {ah : AH} {Q : Option Value → AH → Prop}
theorem g_stp {i : Instr} {len : Nat} (hd : decode (mC mi) pc = .ok (i, len)) : stp X mi pc ls st ah = stI X mi i len pc ls st ah := by
  unfold stp
  rw [hd]
theorem g_go {i : Instr} {len pc' : Nat} {ls' : LV} {st' : List Value} {ah' : AH} (hd : decode (mC mi) pc = .ok (i, len)) (hs : stI X mi i len pc ls st ah = nx pc' ls' st' ah') : Wp X d mi pc ls st ah Q = Wp X d mi pc' ls' st' ah' Q := Wp_go ((g_stp hd).trans hs)
theorem g_istore {k : Nat} {v : Int32} (hd : decode (mC mi) pc = .ok (.istore k, 2)) (hk : decide (k < ls.length) = true) (hn : nkk ls k = true) : Wp X d mi pc ls (.int v :: st) ah Q = Wp X d mi (pc + 2) (ls.set k (some (.int v))) st ah Q :=
  g_go hd (by show (if (true && (decide (k < ls.length) && nkk ls k)) = true then _ else _) = _; rw [hk, hn]; rfl)
theorem g_istore_n {k : Fin 4} {v : Int32} (hd : decode (mC mi) pc = .ok (.istore_n k, 1)) (hk : decide (k.val < ls.length) = true) (hn : nkk ls k.val = true) : Wp X d mi pc ls (.int v :: st) ah Q = Wp X d mi (pc + 1) (ls.set k.val (some (.int v))) st ah Q :=
  g_go hd (by show (if (true && (decide (k.val < ls.length) && nkk ls k.val)) = true then _ else _) = _; rw [hk, hn]; rfl)
theorem g_astore {k : Nat} {v : Value} (hd : decode (mC mi) pc = .ok (.astore k, 2)) (hv : isA v = true) (hk : decide (k < ls.length) = true) (hn : nkk ls k = true) : Wp X d mi pc ls (v :: st) ah Q = Wp X d mi (pc + 2) (ls.set k (some v)) st ah Q :=
  g_go hd (by show (if (isA v && (decide (k < ls.length) && nkk ls k)) = true then _ else _) = _; rw [hv, hk, hn]; rfl)
theorem g_astore_n {k : Fin 4} {v : Value} (hd : decode (mC mi) pc = .ok (.astore_n k, 1)) (hv : isA v = true) (hk : decide (k.val < ls.length) = true) (hn : nkk ls k.val = true) : Wp X d mi pc ls (v :: st) ah Q = Wp X d mi (pc + 1) (ls.set k.val (some v)) st ah Q :=
  g_go hd (by show (if (isA v && (decide (k.val < ls.length) && nkk ls k.val)) = true then _ else _) = _; rw [hv, hk, hn]; rfl)
theorem g_lstore {k : Nat} {v : Int64} (hd : decode (mC mi) pc = .ok (.lstore k, 2)) (hk : decide (k + 1 < ls.length) = true) (hn : nkk ls k = true) : Wp X d mi pc ls (.long v :: st) ah Q = Wp X d mi (pc + 2) ((ls.set k (some (.long v))).set (k + 1) none) st ah Q :=
  g_go hd (by show (if (decide (k + 1 < ls.length) && nkk ls k) = true then _ else _) = _; rw [hk, hn]; rfl)
theorem g_lstore_n {k : Fin 4} {v : Int64} (hd : decode (mC mi) pc = .ok (.lstore_n k, 1)) (hk : decide (k.val + 1 < ls.length) = true) (hn : nkk ls k.val = true) : Wp X d mi pc ls (.long v :: st) ah Q = Wp X d mi (pc + 1) ((ls.set k.val (some (.long v))).set (k.val + 1) none) st ah Q :=
  g_go hd (by show (if (decide (k.val + 1 < ls.length) && nkk ls k.val) = true then _ else _) = _; rw [hk, hn]; rfl)
theorem g_iinc {k : Nat} {n : Int} {x c : Int32} (hd : decode (mC mi) pc = .ok (.iinc k n, 3)) (hx : ls[k]? = some (some (.int x))) (hc : Int32.ofInt n = c) (hn : nkk ls k = true) : Wp X d mi pc ls st ah Q = Wp X d mi (pc + 3) (ls.set k (some (.int (x + c)))) st ah Q := by
  subst hc
  refine g_go hd ?_
  show (match ls[k]? with | some (some (.int x)) => if nkk ls k then nx (pc + 3) (ls.set k (some (.int (x + Int32.ofInt n)))) st ah else none | _ => none) = _
  rw [hx]
  show (if nkk ls k = true then _ else _) = _
  rw [hn]
  rfl
theorem g_iconst {n : Int} {v : Int32} (hd : decode (mC mi) pc = .ok (.iconst n, 1)) (hv : Int32.ofInt n = v) : Wp X d mi pc ls st ah Q = Wp X d mi (pc + 1) ls (.int v :: st) ah Q := by
  subst hv; exact g_go hd rfl
theorem g_bipush {n : Int} {v : Int32} (hd : decode (mC mi) pc = .ok (.bipush n, 2)) (hv : (Int8.ofInt n).toInt32 = v) : Wp X d mi pc ls st ah Q = Wp X d mi (pc + 2) ls (.int v :: st) ah Q := by
  subst hv; exact g_go hd rfl
theorem g_sipush {n : Int} {v : Int32} (hd : decode (mC mi) pc = .ok (.sipush n, 3)) (hv : (Int16.ofInt n).toInt32 = v) : Wp X d mi pc ls st ah Q = Wp X d mi (pc + 3) ls (.int v :: st) ah Q := by
  subst hv; exact g_go hd rfl
theorem g_lconst {n : Fin 2} {v : Int64} (hd : decode (mC mi) pc = .ok (.lconst n, 1)) (hv : Int64.ofNat n.val = v) : Wp X d mi pc ls st ah Q = Wp X d mi (pc + 1) ls (.long v :: st) ah Q := by
  subst hv; exact g_go hd rfl
theorem g_ldc {k : Nat} {v : Value} (hd : decode (mC mi) pc = .ok (.ldc k, 2)) (hv : kE (mO mi) k = some v) (hn : isL v = false) : Wp X d mi pc ls st ah Q = Wp X d mi (pc + 2) ls (v :: st) ah Q :=
  g_go hd (by show (match kE (mO mi) k with | some v => if isL v then none else nx (pc + 2) ls (v :: st) ah | none => none) = _; rw [hv]; show (if isL v = true then _ else _) = _; rw [hn]; rfl)
theorem g_ldc_w {k : Nat} {v : Value} (hd : decode (mC mi) pc = .ok (.ldc_w k, 3)) (hv : kE (mO mi) k = some v) (hn : isL v = false) : Wp X d mi pc ls st ah Q = Wp X d mi (pc + 3) ls (v :: st) ah Q :=
  g_go hd (by show (match kE (mO mi) k with | some v => if isL v then none else nx (pc + 3) ls (v :: st) ah | none => none) = _; rw [hv]; show (if isL v = true then _ else _) = _; rw [hn]; rfl)
theorem g_ldc2_w {k : Nat} {v : Int64} (hd : decode (mC mi) pc = .ok (.ldc2_w k, 3)) (hv : kE (mO mi) k = some (.long v)) : Wp X d mi pc ls st ah Q = Wp X d mi (pc + 3) ls (.long v :: st) ah Q :=
  g_go hd (by show (match kE (mO mi) k with | some v => if isL v then nx (pc + 3) ls (v :: st) ah else none | none => none) = _; rw [hv]; rfl)
theorem g_getstatic {k : Nat} {v : Value} (hd : decode (mC mi) pc = .ok (.getstatic k, 3)) (hv : gE (mO mi) k = some v) : Wp X d mi pc ls st ah Q = Wp X d mi (pc + 3) ls (v :: st) ah Q :=
  g_go hd (by show (match gE (mO mi) k with | some v => nx (pc + 3) ls (v :: st) ah | none => none) = _; rw [hv])
theorem g_idiv {x y : Int32} (hd : decode (mC mi) pc = .ok (.idiv, 1)) : Wp X d mi pc ls (.int y :: .int x :: st) ah Q = (¬ y = 0 ∧ Wp X d mi (pc + 1) ls (.int (x / y) :: st) ah Q) := by
  by_cases hy : y = 0
  · rw [Wp_no ((g_stp hd).trans (by show (match (if y = 0 then none else some (x / y)) with | some z => nx (pc + 1) ls (.int z :: st) ah | none => none) = none; rw [if_pos hy]))]
    simp [hy]
  · rw [g_go hd (show stI X mi .idiv 1 pc ls (.int y :: .int x :: st) ah = nx (pc + 1) ls (.int (x / y) :: st) ah by show (match (if y = 0 then none else some (x / y)) with | some z => nx (pc + 1) ls (.int z :: st) ah | none => none) = _; rw [if_neg hy])]
    simp [hy]
theorem g_irem {x y : Int32} (hd : decode (mC mi) pc = .ok (.irem, 1)) : Wp X d mi pc ls (.int y :: .int x :: st) ah Q = (¬ y = 0 ∧ Wp X d mi (pc + 1) ls (.int (x - x / y * y) :: st) ah Q) := by
  by_cases hy : y = 0
  · rw [Wp_no ((g_stp hd).trans (by show (match (if y = 0 then none else some (x - x / y * y)) with | some z => nx (pc + 1) ls (.int z :: st) ah | none => none) = none; rw [if_pos hy]))]
    simp [hy]
  · rw [g_go hd (show stI X mi .irem 1 pc ls (.int y :: .int x :: st) ah = nx (pc + 1) ls (.int (x - x / y * y) :: st) ah by show (match (if y = 0 then none else some (x - x / y * y)) with | some z => nx (pc + 1) ls (.int z :: st) ah | none => none) = _; rw [if_neg hy])]
    simp [hy]
theorem g_ldiv {x y : Int64} (hd : decode (mC mi) pc = .ok (.ldiv, 1)) : Wp X d mi pc ls (.long y :: .long x :: st) ah Q = (¬ y = 0 ∧ Wp X d mi (pc + 1) ls (.long (x / y) :: st) ah Q) := by
  by_cases hy : y = 0
  · rw [Wp_no ((g_stp hd).trans (by show (match (if y = 0 then none else some (x / y)) with | some z => nx (pc + 1) ls (.long z :: st) ah | none => none) = none; rw [if_pos hy]))]
    simp [hy]
  · rw [g_go hd (show stI X mi .ldiv 1 pc ls (.long y :: .long x :: st) ah = nx (pc + 1) ls (.long (x / y) :: st) ah by show (match (if y = 0 then none else some (x / y)) with | some z => nx (pc + 1) ls (.long z :: st) ah | none => none) = _; rw [if_neg hy])]
    simp [hy]
theorem g_lrem {x y : Int64} (hd : decode (mC mi) pc = .ok (.lrem, 1)) : Wp X d mi pc ls (.long y :: .long x :: st) ah Q = (¬ y = 0 ∧ Wp X d mi (pc + 1) ls (.long (x - x / y * y) :: st) ah Q) := by
  by_cases hy : y = 0
  · rw [Wp_no ((g_stp hd).trans (by show (match (if y = 0 then none else some (x - x / y * y)) with | some z => nx (pc + 1) ls (.long z :: st) ah | none => none) = none; rw [if_pos hy]))]
    simp [hy]
  · rw [g_go hd (show stI X mi .lrem 1 pc ls (.long y :: .long x :: st) ah = nx (pc + 1) ls (.long (x - x / y * y) :: st) ah by show (match (if y = 0 then none else some (x - x / y * y)) with | some z => nx (pc + 1) ls (.long z :: st) ah | none => none) = _; rw [if_neg hy])]
    simp [hy]
/-- a jump on a condition -/
theorem g_br {i : Instr} {len : Nat} {b : Bool} {off : Int} {r : List Value} {pc1 : Nat} {P : Prop} (hd : decode (mC mi) pc = .ok (i, len)) (hs : stI X mi i len pc ls st ah = br b ls pc off r ah) (hj : jok pc off = true) (hp : jmp pc off = pc1) (hb : b = true ↔ P) : Wp X d mi pc ls st ah Q = ((P → Wp X d mi pc1 ls r ah Q) ∧ (¬ P → Wp X d mi (pc + 3) ls r ah Q)) := by
  subst hp
  unfold br at hs
  rw [if_pos hj] at hs
  cases b with
  | true =>
    rw [g_go hd hs]
    have : P := hb.mp rfl
    simp [this]
  | false =>
    rw [g_go hd hs]
    have : ¬ P := fun h => by have := hb.mpr h; cases this
    simp [this]
theorem g_goto {off : Int} {pc1 : Nat} (hd : decode (mC mi) pc = .ok (.goto off, 3)) (hj : jok pc off = true) (hp : jmp pc off = pc1) : Wp X d mi pc ls st ah Q = Wp X d mi pc1 ls st ah Q := by
  subst hp
  exact g_go hd (by show (if jok pc off = true then _ else _) = _; rw [if_pos hj])
theorem g_jt {i : Instr} {len : Nat} {off : Int} {r : List Value} {pc1 : Nat} (hd : decode (mC mi) pc = .ok (i, len)) (hs : stI X mi i len pc ls st ah = br true ls pc off r ah) (hj : jok pc off = true) (hp : jmp pc off = pc1) : Wp X d mi pc ls st ah Q = Wp X d mi pc1 ls r ah Q := by
  subst hp
  exact g_go hd (by rw [hs]; unfold br; rw [if_pos hj]; rfl)
theorem g_jf {i : Instr} {len : Nat} {off : Int} {r : List Value} (hd : decode (mC mi) pc = .ok (i, len)) (hs : stI X mi i len pc ls st ah = br false ls pc off r ah) (hj : jok pc off = true) : Wp X d mi pc ls st ah Q = Wp X d mi (pc + 3) ls r ah Q :=
  g_go hd (by rw [hs]; unfold br; rw [if_pos hj]; rfl)
theorem g_getf {i k a : Nat} {cis : List Nat} (hd : decode (mC mi) pc = .ok (.getfield i, 3)) (he : (fE (mO mi) i).map (fun e => (e.2.2.1, e.2.2.2.1)) = some (cis, k)) : Wp X d mi pc ls (.ref a :: st) ah Q = ob (fld ah a cis k) (fun v => Wp X d mi (pc + 3) ls (v :: st) ah Q) := by
  rw [Option.map_eq_some_iff] at he
  obtain ⟨e, h1, h2⟩ := he
  cases h2
  have hs : stI X mi (.getfield i) 3 pc ls (.ref a :: st) ah = match fld ah a e.2.2.1 e.2.2.2.1 with | some v => nx (pc + 3) ls (v :: st) ah | none => none := by
    show gtF mi i pc ls (.ref a :: st) ah = _
    unfold gtF
    dsimp only
    rw [h1]
    rfl
  cases hf : fld ah a e.2.2.1 e.2.2.2.1 with
  | none => rw [hf] at hs; rw [Wp_no ((g_stp hd).trans hs)]; rfl
  | some v => rw [hf] at hs; rw [g_go hd hs]; rfl
theorem g_getx {i z a : Nat} (hd : decode (mC mi) pc = .ok (.getfield i, 3)) (he : fE (mO mi) i = none) (hx : xE (mO mi) i = some z) : Wp X d mi pc ls (.ref a :: st) ah Q = ob (exF z a) (fun v => Wp X d mi (pc + 3) ls (v :: st) ah Q) := by
  have hs : stI X mi (.getfield i) 3 pc ls (.ref a :: st) ah = match exF z a with | some v => nx (pc + 3) ls (v :: st) ah | none => none := by
    show gtF mi i pc ls (.ref a :: st) ah = _
    unfold gtF
    dsimp only
    rw [he, hx]
    rfl
  cases hf : exF z a with
  | none => rw [hf] at hs; rw [Wp_no ((g_stp hd).trans hs)]; rfl
  | some v => rw [hf] at hs; rw [g_go hd hs]; rfl
theorem g_putf {i k a : Nat} {cis : List Nat} {ty : FieldType} {v : Value} (hd : decode (mC mi) pc = .ok (.putfield i, 3)) (he : (fE (mO mi) i).map (fun e => (e.2.2.1, e.2.2.2.1, e.2.2.2.2.2.2.2.2.2.1, (!e.2.2.2.2.2.1 || (decide ((mY mi).name = "<init>") && decide (e.2.2.2.2.2.2.1 = (mY mi).cls) && !e.2.2.2.2.1)))) = some (cis, k, ty, true)) (hv : okty ty v = true) : Wp X d mi pc ls (v :: .ref a :: st) ah Q = ob (fld ah a cis k) (fun _ => Wp X d mi (pc + 3) ls st (setF ah a k v) Q) := by
  rw [Option.map_eq_some_iff] at he
  obtain ⟨e, h1, h2⟩ := he
  simp only [Prod.mk.injEq] at h2
  obtain ⟨rfl, rfl, rfl, h3⟩ := h2
  have hs : stI X mi (.putfield i) 3 pc ls (v :: .ref a :: st) ah = if (fld ah a e.2.2.1 e.2.2.2.1).isSome = true then nx (pc + 3) ls st (setF ah a e.2.2.2.1 v) else none := by
    show ptF mi i pc ls (v :: .ref a :: st) ah = _
    unfold ptF
    dsimp only
    rw [h1]
    dsimp only
    rw [hv, h3, Bool.and_true, Bool.and_true]
  cases hf : fld ah a e.2.2.1 e.2.2.2.1 with
  | none => rw [hf] at hs; rw [Wp_no ((g_stp hd).trans hs)]; rfl
  | some w => rw [hf] at hs; rw [g_go hd hs]; rfl
theorem g_iald {i : Int32} {a : Nat} (hd : decode (mC mi) pc = .ok (.iaload, 1)) : Wp X d mi pc ls (.int i :: .ref a :: st) ah Q = ob (arI X ah a) (fun q => inb i q.1 = true ∧ Wp X d mi (pc + 1) ls (.int (q.2 i.toNatClampNeg) :: st) ah Q) := by
  have hs : stI X mi .iaload 1 pc ls (.int i :: .ref a :: st) ah = match arI X ah a with | some q => if inb i q.1 then nx (pc + 1) ls (.int (q.2 i.toNatClampNeg) :: st) ah else none | none => none := rfl
  cases hf : arI X ah a with
  | none => rw [hf] at hs; rw [Wp_no ((g_stp hd).trans hs)]; rfl
  | some w =>
    rw [hf] at hs
    dsimp only at hs
    cases hi : inb i w.1 with
    | false => rw [hi] at hs; rw [Wp_no ((g_stp hd).trans hs)]; simp [ob, hi]
    | true => rw [hi] at hs; rw [g_go hd hs]; simp [ob, hi]
theorem g_lald {i : Int32} {a : Nat} (hd : decode (mC mi) pc = .ok (.laload, 1)) : Wp X d mi pc ls (.int i :: .ref a :: st) ah Q = ob (arL ah a) (fun q => inb i q.1 = true ∧ Wp X d mi (pc + 1) ls (.long (q.2 i.toNatClampNeg) :: st) ah Q) := by
  have hs : stI X mi .laload 1 pc ls (.int i :: .ref a :: st) ah = match arL ah a with | some q => if inb i q.1 then nx (pc + 1) ls (.long (q.2 i.toNatClampNeg) :: st) ah else none | none => none := rfl
  cases hf : arL ah a with
  | none => rw [hf] at hs; rw [Wp_no ((g_stp hd).trans hs)]; rfl
  | some w =>
    rw [hf] at hs
    dsimp only at hs
    cases hi : inb i w.1 with
    | false => rw [hi] at hs; rw [Wp_no ((g_stp hd).trans hs)]; simp [ob, hi]
    | true => rw [hi] at hs; rw [g_go hd hs]; simp [ob, hi]
theorem g_bald {i : Int32} {a : Nat} (hd : decode (mC mi) pc = .ok (.baload, 1)) : Wp X d mi pc ls (.int i :: .ref a :: st) ah Q = ob (arB ah a) (fun q => inb i q.1 = true ∧ Wp X d mi (pc + 1) ls (.int (q.2 i.toNatClampNeg) :: st) ah Q) := by
  have hs : stI X mi .baload 1 pc ls (.int i :: .ref a :: st) ah = match arB ah a with | some q => if inb i q.1 then nx (pc + 1) ls (.int (q.2 i.toNatClampNeg) :: st) ah else none | none => none := rfl
  cases hf : arB ah a with
  | none => rw [hf] at hs; rw [Wp_no ((g_stp hd).trans hs)]; rfl
  | some w =>
    rw [hf] at hs
    dsimp only at hs
    cases hi : inb i w.1 with
    | false => rw [hi] at hs; rw [Wp_no ((g_stp hd).trans hs)]; simp [ob, hi]
    | true => rw [hi] at hs; rw [g_go hd hs]; simp [ob, hi]
theorem g_aald {i : Int32} {a : Nat} (hd : decode (mC mi) pc = .ok (.aaload, 1)) : Wp X d mi pc ls (.int i :: .ref a :: st) ah Q = ob (arQ ah a) (fun q => inb i q.2.1 = true ∧ Wp X d mi (pc + 1) ls (va_rf (q.2.2 i.toNatClampNeg) :: st) ah Q) := by
  have hs : stI X mi .aaload 1 pc ls (.int i :: .ref a :: st) ah = match arQ ah a with | some q => if inb i q.2.1 then nx (pc + 1) ls (va_rf (q.2.2 i.toNatClampNeg) :: st) ah else none | none => none := rfl
  cases hf : arQ ah a with
  | none => rw [hf] at hs; rw [Wp_no ((g_stp hd).trans hs)]; rfl
  | some w =>
    rw [hf] at hs
    dsimp only at hs
    cases hi : inb i w.2.1 with
    | false => rw [hi] at hs; rw [Wp_no ((g_stp hd).trans hs)]; simp [ob, hi]
    | true => rw [hi] at hs; rw [g_go hd hs]; simp [ob, hi]
theorem g_iast {i x : Int32} {a : Nat} (hd : decode (mC mi) pc = .ok (.iastore, 1)) : Wp X d mi pc ls (.int x :: .int i :: .ref a :: st) ah Q = ob (arW ah a) (fun q => inb i q.1 = true ∧ Wp X d mi (pc + 1) ls st (setI ah a q.1 (upd q.2 i.toNatClampNeg x)) Q) := by
  have hs : stI X mi .iastore 1 pc ls (.int x :: .int i :: .ref a :: st) ah = match arW ah a with | some q => if inb i q.1 then nx (pc + 1) ls st (setI ah a q.1 (upd q.2 i.toNatClampNeg x)) else none | none => none := rfl
  cases hf : arW ah a with
  | none => rw [hf] at hs; rw [Wp_no ((g_stp hd).trans hs)]; rfl
  | some w =>
    rw [hf] at hs
    dsimp only at hs
    cases hi : inb i w.1 with
    | false => rw [hi] at hs; rw [Wp_no ((g_stp hd).trans hs)]; simp [ob, hi]
    | true => rw [hi] at hs; rw [g_go hd hs]; simp [ob, hi]
theorem g_last {i : Int32} {x : Int64} {a : Nat} (hd : decode (mC mi) pc = .ok (.lastore, 1)) : Wp X d mi pc ls (.long x :: .int i :: .ref a :: st) ah Q = ob (arL ah a) (fun q => inb i q.1 = true ∧ Wp X d mi (pc + 1) ls st (setL ah a q.1 (vp_updL q.2 i.toNatClampNeg x)) Q) := by
  have hs : stI X mi .lastore 1 pc ls (.long x :: .int i :: .ref a :: st) ah = match arL ah a with | some q => if inb i q.1 then nx (pc + 1) ls st (setL ah a q.1 (vp_updL q.2 i.toNatClampNeg x)) else none | none => none := rfl
  cases hf : arL ah a with
  | none => rw [hf] at hs; rw [Wp_no ((g_stp hd).trans hs)]; rfl
  | some w =>
    rw [hf] at hs
    dsimp only at hs
    cases hi : inb i w.1 with
    | false => rw [hi] at hs; rw [Wp_no ((g_stp hd).trans hs)]; simp [ob, hi]
    | true => rw [hi] at hs; rw [g_go hd hs]; simp [ob, hi]
theorem g_bast {i x : Int32} {a : Nat} (hd : decode (mC mi) pc = .ok (.bastore, 1)) : Wp X d mi pc ls (.int x :: .int i :: .ref a :: st) ah Q = ob (arZ ah a) (fun q => inb i q.1 = true ∧ Wp X d mi (pc + 1) ls st (setZ ah a q.1 (upd q.2 i.toNatClampNeg (vp_nar .boolean x))) Q) := by
  have hs : stI X mi .bastore 1 pc ls (.int x :: .int i :: .ref a :: st) ah = match arZ ah a with | some q => if inb i q.1 then nx (pc + 1) ls st (setZ ah a q.1 (upd q.2 i.toNatClampNeg (vp_nar .boolean x))) else none | none => none := rfl
  cases hf : arZ ah a with
  | none => rw [hf] at hs; rw [Wp_no ((g_stp hd).trans hs)]; rfl
  | some w =>
    rw [hf] at hs
    dsimp only at hs
    cases hi : inb i w.1 with
    | false => rw [hi] at hs; rw [Wp_no ((g_stp hd).trans hs)]; simp [ob, hi]
    | true => rw [hi] at hs; rw [g_go hd hs]; simp [ob, hi]
theorem g_aast {i : Int32} {a v : Nat} (hd : decode (mC mi) pc = .ok (.aastore, 1)) : Wp X d mi pc ls (.ref v :: .int i :: .ref a :: st) ah Q = ob (arQ ah a) (fun q => ob (rcO ah v) (fun ci => (inb i q.2.1 && okel q.1 ci) = true ∧ Wp X d mi (pc + 1) ls st (setQ ah a q.1 q.2.1 (va_up q.2.2 i.toNatClampNeg (some v))) Q)) := by
  have hs : stI X mi .aastore 1 pc ls (.ref v :: .int i :: .ref a :: st) ah = match arQ ah a with | some q => (match rcO ah v with | some ci => if inb i q.2.1 && okel q.1 ci then nx (pc + 1) ls st (setQ ah a q.1 q.2.1 (va_up q.2.2 i.toNatClampNeg (some v))) else none | none => none) | none => none := rfl
  cases hf : arQ ah a with
  | none => rw [hf] at hs; rw [Wp_no ((g_stp hd).trans hs)]; rfl
  | some w =>
    rw [hf] at hs
    dsimp only at hs
    cases hr : rcO ah v with
    | none => rw [hr] at hs; rw [Wp_no ((g_stp hd).trans hs)]; rfl
    | some ci =>
      rw [hr] at hs
      dsimp only at hs
      cases hi : (inb i w.2.1 && okel w.1 ci) with
      | false => rw [hi] at hs; rw [Wp_no ((g_stp hd).trans hs)]; simp [ob, hi]
      | true => rw [hi] at hs; rw [g_go hd hs]; simp [ob, hi]
theorem g_alen {a : Nat} (hd : decode (mC mi) pc = .ok (.arraylength, 1)) : Wp X d mi pc ls (.ref a :: st) ah Q = ob (arN X ah a) (fun n => Wp X d mi (pc + 1) ls (.int (Int32.ofNat n) :: st) ah Q) := by
  have hs : stI X mi .arraylength 1 pc ls (.ref a :: st) ah = match arN X ah a with | some n => nx (pc + 1) ls (.int (Int32.ofNat n) :: st) ah | none => none := rfl
  cases hf : arN X ah a with
  | none => rw [hf] at hs; rw [Wp_no ((g_stp hd).trans hs)]; rfl
  | some v => rw [hf] at hs; rw [g_go hd hs]; rfl
theorem g_new {i ci : Nat} (hd : decode (mC mi) pc = .ok (.new i, 3)) (he : nE (mO mi) i = some ci) : Wp X d mi pc ls st ah Q = (ah.length < lim ∧ Wp X d mi (pc + 3) ls (.ref ah.length :: st) (ah ++ [.inr (ci, DF.getD ci [])]) Q) := by
  have hs : stI X mi (.new i) 3 pc ls st ah = if ah.length < lim then nx (pc + 3) ls (.ref ah.length :: st) (ah ++ [.inr (ci, DF.getD ci [])]) else none := by
    show newO mi i pc ls st ah = _
    unfold newO
    rw [he]
  by_cases h : ah.length < lim
  · rw [if_pos h] at hs; rw [g_go hd hs]; simp [h]
  · rw [if_neg h] at hs; rw [Wp_no ((g_stp hd).trans hs)]; simp [h]
theorem g_newa {ty : ArrayType} {n : Int32} {e : va_E} (hd : decode (mC mi) pc = .ok (.newarray ty, 2)) (hs : newA ty pc ls (.int n :: st) ah = if !(decide (n < 0)) && decide (n.toNatClampNeg ≤ 60000) && decide (ah.length < lim) then nx (pc + 2) ls (.ref ah.length :: st) (ah ++ [e]) else none) (hn : (!(decide (n < 0)) && decide (n.toNatClampNeg ≤ 60000)) = true) : Wp X d mi pc ls (.int n :: st) ah Q = (ah.length < lim ∧ Wp X d mi (pc + 2) ls (.ref ah.length :: st) (ah ++ [e]) Q) := by
  rw [hn, Bool.true_and] at hs
  have hs : stI X mi (.newarray ty) 2 pc ls (.int n :: st) ah = _ := hs
  by_cases h : ah.length < lim
  · rw [decide_eq_true h] at hs; rw [g_go hd hs]; simp [h]
  · rw [decide_eq_false h] at hs; rw [Wp_no ((g_stp hd).trans hs)]; simp [h]
theorem g_newq {i t : Nat} {n : Int32} (hd : decode (mC mi) pc = .ok (.anewarray i, 3)) (he : aE (mO mi) i = some t) (hn : (!(decide (n < 0)) && decide (n.toNatClampNeg ≤ 60000)) = true) : Wp X d mi pc ls (.int n :: st) ah Q = (ah.length < lim ∧ Wp X d mi (pc + 3) ls (.ref ah.length :: st) (ah ++ [.inl (t, n.toNatClampNeg, .inr (.inr (.inr (.inr (fun _ => none)))))]) Q) := by
  have hs : stI X mi (.anewarray i) 3 pc ls (.int n :: st) ah = if !(decide (n < 0)) && decide (n.toNatClampNeg ≤ 60000) && decide (ah.length < lim) then nx (pc + 3) ls (.ref ah.length :: st) (ah ++ [.inl (t, n.toNatClampNeg, .inr (.inr (.inr (.inr (fun _ => none)))))]) else none := by
    show newQ mi i pc ls (.int n :: st) ah = _
    unfold newQ
    rw [he]
  rw [hn, Bool.true_and] at hs
  by_cases h : ah.length < lim
  · rw [decide_eq_true h] at hs; rw [g_go hd hs]; simp [h]
  · rw [decide_eq_false h] at hs; rw [Wp_no ((g_stp hd).trans hs)]; simp [h]
theorem g_inst {i a : Nat} {yes no : List Nat} (hd : decode (mC mi) pc = .ok (.instanceof i, 3)) (he : iE (mO mi) i = some (yes, no)) : Wp X d mi pc ls (.ref a :: st) ah Q = ob (rcO ah a) (fun ci => if ci ∈ yes then Wp X d mi (pc + 3) ls (.int 1 :: st) ah Q else if ci ∈ no then Wp X d mi (pc + 3) ls (.int 0 :: st) ah Q else False) := by
  have hs : stI X mi (.instanceof i) 3 pc ls (.ref a :: st) ah = match rcO ah a with | some ci => (if ci ∈ yes then nx (pc + 3) ls (.int 1 :: st) ah else if ci ∈ no then nx (pc + 3) ls (.int 0 :: st) ah else none) | none => none := by
    show inst mi i pc ls (.ref a :: st) ah = _
    unfold inst
    rw [he]
    rfl
  cases hf : rcO ah a with
  | none => rw [hf] at hs; rw [Wp_no ((g_stp hd).trans hs)]; rfl
  | some ci =>
    rw [hf] at hs
    dsimp only at hs
    show _ = if ci ∈ yes then _ else _
    by_cases h1 : ci ∈ yes
    · rw [if_pos h1] at hs ⊢; exact g_go hd hs
    · rw [if_neg h1] at hs ⊢
      by_cases h2 : ci ∈ no
      · rw [if_pos h2] at hs ⊢; exact g_go hd hs
      · rw [if_neg h2] at hs ⊢; exact Wp_no ((g_stp hd).trans hs)
theorem g_instn {i : Nat} {yes no : List Nat} (hd : decode (mC mi) pc = .ok (.instanceof i, 3)) (he : iE (mO mi) i = some (yes, no)) : Wp X d mi pc ls (.null :: st) ah Q = Wp X d mi (pc + 3) ls (.int 0 :: st) ah Q :=
  g_go hd (by show inst mi i pc ls (.null :: st) ah = _; unfold inst; rw [he])
theorem g_cast {i a : Nat} {yes no : List Nat} (hd : decode (mC mi) pc = .ok (.checkcast i, 3)) (he : iE (mO mi) i = some (yes, no)) : Wp X d mi pc ls (.ref a :: st) ah Q = ob (rcO ah a) (fun ci => if ci ∈ yes then Wp X d mi (pc + 3) ls (.ref a :: st) ah Q else False) := by
  have hs : stI X mi (.checkcast i) 3 pc ls (.ref a :: st) ah = match rcO ah a with | some ci => (if ci ∈ yes then nx (pc + 3) ls (.ref a :: st) ah else none) | none => none := by
    show cast mi i pc ls (.ref a :: st) ah = _
    unfold cast
    rw [he]
    rfl
  cases hf : rcO ah a with
  | none => rw [hf] at hs; rw [Wp_no ((g_stp hd).trans hs)]; rfl
  | some ci =>
    rw [hf] at hs
    dsimp only at hs
    show _ = if ci ∈ yes then _ else _
    by_cases h1 : ci ∈ yes
    · rw [if_pos h1] at hs ⊢; exact g_go hd hs
    · rw [if_neg h1] at hs ⊢; exact Wp_no ((g_stp hd).trans hs)
/-- a switch, at a number of its range and beyond -/
theorem g_tin {dflt lo hi : Int} {offs : Array Int} {len : Nat} {x : Int32} {off : Int} {pc1 : Nat} (hd : decode (mC mi) pc = .ok (.tableswitch dflt lo hi offs, len)) (h1 : ¬ (x.toInt < lo ∨ hi < x.toInt)) (ho : offs[(x.toInt - lo).toNat]? = some off) (hj : jok pc off = true) (hp : jmp pc off = pc1) : Wp X d mi pc ls (.int x :: st) ah Q = Wp X d mi pc1 ls st ah Q := by
  subst hp
  refine g_go hd ?_
  show tsw dflt lo hi offs pc ls (.int x :: st) ah = _
  unfold tsw
  dsimp only
  rw [if_neg h1, ho]
  dsimp only
  rw [if_pos hj]
theorem g_tout {dflt lo hi : Int} {offs : Array Int} {len : Nat} {x : Int32} {pc1 : Nat} (hd : decode (mC mi) pc = .ok (.tableswitch dflt lo hi offs, len)) (h1 : x.toInt < lo ∨ hi < x.toInt) (hj : jok pc dflt = true) (hp : jmp pc dflt = pc1) : Wp X d mi pc ls (.int x :: st) ah Q = Wp X d mi pc1 ls st ah Q := by
  subst hp
  refine g_go hd ?_
  show tsw dflt lo hi offs pc ls (.int x :: st) ah = _
  unfold tsw
  dsimp only
  rw [if_pos h1, if_pos hj]
theorem g_callV {i a na ci m2 : Nat} {as r : List Value} (hd : decode (mC mi) pc = .ok (.invokevirtual i, 3)) (he : (cE (mO mi) i).map (fun e => (e.2.2.1, e.2.2.2.1, e.2.2.2.2.1.map (fun q => (q.1, q.2.1)))) = some (0, na, [(ci, m2)])) (hl : as.length = na) (hw : stW r ≤ 8) : Wp X (d + 1) mi pc ls (as ++ .ref a :: r) ah Q = (rcv ah a = some ci ∧ Cl X d m2 (.ref a :: as.reverse) ah (fun v h => Wp X (d + 1) mi (pc + 3) ls (v.toList ++ r) h Q)) := by
  rw [Option.map_eq_some_iff] at he
  obtain ⟨e, h1, h2⟩ := he
  simp only [Prod.mk.injEq] at h2
  obtain ⟨h3, h4, h5⟩ := h2
  subst hl
  have e1 : (as ++ .ref a :: r).drop e.2.2.2.1 = .ref a :: r := by rw [h4, List.drop_left]
  have e2 : (as ++ .ref a :: r).take e.2.2.2.1 = as := by rw [h4, List.take_left]
  have hs : stI X mi (.invokevirtual i) 3 pc ls (as ++ .ref a :: r) ah = match rcv ah a with | some c => callTo (e.2.2.2.2.1.find? (fun q => q.1 == c)) (.ref a :: as.reverse) pc r | none => none := by
    show iV mi i pc (as ++ .ref a :: r) ah = _
    unfold iV
    rw [h1]
    dsimp only
    rw [if_pos h3, e1, e2]
    rfl
  obtain ⟨t, ht, hq⟩ : ∃ t, e.2.2.2.2.1 = [t] ∧ (t.1, t.2.1) = (ci, m2) := by
    match e.2.2.2.2.1, h5 with
    | [t], h5 => exact ⟨t, rfl, by simpa using h5⟩
  cases hq
  cases hr : rcv ah a with
  | none => rw [hr] at hs; rw [Wp_no ((g_stp hd).trans hs)]; simp
  | some c =>
    rw [hr, ht] at hs
    dsimp only at hs
    by_cases hc : t.1 = c
    · subst hc
      have : stI X mi (.invokevirtual i) 3 pc ls (as ++ .ref a :: r) ah = some (.inr (.inr (t.2.1, .ref a :: as.reverse, pc + 3, r))) := by
        rw [hs]
        simp [callTo, hw]
      rw [Wp_call ((g_stp hd).trans this)]
      simp
    · have : stI X mi (.invokevirtual i) 3 pc ls (as ++ .ref a :: r) ah = none := by
        rw [hs]
        have : (t.1 == c) = false := by simpa using hc
        simp [callTo, this]
      rw [Wp_no ((g_stp hd).trans this)]
      have h9 : ¬ some c = some t.1 := fun h => hc (Option.some.inj h).symm
      simp [h9]
/-- a call whose method the receiver's class chooses -/
theorem g_callU {i a na : Nat} {tg : List (Nat × Nat)} {as r : List Value} (hd : decode (mC mi) pc = .ok (.invokevirtual i, 3)) (he : (cE (mO mi) i).map (fun e => (e.2.2.1, e.2.2.2.1, e.2.2.2.2.1.map (fun q => (q.1, q.2.1)))) = some (0, na, tg)) (hl : as.length = na) (hw : stW r ≤ 8) : Wp X (d + 1) mi pc ls (as ++ .ref a :: r) ah Q = ob (rcv ah a) (fun c => ob (tg.find? (fun q => q.1 == c)) (fun q => Cl X d q.2 (.ref a :: as.reverse) ah (fun v h => Wp X (d + 1) mi (pc + 3) ls (v.toList ++ r) h Q))) := by
  rw [Option.map_eq_some_iff] at he
  obtain ⟨e, h1, h2⟩ := he
  simp only [Prod.mk.injEq] at h2
  obtain ⟨h3, h4, h5⟩ := h2
  subst hl
  have e1 : (as ++ .ref a :: r).drop e.2.2.2.1 = .ref a :: r := by rw [h4, List.drop_left]
  have e2 : (as ++ .ref a :: r).take e.2.2.2.1 = as := by rw [h4, List.take_left]
  have hs : stI X mi (.invokevirtual i) 3 pc ls (as ++ .ref a :: r) ah = match rcv ah a with | some c => callTo (e.2.2.2.2.1.find? (fun q => q.1 == c)) (.ref a :: as.reverse) pc r | none => none := by
    show iV mi i pc (as ++ .ref a :: r) ah = _
    unfold iV
    rw [h1]
    dsimp only
    rw [if_pos h3, e1, e2]
    rfl
  cases hr : rcv ah a with
  | none => rw [hr] at hs; rw [Wp_no ((g_stp hd).trans hs)]; rfl
  | some c =>
    rw [hr] at hs
    dsimp only at hs
    have h6 : tg.find? (fun q => q.1 == c) = (e.2.2.2.2.1.find? (fun q => q.1 == c)).map (fun q => (q.1, q.2.1)) := by
      rw [← h5, List.find?_map]
      rfl
    show _ = ob (tg.find? (fun q => q.1 == c)) _
    rw [h6]
    cases hq : e.2.2.2.2.1.find? (fun q => q.1 == c) with
    | none => rw [hq] at hs; rw [Wp_no ((g_stp hd).trans hs)]; rfl
    | some t =>
      rw [hq] at hs
      have : stI X mi (.invokevirtual i) 3 pc ls (as ++ .ref a :: r) ah = some (.inr (.inr (t.2.1, .ref a :: as.reverse, pc + 3, r))) := by
        rw [hs]
        simp [callTo, hw]
      rw [Wp_call ((g_stp hd).trans this)]
      rfl
theorem g_callS {i na m2 : Nat} {as r : List Value} (hd : decode (mC mi) pc = .ok (.invokestatic i, 3)) (he : (cE (mO mi) i).map (fun e => (e.2.2.1, e.2.2.2.1, e.2.2.2.2.1.head?.map (fun q => q.2.1), decide (e.2.2.2.2.2.1 = 9))) = some (2, na, some m2, false)) (hl : as.length = na) (hw : stW r ≤ 8) : Wp X (d + 1) mi pc ls (as ++ r) ah Q = Cl X d m2 as.reverse ah (fun v h => Wp X (d + 1) mi (pc + 3) ls (v.toList ++ r) h Q) := by
  rw [Option.map_eq_some_iff] at he
  obtain ⟨e, h1, h2⟩ := he
  simp only [Prod.mk.injEq] at h2
  obtain ⟨h3, h4, h5, h6⟩ := h2
  subst hl
  rw [Option.map_eq_some_iff] at h5
  obtain ⟨t, h7, h8⟩ := h5
  subst h8
  have e1 : (as ++ r).drop e.2.2.2.1 = r := by rw [h4, List.drop_left]
  have e2 : (as ++ r).take e.2.2.2.1 = as := by rw [h4, List.take_left]
  have hs : stI X mi (.invokestatic i) 3 pc ls (as ++ r) ah = some (.inr (.inr (t.2.1, as.reverse, pc + 3, r))) := by
    show iS mi i pc ls (as ++ r) ah = _
    unfold iS
    rw [h1]
    dsimp only
    rw [if_pos h3, if_neg (of_decide_eq_false h6), if_pos (by rw [h4, List.length_append]; exact Nat.le_add_right _ _), e1, e2, h7]
    simp [callTo, hw]
  exact Wp_call ((g_stp hd).trans hs)
theorem g_callP {i a na m2 : Nat} {as r : List Value} (hd : decode (mC mi) pc = .ok (.invokespecial i, 3)) (he : (cE (mO mi) i).map (fun e => (e.2.2.1, e.2.2.2.1, e.2.2.2.2.1.head?.map (fun q => q.2.1), decide (e.2.2.2.2.2.1 = 8))) = some (1, na, some m2, false)) (hl : as.length = na) (hw : stW r ≤ 8) : Wp X (d + 1) mi pc ls (as ++ .ref a :: r) ah Q = Cl X d m2 (.ref a :: as.reverse) ah (fun v h => Wp X (d + 1) mi (pc + 3) ls (v.toList ++ r) h Q) := by
  rw [Option.map_eq_some_iff] at he
  obtain ⟨e, h1, h2⟩ := he
  simp only [Prod.mk.injEq] at h2
  obtain ⟨h3, h4, h5, h6⟩ := h2
  subst hl
  rw [Option.map_eq_some_iff] at h5
  obtain ⟨t, h7, h8⟩ := h5
  subst h8
  have e1 : (as ++ .ref a :: r).drop e.2.2.2.1 = .ref a :: r := by rw [h4, List.drop_left]
  have e2 : (as ++ .ref a :: r).take e.2.2.2.1 = as := by rw [h4, List.take_left]
  have hs : stI X mi (.invokespecial i) 3 pc ls (as ++ .ref a :: r) ah = some (.inr (.inr (t.2.1, .ref a :: as.reverse, pc + 3, r))) := by
    show iP mi i pc ls (as ++ .ref a :: r) ah = _
    unfold iP
    rw [h1]
    dsimp only
    rw [if_pos h3, if_neg (of_decide_eq_false h6), e1, e2, h7]
    simp [callTo, hw]
  exact Wp_call ((g_stp hd).trans hs)
theorem g_obj {i a : Nat} {r : List Value} (hd : decode (mC mi) pc = .ok (.invokespecial i, 3)) (he : (cE (mO mi) i).map (fun e => (e.2.2.1, decide (e.2.2.2.2.2.1 = 8))) = some (1, true)) (hw : stW r ≤ 8) : Wp X d mi pc ls (.ref a :: r) ah Q = Wp X d mi (pc + 3) ls r ah Q := by
  rw [Option.map_eq_some_iff] at he
  obtain ⟨e, h1, h2⟩ := he
  simp only [Prod.mk.injEq] at h2
  obtain ⟨h3, h6⟩ := h2
  refine g_go hd ?_
  show iP mi i pc ls (.ref a :: r) ah = _
  unfold iP
  rw [h1]
  dsimp only
  rw [if_pos h3, if_pos (of_decide_eq_true h6), if_pos hw]
theorem g_cpy {i a b : Nat} {n dp sp : Int32} {r : List Value} (hd : decode (mC mi) pc = .ok (.invokestatic i, 3)) (he : (cE (mO mi) i).map (fun e => (e.2.2.1, decide (e.2.2.2.2.2.1 = 9))) = some (2, true)) (hw : stW r ≤ 8) (hn : (!(decide (sp < 0)) && !(decide (dp < 0)) && !(decide (n < 0))) = true) : Wp X d mi pc ls (.int n :: .int dp :: .ref b :: .int sp :: .ref a :: r) ah Q = ob (arW ah a) (fun f => ob (arW ah b) (fun g => sp.toNatClampNeg + n.toNatClampNeg ≤ f.1 ∧ dp.toNatClampNeg + n.toNatClampNeg ≤ g.1 ∧ Wp X d mi (pc + 3) ls r (setI ah b g.1 (va_cpy f.2 g.2 sp.toNatClampNeg dp.toNatClampNeg n.toNatClampNeg)) Q)) := by
  rw [Option.map_eq_some_iff] at he
  obtain ⟨e, h1, h2⟩ := he
  simp only [Prod.mk.injEq] at h2
  obtain ⟨h3, h6⟩ := h2
  have hs : stI X mi (.invokestatic i) 3 pc ls (.int n :: .int dp :: .ref b :: .int sp :: .ref a :: r) ah = aycp pc ls (.int n :: .int dp :: .ref b :: .int sp :: .ref a :: r) ah := by
    show iS mi i pc ls _ ah = _
    unfold iS
    rw [h1]
    dsimp only
    rw [if_pos h3, if_pos (of_decide_eq_true h6)]
  unfold aycp at hs
  dsimp only at hs
  simp only [hn, Bool.true_and, decide_eq_true hw, Bool.and_true] at hs
  cases hf : arW ah a with
  | none => rw [hf] at hs; rw [Wp_no ((g_stp hd).trans hs)]; rfl
  | some f =>
    cases hg : arW ah b with
    | none => rw [hf, hg] at hs; rw [Wp_no ((g_stp hd).trans hs)]; rfl
    | some g =>
      rw [hf, hg] at hs
      dsimp only at hs
      show _ = (_ ∧ _ ∧ _)
      by_cases h7 : sp.toNatClampNeg + n.toNatClampNeg ≤ f.1
      · by_cases h8 : dp.toNatClampNeg + n.toNatClampNeg ≤ g.1
        · rw [decide_eq_true h7, decide_eq_true h8] at hs
          rw [g_go hd hs]
          simp [h7, h8, setI]
        · rw [decide_eq_true h7, decide_eq_false h8] at hs
          rw [Wp_no ((g_stp hd).trans hs)]
          simp [h7, h8]
      · rw [decide_eq_false h7] at hs
        rw [Wp_no ((g_stp hd).trans hs)]
        simp [h7]
theorem g_iret {v : Int32} {ty : FieldType} (hd : decode (mC mi) pc = .ok (.ireturn, 1)) (hr : mR mi = some ty) : Wp X d mi pc ls [.int v] ah Q = (narrow ty (.int v) = .int v ∧ Q (some (.int v)) ah) := by
  have hs : stI X mi .ireturn 1 pc ls [.int v] ah = if narrow ty (.int v) = .int v then some (.inr (.inl (some (.int v)))) else none := by
    show rtI mi [.int v] = _
    unfold rtI
    dsimp only
    rw [hr]
  by_cases h : narrow ty (.int v) = .int v
  · rw [if_pos h] at hs; rw [Wp_rt ((g_stp hd).trans hs)]; simp [h]
  · rw [if_neg h] at hs; rw [Wp_no ((g_stp hd).trans hs)]; simp [h]
theorem g_iri {v : Int32} (hd : decode (mC mi) pc = .ok (.ireturn, 1)) (hr : mR mi = some .int) : Wp X d mi pc ls [.int v] ah Q = Q (some (.int v)) ah := by
  rw [g_iret hd hr]
  exact propext ⟨fun h => h.2, fun h => ⟨rfl, h⟩⟩
theorem g_irz {v : Int32} (hd : decode (mC mi) pc = .ok (.ireturn, 1)) (hr : mR mi = some .boolean) : Wp X d mi pc ls [.int v] ah Q = (v &&& 1 = v ∧ Q (some (.int v)) ah) := by
  rw [g_iret hd hr]
  exact propext ⟨fun h => ⟨Value.int.inj h.1, h.2⟩, fun h => ⟨congrArg Value.int h.1, h.2⟩⟩
theorem g_lret {v : Int64} (hd : decode (mC mi) pc = .ok (.lreturn, 1)) (hr : mR mi = some .long) : Wp X d mi pc ls [.long v] ah Q = Q (some (.long v)) ah :=
  Wp_rt ((g_stp hd).trans (by show rtL mi [.long v] = _; unfold rtL; dsimp only; rw [if_pos hr]))
theorem g_aret {v : Value} (hd : decode (mC mi) pc = .ok (.areturn, 1)) (hr : isOb (mR mi) = true) (hv : isA v = true) : Wp X d mi pc ls [v] ah Q = Q (some v) ah :=
  Wp_rt ((g_stp hd).trans (by show rtA mi [v] = _; unfold rtA; dsimp only; rw [hr, hv]; rfl))
theorem g_vret (hd : decode (mC mi) pc = .ok (.return_, 1)) (hr : mR mi = none) : Wp X d mi pc ls [] ah Q = Q none ah :=
  Wp_rt ((g_stp hd).trans (by show rtV mi [] = _; unfold rtV; rw [if_pos hr]))
end RW
section RW2
variable {X : XS} {d mi pc : Nat} {ls : LV} {st : List Value} {ah : AH} {Q : Option Value → AH → Prop}
/-- a step on a condition of the locals -/
theorem g_c {i : Instr} {len pc' : Nat} {ls' : LV} {st' : List Value} {ah' : AH} {b : Bool} (hd : decode (mC mi) pc = .ok (i, len)) (hs : stI X mi i len pc ls st ah = if b = true then nx pc' ls' st' ah' else none) : Wp X d mi pc ls st ah Q = (b = true ∧ Wp X d mi pc' ls' st' ah' Q) := by
  cases b with
  | true => rw [g_go hd (hs.trans (if_pos rfl))]; simp
  | false => rw [Wp_no ((g_stp hd).trans (hs.trans (if_neg (by decide))))]; simp
theorem g_putz {i k a : Nat} {cis : List Nat} {ty : FieldType} {v : Value} {b : Bool} (hd : decode (mC mi) pc = .ok (.putfield i, 3)) (he : (fE (mO mi) i).map (fun e => (e.2.2.1, e.2.2.2.1, e.2.2.2.2.2.2.2.2.2.1, (!e.2.2.2.2.2.1 || (decide ((mY mi).name = "<init>") && decide (e.2.2.2.2.2.2.1 = (mY mi).cls) && !e.2.2.2.2.1)))) = some (cis, k, ty, true)) (hv : okty ty v = b) : Wp X d mi pc ls (v :: .ref a :: st) ah Q = (b = true ∧ ob (fld ah a cis k) (fun _ => Wp X d mi (pc + 3) ls st (setF ah a k v) Q)) := by
  cases b with
  | true => rw [g_putf hd he hv]; simp
  | false =>
    rw [Option.map_eq_some_iff] at he
    obtain ⟨e, h1, h2⟩ := he
    simp only [Prod.mk.injEq] at h2
    obtain ⟨rfl, rfl, rfl, h3⟩ := h2
    have hs : stI X mi (.putfield i) 3 pc ls (v :: .ref a :: st) ah = none := by
      show ptF mi i pc ls (v :: .ref a :: st) ah = _
      unfold ptF
      dsimp only
      rw [h1]
      dsimp only
      rw [hv, Bool.and_false, Bool.false_and]
      rfl
    rw [Wp_no ((g_stp hd).trans hs)]
    simp
end RW2
