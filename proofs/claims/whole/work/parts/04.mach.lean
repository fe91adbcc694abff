/-! THE PURE MACHINE: frames over a heap of places, run by the bytecode itself -/
def SB : List (List Int32) := [[108, 97, 100, 100, 101, 114], [103, 111, 110, 101], [119, 101, 97, 107], [115, 111, 117, 110, 100], [102, 97, 114], [110, 101, 97, 114], [109, 105, 100, 100, 108, 101], [116, 111, 108, 100], [108, 111, 97, 100], [110, 111, 98, 111, 100, 121]]
def DF : List (List Value) := [[.null, .int 0],
  [.null, .null, .null, .null, .null, .int 0, .int 0, .int 0, .int 0],
  [.int 0, .int 0, .int 0],
  [.int 0, .int 0, .null, .null],
  [.int 0, .int 0, .int 0],
  [.int 0, .int 0, .int 0],
  [.null, .null, .int 0],
  [.int 0, .int 0, .int 0, .int 0, .null, .null],
  [.null, .int 0, .null, .null, .null, .int 0, .int 0, .int 0, .int 0, .int 0, .int 0, .int 0],
  [.int 0, .int 0, .int 0, .int 0],
  [.null, .null, .null, .null, .null, .null, .null],
  [.null, .null, .null, .int 0, .null, .int 0, .int 0, .null, .null, .null, .null, .null, .null, .int 0, .int 0, .int 0, .int 0, .int 0, .int 0, .null, .null, .null, .null, .null, .int 0, .null]]
abbrev AH : Type := List va_E
abbrev LV : Type := List (Option Value)
/-- what a step leads to: on in the frame; out of it with an answer; into a method -/
abbrev RS : Type := (Nat × LV × List Value × AH) ⊕ ((Option Value) ⊕ (Nat × List Value × Nat × List Value))
abbrev XS : Type := Nat × (Nat → Int32)
def SCR : Nat := 1000040
def nx (pc : Nat) (ls : LV) (st : List Value) (ah : AH) : Option RS := some (.inl (pc, ls, st, ah))
def fE (o i : Nat) : Option FE := FT.find? (fun e => e.1 == o && e.2.1 == i)
def cE (o i : Nat) : Option CE := CT.find? (fun e => e.1 == o && e.2.1 == i)
def nE (o i : Nat) : Option Nat := (NT.find? (fun e => e.1 == o && e.2.1 == i)).map (fun e => e.2.2.1)
def aE (o i : Nat) : Option Nat := (AT.find? (fun e => e.1 == o && e.2.1 == i)).map (fun e => e.2.2.1)
def iE (o i : Nat) : Option (List Nat × List Nat) := (IT.find? (fun e => e.1 == o && e.2.1 == i)).map (fun e => e.2.2.2.2)
def kE (o i : Nat) : Option Value := (KT.find? (fun e => e.1 == o && e.2.1 == i)).map (fun e => e.2.2.1)
def gE (o i : Nat) : Option Value := (GS.find? (fun e => e.1 == o && e.2.1 == i)).map (fun e => e.2.2.1)
def xE (o i : Nat) : Option Nat := (EF.find? (fun e => e.1 == o && e.2.1 == i)).map (fun e => e.2.2.1)
def isI : Value → Bool
  | .int _ => true
  | _ => false
def isL : Value → Bool
  | .long _ => true
  | _ => false
def isA : Value → Bool
  | .ref _ => true
  | .null => true
  | _ => false
/-- not the first half of a long -/
def nk : Option Value → Bool
  | some v => v.category == 1
  | none => true
def nkk (ls : LV) : Nat → Bool
  | 0 => true
  | j + 1 => nk (ls.getD j none)
def fld (ah : AH) (a : Nat) (cis : List Nat) (k : Nat) : Option Value := match ah[a]? with
  | some (.inr (ci, fs)) => if ci ∈ cis then fs[k]? else none
  | _ => none
def setF (ah : AH) (a k : Nat) (v : Value) : AH := match ah[a]? with
  | some (.inr (ci, fs)) => ah.set a (.inr (ci, fs.set k v))
  | _ => ah
def okty : FieldType → Value → Bool
  | .int, .int _ => true
  | .long, .long _ => true
  | .boolean, .int x => x == 0 || x == 1
  | .object _, v => isA v
  | .array _, v => isA v
  | _, _ => false
/-- fields of a String that is a constant -/
def exF (z a : Nat) : Option Value := if 1000000 ≤ a ∧ a < 1000010 then some (if z = 0 then .ref (a + 16) else .int 0) else none
def arI (X : XS) (ah : AH) (a : Nat) : Option (Nat × (Nat → Int32)) := if a = SCR then some X else match ah[a]? with
  | some (.inl (0, n, .inl f)) => some (n, f)
  | _ => none
def arW (ah : AH) (a : Nat) : Option (Nat × (Nat → Int32)) := match ah[a]? with
  | some (.inl (0, n, .inl f)) => some (n, f)
  | _ => none
def arL (ah : AH) (a : Nat) : Option (Nat × (Nat → Int64)) := match ah[a]? with
  | some (.inl (1, n, .inr (.inl f))) => some (n, f)
  | _ => none
def arZ (ah : AH) (a : Nat) : Option (Nat × (Nat → Int32)) := match ah[a]? with
  | some (.inl (2, n, .inl f)) => some (n, f)
  | _ => none
def exB (a : Nat) : Option (Nat × (Nat → Int32)) := if 1000016 ≤ a ∧ a < 1000026 then some ((SB.getD (a - 1000016) []).length, fun j => (SB.getD (a - 1000016) []).getD j 0) else none
def arB (ah : AH) (a : Nat) : Option (Nat × (Nat → Int32)) := match exB a with
  | some q => some q
  | none => arZ ah a
def arQ (ah : AH) (a : Nat) : Option (Nat × Nat × (Nat → Option Nat)) := match ah[a]? with
  | some (.inl (t, n, .inr (.inr (.inr (.inr f))))) => if t = 3 ∨ t = 4 then some (t, n, f) else none
  | _ => none
/-- the length of a row -/
def arN (X : XS) (ah : AH) (a : Nat) : Option Nat := if a = SCR then some X.1 else match exB a with
  | some q => some q.1
  | none => match ah[a]? with
    | some (.inl (t, n, _)) => if t < 5 then some n else none
    | _ => none
def inb (i : Int32) (n : Nat) : Bool := !(decide (i < 0) || decide (n ≤ i.toNatClampNeg))
/-- the class of an object of the heap -/
def rcO (ah : AH) (a : Nat) : Option Nat := match ah[a]? with
  | some (.inr (ci, _)) => some ci
  | _ => none
/-- the class of an object -/
def rcv (ah : AH) (a : Nat) : Option Nat := if 1000000 ≤ a ∧ a < 1000010 then some 100 else rcO ah a
def stW (st : List Value) : Nat := (st.map fun v => v.category).sum
def ldV (chk : Value → Bool) (ls : LV) (k pc : Nat) (st : List Value) (ah : AH) : Option RS := match ls[k]? with
  | some (some v) => if chk v then nx pc ls (v :: st) ah else none
  | _ => none
def stV (chk : Value → Bool) (ls : LV) (k pc : Nat) (st : List Value) (ah : AH) : Option RS := match st with
  | v :: r => if chk v && (decide (k < ls.length) && nkk ls k) then nx pc (ls.set k (some v)) r ah else none
  | _ => none
def stL (ls : LV) (k pc : Nat) (st : List Value) (ah : AH) : Option RS := match st with
  | .long v :: r => if decide (k + 1 < ls.length) && nkk ls k then nx pc ((ls.set k (some (.long v))).set (k + 1) none) r ah else none
  | _ => none
def biI (f : Int32 → Int32 → Option Int32) (ls : LV) (pc : Nat) (st : List Value) (ah : AH) : Option RS := match st with
  | .int y :: .int x :: r => match f x y with
    | some z => nx pc ls (.int z :: r) ah
    | none => none
  | _ => none
def biL (f : Int64 → Int64 → Option Int64) (ls : LV) (pc : Nat) (st : List Value) (ah : AH) : Option RS := match st with
  | .long y :: .long x :: r => match f x y with
    | some z => nx pc ls (.long z :: r) ah
    | none => none
  | _ => none
def jmp (pc : Nat) (off : Int) : Nat := ((pc : Int) + off).toNat
def jok (pc : Nat) (off : Int) : Bool := decide (0 ≤ (pc : Int) + off)
def br (c : Bool) (ls : LV) (pc : Nat) (off : Int) (r : List Value) (ah : AH) : Option RS := if jok pc off then (if c then nx (jmp pc off) ls r ah else nx (pc + 3) ls r ah) else none
def cdI (cd : Jvm.ClassFile.Cond) (x y : Int32) : Bool := match cd with
  | .eq => decide (x = y)
  | .ne => decide (¬ x = y)
  | .lt => decide (x < y)
  | .ge => decide (y ≤ x)
  | .gt => decide (y < x)
  | .le => decide (x ≤ y)
def callTo (q : Option (Nat × Nat × List Nat)) (as : List Value) (pc : Nat) (r : List Value) : Option RS := match q with
  | some t => if stW r ≤ 8 then some (.inr (.inr (t.2.1, as, pc + 3, r))) else none
  | none => none
def iV (mi i pc : Nat) (st : List Value) (ah : AH) : Option RS := match cE (mO mi) i with
  | some e => if e.2.2.1 = 0 then (match st.drop e.2.2.2.1 with
      | .ref a :: r => match rcv ah a with
        | some ci => callTo (e.2.2.2.2.1.find? (fun q => q.1 == ci)) (.ref a :: (st.take e.2.2.2.1).reverse) pc r
        | none => none
      | _ => none) else none
  | none => none
def aycp (pc : Nat) (ls : LV) (st : List Value) (ah : AH) : Option RS := match st with
  | .int n :: .int dp :: .ref b :: .int sp :: .ref a :: r => match arW ah a, arW ah b with
    | some f, some g => if (!(decide (sp < 0)) && !(decide (dp < 0)) && !(decide (n < 0))) && decide (sp.toNatClampNeg + n.toNatClampNeg ≤ f.1) && decide (dp.toNatClampNeg + n.toNatClampNeg ≤ g.1) && decide (stW r ≤ 8) then
        nx (pc + 3) ls r (ah.set b (.inl (0, g.1, .inl (va_cpy f.2 g.2 sp.toNatClampNeg dp.toNatClampNeg n.toNatClampNeg)))) else none
    | _, _ => none
  | _ => none
def iS (mi i pc : Nat) (ls : LV) (st : List Value) (ah : AH) : Option RS := match cE (mO mi) i with
  | some e => if e.2.2.1 = 2 then (if e.2.2.2.2.2.1 = 9 then aycp pc ls st ah else if e.2.2.2.1 ≤ st.length then callTo e.2.2.2.2.1.head? (st.take e.2.2.2.1).reverse pc (st.drop e.2.2.2.1) else none) else none
  | none => none
def iP (mi i pc : Nat) (ls : LV) (st : List Value) (ah : AH) : Option RS := match cE (mO mi) i with
  | some e => if e.2.2.1 = 1 then (if e.2.2.2.2.2.1 = 8 then (match st with
      | .ref _ :: r => if stW r ≤ 8 then nx (pc + 3) ls r ah else none
      | _ => none) else (match st.drop e.2.2.2.1 with
      | .ref a :: r => callTo e.2.2.2.2.1.head? (.ref a :: (st.take e.2.2.2.1).reverse) pc r
      | _ => none)) else none
  | none => none
def gtF (mi i pc : Nat) (ls : LV) (st : List Value) (ah : AH) : Option RS := match st with
  | .ref a :: r => match fE (mO mi) i with
    | some e => match fld ah a e.2.2.1 e.2.2.2.1 with
      | some v => nx (pc + 3) ls (v :: r) ah
      | none => none
    | none => match xE (mO mi) i with
      | some z => match exF z a with
        | some v => nx (pc + 3) ls (v :: r) ah
        | none => none
      | none => none
  | _ => none
def ptF (mi i pc : Nat) (ls : LV) (st : List Value) (ah : AH) : Option RS := match st with
  | v :: .ref a :: r => match fE (mO mi) i with
    | some e => if (fld ah a e.2.2.1 e.2.2.2.1).isSome && okty e.2.2.2.2.2.2.2.2.2.1 v && (!e.2.2.2.2.2.1 || (decide ((mY mi).name = "<init>") && decide (e.2.2.2.2.2.2.1 = (mY mi).cls) && !e.2.2.2.2.1)) then nx (pc + 3) ls r (setF ah a e.2.2.2.1 v) else none
    | none => none
  | _ => none
def lim : Nat := 900000
def inst (mi i pc : Nat) (ls : LV) (st : List Value) (ah : AH) : Option RS := match iE (mO mi) i with
  | some e => match st with
    | .null :: r => nx (pc + 3) ls (.int 0 :: r) ah
    | .ref a :: r => match rcO ah a with
      | some ci => if ci ∈ e.1 then nx (pc + 3) ls (.int 1 :: r) ah else if ci ∈ e.2 then nx (pc + 3) ls (.int 0 :: r) ah else none
      | none => none
    | _ => none
  | none => none
def cast (mi i pc : Nat) (ls : LV) (st : List Value) (ah : AH) : Option RS := match iE (mO mi) i with
  | some e => match st with
    | .null :: r => nx (pc + 3) ls (.null :: r) ah
    | .ref a :: r => match rcO ah a with
      | some ci => if ci ∈ e.1 then nx (pc + 3) ls (.ref a :: r) ah else none
      | none => none
    | _ => none
  | none => none
/-- what may stand in a row of climbers, of images -/
def okel (t ci : Nat) : Bool := if t = 3 then decide (ci ∈ [2, 4, 5, 9]) else decide (ci = 3)
/-- loads and stores of rows -/
def ldAr0 (X : XS) (pc : Nat) (ls : LV) (st : List Value) (ah : AH) : Option RS := match st with
  | .int i :: .ref a :: r => match arI X ah a with
    | some q => if inb i q.1 then nx (pc + 1) ls (.int (q.2 i.toNatClampNeg) :: r) ah else none
    | none => none
  | _ => none
def ldAr1 (pc : Nat) (ls : LV) (st : List Value) (ah : AH) : Option RS := match st with
  | .int i :: .ref a :: r => match arL ah a with
    | some q => if inb i q.1 then nx (pc + 1) ls (.long (q.2 i.toNatClampNeg) :: r) ah else none
    | none => none
  | _ => none
def ldAr2 (pc : Nat) (ls : LV) (st : List Value) (ah : AH) : Option RS := match st with
  | .int i :: .ref a :: r => match arB ah a with
    | some q => if inb i q.1 then nx (pc + 1) ls (.int (q.2 i.toNatClampNeg) :: r) ah else none
    | none => none
  | _ => none
def ldAr3 (pc : Nat) (ls : LV) (st : List Value) (ah : AH) : Option RS := match st with
  | .int i :: .ref a :: r => match arQ ah a with
    | some q => if inb i q.2.1 then nx (pc + 1) ls (va_rf (q.2.2 i.toNatClampNeg) :: r) ah else none
    | none => none
  | _ => none
def stAr0 (pc : Nat) (ls : LV) (st : List Value) (ah : AH) : Option RS := match st with
  | .int x :: .int i :: .ref a :: r => match arW ah a with
    | some q => if inb i q.1 then nx (pc + 1) ls r (ah.set a (.inl (0, q.1, .inl (upd q.2 i.toNatClampNeg x)))) else none
    | none => none
  | _ => none
def stAr1 (pc : Nat) (ls : LV) (st : List Value) (ah : AH) : Option RS := match st with
  | .long x :: .int i :: .ref a :: r => match arL ah a with
    | some q => if inb i q.1 then nx (pc + 1) ls r (ah.set a (.inl (1, q.1, .inr (.inl (vp_updL q.2 i.toNatClampNeg x))))) else none
    | none => none
  | _ => none
def stAr2 (pc : Nat) (ls : LV) (st : List Value) (ah : AH) : Option RS := match st with
  | .int x :: .int i :: .ref a :: r => match arZ ah a with
    | some q => if inb i q.1 then nx (pc + 1) ls r (ah.set a (.inl (2, q.1, .inl (upd q.2 i.toNatClampNeg (vp_nar .boolean x))))) else none
    | none => none
  | _ => none
def stAr3 (pc : Nat) (ls : LV) (st : List Value) (ah : AH) : Option RS := match st with
  | .ref v :: .int i :: .ref a :: r => match arQ ah a with
    | some q => match rcO ah v with
      | some ci => if inb i q.2.1 && okel q.1 ci then nx (pc + 1) ls r (ah.set a (.inl (q.1, q.2.1, .inr (.inr (.inr (.inr (va_up q.2.2 i.toNatClampNeg (some v)))))))) else none
      | none => none
    | none => none
  | _ => none
def newO (mi i pc : Nat) (ls : LV) (st : List Value) (ah : AH) : Option RS := match nE (mO mi) i with
  | some ci => if ah.length < lim then nx (pc + 3) ls (.ref ah.length :: st) (ah ++ [.inr (ci, DF.getD ci [])]) else none
  | none => none
def newA (ty : ArrayType) (pc : Nat) (ls : LV) (st : List Value) (ah : AH) : Option RS := match st with
  | .int n :: r => if !(decide (n < 0)) && decide (n.toNatClampNeg ≤ 60000) && decide (ah.length < lim) then (match ty with
      | .int => nx (pc + 2) ls (.ref ah.length :: r) (ah ++ [.inl (0, n.toNatClampNeg, .inl (fun _ => 0))])
      | .long => nx (pc + 2) ls (.ref ah.length :: r) (ah ++ [.inl (1, n.toNatClampNeg, .inr (.inl (fun _ => 0)))])
      | .boolean => nx (pc + 2) ls (.ref ah.length :: r) (ah ++ [.inl (2, n.toNatClampNeg, .inl (fun _ => 0))])
      | _ => none) else none
  | _ => none
def newQ (mi i pc : Nat) (ls : LV) (st : List Value) (ah : AH) : Option RS := match st, aE (mO mi) i with
  | .int n :: r, some t => if !(decide (n < 0)) && decide (n.toNatClampNeg ≤ 60000) && decide (ah.length < lim) then nx (pc + 3) ls (.ref ah.length :: r) (ah ++ [.inl (t, n.toNatClampNeg, .inr (.inr (.inr (.inr (fun _ => none)))))]) else none
  | _, _ => none
def tsw (dflt lo hi : Int) (offs : Array Int) (pc : Nat) (ls : LV) (st : List Value) (ah : AH) : Option RS := match st with
  | .int x :: r => if x.toInt < lo ∨ hi < x.toInt then (if jok pc dflt then nx (jmp pc dflt) ls r ah else none) else match offs[(x.toInt - lo).toNat]? with
    | some off => if jok pc off then nx (jmp pc off) ls r ah else none
    | none => none
  | _ => none
def rtI (mi : Nat) (st : List Value) : Option RS := match st with
  | [.int v] => match mR mi with
    | some ty => if narrow ty (.int v) = .int v then some (.inr (.inl (some (.int v)))) else none
    | none => none
  | _ => none
def rtL (mi : Nat) (st : List Value) : Option RS := match st with
  | [.long v] => if mR mi = some .long then some (.inr (.inl (some (.long v)))) else none
  | _ => none
def isOb : Option FieldType → Bool
  | some (.object _) => true
  | some (.array _) => true
  | _ => false
def rtA (mi : Nat) (st : List Value) : Option RS := match st with
  | [v] => if isOb (mR mi) && isA v then some (.inr (.inl (some v))) else none
  | _ => none
def rtV (mi : Nat) (st : List Value) : Option RS := match st with
  | [] => if mR mi = none then some (.inr (.inl none)) else none
  | _ => none
def stI (X : XS) (mi : Nat) (i : Instr) (len pc : Nat) (ls : LV) (st : List Value) (ah : AH) : Option RS := match i, len with
  | .aload_n k, 1 => ldV isA ls k.val (pc + 1) st ah
  | .aload k, 2 => ldV isA ls k (pc + 2) st ah
  | .iload_n k, 1 => ldV isI ls k.val (pc + 1) st ah
  | .iload k, 2 => ldV isI ls k (pc + 2) st ah
  | .lload_n k, 1 => ldV isL ls k.val (pc + 1) st ah
  | .lload k, 2 => ldV isL ls k (pc + 2) st ah
  | .astore_n k, 1 => stV isA ls k.val (pc + 1) st ah
  | .astore k, 2 => stV isA ls k (pc + 2) st ah
  | .istore_n k, 1 => stV isI ls k.val (pc + 1) st ah
  | .istore k, 2 => stV isI ls k (pc + 2) st ah
  | .lstore_n k, 1 => stL ls k.val (pc + 1) st ah
  | .lstore k, 2 => stL ls k (pc + 2) st ah
  | .iconst n, 1 => nx (pc + 1) ls (.int (Int32.ofInt n) :: st) ah
  | .bipush n, 2 => nx (pc + 2) ls (.int (Int8.ofInt n).toInt32 :: st) ah
  | .sipush n, 3 => nx (pc + 3) ls (.int (Int16.ofInt n).toInt32 :: st) ah
  | .lconst n, 1 => nx (pc + 1) ls (.long (Int64.ofNat n.val) :: st) ah
  | .aconst_null, 1 => nx (pc + 1) ls (.null :: st) ah
  | .ldc k, 2 => match kE (mO mi) k with
    | some v => if isL v then none else nx (pc + 2) ls (v :: st) ah
    | none => none
  | .ldc_w k, 3 => match kE (mO mi) k with
    | some v => if isL v then none else nx (pc + 3) ls (v :: st) ah
    | none => none
  | .ldc2_w k, 3 => match kE (mO mi) k with
    | some v => if isL v then nx (pc + 3) ls (v :: st) ah else none
    | none => none
  | .getstatic k, 3 => match gE (mO mi) k with
    | some v => nx (pc + 3) ls (v :: st) ah
    | none => none
  | .iinc k n, 3 => match ls[k]? with
    | some (some (.int x)) => if nkk ls k then nx (pc + 3) (ls.set k (some (.int (x + Int32.ofInt n)))) st ah else none
    | _ => none
  | .dup, 1 => match st with
    | v :: r => if v.category = 1 then nx (pc + 1) ls (v :: v :: r) ah else none
    | _ => none
  | .pop, 1 => match st with
    | v :: r => if v.category = 1 then nx (pc + 1) ls r ah else none
    | _ => none
  | .dup2, 1 => match st with
    | v :: w :: r => if v.category = 1 ∧ w.category = 1 then nx (pc + 1) ls (v :: w :: v :: w :: r) ah else none
    | _ => none
  | .iadd, 1 => biI (fun x y => some (x + y)) ls (pc + 1) st ah
  | .isub, 1 => biI (fun x y => some (x - y)) ls (pc + 1) st ah
  | .imul, 1 => biI (fun x y => some (x * y)) ls (pc + 1) st ah
  | .iand, 1 => biI (fun x y => some (x &&& y)) ls (pc + 1) st ah
  | .ior, 1 => biI (fun x y => some (x ||| y)) ls (pc + 1) st ah
  | .ixor, 1 => biI (fun x y => some (x ^^^ y)) ls (pc + 1) st ah
  | .ishl, 1 => biI (fun x y => some (x <<< (y &&& 31))) ls (pc + 1) st ah
  | .ishr, 1 => biI (fun x y => some (x >>> (y &&& 31))) ls (pc + 1) st ah
  | .iushr, 1 => biI (fun x y => some ((x.toUInt32 >>> (y.toUInt32 &&& Int32.toUInt32 31)).toInt32)) ls (pc + 1) st ah
  | .idiv, 1 => biI (fun x y => if y = 0 then none else some (x / y)) ls (pc + 1) st ah
  | .irem, 1 => biI (fun x y => if y = 0 then none else some (x - x / y * y)) ls (pc + 1) st ah
  | .ladd, 1 => biL (fun x y => some (x + y)) ls (pc + 1) st ah
  | .lmul, 1 => biL (fun x y => some (x * y)) ls (pc + 1) st ah
  | .land, 1 => biL (fun x y => some (x &&& y)) ls (pc + 1) st ah
  | .lor, 1 => biL (fun x y => some (x ||| y)) ls (pc + 1) st ah
  | .ldiv, 1 => biL (fun x y => if y = 0 then none else some (x / y)) ls (pc + 1) st ah
  | .lrem, 1 => biL (fun x y => if y = 0 then none else some (x - x / y * y)) ls (pc + 1) st ah
  | .lshl, 1 => match st with
    | .int y :: .long x :: r => nx (pc + 1) ls (.long (x <<< (y.toInt64 &&& 63)) :: r) ah
    | _ => none
  | .lshr, 1 => match st with
    | .int y :: .long x :: r => nx (pc + 1) ls (.long (x >>> (y.toInt64 &&& 63)) :: r) ah
    | _ => none
  | .lcmp, 1 => match st with
    | .long y :: .long x :: r => nx (pc + 1) ls (.int (lg_cmp x y) :: r) ah
    | _ => none
  | .i2l, 1 => match st with
    | .int x :: r => nx (pc + 1) ls (.long x.toInt64 :: r) ah
    | _ => none
  | .l2i, 1 => match st with
    | .long x :: r => nx (pc + 1) ls (.int x.toInt32 :: r) ah
    | _ => none
  | .i2c, 1 => match st with
    | .int x :: r => nx (pc + 1) ls (.int (x.toUInt32 % 65536).toInt32 :: r) ah
    | _ => none
  | .goto off, 3 => if jok pc off then nx (jmp pc off) ls st ah else none
  | .ifCond cd off, 3 => match st with
    | .int x :: r => br (cdI cd x 0) ls pc off r ah
    | _ => none
  | .if_icmp cd off, 3 => match st with
    | .int y :: .int x :: r => br (cdI cd x y) ls pc off r ah
    | _ => none
  | .ifnull off, 3 => match st with
    | .null :: r => br true ls pc off r ah
    | .ref _ :: r => br false ls pc off r ah
    | _ => none
  | .ifnonnull off, 3 => match st with
    | .null :: r => br false ls pc off r ah
    | .ref _ :: r => br true ls pc off r ah
    | _ => none
  | .tableswitch dflt lo hi offs, _ => tsw dflt lo hi offs pc ls st ah
  | .getfield k, 3 => gtF mi k pc ls st ah
  | .putfield k, 3 => ptF mi k pc ls st ah
  | .iaload, 1 => ldAr0 X pc ls st ah
  | .laload, 1 => ldAr1 pc ls st ah
  | .baload, 1 => ldAr2 pc ls st ah
  | .aaload, 1 => ldAr3 pc ls st ah
  | .iastore, 1 => stAr0 pc ls st ah
  | .lastore, 1 => stAr1 pc ls st ah
  | .bastore, 1 => stAr2 pc ls st ah
  | .aastore, 1 => stAr3 pc ls st ah
  | .arraylength, 1 => match st with
    | .ref a :: r => match arN X ah a with
      | some n => nx (pc + 1) ls (.int (Int32.ofNat n) :: r) ah
      | none => none
    | _ => none
  | .new k, 3 => newO mi k pc ls st ah
  | .newarray ty, 2 => newA ty pc ls st ah
  | .anewarray k, 3 => newQ mi k pc ls st ah
  | .instanceof k, 3 => inst mi k pc ls st ah
  | .checkcast k, 3 => cast mi k pc ls st ah
  | .invokevirtual k, 3 => iV mi k pc st ah
  | .invokestatic k, 3 => iS mi k pc ls st ah
  | .invokespecial k, 3 => iP mi k pc ls st ah
  | .ireturn, 1 => rtI mi st
  | .lreturn, 1 => rtL mi st
  | .areturn, 1 => rtA mi st
  | .return_, 1 => rtV mi st
  | _, _ => none
def stp (X : XS) (mi pc : Nat) (ls : LV) (st : List Value) (ah : AH) : Option RS := match decode (mC mi) pc with
  | .ok (i, len) => stI X mi i len pc ls st ah
  | .error _ => none
def flA : List Value → LV
  | [] => []
  | v :: r => if v.category = 2 then some v :: none :: flA r else some v :: flA r
def ent (n : Nat) (as : List Value) : LV := flA as ++ List.replicate (n - (flA as).length) none
def run (X : XS) : Nat → Nat → Nat → Nat → LV → List Value → AH → Option (Option Value × AH)
  | 0, _, _, _, _, _, _ => none
  | n + 1, d, mi, pc, ls, st, ah => match stp X mi pc ls st ah with
    | none => none
    | some (.inl q) => run X n d mi q.1 q.2.1 q.2.2.1 q.2.2.2
    | some (.inr (.inl v)) => some (v, ah)
    | some (.inr (.inr q)) => match d with
      | 0 => none
      | d + 1 => if (flA q.2.1).length ≤ mL q.1 then (match run X n d q.1 0 (ent (mL q.1) q.2.1) [] ah with
        | none => none
        | some r => run X n (d + 1) mi q.2.2.1 ls (r.1.toList ++ q.2.2.2) r.2) else none
/-- the frame comes to its end with an answer and a heap of which Q -/
def Wp (X : XS) (d mi pc : Nat) (ls : LV) (st : List Value) (ah : AH) (Q : Option Value → AH → Prop) : Prop := ∃ n r, run X n d mi pc ls st ah = some r ∧ Q r.1 r.2
/-- a call comes to its end -/
def Cl (X : XS) (d mi : Nat) (as : List Value) (ah : AH) (Q : Option Value → AH → Prop) : Prop := (flA as).length ≤ mL mi ∧ Wp X d mi 0 (ent (mL mi) as) [] ah Q
def ob {α : Type} (o : Option α) (f : α → Prop) : Prop := match o with
  | some a => f a
  | none => False
theorem ob_some {α : Type} (a : α) (f : α → Prop) : ob (some a) f = f a := rfl
theorem run_mono {X : XS} : ∀ {n d mi pc : Nat} {ls : LV} {st : List Value} {ah : AH} {r : Option Value × AH}, run X n d mi pc ls st ah = some r → ∀ k, run X (n + k) d mi pc ls st ah = some r
  | 0, _, _, _, _, _, _, _, h, _ => by simp [run] at h
  | n + 1, d, mi, pc, ls, st, ah, r, h, k => by
    rw [Nat.add_right_comm]
    unfold run at h ⊢
    split at h
    · cases h
    · next q hq => exact run_mono h k
    · next v hq => exact h
    · next q hq =>
      cases d with
      | zero => cases h
      | succ d =>
        dsimp only at h ⊢
        split at h
        · next hl =>
          rw [if_pos hl]
          split at h
          · cases h
          · next r1 hr1 =>
            rw [run_mono hr1 k]
            exact run_mono h k
        · cases h
theorem run_det {X : XS} {n k d mi pc : Nat} {ls : LV} {st : List Value} {ah : AH} {r t : Option Value × AH} (h : run X n d mi pc ls st ah = some r) (h2 : run X k d mi pc ls st ah = some t) : r = t := by
  have a := run_mono h k
  have b := run_mono h2 n
  rw [Nat.add_comm k n] at b
  exact Option.some.inj (a.symm.trans b)
section WP
variable {X : XS} {d mi pc : Nat} {ls : LV} {st : List Value} {ah : AH} {Q : Option Value → AH → Prop}
theorem Wp_go {pc' : Nat} {ls' : LV} {st' : List Value} {ah' : AH} (h : stp X mi pc ls st ah = nx pc' ls' st' ah') : Wp X d mi pc ls st ah Q = Wp X d mi pc' ls' st' ah' Q := by
  refine propext ⟨?_, ?_⟩
  · rintro ⟨n, r, hr, hQ⟩
    cases n with
    | zero => simp [run] at hr
    | succ n =>
      unfold run at hr
      rw [h] at hr
      exact ⟨n, r, hr, hQ⟩
  · rintro ⟨n, r, hr, hQ⟩
    refine ⟨n + 1, r, ?_, hQ⟩
    unfold run
    rw [h]
    exact hr
theorem Wp_no (h : stp X mi pc ls st ah = none) : Wp X d mi pc ls st ah Q = False := by
  refine propext ⟨?_, False.elim⟩
  rintro ⟨n, r, hr, hQ⟩
  cases n with
  | zero => simp [run] at hr
  | succ n =>
    unfold run at hr
    rw [h] at hr
    cases hr
theorem Wp_rt {v : Option Value} (h : stp X mi pc ls st ah = some (.inr (.inl v))) : Wp X d mi pc ls st ah Q = Q v ah := by
  refine propext ⟨?_, fun hQ => ⟨1, (v, ah), by unfold run; rw [h], hQ⟩⟩
  rintro ⟨n, r, hr, hQ⟩
  cases n with
  | zero => simp [run] at hr
  | succ n =>
    unfold run at hr
    rw [h] at hr
    cases hr
    exact hQ
theorem Wp_call {m2 pc2 : Nat} {as r2 : List Value} (h : stp X mi pc ls st ah = some (.inr (.inr (m2, as, pc2, r2)))) : Wp X (d + 1) mi pc ls st ah Q = Cl X d m2 as ah (fun v h => Wp X (d + 1) mi pc2 ls (v.toList ++ r2) h Q) := by
  refine propext ⟨?_, ?_⟩
  · rintro ⟨n, r, hr, hQ⟩
    cases n with
    | zero => simp [run] at hr
    | succ n =>
      unfold run at hr
      rw [h] at hr
      dsimp only at hr
      split at hr
      · next hl =>
        split at hr
        · cases hr
        · next r1 hr1 => exact ⟨hl, n, r1, hr1, n, r, hr, hQ⟩
      · cases hr
  · rintro ⟨hl, n, r1, hr1, k, r, hr, hQ⟩
    refine ⟨n + k + 1, r, ?_, hQ⟩
    unfold run
    rw [h]
    dsimp only
    rw [if_pos hl, run_mono hr1 k]
    dsimp only
    rw [Nat.add_comm n k]
    exact run_mono hr n
/-- a contract as an equation -/
theorem Cl_eq {as : List Value} {v : Option Value} {ah' : AH} (h : Cl X d mi as ah (fun w h => w = v ∧ h = ah')) (K : Option Value → AH → Prop) : Cl X d mi as ah K = K v ah' := by
  obtain ⟨hl, n, r, hr, h1, h2⟩ := h
  refine propext ⟨?_, fun hK => ⟨hl, n, r, hr, by rw [h1, h2]; exact hK⟩⟩
  rintro ⟨-, k, t, ht, hK⟩
  have := run_det hr ht
  subst this
  rw [h1, h2] at hK
  exact hK
theorem Wp_mono {Q2 : Option Value → AH → Prop} (h : Wp X d mi pc ls st ah Q) (hQ : ∀ v a, Q v a → Q2 v a) : Wp X d mi pc ls st ah Q2 := by
  obtain ⟨n, r, hr, h1⟩ := h
  exact ⟨n, r, hr, hQ _ _ h1⟩
end WP
