/-! what stands around a frame -/
def tyL (cA : Nat → ClassId) : List (ClassId × FieldType) := [(cA 0, .int), (cA 1, .long), (cA 2, .boolean), (cA 3, .object RX0), (cA 4, .object RX4)]
def Et (ad : Nat → Nat) (D : va_G) (cA : Nat → ClassId) (U : State) : Prop :=
  va_K D vwCl (tyL cA) U ∧ (∀ w ∈ xtbl, va_Nw w U) ∧ (∀ t ∈ IT, ∀ ci ∈ t.2.2.2.2.2, ∀ q, vwCl[ci]? = some q → va_Nc q.1 t.2.2.1 U) ∧ va_AO RX0 U ∧ va_AO RX4 U ∧ (∀ k q, SX[k]? = some q → vk_R RX11 q.1 q.2 (ad (1000000 + k)) U)
def Eh (X : XS) (sz : Nat) (ad : Nat → Nat) (zf : Value) (U : State) (H : Heap) : Prop :=
  vk_S 10 (SB.map List.length) SB (fun k => ad (1000000 + k)) (fun k => ad (1000016 + k)) (fun q => sz ≤ q) U H ∧ va_Z "java/lang/String" "COMPACT_STRINGS" "Z" (.int 1) (fun q => sz ≤ q) U H ∧ va_Z "jdk/internal/util/Preconditions" "SIOOBE_FORMATTER" "Ljava/util/function/BiFunction;" zf (fun q => sz ≤ q) U H ∧ va_X (ad SCR) X.1 X.2 U H
def Ep (sz : Nat) (ad : Nat → Nat) (zf : Value) : Prop := (zf = .null ∨ ∃ a, zf = .ref a) ∧ ad SCR < sz ∧ ∀ k, k < 1000000 → ad k = sz + k
def En (X : XS) (sz : Nat) (ad : Nat → Nat) (zf : Value) (D : va_G) (cA : Nat → ClassId) (U : State) : Prop := Et ad D cA U ∧ Eh X sz ad zf U U.heap ∧ Ep sz ad zf ∧ sz ≤ U.heap.size
theorem isX_warm {w : Cond} {s U : State} (hw : isX w = true) (hW : s.WarmedH U.vm) (h : va_Nw w s) : va_Nw w U := by
  cases w <;> first | (cases hw; done) | exact va_Nw.warmF hW h | exact va_Nw.warmM hW h | exact va_Nw.warmD hW h | exact va_Nw.warmC hW h
theorem Et.moved {ad : Nat → Nat} {D : va_G} {cA : Nat → ClassId} {s U : State} (hW : s.WarmedH U.vm) (h : Et ad D cA s) : Et ad D cA U := by
  obtain ⟨h1, h2, h3, h4, h5, h6⟩ := h
  exact ⟨va_K.moved hW.alike h1, fun w hw => isX_warm (List.mem_filter.mp hw).2 hW (h2 w hw), fun t ht ci hci q hq => va_Nc.moved hW.alike (h3 t ht ci hci q hq), va_AO.moved hW.alike h4, va_AO.moved hW.alike h5, fun k q hq => vk_R.warm hW (h6 k q hq)⟩
theorem Eh.moved {X : XS} {sz : Nat} {ad : Nat → Nat} {zf : Value} {s U : State} {H H1 : Heap} (hp : Ep sz ad zf) (hz : sz ≤ H.size) (hW : s.WarmedH U.vm) (hk : ∀ q : Nat, q < H.size → ¬ sz ≤ q → H1[q]? = H[q]?) (h : Eh X sz ad zf s H) : Eh X sz ad zf U H1 := by
  obtain ⟨h1, h2, h3, h4⟩ := h
  exact ⟨(h1.moved hW.alike).kept hk, (h2.moved hW.alike).kept hk, (h3.moved hW.alike).kept hk, (h4.moved hW.alike).kept (hk _ (Nat.lt_of_lt_of_le hp.2.1 hz) (Nat.not_le.mpr hp.2.1))⟩
theorem En.moved {X : XS} {sz : Nat} {ad : Nat → Nat} {zf : Value} {D : va_G} {cA : Nat → ClassId} {s U : State} {locs : List Loc} (hW : s.WarmedH U.vm) (hS : va_S (fun q => sz ≤ q) s.heap U.heap locs) (h : En X sz ad zf D cA s) : En X sz ad zf D cA U := by
  obtain ⟨h1, h2, h3, h4⟩ := h
  exact ⟨h1.moved hW, h2.moved h3 h4 hW hS.2.1, h3, Nat.le_trans h4 hS.1⟩
theorem En.calling {X : XS} {sz : Nat} {ad : Nat → Nat} {zf : Value} {D : va_G} {cA : Nat → ClassId} {U : State} (g : JFrame) (mk : MethodId) (a : Array Value) (h : En X sz ad zf D cA U) : En X sz ad zf D cA (U.calling g mk a) :=
  En.moved (s := U) (U := U.calling g mk a) (locs := []) (State.WarmedH.refl U) va_S.rf h
/-- a method's frame: the machine, its code, the words -/
def Cx (p : Program) (R : Room) (s : State) (m : MethodId) (args : Array Value) (meth : Method) (c : Code) (mi : Nat) (X : XS) (sz : Nat) (ad : Nat → Nat) (zf : Value) (D : va_G) (cA : Nat → ClassId) : Prop :=
  p.tables.exec = Jvm.exec ∧ c.code = mC mi ∧ c.maxLocals = mL mi ∧ meth.sig.returnType = mR mi ∧ meth.locks = false ∧ s.vm.findClass (oN (mO mi)) = some m.cls ∧ ((mY mi).name = "<init>" → meth.name = "<init>") ∧ (∀ w ∈ gtbl, w.before args s = true) ∧ En X sz ad zf D cA s ∧ 3 ≤ R.frames ∧ 120 ≤ R.locals
def Sx (s : State) (mi : Nat) (sz : Nat) (ad : Nat → Nat) (zf : Value) (D : va_G) (cA : Nat → ClassId) (n0 z0 : Nat) (al : LV) (ah : AH) (ls : Array Slot) (H : Heap) (locs : List Loc) : Prop :=
  lok ad zf al (mL mi) ls ∧ va_P D vwCl (cw ad zf cA ah) H ∧ va_S (fun q => sz ≤ q) s.heap H locs ∧ ah.length ≤ 1000000 ∧ n0 ≤ ah.length ∧ z0 ≤ asz ah ∧ s.heap.size = sz + n0
/-- the frame runs on from here -/
def Kk (p : Program) (l : Launch) (e : Env) (R : Room) (s : State) (m : MethodId) (args : Array Value) (below : List Frame) (meth : Method) (c : Code) (mi : Nat) (sz : Nat) (ad : Nat → Nat) (zf : Value) (D : va_G) (cA : Nat → ClassId) (n0 z0 : Nat) (Q : State → Prop) (q : Nat × LV × List Value × AH) : Prop :=
  ∀ (ls : Array Slot) (H : Heap) (locs : List Loc), Sx s mi sz ad zf D cA n0 z0 q.2.1 q.2.2.2 ls H locs → W p l e R s m args below meth c H locs (q.2.2.2.length - n0) (asz q.2.2.2 - z0) Q (F0 m q.1 ls (q.2.2.1.map (cv ad zf)))
theorem CT8_ok : CT.all (fun e => !(e.2.2.2.2.2.1 == 8) || (decide (Cond.methodLink (oN e.1) e.2.1 objectInit ∈ lw_tbl) && goodWord (.methodLink (oN e.1) e.2.1 objectInit))) = true := by decide +kernel
theorem CT9_ok : CT.all (fun e => !(e.2.2.2.2.2.1 == 9) || (decide (Cond.methodLink (oN e.1) e.2.1 arraycopyName ∈ lw_tbl) && goodWord (.methodLink (oN e.1) e.2.1 arraycopyName))) = true := by decide +kernel
theorem obj_ok : ([.instanceMethod objectInit, .code objectInit ⟨#[0xb1]⟩ 1 none] : List Cond).all (fun w => decide (w ∈ lw_tbl) && goodWord w) = true := by decide +kernel
theorem cpy_ok : ([.native arraycopyName, .static arraycopyName, .initialized "java/lang/System"] : List Cond).all (fun w => decide (w ∈ lw_tbl) && goodWord w) = true := by decide +kernel
theorem arc_ok : ([.arrayClass .int, .arrayClass .long, .arrayClass .boolean] : List Cond).all (fun w => decide (w ∈ lw_tbl) && goodWord w) = true := by decide +kernel
theorem lw_g {w : Cond} (h : (decide (w ∈ lw_tbl) && goodWord w) = true) : w ∈ gtbl := by
  rw [Bool.and_eq_true] at h
  exact List.mem_filter.mpr ⟨of_decide_eq_true h.1, h.2⟩
theorem lay_ok : vwCl.all (fun q => (u_ws q.1 q.2.1 q.2.2).all (fun w => decide (w ∈ lw_tbl) && goodWord w)) = true := by decide +kernel
theorem nam_ok : ∀ (ci : Nat) (q : vw_C), vwCl[ci]? = some q → (∃ ty : Nat → FieldType, (∀ k, k < q.2.2 → parseFieldDescriptor (q.2.1 k).2.2.1 = some (ty k)) ∧ ∀ k, k < q.2.2 → defaultValue (ty k) = vp_V (DF.getD ci []) k) ∧ ∀ a, a < q.2.2 → ∀ b, b < q.2.2 → a ≠ b → (q.2.1 a).2.1 ≠ (q.2.1 b).2.1
  | 0, q, h => by cases h; exact ⟨⟨tyX1, tyX1_ok, by decide +kernel⟩, nmX1⟩
  | 1, q, h => by cases h; exact ⟨⟨tyX2, tyX2_ok, by decide +kernel⟩, nmX2⟩
  | 2, q, h => by cases h; exact ⟨⟨tyX3, tyX3_ok, by decide +kernel⟩, nmX3⟩
  | 3, q, h => by cases h; exact ⟨⟨tyX4, tyX4_ok, by decide +kernel⟩, nmX4⟩
  | 4, q, h => by cases h; exact ⟨⟨tyX5, tyX5_ok, by decide +kernel⟩, nmX5⟩
  | 5, q, h => by cases h; exact ⟨⟨tyX6, tyX6_ok, by decide +kernel⟩, nmX6⟩
  | 6, q, h => by cases h; exact ⟨⟨tyX7, tyX7_ok, by decide +kernel⟩, nmX7⟩
  | 7, q, h => by cases h; exact ⟨⟨tyX8, tyX8_ok, by decide +kernel⟩, nmX8⟩
  | 8, q, h => by cases h; exact ⟨⟨tyX9, tyX9_ok, by decide +kernel⟩, nmX9⟩
  | 9, q, h => by cases h; exact ⟨⟨tyX10, tyX10_ok, by decide +kernel⟩, nmX10⟩
  | 10, q, h => by cases h; exact ⟨⟨tyX11, tyX11_ok, by decide +kernel⟩, nmX11⟩
  | 11, q, h => by cases h; exact ⟨⟨tyX12, tyX12_ok, by decide +kernel⟩, nmX12⟩
  | n + 12, q, h => by simp at h
theorem lay_in {ci : Nat} {q : vw_C} (h : vwCl[ci]? = some q) : ∀ w ∈ u_ws q.1 q.2.1 q.2.2, w ∈ gtbl := by
  intro w hw
  have h1 := List.all_eq_true.mp lay_ok q (List.mem_of_getElem? h)
  exact lw_g (List.all_eq_true.mp h1 w hw)
theorem fE_of {o i : Nat} {t : FE} (h : fE o i = some t) : okF t = true ∧ t.1 = o ∧ t.2.1 = i := by
  have h1 := List.mem_of_find?_eq_some h
  have h2 := List.find?_some h
  simp only [Bool.and_eq_true, beq_iff_eq] at h2
  exact ⟨List.all_eq_true.mp FT_ok t h1, h2.1, h2.2⟩
theorem cE_of {o i : Nat} {t : CE} (h : cE o i = some t) : t ∈ CT ∧ okC t = true ∧ t.1 = o ∧ t.2.1 = i := by
  have h1 := List.mem_of_find?_eq_some h
  have h2 := List.find?_some h
  simp only [Bool.and_eq_true, beq_iff_eq] at h2
  exact ⟨h1, List.all_eq_true.mp CT_ok t h1, h2.1, h2.2⟩
