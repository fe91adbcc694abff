/-! THE CLAIM OUT OF ONE WALK OF THE LAW'S BODY. Your part is whole_start (and what it stands on); all else here is the same for every law, but numbers. -/
def R_law : String := "OldLadderLaw"
def lw_P (b : Addr) (xs : List Int32) (args : Array Value) (s : State) : Prop := args = #[.ref b] ∧ s.IntsAt b xs ∧ xs.length ≤ 2048 ∧ (Jvm.Cond.and given_1 narrow_1).before args s = true
def lw_Q (_ : Array Value) (s : State) (o : Outcome) (t : State) : Prop := o = .returned (some (.int 1)) ∧ Framed s o t [] 600000 7302250
def lw_Z (below : List Frame) (a : Array Value) (s : State) : State → Prop := fun t => ∃ o, t.status = .running ∧ Ended t below o ∧ lw_Q a s o t
/-- the law's own end, with 1 on the stack, nothing written that was there before, its room as the claim has it -/
theorem lw_ret {p : Program} {l : Launch} {e : Env} {s : State} {m : MethodId} {below : List Frame} {meth : Method} {c : Code} {b : Nat} (hx : p.tables.exec = Jvm.exec) (hb : c.code = code) (hr : meth.sig.returnType = ret) (hlocks : meth.locks = false) {pc : Nat} {H : Heap} {ls : Array Slot} (hdg : decode code pc = .ok (.ireturn, 1)) : W p l e room_1 s m #[Value.ref b] below meth c H [] 600000 7302250 (lw_Z below #[Value.ref b] s) (F0 m pc ls [.int 1]) := by
  intro T hT X
  obtain ⟨fs, hret, hrun, hended, hW, hframe⟩ := X.leave (v := some (.int 1)) (hlocks := hlocks) (fun h => by rw [hr] at h; cases h)
  have hmeth' : T.vm.method? m = some meth := X.method'
  refine ⟨T.setFrames fs, ?_, .returned (some (.int 1)), hrun, hended, rfl, ⟨_, rfl⟩, hW, hframe⟩
  jvm_step X.here [X.here.top, hx, hb, hdg, hmeth', hr, ret, narrow_b1]
  (try refine ⟨rfl, ?_⟩); (try refine ⟨rfl, ?_⟩)
  first | (intro acts; rw [hret _ acts rfl rfl rfl]) | rw [hret _ _ rfl rfl rfl]
  exact Steps.refl _
/-- what holds at the law's entry: the machine, the code, the tables' words (any of lw_tbl by 'hts w (by decide +kernel)'), the script of L ints xs at the cell b, what the Statement gives of the start (any of its parts by flat_of_before) -/
def lw_At (p : Program) (s : State) (m : MethodId) (meth : Method) (c : Code) (b L : Nat) (xs : Nat → Int32) : Prop :=
  p.tables.exec = Jvm.exec ∧ c.code = code ∧ meth.sig.returnType = ret ∧ c.maxLocals = 4 ∧ s.vm.findClass R_law = some m.cls ∧ (∀ w ∈ lw_tbl, w.before #[Value.ref b] s = true) ∧ va_X b L xs s s.heap ∧ b < s.heap.size ∧ meth.locks = false ∧ (Jvm.Cond.and given_1 narrow_1).before #[Value.ref b] s = true
/-! the law's frame, out of the pure machine's run -/
def LawRuns : Prop := ∀ X : XS, X.1 ≤ 2048 → Wp X 60 186 0 (ent 4 [.ref SCR]) [] [] (fun v h => v = some (.int 1) ∧ h.length ≤ 600000 ∧ asz h ≤ 7302250)
abbrev fN : List Cond := flatC (Jvm.Cond.and given_1 narrow_1)
def tmS (i : Nat) : Term := .string "OldLadder" (SX.getD i (0, "")).1
theorem f_ex : ∀ i, i < 10 → Cond.exactly (tmS i) "java/lang/String" ∈ fN := by decide +kernel
theorem f_co : ∀ i, i < 10 → Cond.eq (.field (tmS i) "java/lang/String" "coder" "B") (.int 0) ∈ fN := by decide +kernel
theorem f_ar : ∀ i, i < 10 → Cond.arrayOf (.field (tmS i) "java/lang/String" "value" "[B") .byte ∈ fN := by decide +kernel
theorem f_le : ∀ i, i < 10 → Cond.eq (.length (.field (tmS i) "java/lang/String" "value" "[B")) (.int (Int32.ofNat ((SB.map List.length).getD i 0))) ∈ fN := by decide +kernel
theorem f_el : ∀ i, i < 10 → ∀ j, j < (SB.map List.length).getD i 0 → Cond.eq (.elem (.field (tmS i) "java/lang/String" "value" "[B") (.int (Int32.ofNat j))) (.int ((SB.getD i []).getD j 0)) ∈ fN := by decide +kernel
theorem f_ne : ∀ i, i < 10 → ∀ j, j < 10 → i ≠ j → Cond.not (Cond.eq (tmS i) (tmS j)) ∈ fN ∨ Cond.not (Cond.eq (tmS j) (tmS i)) ∈ fN := by decide +kernel
theorem f_cs : Cond.eq (.static "java/lang/String" "COMPACT_STRINGS" "Z") (.int 1) ∈ fN := by decide +kernel
theorem f_si : Cond.isRef (.static "jdk/internal/util/Preconditions" "SIOOBE_FORMATTER" "Ljava/util/function/BiFunction;") ∈ fN := by decide +kernel
theorem f_tb : ([.laysStatic "java/lang/String" "COMPACT_STRINGS" "Z", .initialized "java/lang/String", .laysStatic "jdk/internal/util/Preconditions" "SIOOBE_FORMATTER" "Ljava/util/function/BiFunction;", .initialized "jdk/internal/util/Preconditions", .arrayOver (.object RX0), .arrayOver (.object RX4)] : List Cond).all (fun w => decide (w ∈ lw_tbl)) = true := by decide +kernel
theorem f_in : ∀ w ∈ ([.laysStatic "java/lang/String" "COMPACT_STRINGS" "Z", .initialized "java/lang/String", .laysStatic "jdk/internal/util/Preconditions" "SIOOBE_FORMATTER" "Ljava/util/function/BiFunction;", .initialized "jdk/internal/util/Preconditions", .arrayOver (.object RX0), .arrayOver (.object RX4)] : List Cond), w ∈ lw_tbl := fun w h => of_decide_eq_true (List.all_eq_true.mp f_tb w h)
theorem f_iN : vwCl.all (fun q => decide (Cond.instantiable q.1 q.2.2 ∈ lw_tbl)) = true := by decide +kernel
theorem f_sr : ∀ k, k < 10 → Cond.stringRef RX11 (SX.getD k (0, "")).1 (SX.getD k (0, "")).2 ∈ lw_tbl := by decide +kernel
theorem isX_on {w : Cond} (h : isX w = true) : w.onTables = true := by
  cases w <;> first | rfl | (cases h; done)
theorem ar_of {s : State} {args : Array Value} {ty : FieldType} (h : (Cond.arrayClass ty).before args s = true) : ∃ cA, ArrOfT s cA ty ∧ s.vm.findClass ("[" ++ ty.toString) = some cA := by
  obtain ⟨c, k, comp, h1, h2, h3⟩ := Cond.arrayClass_spec h
  exact ⟨c, fun n z => ⟨fun k h => (by cases h), k, h2, comp, h3⟩, h1⟩
theorem aq_of {s : State} {args : Array Value} {C : String} (h : (Cond.arrayOver (.object C)).before args s = true) : ∃ cA, ArrOfT s cA (.object C) ∧ va_RA s cA (.object C) := by
  obtain ⟨comp, c, k, h1, h2, h3, h4, h5⟩ := Cond.arrayOver_spec h
  exact ⟨c, fun n z => ⟨fun k h => (by cases h), k, h3, comp, h4⟩, k, comp, h3, h4, h1, h5⟩
theorem k_of {s : State} {args : Array Value} (hts : ∀ w ∈ lw_tbl, w.before args s = true) : ∃ D : va_G, ∀ (k : Nat) (q : vw_C), vwCl[k]? = some q → u_Kn s q.1 q.2.1 q.2.2 (D.1 k) (D.2 k) := by
  have h : ∀ k : Nat, ∃ z : ClassId × (Nat → Nat), ∀ q : vw_C, vwCl[k]? = some q → u_Kn s q.1 q.2.1 q.2.2 z.1 z.2 := by
    intro k
    cases hk : vwCl[k]? with
    | none => exact ⟨(0, fun _ => 0), fun q hq => by cases hq⟩
    | some q =>
      have h1 := of_decide_eq_true (List.all_eq_true.mp f_iN q (List.mem_of_getElem? hk))
      obtain ⟨c0, i0, h2⟩ := u_known (C := q.1) (T := q.2.1) (N := q.2.2) (n := q.2.2) (ws := lw_tbl) hts (fun w hw => (List.mem_filter.mp (lay_in hk w hw)).1) (hts _ h1)
      exact ⟨(c0, i0), fun q2 hq => by cases hq; exact h2⟩
  obtain ⟨f, hf⟩ := Classical.axiomOfChoice h
  exact ⟨(fun k => (f k).1, fun k => (f k).2), hf⟩
set_option maxRecDepth 10000 in
theorem whole_of (hLaw : LawRuns) {p : Program} {e : Env} {s : State} {m : MethodId} {below : List Frame} {meth : Method} {c : Code} (l : Launch) {b L : Nat} {xs : Nat → Int32} (hL : L ≤ 2048) (C0 : lw_At p s m meth c b L xs) : W p l e room_1 s m #[Value.ref b] below meth c s.heap [] 0 0 (lw_Z below #[Value.ref b] s) (entryFrame m ([Value.ref b] : List Value).toArray 4) := by
  obtain ⟨hx, hb, hr, hml, hown, hts, hX, hbl, hlocks, hgv⟩ := C0
  have hfl := flat_of_before _ hgv
  have hA : ∀ a : Nat, a < s.heap.size → ¬ (fun q => s.heap.size ≤ q) a := fun a h => Nat.not_le.mpr h
  obtain ⟨adK, adV, hS10, hS11⟩ := vk_Sof (args := #[Value.ref b]) (s := s) (N := 10) (tm := tmS) (len := SB.map List.length) (byt := SB) (A := fun q => s.heap.size ≤ q) (by decide +kernel) (fun i hi => hfl _ (f_ex i hi)) (fun i hi => hfl _ (f_co i hi)) (fun i hi => hfl _ (f_ar i hi)) (fun i hi => hfl _ (f_le i hi)) (fun i hi j hj => hfl _ (f_el i hi j hj)) (fun i j hi hj hij => (f_ne i hi j hj hij).imp (fun h => hfl _ h) (fun h => hfl _ h)) hA
  have hcs : va_Z "java/lang/String" "COMPACT_STRINGS" "Z" (.int 1) (fun q => s.heap.size ≤ q) s s.heap := va_Zof (args := #[Value.ref b]) (hts _ (f_in _ (by simp))) (hts _ (f_in _ (by simp))) (va_eqt (hfl _ f_cs)) hA
  have hsi := va_Zqof (args := #[Value.ref b]) (s := s) (A := fun q => s.heap.size ≤ q) (hts _ (f_in (.laysStatic "jdk/internal/util/Preconditions" "SIOOBE_FORMATTER" "Ljava/util/function/BiFunction;") (by simp))) (hts _ (f_in (.initialized "jdk/internal/util/Preconditions") (by simp))) (hfl _ f_si) hA
  obtain ⟨zf, hzf, hzf2⟩ : ∃ zf, (zf = Value.null ∨ ∃ a, zf = .ref a) ∧ va_Z "jdk/internal/util/Preconditions" "SIOOBE_FORMATTER" "Ljava/util/function/BiFunction;" zf (fun q => s.heap.size ≤ q) s s.heap := by
    rcases hsi with h | ⟨t, h⟩
    · exact ⟨_, Or.inl rfl, h⟩
    · exact ⟨_, Or.inr ⟨t, rfl⟩, h⟩
  obtain ⟨D, hD⟩ := k_of hts
  have harc : ∀ w ∈ ([.arrayClass .int, .arrayClass .long, .arrayClass .boolean] : List Cond), w ∈ lw_tbl := fun w hw => (List.mem_filter.mp (arc_g hw)).1
  obtain ⟨a0, a01, a02⟩ := ar_of (hts _ (harc (.arrayClass .int) (by simp)))
  obtain ⟨a1, a11, a12⟩ := ar_of (hts _ (harc (.arrayClass .long) (by simp)))
  obtain ⟨a2, a21, a22⟩ := ar_of (hts _ (harc (.arrayClass .boolean) (by simp)))
  obtain ⟨a3, a31, a32⟩ := aq_of (C := RX0) (hts _ (f_in (.arrayOver (.object RX0)) (by simp)))
  obtain ⟨a4, a41, a42⟩ := aq_of (C := RX4) (hts _ (f_in (.arrayOver (.object RX4)) (by simp)))
  obtain ⟨cA, hcA⟩ : ∃ cA : Nat → ClassId, cA = fun t => [a0, a1, a2, a3, a4].getD t 0 := ⟨_, rfl⟩
  obtain ⟨ad, had⟩ : ∃ ad : Nat → Nat, ad = fun k => if k < 1000000 then s.heap.size + k else if k = SCR then b else if k < 1000010 then adK (k - 1000000) else adV (k - 1000016) := ⟨_, rfl⟩
  have hK : va_K D vwCl (tyL cA) s := by
    refine ⟨hD, fun k q hk => ?_⟩
    subst hcA
    match k, hk with
    | 0, hk => cases hk; exact ⟨a01, a02⟩
    | 1, hk => cases hk; exact ⟨a11, a12⟩
    | 2, hk => cases hk; exact ⟨a21, a22⟩
    | 3, hk => cases hk; exact ⟨a31, a32⟩
    | 4, hk => cases hk; exact ⟨a41, a42⟩
    | k + 5, hk => simp [tyL] at hk
  have ad1 : ∀ k, k < 10 → ad (1000000 + k) = adK k := by
    intro k hk
    rw [had]
    dsimp only
    rw [if_neg (by omega), if_neg (by unfold SCR; omega), if_pos (by omega), Nat.add_sub_cancel_left]
  have ad2 : ∀ k, k < 10 → ad (1000016 + k) = adV k := by
    intro k hk
    rw [had]
    dsimp only
    rw [if_neg (by omega), if_neg (by unfold SCR; omega), if_neg (by omega), Nat.add_sub_cancel_left]
  have ad3 : ad SCR = b := by rw [had]; rfl
  have ad4 : ∀ k, k < 1000000 → ad k = s.heap.size + k := by
    intro k hk
    rw [had]
    exact if_pos hk
  have hEt : Et ad D cA s := by
    refine ⟨hK, fun w hw => va_Nw.of (isX_on (List.mem_filter.mp hw).2) (hts w (List.mem_filter.mp hw).1), fun t ht ci hci q hq => ?_, va_AO.of (hts _ (f_in _ (by simp))), va_AO.of (hts _ (f_in _ (by simp))), fun k q hq => ?_⟩
    · have h := List.all_eq_true.mp IT_ok t ht
      obtain ⟨o, i, C, p1, y, n⟩ := t
      unfold okIT at h
      rw [Bool.and_eq_true, Bool.and_eq_true] at h
      have h2 := List.all_eq_true.mp h.2 ci hci
      rw [hq] at h2
      exact va_Nc.of (hfl _ (of_decide_eq_true h2))
    · have hk : k < 10 := (List.getElem?_eq_some_iff.mp hq).1
      have e1 : SX.getD k (0, "") = q := by rw [List.getD_eq_getElem?_getD, hq]; rfl
      have h1 := hts _ (f_sr k hk)
      have h2 := hS11 k hk
      unfold tmS at h2
      rw [e1] at h1 h2
      rw [ad1 k hk]
      exact vk_R.of h1 h2
  have hEh : Eh (L, xs) s.heap.size ad zf s s.heap := by
    refine ⟨?_, hcs, hzf2, by rw [ad3]; exact hX⟩
    refine ⟨fun i hi => ?_, fun i j hi hj h => ?_⟩
    · have h1 := hS10.1 i hi
      dsimp only
      rw [ad1 i hi, ad2 i hi]
      exact h1
    · dsimp only at h
      rw [ad1 i hi, ad1 j hj] at h
      exact hS10.2 i j hi hj h
  have hEn : En (L, xs) s.heap.size ad zf D cA s := ⟨hEt, hEh, ⟨hzf, by rw [ad3]; exact hbl, ad4⟩, Nat.le_refl _⟩
  obtain ⟨n, ⟨v, ah'⟩, hrun, hv, hl1, hl2⟩ := hLaw (L, xs) hL
  dsimp only at hv hl1 hl2
  subst hv
  have e0 : ([Value.ref b] : List Value) = ([Value.ref SCR] : List Value).map (cv ad zf) := by
    show [Value.ref b] = [Value.ref (ad SCR)]
    rw [ad3]
  have e1 : (#[Value.ref b] : Array Value) = (([Value.ref SCR] : List Value).map (cv ad zf)).toArray := by rw [← e0]
  have hC : Cx p room_1 s m #[Value.ref b] meth c 186 (L, xs) s.heap.size ad zf D cA :=
    ⟨hx, hb, hml, hr, hlocks, hown, fun h => absurd h (by decide +kernel), fun w hw => hts w (List.mem_filter.mp hw).1, hEn, Nat.le_of_ble_eq_true rfl, Nat.le_of_ble_eq_true rfl⟩
  have K := sim l (L, xs) s.heap.size ad zf D cA n 60 186 0 (ent 4 [.ref SCR]) [] [] _ ah' hrun p e room_1 s m #[Value.ref b] below meth c 0 0 (lw_Z below #[Value.ref b] s) hC (Nat.le_of_ble_eq_true rfl) (Nat.le_of_ble_eq_true rfl) hl1 hl2 (Nat.le_trans hl1 (Nat.le_of_ble_eq_true rfl)) ?_
  · rw [show entryFrame m ([Value.ref b] : List Value).toArray 4 = F0 m 0 ((lg_sl (([Value.ref SCR] : List Value).map (cv ad zf)) ++ List.replicate (4 - (lg_sl (([Value.ref SCR] : List Value).map (cv ad zf))).length) Slot.unset).toArray) [] by rw [← e0, lg_entry_eq]]
    exact K _ s.heap [] ⟨lok_entry hzf [.ref SCR] (n := 4) (Nat.le_of_ble_eq_true rfl), fun k q h => by simp [cw] at h, va_S.rf, Nat.zero_le _, Nat.le_refl _, Nat.le_refl _, rfl⟩
  · intro pc2 al2 st2 h ls H locs hS
    refine va_forget hS.2.2.1.2.2 ?_
    refine W.widen (k := 600000) (n := 7302250) hl1 hl2 ?_
    unfold stp at h
    split at h
    · next i len hdg =>
      rcases stI_kinds h with ⟨rfl, rfl, h1⟩ | ⟨rfl, rfl, h1⟩ | ⟨rfl, rfl, h1⟩ | ⟨rfl, rfl, h1⟩ | ⟨k, rfl, rfl, h1⟩ | ⟨k, rfl, rfl, h1⟩ | ⟨k, rfl, rfl, h1⟩
      · unfold rtI at h1
        split at h1
        · next w =>
          split at h1
          · split at h1
            · cases h1
              exact lw_ret hx hb hr hlocks hdg
            · cases h1
          · cases h1
        · cases h1
      · unfold rtL at h1
        repeat' split at h1
        all_goals cases h1
      · unfold rtA at h1
        split at h1
        · next w =>
          split at h1
          · next hq => exact absurd hq (by show ¬ ((false && isA w) = true); simp)
          · cases h1
        · cases h1
      · unfold rtV at h1
        repeat' split at h1
        all_goals cases h1
      · unfold iV at h1
        repeat' split at h1
        all_goals first | (cases h1; done) | (obtain ⟨w, -, -, h2⟩ := callTo_of h1; cases h2)
      · unfold iS at h1
        repeat' split at h1
        all_goals first | (cases h1; done) | (exact (aycp_on h1).elim) | (obtain ⟨w, -, -, h2⟩ := callTo_of h1; cases h2)
      · unfold iP at h1
        repeat' split at h1
        all_goals first | (cases h1; done) | (exact (nx_on h1).elim) | (obtain ⟨w, -, -, h2⟩ := callTo_of h1; cases h2)
    · cases h
