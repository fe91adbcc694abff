/-! THE PURE MACHINE AND THE MACHINE: how a pure frame and a pure heap stand in a real one -/
def cv (ad : Nat → Nat) (zf : Value) : Value → Value
  | .ref a => .ref (ad a)
  | .retAddr _ => zf
  | v => v
def ce (ad : Nat → Nat) (zf : Value) (cA : Nat → ClassId) : va_E → va_E
  | .inl (t, n, .inl f) => .inl (cA t, n, .inl f)
  | .inl (t, n, .inr (.inl f)) => .inl (cA t, n, .inr (.inl f))
  | .inl (t, n, .inr (.inr (.inl f))) => .inl (cA t, n, .inr (.inr (.inl f)))
  | .inl (t, n, .inr (.inr (.inr (.inl f)))) => .inl (cA t, n, .inr (.inr (.inr (.inl f))))
  | .inl (t, n, .inr (.inr (.inr (.inr f)))) => .inl (cA t, n, .inr (.inr (.inr (.inr (fun j => (f j).map ad)))))
  | .inr (ci, fs) => .inr (ci, fs.map (cv ad zf))
def cw (ad : Nat → Nat) (zf : Value) (cA : Nat → ClassId) (ah : AH) : va_W := ah.mapIdx (fun k e => (ad k, ce ad zf cA e))
theorem cw_get {ad : Nat → Nat} {zf : Value} {cA : Nat → ClassId} {ah : AH} {k : Nat} {e : va_E} (h : ah[k]? = some e) : (cw ad zf cA ah)[k]? = some (ad k, ce ad zf cA e) := by
  unfold cw
  rw [List.getElem?_mapIdx, h]
  rfl
theorem cw_set {ad : Nat → Nat} {zf : Value} {cA : Nat → ClassId} {ah : AH} {k : Nat} {e : va_E} : cw ad zf cA (ah.set k e) = (cw ad zf cA ah).set k (ad k, ce ad zf cA e) := by
  apply List.ext_getElem?
  intro i
  unfold cw
  rw [List.getElem?_mapIdx, List.getElem?_set, List.getElem?_set, List.length_mapIdx, List.getElem?_mapIdx]
  by_cases hi : k = i
  · subst hi
    by_cases hl : k < ah.length <;> simp [hl]
  · simp [hi]
theorem cw_app {ad : Nat → Nat} {zf : Value} {cA : Nat → ClassId} {ah : AH} {e : va_E} : cw ad zf cA (ah ++ [e]) = cw ad zf cA ah ++ [(ad ah.length, ce ad zf cA e)] := by
  unfold cw
  rw [List.mapIdx_concat]
theorem cw_len {ad : Nat → Nat} {zf : Value} {cA : Nat → ClassId} {ah : AH} : (cw ad zf cA ah).length = ah.length := by
  unfold cw
  rw [List.length_mapIdx]
theorem cw_inv {ad : Nat → Nat} {zf : Value} {cA : Nat → ClassId} {ah : AH} {k : Nat} {q : Nat × va_E} (h : (cw ad zf cA ah)[k]? = some q) : k < ah.length ∧ q.1 = ad k := by
  have hl := (List.getElem?_eq_some_iff.mp h).1
  rw [cw_len] at hl
  refine ⟨hl, ?_⟩
  rw [cw_get (List.getElem?_eq_getElem hl)] at h
  cases h
  rfl
theorem cw_D {ad : Nat → Nat} {zf : Value} {cA : Nat → ClassId} {ah : AH} {sz : Nat} (had : ∀ k, k < 1000000 → ad k = sz + k) (hl : ah.length ≤ 1000000) : va_D (fun q => sz ≤ q) (cw ad zf cA ah) := by
  refine ⟨fun i j p q hi hj hpq => ?_, fun k q hk => ?_⟩
  · obtain ⟨h1, e1⟩ := cw_inv hi
    obtain ⟨h2, e2⟩ := cw_inv hj
    rw [e1, e2, had i (by omega), had j (by omega)] at hpq
    omega
  · obtain ⟨h1, e1⟩ := cw_inv hk
    show sz ≤ q.1
    rw [e1, had k (by omega)]
    omega
def csz : va_E → Nat
  | .inl q => q.2.1
  | .inr q => match vwCl[q.1]? with
    | some r => r.2.2
    | none => 0
def asz (ah : AH) : Nat := (ah.map csz).sum
theorem asz_app (ah : AH) (e : va_E) : asz (ah ++ [e]) = asz ah + csz e := by simp [asz]
theorem sum_set : ∀ (l : List Nat) (k x : Nat), l[k]? = some x → (l.set k x).sum = l.sum := by
  intro l k x h
  have : l.set k x = l := by
    apply List.ext_getElem?
    intro i
    rw [List.getElem?_set]
    by_cases hi : k = i
    · subst hi
      have hl := (List.getElem?_eq_some_iff.mp h).1
      rw [if_pos rfl, if_pos hl, h]
    · rw [if_neg hi]
  rw [this]
theorem asz_set {ah : AH} {k : Nat} {e e0 : va_E} (h : ah[k]? = some e0) (hc : csz e = csz e0) : asz (ah.set k e) = asz ah := by
  unfold asz
  rw [List.map_set, hc]
  exact sum_set _ _ _ (by rw [List.getElem?_map, h]; rfl)
theorem cv_cat {ad : Nat → Nat} {zf : Value} (hz : zf = .null ∨ ∃ a, zf = .ref a) (v : Value) : (cv ad zf v).category = v.category := by
  cases v <;> first | rfl | (rcases hz with h | ⟨a, h⟩ <;> (simp only [cv, h]; rfl))
theorem cv_stW {ad : Nat → Nat} {zf : Value} (hz : zf = .null ∨ ∃ a, zf = .ref a) (st : List Value) : ((st.map (cv ad zf)).map fun v => v.category).sum = stW st := by
  unfold stW
  rw [List.map_map]
  congr 1
  apply List.map_congr_left
  intro v _
  exact cv_cat hz v
theorem isI_of {v : Value} (h : isI v = true) : ∃ x, v = .int x := by cases v <;> first | exact ⟨_, rfl⟩ | cases h
theorem isL_of {v : Value} (h : isL v = true) : ∃ x, v = .long x := by cases v <;> first | exact ⟨_, rfl⟩ | cases h
theorem isA_of {v : Value} (h : isA v = true) : v = .null ∨ ∃ x, v = .ref x := by
  cases v with
  | null => exact Or.inl rfl
  | ref x => exact Or.inr ⟨x, rfl⟩
  | _ => cases h
/-- the locals -/
def asl (ad : Nat → Nat) (zf : Value) (al : LV) : List (Nat × Value) := (List.range al.length).filterMap (fun i => (al.getD i none).map (fun v => (i, cv ad zf v)))
theorem asl_mem {ad : Nat → Nat} {zf : Value} {al : LV} {i : Nat} {w : Value} : (i, w) ∈ asl ad zf al ↔ ∃ v, al[i]? = some (some v) ∧ w = cv ad zf v := by
  unfold asl
  rw [List.mem_filterMap]
  constructor
  · rintro ⟨j, hj, h⟩
    rw [Option.map_eq_some_iff] at h
    obtain ⟨v, h1, h2⟩ := h
    cases h2
    rw [List.mem_range] at hj
    refine ⟨v, ?_, rfl⟩
    rw [List.getD_eq_getElem?_getD, List.getElem?_eq_getElem hj] at h1
    rw [List.getElem?_eq_getElem hj]
    exact congrArg some h1
  · rintro ⟨v, h1, h2⟩
    have hl := (List.getElem?_eq_some_iff.mp h1).1
    refine ⟨i, List.mem_range.mpr hl, ?_⟩
    rw [List.getD_eq_getElem?_getD, h1, h2]
    rfl
def lok (ad : Nat → Nat) (zf : Value) (al : LV) (n : Nat) (ls : Array Slot) : Prop := al.length = n ∧ lv_has ls n (asl ad zf al)
theorem lok.get {ad : Nat → Nat} {zf : Value} {al : LV} {n : Nat} {ls : Array Slot} (h : lok ad zf al n ls) {i : Nat} {v : Value} (hi : al[i]? = some (some v)) : ls[i]? = some (.val (cv ad zf v)) := h.2.2.2 (i, cv ad zf v) (asl_mem.mpr ⟨v, hi, rfl⟩)
theorem lok.of {ad : Nat → Nat} {zf : Value} {al : LV} {n : Nat} {ls : Array Slot} {l : List (Nat × Value)} (hn : al.length = n) (h : lv_has ls n l) (hq : ∀ i v, al[i]? = some (some v) → (i, cv ad zf v) ∈ l) : lok ad zf al n ls := by
  refine ⟨hn, h.1, h.2.1, fun q hq2 => ?_⟩
  obtain ⟨i, w⟩ := q
  obtain ⟨v, h1, h2⟩ := asl_mem.mp hq2
  have := h.2.2 _ (hq i v h1)
  rw [h2]
  exact this
theorem nkk_of {al : LV} {k i : Nat} {v : Value} (h : nkk al k = true) (hi : al[i]? = some (some v)) (hk : i + 1 = k) : v.category = 1 := by
  subst hk
  have h1 : nk (List.getD al i none) = true := h
  rw [List.getD_eq_getElem?_getD, hi] at h1
  simpa [nk] using h1
theorem lok.set1 {ad : Nat → Nat} {zf : Value} (hz : zf = .null ∨ ∃ a, zf = .ref a) {al : LV} {n k : Nat} {ls ls2 : Array Slot} {v : Value} (h : lok ad zf al n ls) (hk : nkk al k = true)
    (h2 : lv_has ls2 n ((k, cv ad zf v) :: (asl ad zf al).filter (fun q => !(q.1 == k) && !(q.1 + 1 == k && q.2.category == 2)))) : lok ad zf (al.set k (some v)) n ls2 := by
  refine lok.of (by rw [List.length_set]; exact h.1) h2 fun i w hw => ?_
  rw [List.getElem?_set] at hw
  by_cases hi : k = i
  · subst hi
    rw [if_pos rfl] at hw
    split at hw
    · cases hw; exact List.mem_cons_self
    · cases hw
  · rw [if_neg hi] at hw
    refine List.mem_cons_of_mem _ (List.mem_filter.mpr ⟨asl_mem.mpr ⟨w, hw, rfl⟩, ?_⟩)
    have h3 : ¬ (i = k) := fun q => hi q.symm
    by_cases h4 : i + 1 = k
    · have h5 := nkk_of hk hw h4
      simp [h3, cv_cat hz, h5]
    · simp [h3, h4]
theorem lok.set2 {ad : Nat → Nat} {zf : Value} (hz : zf = .null ∨ ∃ a, zf = .ref a) {al : LV} {n k : Nat} {ls ls2 : Array Slot} {v : Value} (h : lok ad zf al n ls) (hk : nkk al k = true)
    (h2 : lv_has ls2 n ((k, cv ad zf v) :: (asl ad zf al).filter (fun q => !(q.1 == k) && (!(q.1 == k + 1) && !(q.1 + 1 == k && q.2.category == 2))))) : lok ad zf ((al.set k (some v)).set (k + 1) none) n ls2 := by
  refine lok.of (by rw [List.length_set, List.length_set]; exact h.1) h2 fun i w hw => ?_
  rw [List.getElem?_set] at hw
  by_cases hi2 : k + 1 = i
  · subst hi2
    rw [if_pos rfl] at hw
    split at hw <;> cases hw
  rw [if_neg hi2, List.getElem?_set] at hw
  by_cases hi : k = i
  · subst hi
    rw [if_pos rfl] at hw
    split at hw
    · cases hw; exact List.mem_cons_self
    · cases hw
  · rw [if_neg hi] at hw
    refine List.mem_cons_of_mem _ (List.mem_filter.mpr ⟨asl_mem.mpr ⟨w, hw, rfl⟩, ?_⟩)
    have h3 : ¬ (i = k) := fun q => hi q.symm
    have h6 : ¬ (i = k + 1) := fun q => hi2 q.symm
    by_cases h4 : i + 1 = k
    · have h5 := nkk_of hk hw h4
      simp [h3, h6, cv_cat hz, h5]
    · simp [h3, h4, h6]
theorem flA_args {ad : Nat → Nat} {zf : Value} (hz : zf = .null ∨ ∃ a, zf = .ref a) : ∀ (as : List Value) (j i : Nat) (v : Value), (flA as)[i]? = some (some v) → (j + i, cv ad zf v) ∈ lv_args j (as.map (cv ad zf))
  | [], _, i, v, h => by simp [flA] at h
  | a :: r, j, i, v, h => by
    unfold flA at h
    rw [List.map_cons]
    unfold lv_args
    rw [cv_cat hz]
    by_cases ha : a.category = 2
    · rw [if_pos ha] at h ⊢
      match i, h with
      | 0, h => simp at h; subst h; exact List.mem_cons_self
      | 1, h => simp at h
      | i + 2, h =>
        simp at h
        have := flA_args (ad := ad) hz r (j + 2) i v h
        rw [show j + (i + 2) = j + 2 + i by omega]
        exact List.mem_cons_of_mem _ this
    · rw [if_neg ha] at h ⊢
      match i, h with
      | 0, h => simp at h; subst h; exact List.mem_cons_self
      | i + 1, h =>
        simp at h
        have := flA_args (ad := ad) hz r (j + 1) i v h
        rw [show j + (i + 1) = j + 1 + i by omega]
        exact List.mem_cons_of_mem _ this
theorem flA_len {ad : Nat → Nat} {zf : Value} (hz : zf = .null ∨ ∃ a, zf = .ref a) : ∀ (as : List Value), (lg_sl (as.map (cv ad zf))).length = (flA as).length
  | [] => rfl
  | a :: r => by
    have ih := flA_len (ad := ad) hz r
    unfold lg_sl at ih ⊢
    rw [List.map_cons, List.flatMap_cons, List.length_append, ih, cv_cat hz]
    show _ = (if a.category = 2 then some a :: none :: flA r else some a :: flA r).length
    by_cases ha : a.category = 2
    · rw [if_pos ha, if_pos ha]; simp; omega
    · rw [if_neg ha, if_neg ha]; simp; omega
theorem lok_entry {ad : Nat → Nat} {zf : Value} (hz : zf = .null ∨ ∃ a, zf = .ref a) (as : List Value) {n : Nat} (h : (flA as).length ≤ n) :
    lok ad zf (ent n as) n ((lg_sl (as.map (cv ad zf)) ++ List.replicate (n - (lg_sl (as.map (cv ad zf))).length) Slot.unset).toArray) := by
  refine lok.of (by unfold ent; rw [List.length_append, List.length_replicate]; omega) (lv_entry (as.map (cv ad zf)) (by rw [flA_len (ad := ad) hz]; exact h)) fun i v hi => ?_
  unfold ent at hi
  by_cases hl : i < (flA as).length
  · rw [List.getElem?_append_left hl] at hi
    have := flA_args (ad := ad) hz as 0 i v hi
    rwa [Nat.zero_add] at this
  · rw [List.getElem?_append_right (by omega), List.getElem?_replicate] at hi
    split at hi <;> cases hi
