/-! a step of the pure machine is one of the machine: lengths, new cells, kinds, copies -/
section SN
variable {p : Program} {l : Launch} {e : Env} {R : Room} {s : State} {m : MethodId} {args : Array Value} {below : List Frame} {meth : Method} {c : Code} {Q : State → Prop}
variable {mi : Nat} {X : XS} {sz : Nat} {ad : Nat → Nat} {zf : Value} {D : va_G} {cA : Nat → ClassId} {n0 z0 : Nat} {pc : Nat} {al : LV} {st : List Value} {ah : AH} {q : Nat × LV × List Value × AH}
theorem sd_alen {a n : Nat} (hC : Cx p R s m args meth c mi X sz ad zf D cA) (hdg : decode (mC mi) pc = .ok (.arraylength, 1)) (hn : arN X ah a = some n) (kk : Kk p l e R s m args below meth c mi sz ad zf D cA n0 z0 Q (pc + 1, al, .int (Int32.ofNat n) :: st, ah)) : Kk p l e R s m args below meth c mi sz ad zf D cA n0 z0 Q (pc, al, .ref a :: st, ah) := by
  intro ls H locs hS
  obtain ⟨hx, hb, hml, hr, hlo, hown, hnm, hts, hE, hR⟩ := hC
  unfold arN at hn
  split at hn
  · next hs =>
    subst hs
    cases hn
    exact va_slen hx hb hE.2.1.2.2.2 (Nat.lt_of_lt_of_le hE.2.2.1.2.1 hE.2.2.2) (Nat.not_le.mpr hE.2.2.1.2.1) hS.2.2.1 hdg (kk ls H locs hS)
  · split at hn
    · next w hw =>
      obtain ⟨k, h1, h2, h3⟩ := exB_of hw
      have hE4 := (hE.2.1.1.1 k h1).2.2.2
      dsimp only at hE4
      rw [h2, SB_len] at hE4
      have hE5 : va_T .byte (ad a) w.1 (fun j => .int (w.2 j)) (fun q => sz ≤ q) s s.heap := by rw [h3]; exact hE4
      obtain rfl := Option.some.inj hn
      exact va_tlen hx hb hE5 hS.2.2.1 rfl hdg (kk ls H locs hS)
    · split at hn
      · next t n' x ha =>
        split at hn
        · next ht =>
          cases hn
          have he := cw_get (ad := ad) (zf := zf) (cA := cA) ha
          have hty : ∃ ty, (tyL cA)[t]? = some (cA t, ty) := by
            match t, ht with
            | 0, _ => exact ⟨_, rfl⟩
            | 1, _ => exact ⟨_, rfl⟩
            | 2, _ => exact ⟨_, rfl⟩
            | 3, _ => exact ⟨_, rfl⟩
            | 4, _ => exact ⟨_, rfl⟩
            | k + 5, h => exact absurd h (Nat.not_lt.mpr (Nat.le_add_left 5 k))
          obtain ⟨ty, hty⟩ := hty
          rcases x with f | f | f | f | f <;> exact va_alen hx hb hE.1.1 hS.2.1 a t he hty rfl hdg (kk ls H locs hS)
        · cases hn
      · cases hn
theorem DF_cv (ci : Nat) : (DF.getD ci []).map (cv ad zf) = DF.getD ci [] := by
  have h : ∀ l ∈ DF, l.map (cv ad zf) = l := by
    unfold DF
    simp only [List.mem_cons, List.not_mem_nil, or_false]
    rintro l (rfl | rfl | rfl | rfl | rfl | rfl | rfl | rfl | rfl | rfl | rfl | rfl) <;> rfl
  rw [List.getD_eq_getElem?_getD]
  cases hd : DF[ci]? with
  | none => rfl
  | some l => exact h l (List.mem_of_getElem? hd)
/-- the address of a new cell -/
theorem new_ad {ws : va_E} {a : Nat} {H1 : Heap} (had : ∀ k, k < 1000000 → ad k = sz + k) (hl : ah.length < 1000000) (hP1 : va_P D vwCl (cw ad zf cA ah ++ [(a, ws)]) H1) (hD1 : va_D (fun q => sz ≤ q) (cw ad zf cA ah ++ [(a, ws)])) (hn : n0 ≤ ah.length) (hs : s.heap.size = sz + n0) (hz : H1.size ≤ s.heap.size + (ah.length - n0 + 1)) : a = ad ah.length := by
  have hlast : (cw ad zf cA ah ++ [(a, ws)])[ah.length]? = some (a, ws) := by
    rw [List.getElem?_append_right (by rw [cw_len]; exact Nat.le_refl _), cw_len, Nat.sub_self]
    rfl
  have h1 : a < H1.size := (hP1 _ _ hlast).lt
  have h2 : sz ≤ a := hD1.2 _ _ hlast
  have h3 : a ≤ sz + ah.length := by omega
  rw [had _ hl]
  rcases Nat.lt_or_ge a (sz + ah.length) with h4 | h4
  · exfalso
    have h5 : a - sz < ah.length := by omega
    have h6 : (cw ad zf cA ah ++ [(a, ws)])[a - sz]? = some (ad (a - sz), ce ad zf cA (ah[a - sz]'h5)) := by
      rw [List.getElem?_append_left (by rw [cw_len]; exact h5)]
      exact cw_get (List.getElem?_eq_getElem h5)
    have h7 := hD1.1 _ _ _ _ h6 hlast (by show ad (a - sz) = a; rw [had _ (by omega)]; omega)
    omega
  · omega
theorem Kk.push {ls : Array Slot} {H : Heap} {locs : List Loc} {pc' : Nat} {st' : List Value} {e1 : va_E} {N : Nat} (kk : Kk p l e R s m args below meth c mi sz ad zf D cA n0 z0 Q (pc', al, .ref ah.length :: st', ah ++ [e1])) (had : ∀ k, k < 1000000 → ad k = sz + k) (hl : ah.length < lim) (hS : Sx s mi sz ad zf D cA n0 z0 al ah ls H locs) (hN : csz e1 = N)
    {a : Nat} {H1 : Heap} {locs1 : List Loc} (hP1 : va_P D vwCl (cw ad zf cA ah ++ [(a, ce ad zf cA e1)]) H1) (hD1 : va_D (fun q => sz ≤ q) (cw ad zf cA ah ++ [(a, ce ad zf cA e1)])) (hS1 : va_S (fun q => sz ≤ q) s.heap H1 locs1) :
    W p l e R s m args below meth c H1 locs1 (ah.length - n0 + 1) (asz ah - z0 + N) Q (F0 m pc' ls (.ref a :: st'.map (cv ad zf))) := by
  have hl2 : ah.length < 1000000 := Nat.lt_of_lt_of_le hl (Nat.le_of_ble_eq_true rfl)
  refine W_size fun hz => ?_
  have ha : a = ad ah.length := new_ad (s := s) had hl2 hP1 hD1 hS.2.2.2.2.1 hS.2.2.2.2.2.2 hz
  have h5 : n0 ≤ ah.length := hS.2.2.2.2.1
  have h6 : z0 ≤ asz ah := hS.2.2.2.2.2.1
  subst ha
  refine kk.use (ls := ls) (H := H1) (locs := locs1) ⟨hS.1, by rw [cw_app]; exact hP1, hS1, by rw [List.length_append]; exact hl2, by rw [List.length_append]; exact Nat.le_trans h5 (Nat.le_add_right _ _), by rw [asz_app]; exact Nat.le_trans h6 (Nat.le_add_right _ _), hS.2.2.2.2.2.2⟩ ?_ ?_
  · rw [List.length_append]
    show _ = ah.length + 1 - n0
    omega
  · rw [asz_app, hN]
    omega
theorem sd_new {i : Nat} (hC : Cx p R s m args meth c mi X sz ad zf D cA) (kk : Kk p l e R s m args below meth c mi sz ad zf D cA n0 z0 Q q) (hle : q.2.2.2.length ≤ R.cells + n0 ∧ asz q.2.2.2 ≤ R.slots + z0) (hdg : decode (mC mi) pc = .ok (.new i, 3)) (h : newO mi i pc al st ah = some (.inl q)) : Kk p l e R s m args below meth c mi sz ad zf D cA n0 z0 Q (pc, al, st, ah) := by
  unfold newO at h
  split at h
  · next ci hci =>
    split at h
    · next hl =>
      cases nx_inj h
      intro ls H locs hS
      obtain ⟨hx, hb, hml, hr, hlo, hown, hnm, hts, hE, hR⟩ := hC
      unfold nE at hci
      rw [Option.map_eq_some_iff] at hci
      obtain ⟨t, h1, h2⟩ := hci
      have h3 := List.find?_some h1
      simp only [Bool.and_eq_true, beq_iff_eq] at h3
      have h4 := List.all_eq_true.mp NT_ok t (List.mem_of_find?_eq_some h1)
      obtain ⟨o, i', ci', p1, p2, p3⟩ := t
      obtain ⟨rfl, rfl⟩ := h3
      dsimp only at h2
      subst h2
      unfold okNT at h4
      dsimp only at h4
      split at h4
      · next cq hcq =>
        rw [Bool.and_eq_true, Bool.and_eq_true] at h4
        obtain ⟨C, T, N⟩ := cq
        obtain ⟨⟨ty0, hty, hdf⟩, -⟩ := nam_ok ci' _ hcq
        have hN : csz (.inr (ci', DF.getD ci' [])) = N := by unfold csz; dsimp only; rw [hcq]
        have h5 : n0 ≤ ah.length := hS.2.2.2.2.1
        have h6 : z0 ≤ asz ah := hS.2.2.2.2.2.1
        have hle1 : ah.length + 1 ≤ R.cells + n0 := by have := hle.1; rw [List.length_append] at this; exact this
        have hle2 : asz ah + N ≤ R.slots + z0 := by have := hle.2; rw [asz_app, hN] at this; exact this
        refine va_new (ci := ci') (C := C) (T := T) (N := N) (fs := (DF.getD ci' []).map (cv ad zf)) hx hb hts (lay_in hcq) ty0 hty hown (hts _ (atw_g h4.1.1)) (hts _ (atw_g h4.1.2)) (hts _ (atw_g h4.2)) hE.1.1 hS.2.1 (cw_D hE.2.2.1.2.2 hS.2.2.2.1) hS.2.2.1 (fun q hq => Nat.le_trans hE.2.2.2 hq) hcq (by rw [DF_cv]; exact hdf) (by show ah.length - n0 + 1 ≤ R.cells; omega) (by show asz ah - z0 + N ≤ R.slots; omega) hdg ?_
        intro a H1 hP1 hD1 hS1
        exact Kk.push kk hE.2.2.1.2.2 hl hS hN hP1 hD1 hS1
      · cases h4
    · cases h
  · cases h
theorem arc_g {w : Cond} (h : w ∈ ([.arrayClass .int, .arrayClass .long, .arrayClass .boolean] : List Cond)) : w ∈ gtbl := lw_g (List.all_eq_true.mp arc_ok w h)
theorem sd_newarray {ty : ArrayType} (hC : Cx p R s m args meth c mi X sz ad zf D cA) (kk : Kk p l e R s m args below meth c mi sz ad zf D cA n0 z0 Q q) (hle : q.2.2.2.length ≤ R.cells + n0 ∧ asz q.2.2.2 ≤ R.slots + z0) (hdg : decode (mC mi) pc = .ok (.newarray ty, 2)) (h : newA ty pc al st ah = some (.inl q)) : Kk p l e R s m args below meth c mi sz ad zf D cA n0 z0 Q (pc, al, st, ah) := by
  unfold newA at h
  split at h
  · next n r =>
    split at h
    · next hc =>
      simp only [Bool.and_eq_true, Bool.not_eq_true', decide_eq_false_iff_not, decide_eq_true_eq] at hc
      obtain ⟨⟨hn, hn2⟩, hl⟩ := hc
      intro ls H locs hS
      obtain ⟨hx, hb, hml, hr, hlo, hown, hnm, hts, hE, hR⟩ := hC
      have h5 : n0 ≤ ah.length := hS.2.2.2.2.1
      have h6 : z0 ≤ asz ah := hS.2.2.2.2.2.1
      split at h
      · cases nx_inj h
        have hle1 : ah.length + 1 ≤ R.cells + n0 := by have := hle.1; rw [List.length_append] at this; exact this
        have hle2 : asz ah + n.toNatClampNeg ≤ R.slots + z0 := by have := hle.2; rw [asz_app] at this; exact this
        refine va_newa (atype := .int) (ty := .int) (a0 := (n.toNatClampNeg, .inl (fun _ => 0))) hx hb (show (Cond.arrayClass .int).before args s = true from hts _ (arc_g (by simp))) rfl hE.1.1 hS.2.1 (cw_D hE.2.2.1.2.2 hS.2.2.2.1) hS.2.2.1 (fun q hq => Nat.le_trans hE.2.2.2 hq) (fun _ => rfl) hn rfl (by show n.toNatClampNeg * 4 ≤ _; omega) (by show ah.length - n0 + 1 ≤ R.cells; omega) (by show asz ah - z0 + _ ≤ R.slots; omega) hdg ?_
        intro a cA' H1 hK1 hP1 hD1 hS1
        have e1 : cA' = cA 0 := Option.some.inj ((hK1.2 5 _ rfl).2.symm.trans (hE.1.1.2 0 _ rfl).2)
        subst e1
        exact Kk.push kk hE.2.2.1.2.2 hl hS rfl hP1 hD1 hS1
      · cases nx_inj h
        have hle1 : ah.length + 1 ≤ R.cells + n0 := by have := hle.1; rw [List.length_append] at this; exact this
        have hle2 : asz ah + n.toNatClampNeg ≤ R.slots + z0 := by have := hle.2; rw [asz_app] at this; exact this
        refine va_newa (atype := .long) (ty := .long) (a0 := (n.toNatClampNeg, .inr (.inl (fun _ => 0)))) hx hb (show (Cond.arrayClass .long).before args s = true from hts _ (arc_g (by simp))) rfl hE.1.1 hS.2.1 (cw_D hE.2.2.1.2.2 hS.2.2.2.1) hS.2.2.1 (fun q hq => Nat.le_trans hE.2.2.2 hq) (fun _ => rfl) hn rfl (by show n.toNatClampNeg * 8 ≤ _; omega) (by show ah.length - n0 + 1 ≤ R.cells; omega) (by show asz ah - z0 + _ ≤ R.slots; omega) hdg ?_
        intro a cA' H1 hK1 hP1 hD1 hS1
        have e1 : cA' = cA 1 := Option.some.inj ((hK1.2 5 _ rfl).2.symm.trans (hE.1.1.2 1 _ rfl).2)
        subst e1
        exact Kk.push kk hE.2.2.1.2.2 hl hS rfl hP1 hD1 hS1
      · cases nx_inj h
        have hle1 : ah.length + 1 ≤ R.cells + n0 := by have := hle.1; rw [List.length_append] at this; exact this
        have hle2 : asz ah + n.toNatClampNeg ≤ R.slots + z0 := by have := hle.2; rw [asz_app] at this; exact this
        refine va_newa (atype := .boolean) (ty := .boolean) (a0 := (n.toNatClampNeg, .inl (fun _ => 0))) hx hb (show (Cond.arrayClass .boolean).before args s = true from hts _ (arc_g (by simp))) rfl hE.1.1 hS.2.1 (cw_D hE.2.2.1.2.2 hS.2.2.2.1) hS.2.2.1 (fun q hq => Nat.le_trans hE.2.2.2 hq) (fun _ => rfl) hn rfl (by show n.toNatClampNeg * 1 ≤ _; omega) (by show ah.length - n0 + 1 ≤ R.cells; omega) (by show asz ah - z0 + _ ≤ R.slots; omega) hdg ?_
        intro a cA' H1 hK1 hP1 hD1 hS1
        have e1 : cA' = cA 2 := Option.some.inj ((hK1.2 5 _ rfl).2.symm.trans (hE.1.1.2 2 _ rfl).2)
        subst e1
        exact Kk.push kk hE.2.2.1.2.2 hl hS rfl hP1 hD1 hS1
      · cases h
    · cases h
  · cases h
theorem sd_anewarray {i : Nat} (hC : Cx p R s m args meth c mi X sz ad zf D cA) (kk : Kk p l e R s m args below meth c mi sz ad zf D cA n0 z0 Q q) (hle : q.2.2.2.length ≤ R.cells + n0 ∧ asz q.2.2.2 ≤ R.slots + z0) (hdg : decode (mC mi) pc = .ok (.anewarray i, 3)) (h : newQ mi i pc al st ah = some (.inl q)) : Kk p l e R s m args below meth c mi sz ad zf D cA n0 z0 Q (pc, al, st, ah) := by
  unfold newQ at h
  split at h
  · next n r t ht =>
    split at h
    · next hc =>
      simp only [Bool.and_eq_true, Bool.not_eq_true', decide_eq_false_iff_not, decide_eq_true_eq] at hc
      obtain ⟨⟨hn, hn2⟩, hl⟩ := hc
      cases nx_inj h
      intro ls H locs hS
      obtain ⟨hx, hb, hml, hr, hlo, hown, hnm, hts, hE, hR⟩ := hC
      have h5 : n0 ≤ ah.length := hS.2.2.2.2.1
      have h6 : z0 ≤ asz ah := hS.2.2.2.2.2.1
      have hle1 : ah.length + 1 ≤ R.cells + n0 := by have := hle.1; rw [List.length_append] at this; exact this
      have hle2 : asz ah + n.toNatClampNeg ≤ R.slots + z0 := by have := hle.2; rw [asz_app] at this; exact this
      unfold aE at ht
      rw [Option.map_eq_some_iff] at ht
      obtain ⟨w, h1, h2⟩ := ht
      have h3 := List.find?_some h1
      simp only [Bool.and_eq_true, beq_iff_eq] at h3
      have h4 := List.all_eq_true.mp AT_ok w (List.mem_of_find?_eq_some h1)
      obtain ⟨o, i', t', p1⟩ := w
      obtain ⟨rfl, rfl⟩ := h3
      dsimp only at h2
      subst h2
      unfold okAT at h4
      rw [Bool.and_eq_true, Bool.or_eq_true] at h4
      obtain ⟨h7, h8⟩ := h4
      have hlk := hts _ (atw_g h8)
      rcases h7 with h7 | h7
      · have e2 := of_decide_eq_true h7
        subst e2
        refine va_newq (C := RX0) hx hb hown hlk hE.1.2.2.2.1 hE.1.1 hS.2.1 (cw_D hE.2.2.1.2.2 hS.2.2.2.1) hS.2.2.1 (fun q hq => Nat.le_trans hE.2.2.2 hq) hn rfl (by omega) (by show ah.length - n0 + 1 ≤ R.cells; omega) (by show asz ah - z0 + _ ≤ R.slots; omega) hdg ?_
        intro a cA' H1 hK1 hP1 hD1 hS1
        obtain ⟨k1, c1, g1, g2, g3, g4⟩ := (hK1.2 5 _ rfl).2
        obtain ⟨k2, c2, f1, f2, f3, f4⟩ := (hE.1.1.2 3 _ rfl).2
        have e1 : cA' = cA 3 := Option.some.inj (g4.symm.trans f4)
        subst e1
        exact Kk.push kk hE.2.2.1.2.2 hl hS rfl hP1 hD1 hS1
      · have e2 := of_decide_eq_true h7
        subst e2
        refine va_newq (C := RX4) hx hb hown hlk hE.1.2.2.2.2.1 hE.1.1 hS.2.1 (cw_D hE.2.2.1.2.2 hS.2.2.2.1) hS.2.2.1 (fun q hq => Nat.le_trans hE.2.2.2 hq) hn rfl (by omega) (by show ah.length - n0 + 1 ≤ R.cells; omega) (by show asz ah - z0 + _ ≤ R.slots; omega) hdg ?_
        intro a cA' H1 hK1 hP1 hD1 hS1
        obtain ⟨k1, c1, g1, g2, g3, g4⟩ := (hK1.2 5 _ rfl).2
        obtain ⟨k2, c2, f1, f2, f3, f4⟩ := (hE.1.1.2 4 _ rfl).2
        have e1 : cA' = cA 4 := Option.some.inj (g4.symm.trans f4)
        subst e1
        exact Kk.push kk hE.2.2.1.2.2 hl hS rfl hP1 hD1 hS1
    · cases h
  · cases h
theorem iE_of {o i : Nat} {w : List Nat × List Nat} (h : iE o i = some w) : ∃ C p', (o, i, C, p', w.1, w.2) ∈ IT := by
  unfold iE at h
  rw [Option.map_eq_some_iff] at h
  obtain ⟨t, h1, h2⟩ := h
  have h3 := List.find?_some h1
  simp only [Bool.and_eq_true, beq_iff_eq] at h3
  have h4 := List.mem_of_find?_eq_some h1
  obtain ⟨o', i', C, p1, y, n⟩ := t
  obtain ⟨rfl, rfl⟩ := h3
  subst h2
  exact ⟨C, p1, h4⟩
theorem inst_yes {t : Nat × Nat × String × Nat × List Nat × List Nat} {ci : Nat} (ht : t ∈ IT) (hci : ci ∈ t.2.2.2.2.1) : ∃ cq, vwCl[ci]? = some cq ∧ (cq.1 = t.2.2.1 ∨ Cond.castable cq.1 t.2.2.1 ∈ xtbl) := by
  have h := List.all_eq_true.mp IT_ok t ht
  obtain ⟨o, i, C, p1, y, n⟩ := t
  unfold okIT at h
  rw [Bool.and_eq_true, Bool.and_eq_true] at h
  have h2 := List.all_eq_true.mp h.1.2 ci hci
  split at h2
  · next cq hq =>
    rw [Bool.or_eq_true] at h2
    exact ⟨cq, hq, h2.imp of_decide_eq_true of_decide_eq_true⟩
  · cases h2
theorem inst_no {t : Nat × Nat × String × Nat × List Nat × List Nat} {ci : Nat} (ht : t ∈ IT) (hci : ci ∈ t.2.2.2.2.2) : ∃ cq, vwCl[ci]? = some cq := by
  have h := List.all_eq_true.mp IT_ok t ht
  obtain ⟨o, i, C, p1, y, n⟩ := t
  unfold okIT at h
  rw [Bool.and_eq_true, Bool.and_eq_true] at h
  have h2 := List.all_eq_true.mp h.2 ci hci
  split at h2
  · next cq hq => exact ⟨cq, hq⟩
  · cases h2
theorem inst_lk {t : Nat × Nat × String × Nat × List Nat × List Nat} (ht : t ∈ IT) : Cond.classLink (oN t.1) t.2.1 t.2.2.1 ∈ gtbl := by
  have h := List.all_eq_true.mp IT_ok t ht
  obtain ⟨o, i, C, p1, y, n⟩ := t
  unfold okIT at h
  rw [Bool.and_eq_true, Bool.and_eq_true] at h
  exact atw_g h.1.1
theorem sd_inst {i : Nat} (hC : Cx p R s m args meth c mi X sz ad zf D cA) (kk : Kk p l e R s m args below meth c mi sz ad zf D cA n0 z0 Q q) (hdg : decode (mC mi) pc = .ok (.instanceof i, 3)) (h : inst mi i pc al st ah = some (.inl q)) : Kk p l e R s m args below meth c mi sz ad zf D cA n0 z0 Q (pc, al, st, ah) := by
  unfold inst at h
  split at h
  · next w hw =>
    obtain ⟨C, p1, hm⟩ := iE_of hw
    intro ls H locs hS
    obtain ⟨hx, hb, hml, hr, hlo, hown, hnm, hts, hE, hR⟩ := hC
    split at h
    · cases nx_inj h
      exact lv_instN hx hb hdg (kk ls H locs hS)
    · next a r =>
      split at h
      · next ci hci =>
        obtain ⟨fs, hf⟩ := rcO_of hci
        have he := cw_get (ad := ad) (zf := zf) (cA := cA) hf
        split at h
        · next hy =>
          cases nx_inj h
          obtain ⟨cq, hcq, h1⟩ := inst_yes hm hy
          have hrc := va_recv hE.1.1 hS.2.1 hcq he
          rcases h1 with h1 | h1
          · dsimp only at h1
            rw [h1] at hrc
            exact va_instS hx hb hown (hts _ (inst_lk hm)) (by have := (hE.1.1.1 ci _ hcq).2; rw [h1] at this; exact this) hrc hdg (kk ls H locs hS)
          · exact va_instY hx hb hown (hts _ (inst_lk hm)) (hE.1.2.1 _ h1) hrc hdg (kk ls H locs hS)
        · split at h
          · next hn =>
            cases nx_inj h
            obtain ⟨cq, hcq⟩ := inst_no hm hn
            have hrc := va_recv hE.1.1 hS.2.1 hcq he
            exact va_instNo hx hb hown (hts _ (inst_lk hm)) (hE.1.2.2.1 _ hm ci hn _ hcq) hrc hdg (kk ls H locs hS)
          · cases h
      · cases h
    · cases h
  · cases h
theorem sd_cast {i : Nat} (hC : Cx p R s m args meth c mi X sz ad zf D cA) (kk : Kk p l e R s m args below meth c mi sz ad zf D cA n0 z0 Q q) (hdg : decode (mC mi) pc = .ok (.checkcast i, 3)) (h : cast mi i pc al st ah = some (.inl q)) : Kk p l e R s m args below meth c mi sz ad zf D cA n0 z0 Q (pc, al, st, ah) := by
  unfold cast at h
  split at h
  · next w hw =>
    obtain ⟨C, p1, hm⟩ := iE_of hw
    intro ls H locs hS
    obtain ⟨hx, hb, hml, hr, hlo, hown, hnm, hts, hE, hR⟩ := hC
    split at h
    · cases nx_inj h
      exact lv_castN hx hb hdg (kk ls H locs hS)
    · next a r =>
      split at h
      · next ci hci =>
        obtain ⟨fs, hf⟩ := rcO_of hci
        have he := cw_get (ad := ad) (zf := zf) (cA := cA) hf
        split at h
        · next hy =>
          cases nx_inj h
          obtain ⟨cq, hcq, h1⟩ := inst_yes hm hy
          have hrc := va_recv hE.1.1 hS.2.1 hcq he
          rcases h1 with h1 | h1
          · dsimp only at h1
            rw [h1] at hrc
            exact va_castS hx hb hown (hts _ (inst_lk hm)) (by have := (hE.1.1.1 ci _ hcq).2; rw [h1] at this; exact this) hrc hdg (kk ls H locs hS)
          · exact va_castY hx hb hown (hts _ (inst_lk hm)) (hE.1.2.1 _ h1) hrc hdg (kk ls H locs hS)
        · cases h
      · cases h
    · cases h
  · cases h
theorem sd_aycp {i : Nat} {t : CE} (hC : Cx p R s m args meth c mi X sz ad zf D cA) (kk : Kk p l e R s m args below meth c mi sz ad zf D cA n0 z0 Q q) (hdg : decode (mC mi) pc = .ok (.invokestatic i, 3)) (ht : cE (mO mi) i = some t) (h9 : t.2.2.2.2.2.1 = 9) (h : aycp pc al st ah = some (.inl q)) : Kk p l e R s m args below meth c mi sz ad zf D cA n0 z0 Q (pc, al, st, ah) := by
  unfold aycp at h
  split at h
  · next n dp b sp a r =>
    split at h
    · next f g hf hg =>
      split at h
      · next hc =>
        simp only [Bool.and_eq_true, Bool.not_eq_true', decide_eq_false_iff_not, decide_eq_true_eq] at hc
        obtain ⟨⟨⟨⟨⟨c1, c2⟩, c3⟩, c4⟩, c5⟩, c6⟩ := hc
        cases nx_inj h
        intro ls H locs hS
        have hz := hz_of hC
        obtain ⟨hx, hb, hml, hr, hlo, hown, hnm, hts, hE, hR⟩ := hC
        obtain ⟨hm, -, e1, e2⟩ := cE_of ht
        have hlk := List.all_eq_true.mp CT9_ok t hm
        rw [h9, e1, e2] at hlk
        have hlk2 := lw_g (by simpa using hlk)
        have hcp : ∀ w ∈ ([.native arraycopyName, .static arraycopyName, .initialized "java/lang/System"] : List Cond), w ∈ gtbl := fun w hw => lw_g (List.all_eq_true.mp cpy_ok w hw)
        have hf2 := arW_of hf
        have hg2 := arW_of hg
        refine va_copyi hx hb (by rw [hml]; exact hS.1.2.1.symm) hown (hts _ hlk2) (hts _ (hcp _ (by simp))) (hts _ (hcp _ (by simp))) (hts _ (hcp _ (by simp))) hE.1.1 hS.2.1 (cw_D hE.2.2.1.2.2 hS.2.2.2.1) hS.2.2.1 a b 0 0 (cw_get hf2) (cw_get hg2) rfl rfl rfl c1 c2 c3 c4 c5 (fun _ _ => rfl) (Nat.le_trans (by decide) hR.1) ?_ hdg (Kk.row kk hS hg2 rfl)
        rw [cv_stW hz]
        have : nativeFrameWords "java/lang/System" "arraycopy" 5 + 11 ≤ 30 := by decide +kernel
        have h7 := hR.2
        omega
      · cases h
    · cases h
  · cases h
theorem sd_objInit {i : Nat} {t : CE} {a : Nat} (hC : Cx p R s m args meth c mi X sz ad zf D cA) (hdg : decode (mC mi) pc = .ok (.invokespecial i, 3)) (ht : cE (mO mi) i = some t) (h8 : t.2.2.2.2.2.1 = 8) (hw : stW st ≤ 8) (kk : Kk p l e R s m args below meth c mi sz ad zf D cA n0 z0 Q (pc + 3, al, st, ah)) : Kk p l e R s m args below meth c mi sz ad zf D cA n0 z0 Q (pc, al, .ref a :: st, ah) := by
  intro ls H locs hS
  have hz := hz_of hC
  obtain ⟨hx, hb, hml, hr, hlo, hown, hnm, hts, hE, hR⟩ := hC
  obtain ⟨hm, -, e1, e2⟩ := cE_of ht
  have hlk := List.all_eq_true.mp CT8_ok t hm
  rw [h8, e1, e2] at hlk
  have hlk2 := lw_g (by simpa using hlk)
  have hcp : ∀ w ∈ ([.instanceMethod objectInit, .code objectInit ⟨#[0xb1]⟩ 1 none] : List Cond), w ∈ gtbl := fun w hw => lw_g (List.all_eq_true.mp obj_ok w hw)
  refine W.objInit hx hb hown (hts _ hlk2) (hts _ (hcp _ (by simp))) (hts _ (hcp _ (by simp))) rfl (by rw [hml]; exact hS.1.2.1) rfl hdg (Nat.le_trans (by decide) hR.1) ?_ (kk ls H locs hS)
  have h1 := lv_room (m := m) (pc := pc) (ls := ls) (rest := []) (st := st.map (cv ad zf)) (by rw [cv_stW hz]; exact hw)
  have h7 := hR.2
  exact Nat.le_trans (Nat.add_le_add_right h1 12) (by omega)
end SN
