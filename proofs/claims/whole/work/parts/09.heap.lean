/-! a step of the pure machine is one of the machine: fields, rows, new cells, kinds -/
theorem okF_of {o i k p' : Nat} {cis : List Nat} {nest fin : Bool} {ref nm ds : String} {ty : FieldType} (h : okF (o, i, cis, k, nest, fin, ref, nm, ds, ty, p') = true) :
    (∀ ci ∈ cis, ∃ q, vwCl[ci]? = some q ∧ k < q.2.2 ∧ q.2.1 k = (ref, nm, ds, fin)) ∧ parseFieldDescriptor ds = some ty ∧ (nest = true → Cond.fieldLinkNest (oN o) i ref nm ds "OldLadder" ∈ xtbl) ∧ (nest = false → Cond.fieldLink (oN o) i ref nm ds ∈ gtbl) := by
  unfold okF at h
  rw [Bool.and_eq_true, Bool.and_eq_true] at h
  obtain ⟨⟨h1, h2⟩, h3⟩ := h
  refine ⟨fun ci hci => ?_, of_decide_eq_true h2, fun hn => ?_, fun hn => ?_⟩
  · have h4 := List.all_eq_true.mp h1 ci hci
    split at h4
    · next q hq =>
      rw [Bool.and_eq_true] at h4
      exact ⟨q, hq, of_decide_eq_true h4.1, of_decide_eq_true h4.2⟩
    · cases h4
  · subst hn
    exact atw_x h3
  · subst hn
    exact atw_g h3
theorem fld_of {ah : AH} {a k : Nat} {cis : List Nat} {v : Value} (h : fld ah a cis k = some v) : ∃ ci fs, ah[a]? = some (.inr (ci, fs)) ∧ ci ∈ cis ∧ fs[k]? = some v := by
  unfold fld at h
  split at h
  · next ci fs ha =>
    split at h
    · next hc => exact ⟨ci, fs, ha, hc, h⟩
    · cases h
  · cases h
theorem rcO_of {ah : AH} {a ci : Nat} (h : rcO ah a = some ci) : ∃ fs, ah[a]? = some (.inr (ci, fs)) := by
  unfold rcO at h
  split at h
  · next c fs hf => cases h; exact ⟨fs, hf⟩
  · cases h
theorem okty_of {ad : Nat → Nat} {zf : Value} {ty : FieldType} {v : Value} (h : okty ty v = true) : narrow ty (cv ad zf v) = cv ad zf v ∧ fits ty (cv ad zf v) = true := by
  unfold okty at h
  split at h
  · exact ⟨rfl, rfl⟩
  · exact ⟨rfl, rfl⟩
  · next x =>
    simp only [Bool.or_eq_true, beq_iff_eq] at h
    rcases h with rfl | rfl
    · exact ⟨(by decide +kernel : narrow .boolean (.int 0) = .int 0), (by decide +kernel : fits .boolean (.int 0) = true)⟩
    · exact ⟨(by decide +kernel : narrow .boolean (.int 1) = .int 1), (by decide +kernel : fits .boolean (.int 1) = true)⟩
  · rcases isA_of h with rfl | ⟨x, rfl⟩ <;> exact ⟨rfl, rfl⟩
  · rcases isA_of h with rfl | ⟨x, rfl⟩ <;> exact ⟨rfl, rfl⟩
  · cases h
theorem inb_of {i : Int32} {n : Nat} (h : inb i n = true) : vp_in i n := by
  unfold inb at h
  unfold vp_in
  simp only [Bool.not_eq_true', Bool.or_eq_false_iff, decide_eq_false_iff_not] at h
  rintro (q | q)
  · exact h.1 q
  · exact h.2 q
theorem oN_mO (mi : Nat) : oN (mO mi) = (mY mi).cls := by
  unfold mO mY mE
  rw [List.getD_eq_getElem?_getD]
  cases hm : MT[mi]? with
  | none => rfl
  | some e =>
    have h1 := List.all_eq_true.mp MT_ok e (List.mem_of_getElem? hm)
    unfold okM at h1
    simp only [Bool.and_eq_true, decide_eq_true_eq] at h1
    exact h1.2
theorem W_size {p : Program} {l : Launch} {e : Env} {R : Room} {s : State} {m : MethodId} {args : Array Value} {below : List Frame} {meth : Method} {c : Code} {H : Heap} {locs : List Loc} {cells slots : Nat} {Q : State → Prop} {g : JFrame} (h : H.size ≤ s.heap.size + cells → W p l e R s m args below meth c H locs cells slots Q g) : W p l e R s m args below meth c H locs cells slots Q g := by
  intro T hT X
  have h1 := X.same.2.2.1
  exact h (by rw [← hT]; exact h1) T hT X
theorem setF_len {ah : AH} {a k : Nat} {v : Value} : (setF ah a k v).length = ah.length := by
  unfold setF
  split
  · rw [List.length_set]
  · rfl
theorem setF_asz {ah : AH} {a k : Nat} {v : Value} : asz (setF ah a k v) = asz ah := by
  unfold setF
  split
  · next ci fs h => exact asz_set h rfl
  · rfl
section SH
variable {p : Program} {l : Launch} {e : Env} {R : Room} {s : State} {m : MethodId} {args : Array Value} {below : List Frame} {meth : Method} {c : Code} {Q : State → Prop}
variable {mi : Nat} {X : XS} {sz : Nat} {ad : Nat → Nat} {zf : Value} {D : va_G} {cA : Nat → ClassId} {n0 z0 : Nat} {pc : Nat} {al : LV} {st : List Value} {ah : AH} {q : Nat × LV × List Value × AH}
theorem Kk.use {pc' : Nat} {al' : LV} {st' : List Value} {ah' : AH} (kk : Kk p l e R s m args below meth c mi sz ad zf D cA n0 z0 Q (pc', al', st', ah')) {ls : Array Slot} {H : Heap} {locs : List Loc} (hS : Sx s mi sz ad zf D cA n0 z0 al' ah' ls H locs) {cells slots : Nat} (h1 : cells = ah'.length - n0) (h2 : slots = asz ah' - z0) : W p l e R s m args below meth c H locs cells slots Q (F0 m pc' ls (st'.map (cv ad zf))) := by
  subst h1
  subst h2
  exact kk ls H locs hS
theorem sd_getfield {i : Nat} (hC : Cx p R s m args meth c mi X sz ad zf D cA) (kk : Kk p l e R s m args below meth c mi sz ad zf D cA n0 z0 Q q) (hdg : decode (mC mi) pc = .ok (.getfield i, 3)) (h : gtF mi i pc al st ah = some (.inl q)) : Kk p l e R s m args below meth c mi sz ad zf D cA n0 z0 Q (pc, al, st, ah) := by
  unfold gtF at h
  split at h
  · next a r =>
    intro ls H locs hS
    obtain ⟨hx, hb, hml, hr, hlo, hown, hnm, hts, hE, hR⟩ := hC
    split at h
    · next t ht =>
      obtain ⟨hok, e1, e2⟩ := fE_of ht
      obtain ⟨o, i', cis, k, nest, fin, ref, nm, ds, ty, p'⟩ := t
      dsimp only at e1 e2 h
      subst e1
      subst e2
      split at h
      · next v hv =>
        cases nx_inj h
        obtain ⟨h1, h2, h3, h4⟩ := okF_of hok
        obtain ⟨ci, fs, ha, hci, hfs⟩ := fld_of hv
        obtain ⟨⟨C, T, N⟩, hq, hk, hT⟩ := h1 ci hci
        dsimp only at hk hT
        have he := cw_get (ad := ad) (zf := zf) (cA := cA) ha
        cases nest with
        | true => exact va_getN (C := C) (T := T) (N := N) (ref := ref) hx hb hts (lay_in hq) hown hE.1.1 hS.2.1 a he hq k hk (by rw [hT]; exact va_Nw.use rfl (hE.1.2.1 _ (h3 rfl))) (by rw [hT]; exact fun _ h => h) (by rw [List.getElem?_map, hfs]; rfl) hdg (kk ls H locs hS)
        | false => exact va_get (C := C) (T := T) (N := N) (ref := ref) hx hb hts (lay_in hq) hown hE.1.1 hS.2.1 a he hq k hk (by rw [hT]; exact hts _ (h4 rfl)) (by rw [hT]; exact fun _ h => h) (by rw [List.getElem?_map, hfs]; rfl) hdg (kk ls H locs hS)
      · cases h
    · next ht =>
      split at h
      · next z hz =>
        split at h
        · next v hv =>
          cases nx_inj h
          unfold xE at hz
          rw [Option.map_eq_some_iff] at hz
          obtain ⟨t, h1, h2⟩ := hz
          have h3 := List.find?_some h1
          simp only [Bool.and_eq_true, beq_iff_eq] at h3
          have h4 := List.all_eq_true.mp EF_ok t (List.mem_of_find?_eq_some h1)
          obtain ⟨o, i', z', n, d, p'⟩ := t
          obtain ⟨rfl, rfl⟩ := h3
          dsimp only at h2
          subst h2
          unfold okEF at h4
          rw [Bool.and_eq_true] at h4
          have hl := hts _ (atw_g h4.1)
          unfold exF at hv
          split at hv
          · next hab =>
            have hi : a - 1000000 < 10 := by have := hab.1; have := hab.2; exact (Nat.sub_lt_iff_lt_add hab.1).mpr hab.2
            have ea : 1000000 + (a - 1000000) = a := Nat.add_sub_cancel' hab.1
            have ea2 : 1000016 + (a - 1000000) = a + 16 := by rw [show 1000016 = 16 + 1000000 from rfl, Nat.add_assoc, ea, Nat.add_comm]
            have hE4 := hE.2.1.1.1 (a - 1000000) hi
            dsimp only at hE4
            rw [ea, ea2] at hE4
            rcases of_decide_eq_true h4.2 with hz | hz
            · cases hz
              cases hv
              exact vk_getf hx hb hE4.2.2.1 hS.2.2.1 hown hl (fun _ h => h) hdg (kk ls H locs hS)
            · cases hz
              cases hv
              exact vk_getf hx hb hE4.2.1 hS.2.2.1 hown hl (fun _ h => h) hdg (kk ls H locs hS)
          · cases hv
        · cases h
      · cases h
  · cases h
theorem sd_putfield {i : Nat} (hC : Cx p R s m args meth c mi X sz ad zf D cA) (kk : Kk p l e R s m args below meth c mi sz ad zf D cA n0 z0 Q q) (hdg : decode (mC mi) pc = .ok (.putfield i, 3)) (h : ptF mi i pc al st ah = some (.inl q)) : Kk p l e R s m args below meth c mi sz ad zf D cA n0 z0 Q (pc, al, st, ah) := by
  unfold ptF at h
  split at h
  · next v a r =>
    intro ls H locs hS
    obtain ⟨hx, hb, hml, hr, hlo, hown, hnm, hts, hE, hR⟩ := hC
    split at h
    · next t ht =>
      obtain ⟨hok, e1, e2⟩ := fE_of ht
      obtain ⟨o, i', cis, k, nest, fin, ref, nm, ds, ty, p'⟩ := t
      dsimp only at e1 e2 h
      subst e1
      subst e2
      split at h
      · next hc =>
        cases nx_inj h
        rw [Bool.and_eq_true, Bool.and_eq_true] at hc
        obtain ⟨⟨hc1, hc2⟩, hc3⟩ := hc
        obtain ⟨v0, hv0⟩ := Option.isSome_iff_exists.mp hc1
        obtain ⟨h1, h2, h3, h4⟩ := okF_of hok
        obtain ⟨ci, fs, ha, hci, hfs⟩ := fld_of hv0
        obtain ⟨⟨C, T, N⟩, hq, hk, hT⟩ := h1 ci hci
        dsimp only at hk hT
        have he := cw_get (ad := ad) (zf := zf) (cA := cA) ha
        obtain ⟨⟨ty0, hty, -⟩, hnm2⟩ := nam_ok ci _ hq
        obtain ⟨hn1, hn2⟩ := okty_of (ad := ad) (zf := zf) hc2
        have hlen : k < (fs.map (cv ad zf)).length := by rw [List.length_map]; exact (List.getElem?_eq_some_iff.mp hfs).1
        have hD := cw_D (ad := ad) (zf := zf) (cA := cA) (ah := ah) hE.2.2.1.2.2 hS.2.2.2.1
        have go : ∀ (H1 : Heap) (locs1 : List Loc), va_P D vwCl ((cw ad zf cA ah).set a (ad a, .inr (ci, (fs.map (cv ad zf)).set k (cv ad zf v)))) H1 → va_D (fun q => sz ≤ q) ((cw ad zf cA ah).set a (ad a, .inr (ci, (fs.map (cv ad zf)).set k (cv ad zf v)))) → va_S (fun q => sz ≤ q) s.heap H1 locs1 → W p l e R s m args below meth c H1 locs1 (ah.length - n0) (asz ah - z0) Q (F0 m (pc + 3) ls (r.map (cv ad zf))) := by
          intro H1 locs1 hP1 _ hS1
          refine kk.use (ls := ls) (H := H1) (locs := locs1) ⟨hS.1, ?_, hS1, by rw [setF_len]; exact hS.2.2.2.1, by rw [setF_len]; exact hS.2.2.2.2.1, by rw [setF_asz]; exact hS.2.2.2.2.2.1, hS.2.2.2.2.2.2⟩ (by rw [setF_len]) (by rw [setF_asz])
          have e5 : setF ah a k v = ah.set a (.inr (ci, fs.set k v)) := by unfold setF; rw [ha]
          rw [e5, cw_set]
          show va_P D vwCl ((cw ad zf cA ah).set a (ad a, .inr (ci, (fs.set k v).map (cv ad zf)))) H1
          rw [List.map_set]
          exact hP1
        cases fin with
        | false =>
          cases nest with
          | true => exact va_putN (C := C) (T := T) (N := N) (ref := ref) hx hb hts (lay_in hq) ty0 hty hnm2 hown hE.1.1 hS.2.1 hD hS.2.2.1 a he hq k hk (by rw [hT]; exact va_Nw.use rfl (hE.1.2.1 _ (h3 rfl))) (by rw [hT]; exact fun _ h => h) (by rw [hT]) (by rw [hT]; exact h2) hn1 hn2 hlen hdg go
          | false => exact va_put (C := C) (T := T) (N := N) (ref := ref) hx hb hts (lay_in hq) ty0 hty hnm2 hown hE.1.1 hS.2.1 hD hS.2.2.1 a he hq k hk (by rw [hT]; exact hts _ (h4 rfl)) (by rw [hT]; exact fun _ h => h) (by rw [hT]) (by rw [hT]; exact h2) hn1 hn2 hlen hdg go
        | true =>
          simp only [Bool.not_true, Bool.false_or, Bool.and_eq_true, decide_eq_true_eq, Bool.not_eq_true'] at hc3
          obtain ⟨⟨hc4, hc5⟩, hc6⟩ := hc3
          exact va_putF (C := C) (T := T) (N := N) (ref := ref) hx hb hts (lay_in hq) ty0 hty hnm2 hown hE.1.1 hS.2.1 hD hS.2.2.1 a he hq k hk (by rw [hT]; exact hts _ (h4 hc6)) (by rw [hT]; exact fun _ h => h) (by rw [hT]) (hnm hc4) (by rw [hT, oN_mO]; exact hc5) (by rw [hT]; exact h2) hn1 hn2 hlen hdg go
      · cases h
    · cases h
  · cases h
theorem arW_of {a : Nat} {w : Nat × (Nat → Int32)} (h : arW ah a = some w) : ah[a]? = some (.inl (0, w.1, .inl w.2)) := by
  unfold arW at h
  split at h
  · next n f hf => cases h; exact hf
  · cases h
theorem arL_of {a : Nat} {w : Nat × (Nat → Int64)} (h : arL ah a = some w) : ah[a]? = some (.inl (1, w.1, .inr (.inl w.2))) := by
  unfold arL at h
  split at h
  · next n f hf => cases h; exact hf
  · cases h
theorem arZ_of {a : Nat} {w : Nat × (Nat → Int32)} (h : arZ ah a = some w) : ah[a]? = some (.inl (2, w.1, .inl w.2)) := by
  unfold arZ at h
  split at h
  · next n f hf => cases h; exact hf
  · cases h
theorem arQ_of {a : Nat} {w : Nat × Nat × (Nat → Option Nat)} (h : arQ ah a = some w) : ah[a]? = some (.inl (w.1, w.2.1, .inr (.inr (.inr (.inr w.2.2))))) ∧ (w.1 = 3 ∨ w.1 = 4) := by
  unfold arQ at h
  split at h
  · next t n f hf =>
    split at h
    · next ht => cases h; exact ⟨hf, ht⟩
    · cases h
  · cases h
theorem exB_of {a : Nat} {w : Nat × (Nat → Int32)} (h : exB a = some w) : ∃ k, k < 10 ∧ 1000016 + k = a ∧ w = ((SB.getD k []).length, fun j => (SB.getD k []).getD j 0) := by
  unfold exB at h
  split at h
  · next hab =>
    exact ⟨a - 1000016, (Nat.sub_lt_iff_lt_add hab.1).mpr hab.2, Nat.add_sub_cancel' hab.1, (Option.some.inj h).symm⟩
  · cases h
theorem SB_len (k : Nat) : (SB.map List.length).getD k 0 = (SB.getD k []).length := by
  rw [List.getD_eq_getElem?_getD, List.getD_eq_getElem?_getD, List.getElem?_map]
  cases SB[k]? <;> rfl
theorem sd_ldAr0 (hC : Cx p R s m args meth c mi X sz ad zf D cA) (kk : Kk p l e R s m args below meth c mi sz ad zf D cA n0 z0 Q q) (hdg : decode (mC mi) pc = .ok (.iaload, 1)) (h : ldAr0 X pc al st ah = some (.inl q)) : Kk p l e R s m args below meth c mi sz ad zf D cA n0 z0 Q (pc, al, st, ah) := by
  unfold ldAr0 at h
  split at h
  · next i a r =>
    split at h
    · next w hw =>
      split at h
      · next hi =>
        cases nx_inj h
        intro ls H locs hS
        obtain ⟨hx, hb, hml, hr, hlo, hown, hnm, hts, hE, hR⟩ := hC
        unfold arI at hw
        split at hw
        · next hs =>
          subst hs
          cases hw
          exact va_sld hx hb hE.2.1.2.2.2 (Nat.lt_of_lt_of_le hE.2.2.1.2.1 hE.2.2.2) (Nat.not_le.mpr hE.2.2.1.2.1) hS.2.2.1 (inb_of hi) hdg (kk ls H locs hS)
        · have he := cw_get (ad := ad) (zf := zf) (cA := cA) (arW_of hw)
          exact va_iald hx hb hE.1.1 hS.2.1 a 0 he rfl (inb_of hi) hdg (kk ls H locs hS)
      · cases h
    · cases h
  · cases h
theorem sd_ldAr1 (hC : Cx p R s m args meth c mi X sz ad zf D cA) (kk : Kk p l e R s m args below meth c mi sz ad zf D cA n0 z0 Q q) (hdg : decode (mC mi) pc = .ok (.laload, 1)) (h : ldAr1 pc al st ah = some (.inl q)) : Kk p l e R s m args below meth c mi sz ad zf D cA n0 z0 Q (pc, al, st, ah) := by
  unfold ldAr1 at h
  split at h
  · next i a r =>
    split at h
    · next w hw =>
      split at h
      · next hi =>
        cases nx_inj h
        intro ls H locs hS
        obtain ⟨hx, hb, hml, hr, hlo, hown, hnm, hts, hE, hR⟩ := hC
        have he := cw_get (ad := ad) (zf := zf) (cA := cA) (arL_of hw)
        exact va_lald hx hb hE.1.1 hS.2.1 a 1 he rfl (inb_of hi) hdg (kk ls H locs hS)
      · cases h
    · cases h
  · cases h
theorem sd_ldAr2 (hC : Cx p R s m args meth c mi X sz ad zf D cA) (kk : Kk p l e R s m args below meth c mi sz ad zf D cA n0 z0 Q q) (hdg : decode (mC mi) pc = .ok (.baload, 1)) (h : ldAr2 pc al st ah = some (.inl q)) : Kk p l e R s m args below meth c mi sz ad zf D cA n0 z0 Q (pc, al, st, ah) := by
  unfold ldAr2 at h
  split at h
  · next i a r =>
    split at h
    · next w hw =>
      split at h
      · next hi =>
        cases nx_inj h
        intro ls H locs hS
        obtain ⟨hx, hb, hml, hr, hlo, hown, hnm, hts, hE, hR⟩ := hC
        unfold arB at hw
        split at hw
        · next w2 hw2 =>
          obtain rfl := Option.some.inj hw
          obtain ⟨k, h1, h2, h3⟩ := exB_of hw2
          have hE4 := (hE.2.1.1.1 k h1).2.2.2
          dsimp only at hE4
          rw [h2, SB_len] at hE4
          have hE5 : va_T .byte (ad a) w2.1 (fun j => .int (w2.2 j)) (fun q => sz ≤ q) s s.heap := by rw [h3]; exact hE4
          exact va_tb hx hb hE5 hS.2.2.1 (inb_of hi) rfl hdg (kk ls H locs hS)
        · have he := cw_get (ad := ad) (zf := zf) (cA := cA) (arZ_of hw)
          exact va_zald hx hb hE.1.1 hS.2.1 a 2 he rfl (inb_of hi) hdg (kk ls H locs hS)
      · cases h
    · cases h
  · cases h
theorem cv_rf {o : Option Nat} : va_rf (o.map ad) = cv ad zf (va_rf o) := by cases o <;> rfl
theorem sd_ldAr3 (hC : Cx p R s m args meth c mi X sz ad zf D cA) (kk : Kk p l e R s m args below meth c mi sz ad zf D cA n0 z0 Q q) (hdg : decode (mC mi) pc = .ok (.aaload, 1)) (h : ldAr3 pc al st ah = some (.inl q)) : Kk p l e R s m args below meth c mi sz ad zf D cA n0 z0 Q (pc, al, st, ah) := by
  unfold ldAr3 at h
  split at h
  · next i a r =>
    split at h
    · next w hw =>
      split at h
      · next hi =>
        cases nx_inj h
        intro ls H locs hS
        obtain ⟨hx, hb, hml, hr, hlo, hown, hnm, hts, hE, hR⟩ := hC
        obtain ⟨h1, h2⟩ := arQ_of hw
        have he := cw_get (ad := ad) (zf := zf) (cA := cA) h1
        have K := kk ls H locs hS
        have K2 : W p l e R s m args below meth c H locs (ah.length - n0) (asz ah - z0) Q (F0 m (pc + 1) ls (va_rf ((w.2.2 i.toNatClampNeg).map ad) :: r.map (cv ad zf))) := by
          rw [cv_rf (zf := zf)]; exact K
        rcases h2 with h2 | h2
        · rw [h2] at he
          exact va_aldq hx hb hE.1.1 hS.2.1 a 3 he rfl (inb_of hi) hdg K2
        · rw [h2] at he
          exact va_aldq hx hb hE.1.1 hS.2.1 a 4 he rfl (inb_of hi) hdg K2
      · cases h
    · cases h
  · cases h
/-- behind a store into a row -/
theorem Kk.row {ls : Array Slot} {H : Heap} {locs : List Loc} {pc' a : Nat} {st' : List Value} {e0 e1 : va_E} (kk : Kk p l e R s m args below meth c mi sz ad zf D cA n0 z0 Q (pc', al, st', ah.set a e1)) (hS : Sx s mi sz ad zf D cA n0 z0 al ah ls H locs) (ha : ah[a]? = some e0) (hc : csz e1 = csz e0) :
    ∀ (H1 : Heap) (locs1 : List Loc), va_P D vwCl ((cw ad zf cA ah).set a (ad a, ce ad zf cA e1)) H1 → va_D (fun q => sz ≤ q) ((cw ad zf cA ah).set a (ad a, ce ad zf cA e1)) → va_S (fun q => sz ≤ q) s.heap H1 locs1 → W p l e R s m args below meth c H1 locs1 (ah.length - n0) (asz ah - z0) Q (F0 m pc' ls (st'.map (cv ad zf))) := by
  intro H1 locs1 hP1 _ hS1
  refine kk.use (ls := ls) (H := H1) (locs := locs1) ⟨hS.1, ?_, hS1, by rw [List.length_set]; exact hS.2.2.2.1, by rw [List.length_set]; exact hS.2.2.2.2.1, by rw [asz_set ha hc]; exact hS.2.2.2.2.2.1, hS.2.2.2.2.2.2⟩ (by rw [List.length_set]) (by rw [asz_set ha hc])
  rw [cw_set]
  exact hP1
theorem sd_stAr0 (hC : Cx p R s m args meth c mi X sz ad zf D cA) (kk : Kk p l e R s m args below meth c mi sz ad zf D cA n0 z0 Q q) (hdg : decode (mC mi) pc = .ok (.iastore, 1)) (h : stAr0 pc al st ah = some (.inl q)) : Kk p l e R s m args below meth c mi sz ad zf D cA n0 z0 Q (pc, al, st, ah) := by
  match st, h with
  | .int x :: .int i :: .ref a :: r, h =>
    unfold stAr0 at h
    dsimp only at h
    split at h
    · next w hw =>
      split at h
      · next hi =>
        cases nx_inj h
        intro ls H locs hS
        obtain ⟨hx, hb, hml, hr, hlo, hown, hnm, hts, hE, hR⟩ := hC
        have ha := arW_of hw
        exact va_iast hx hb hE.1.1 hS.2.1 (cw_D hE.2.2.1.2.2 hS.2.2.2.1) hS.2.2.1 a 0 (cw_get ha) rfl (inb_of hi) hdg (Kk.row kk hS ha rfl)
      · cases h
    · cases h
theorem sd_stAr1 (hC : Cx p R s m args meth c mi X sz ad zf D cA) (kk : Kk p l e R s m args below meth c mi sz ad zf D cA n0 z0 Q q) (hdg : decode (mC mi) pc = .ok (.lastore, 1)) (h : stAr1 pc al st ah = some (.inl q)) : Kk p l e R s m args below meth c mi sz ad zf D cA n0 z0 Q (pc, al, st, ah) := by
  match st, h with
  | .long x :: .int i :: .ref a :: r, h =>
    unfold stAr1 at h
    dsimp only at h
    split at h
    · next w hw =>
      split at h
      · next hi =>
        cases nx_inj h
        intro ls H locs hS
        obtain ⟨hx, hb, hml, hr, hlo, hown, hnm, hts, hE, hR⟩ := hC
        have ha := arL_of hw
        exact va_last hx hb hE.1.1 hS.2.1 (cw_D hE.2.2.1.2.2 hS.2.2.2.1) hS.2.2.1 a 1 (cw_get ha) rfl (inb_of hi) hdg (Kk.row kk hS ha rfl)
      · cases h
    · cases h
theorem sd_stAr2 (hC : Cx p R s m args meth c mi X sz ad zf D cA) (kk : Kk p l e R s m args below meth c mi sz ad zf D cA n0 z0 Q q) (hdg : decode (mC mi) pc = .ok (.bastore, 1)) (h : stAr2 pc al st ah = some (.inl q)) : Kk p l e R s m args below meth c mi sz ad zf D cA n0 z0 Q (pc, al, st, ah) := by
  match st, h with
  | .int x :: .int i :: .ref a :: r, h =>
    unfold stAr2 at h
    dsimp only at h
    split at h
    · next w hw =>
      split at h
      · next hi =>
        cases nx_inj h
        intro ls H locs hS
        obtain ⟨hx, hb, hml, hr, hlo, hown, hnm, hts, hE, hR⟩ := hC
        have ha := arZ_of hw
        exact va_zast hx hb hE.1.1 hS.2.1 (cw_D hE.2.2.1.2.2 hS.2.2.2.1) hS.2.2.1 a 2 (cw_get ha) rfl (inb_of hi) hdg (Kk.row kk hS ha rfl)
      · cases h
    · cases h
theorem up_map {f : Nat → Option Nat} {k v : Nat} : (fun j => (va_up f k (some v) j).map ad) = va_up (fun j => (f j).map ad) k (some (ad v)) := by
  funext j
  unfold va_up
  split <;> rfl
theorem climb_cast {ci : Nat} {r : vw_C} (hc : ci ∈ [2, 4, 5, 9]) (hr : vwCl[ci]? = some r) : Cond.castable r.1 RX0 ∈ xtbl := by
  simp only [List.mem_cons, List.not_mem_nil, or_false] at hc
  rcases hc with rfl | rfl | rfl | rfl <;> (cases hr; exact List.mem_filter.mpr ⟨by decide +kernel, rfl⟩)
theorem sd_stAr3 (hC : Cx p R s m args meth c mi X sz ad zf D cA) (kk : Kk p l e R s m args below meth c mi sz ad zf D cA n0 z0 Q q) (hdg : decode (mC mi) pc = .ok (.aastore, 1)) (h : stAr3 pc al st ah = some (.inl q)) : Kk p l e R s m args below meth c mi sz ad zf D cA n0 z0 Q (pc, al, st, ah) := by
  match st, h with
  | .ref v :: .int i :: .ref a :: r, h =>
    unfold stAr3 at h
    dsimp only at h
    split at h
    · next w hw =>
      split at h
      · next ci hv0 =>
        obtain ⟨fs, hv⟩ := rcO_of hv0
        split at h
        · next hi =>
          cases nx_inj h
          rw [Bool.and_eq_true] at hi
          intro ls H locs hS
          obtain ⟨hx, hb, hml, hr, hlo, hown, hnm, hts, hE, hR⟩ := hC
          obtain ⟨ha, ht⟩ := arQ_of hw
          have he := cw_get (ad := ad) (zf := zf) (cA := cA) ha
          have hev := cw_get (ad := ad) (zf := zf) (cA := cA) hv
          obtain ⟨t, n, f⟩ := w
          dsimp only at ha ht he hi kk
          have K := Kk.row kk hS ha rfl
          have K2 : ∀ (H1 : Heap) (locs1 : List Loc), va_P D vwCl ((cw ad zf cA ah).set a (ad a, .inl (cA t, n, .inr (.inr (.inr (.inr (va_up (fun j => (f j).map ad) i.toNatClampNeg (some (ad v))))))))) H1 → va_D (fun q => sz ≤ q) ((cw ad zf cA ah).set a (ad a, .inl (cA t, n, .inr (.inr (.inr (.inr (va_up (fun j => (f j).map ad) i.toNatClampNeg (some (ad v))))))))) → va_S (fun q => sz ≤ q) s.heap H1 locs1 → W p l e R s m args below meth c H1 locs1 (ah.length - n0) (asz ah - z0) Q (F0 m (pc + 1) ls (r.map (cv ad zf))) := by
            rw [← up_map]; exact K
          obtain ⟨qc, hqc⟩ : ∃ qc, vwCl[ci]? = some qc := by
            have := hS.2.1 v _ hev
            obtain ⟨qc, hqc, -⟩ := this
            exact ⟨qc, hqc⟩
          rcases ht with ht | ht
          · subst ht
            have hci : ci ∈ [2, 4, 5, 9] := of_decide_eq_true hi.2
            exact va_astqO (E := RX0) (r := qc) hx hb hE.1.1 hS.2.1 (cw_D hE.2.2.1.2.2 hS.2.2.2.1) hS.2.2.1 a 3 v ci he rfl (hE.1.2.1 _ (climb_cast hci hqc)) hev hqc (inb_of hi.1) hdg K2
          · subst ht
            have hci : ci = 3 := of_decide_eq_true hi.2
            subst hci
            cases hqc
            exact va_astq hx hb hE.1.1 hS.2.1 (cw_D hE.2.2.1.2.2 hS.2.2.2.1) hS.2.2.1 a 4 v 3 he rfl hev rfl (inb_of hi.1) hdg K2
        · cases h
      · cases h
    · cases h
end SH
