/-! THE SIMULATION: what the pure machine comes to, the machine comes to -/
theorem plain_ok (mi : Nat) : plainFor (mY mi) = true := by
  unfold mY mE
  rw [List.getD_eq_getElem?_getD]
  cases hm : MT[mi]? with
  | none => exact plainFor_of_name (by decide +kernel)
  | some e =>
    have h1 := List.all_eq_true.mp MT_ok e (List.mem_of_getElem? hm)
    unfold okM at h1
    simp only [Bool.and_eq_true, decide_eq_true_eq] at h1
    exact h1.1.1
def SimAt (l : Launch) (X : XS) (sz : Nat) (ad : Nat → Nat) (zf : Value) (D : va_G) (cA : Nat → ClassId) (n : Nat) : Prop :=
  ∀ (d mi pc : Nat) (al : LV) (st : List Value) (ah : AH) (v : Option Value) (ah' : AH), run X n d mi pc al st ah = some (v, ah') →
  ∀ (p : Program) (e : Env) (R : Room) (s : State) (m : MethodId) (args : Array Value) (below : List Frame) (meth : Method) (c : Code) (n0 z0 : Nat) (Q : State → Prop),
    Cx p R s m args meth c mi X sz ad zf D cA → d + 3 ≤ R.frames → 40 * (d + 3) ≤ R.locals → ah'.length ≤ R.cells + n0 → asz ah' ≤ R.slots + z0 → ah'.length ≤ 1000000 →
    (∀ (pc2 : Nat) (al2 : LV) (st2 : List Value), stp X mi pc2 al2 st2 ah' = some (.inr (.inl v)) → Kk p l e R s m args below meth c mi sz ad zf D cA n0 z0 Q (pc2, al2, st2, ah')) →
    Kk p l e R s m args below meth c mi sz ad zf D cA n0 z0 Q (pc, al, st, ah)
theorem met_of {l : Launch} {X : XS} {sz : Nat} {ad : Nat → Nat} {zf : Value} {D : va_G} {cA : Nat → ClassId} {n d mi : Nat} {as : List Value} {ah : AH} {v : Option Value} {ah' : AH} (ih : SimAt l X sz ad zf D cA n) (hl : (flA as).length ≤ mL mi) (hlen : ah.length ≤ 1000000) (hlen2 : ah'.length ≤ 1000000) (h : run X n d mi 0 (ent (mL mi) as) [] ah = some (v, ah')) :
    Met l (mY mi) (wsm mi) (rmD d (ah'.length - ah.length) (asz ah' - asz ah)) (Pcc X sz ad zf D cA as ah) (Qcc sz ad zf D cA v ah') (ah'.length - ah.length) (asz ah' - asz ah) (fun q => sz ≤ q) := by
  have hg := run_grw h
  refine va_MetF (cc := mC mi) (maxL := mL mi) (ret := mR mi) (plain_ok mi) rfl ?_
  intro p e s m args below meth c s₁ B hml hv
  obtain ⟨rfl, hE, hP, hsz⟩ := hv
  have hts := atoms_spec (ws := wsm mi) B.pre
  have hown : s.vm.findClass (mY mi).cls = some m.cls := findClass_of_methodNamed B.named
  have hC : Cx p (rmD d (ah'.length - ah.length) (asz ah' - asz ah)) s m (as.map (cv ad zf)).toArray meth c mi X sz ad zf D cA :=
    ⟨B.exec, B.bytes, hml, B.returns, B.notSynchronized, by rw [oN_mO]; exact hown, fun h9 => (name_of_methodNamed B.named B.method).1.trans h9, fun w hw => hts w (List.mem_cons_of_mem _ hw), hE, Nat.le_add_left 3 d, by show 120 ≤ 40 * (d + 3); omega⟩
  have K := ih d mi 0 (ent (mL mi) as) [] ah v ah' h p e (rmD d (ah'.length - ah.length) (asz ah' - asz ah)) s m (as.map (cv ad zf)).toArray below meth c ah.length (asz ah) (MQ below (Qcc sz ad zf D cA v ah') (as.map (cv ad zf)).toArray s (ah'.length - ah.length) (asz ah' - asz ah) (fun q => sz ≤ q)) hC (Nat.le_refl _) (Nat.le_refl _) (by show ah'.length ≤ ah'.length - ah.length + ah.length; have := hg.1; dsimp only at this; omega) (by show asz ah' ≤ asz ah' - asz ah + asz ah; have := hg.2; dsimp only at this; omega) hlen2 (fun pc2 al2 st2 h2 => sd_ret hC h2)
  rw [lg_entry_eq]
  have K2 := K _ s.heap [] ⟨lok_entry (hz_of hC) as hl, hP, va_S.rf, hlen, Nat.le_refl _, Nat.le_refl _, hsz⟩
  dsimp only at K2
  rw [Nat.sub_self, Nat.sub_self] at K2
  exact K2
theorem toL_map {ad : Nat → Nat} {zf : Value} (v : Option Value) (r : List Value) : (v.toList ++ r).map (cv ad zf) = (v.map (cv ad zf)).toList ++ r.map (cv ad zf) := by
  cases v <;> rfl
theorem sim (l : Launch) (X : XS) (sz : Nat) (ad : Nat → Nat) (zf : Value) (D : va_G) (cA : Nat → ClassId) : ∀ n, SimAt l X sz ad zf D cA n
  | 0 => by
    intro d mi pc al st ah v ah' h
    simp [run] at h
  | n + 1 => by
    have ih := sim l X sz ad zf D cA n
    intro d mi pc al st ah v ah' h p e R s m args below meth c n0 z0 Q hC hRf hRl hc1 hc2 hmx hret
    unfold run at h
    split at h
    · cases h
    · next q hq =>
      have hg := run_grw h
      dsimp only at hg
      exact sd_go hC (ih d mi q.1 q.2.1 q.2.2.1 q.2.2.2 v ah' h p e R s m args below meth c n0 z0 Q hC hRf hRl hc1 hc2 hmx hret) ⟨Nat.le_trans hg.1 hc1, Nat.le_trans hg.2 hc2⟩ hq
    · next w hq =>
      cases h
      exact hret pc al st hq
    · next q hq =>
      cases d with
      | zero => cases h
      | succ d =>
        dsimp only at h
        split at h
        · next hl =>
          split at h
          · cases h
          · next r1 hr1 =>
            obtain ⟨m2, as, pc2, r2⟩ := q
            obtain ⟨v1, ah1⟩ := r1
            dsimp only at h hl hr1
            have hg1 := run_grw hr1
            have hg2 := run_grw h
            dsimp only at hg1 hg2
            have hg11 := hg1.1
            have hg12 := hg1.2
            have hg21 := hg2.1
            have hg22 := hg2.2
            have kk := ih (d + 1) mi pc2 al (v1.toList ++ r2) ah1 v ah' h p e R s m args below meth c n0 z0 Q hC hRf hRl hc1 hc2 hmx hret
            intro ls H locs hS
            refine W_size fun hz => ?_
            dsimp only at hz hS ⊢
            have hsz := size_eq hC.2.2.2.2.2.2.2.2.1.2.2.1 hS hz
            have hM := met_of (d := d) ih hl hS.2.2.2.1 (by omega) hr1
            have h5 : n0 ≤ ah.length := hS.2.2.2.2.1
            have h6 : z0 ≤ asz ah := hS.2.2.2.2.2.1
            have hf : ah.length - n0 + (ah1.length - ah.length) ≤ R.cells ∧ asz ah - z0 + (asz ah1 - asz ah) ≤ R.slots := ⟨by omega, by omega⟩
            have go : pc2 = pc + 3 → ∀ (H1 : Heap) (locs1 : List Loc), va_P D vwCl (cw ad zf cA ah1) H1 → va_S (fun q => sz ≤ q) s.heap H1 locs1 → W p l e R s m args below meth c H1 locs1 (ah.length - n0 + (ah1.length - ah.length)) (asz ah - z0 + (asz ah1 - asz ah)) Q (F0 m (pc + 3) ls ((v1.map (cv ad zf)).toList ++ r2.map (cv ad zf))) := by
              intro e1 H1 locs1 hP1 hS1
              subst e1
              rw [← toL_map]
              exact kk.use (ls := ls) (H := H1) (locs := locs1) ⟨hS.1, hP1, hS1, by omega, by omega, by omega, hS.2.2.2.2.2.2⟩ (by omega) (by omega)
            unfold stp at hq
            split at hq
            · next i len hdg =>
              rcases stI_kinds hq with ⟨rfl, rfl, h1⟩ | ⟨rfl, rfl, h1⟩ | ⟨rfl, rfl, h1⟩ | ⟨rfl, rfl, h1⟩ | ⟨k, rfl, rfl, h1⟩ | ⟨k, rfl, rfl, h1⟩ | ⟨k, rfl, rfl, h1⟩
              · unfold rtI at h1
                repeat' split at h1
                all_goals cases h1
              · unfold rtL at h1
                repeat' split at h1
                all_goals cases h1
              · unfold rtA at h1
                repeat' split at h1
                all_goals cases h1
              · unfold rtV at h1
                repeat' split at h1
                all_goals cases h1
              · unfold iV at h1
                split at h1
                · next t ht =>
                  split at h1
                  · next h0 =>
                    split at h1
                    · next a r hdr =>
                      split at h1
                      · next ci hci =>
                        obtain ⟨w, hw, hw2, e1⟩ := callTo_of h1
                        cases e1
                        exact w_call (run_V (al := al) hC hS hsz hdg ht h0 hdr hci hw hw2 hM (by omega) (by omega) hf) hS.2.2.1 (go rfl)
                      · cases h1
                    · cases h1
                  · cases h1
                · cases h1
              · unfold iS at h1
                split at h1
                · next t ht =>
                  split at h1
                  · next h0 =>
                    split at h1
                    · exact (aycp_on h1).elim
                    · next h9 =>
                      split at h1
                      · next hle =>
                        obtain ⟨w, hw, hw2, e1⟩ := callTo_of h1
                        cases e1
                        exact w_call (run_S (al := al) hC hS hsz hdg ht h0 h9 hle hw hw2 hM (by omega) (by omega) hf) hS.2.2.1 (go rfl)
                      · cases h1
                  · cases h1
                · cases h1
              · unfold iP at h1
                split at h1
                · next t ht =>
                  split at h1
                  · next h0 =>
                    split at h1
                    · split at h1
                      · split at h1
                        · exact (nx_on h1).elim
                        · cases h1
                      · cases h1
                    · next h8 =>
                      split at h1
                      · next a r hdr =>
                        obtain ⟨w, hw, hw2, e1⟩ := callTo_of h1
                        cases e1
                        exact w_call (run_P (al := al) hC hS hsz hdg ht h0 h8 hdr hw hw2 hM (by omega) (by omega) hf) hS.2.2.1 (go rfl)
                      · cases h1
                  · cases h1
                · cases h1
            · cases hq
        · cases h
