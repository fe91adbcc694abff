/-! ends and calls among the steps -/
section SR
variable {X : XS} {mi pc : Nat} {al : LV} {st : List Value} {ah : AH} {x : (Option Value) ⊕ (Nat × List Value × Nat × List Value)}
theorem nx_on {pc' : Nat} {ls' : LV} {st' : List Value} {ah' : AH} (h : nx pc' ls' st' ah' = some (.inr x)) : False := by unfold nx at h; cases h
theorem ldV_on {chk : Value → Bool} {k pc' : Nat} (h : ldV chk al k pc' st ah = some (.inr x)) : False := by
  unfold ldV at h
  repeat' split at h
  all_goals first | (cases h; done) | exact nx_on h
theorem stV_on {chk : Value → Bool} {k pc' : Nat} (h : stV chk al k pc' st ah = some (.inr x)) : False := by
  unfold stV at h
  repeat' split at h
  all_goals first | (cases h; done) | exact nx_on h
theorem stL_on {k pc' : Nat} (h : stL al k pc' st ah = some (.inr x)) : False := by
  unfold stL at h
  repeat' split at h
  all_goals first | (cases h; done) | exact nx_on h
theorem biI_on {f : Int32 → Int32 → Option Int32} {pc' : Nat} (h : biI f al pc' st ah = some (.inr x)) : False := by
  unfold biI at h
  repeat' split at h
  all_goals first | (cases h; done) | exact nx_on h
theorem biL_on {f : Int64 → Int64 → Option Int64} {pc' : Nat} (h : biL f al pc' st ah = some (.inr x)) : False := by
  unfold biL at h
  repeat' split at h
  all_goals first | (cases h; done) | exact nx_on h
theorem br_on {b : Bool} {off : Int} {r : List Value} (h : br b al pc off r ah = some (.inr x)) : False := by
  unfold br at h
  repeat' split at h
  all_goals first | (cases h; done) | exact nx_on h
theorem tsw_on {dflt lo hi : Int} {offs : Array Int} (h : tsw dflt lo hi offs pc al st ah = some (.inr x)) : False := by
  unfold tsw at h
  repeat' split at h
  all_goals first | (cases h; done) | exact nx_on h
theorem gtF_on {i : Nat} (h : gtF mi i pc al st ah = some (.inr x)) : False := by
  unfold gtF at h
  repeat' split at h
  all_goals first | (cases h; done) | exact nx_on h
theorem ptF_on {i : Nat} (h : ptF mi i pc al st ah = some (.inr x)) : False := by
  unfold ptF at h
  repeat' split at h
  all_goals first | (cases h; done) | exact nx_on h
theorem ldAr0_on (h : ldAr0 X pc al st ah = some (.inr x)) : False := by
  unfold ldAr0 at h
  repeat' split at h
  all_goals first | (cases h; done) | exact nx_on h
theorem ldAr1_on (h : ldAr1 pc al st ah = some (.inr x)) : False := by
  unfold ldAr1 at h
  repeat' split at h
  all_goals first | (cases h; done) | exact nx_on h
theorem ldAr2_on (h : ldAr2 pc al st ah = some (.inr x)) : False := by
  unfold ldAr2 at h
  repeat' split at h
  all_goals first | (cases h; done) | exact nx_on h
theorem ldAr3_on (h : ldAr3 pc al st ah = some (.inr x)) : False := by
  unfold ldAr3 at h
  repeat' split at h
  all_goals first | (cases h; done) | exact nx_on h
theorem stAr0_on (h : stAr0 pc al st ah = some (.inr x)) : False := by
  unfold stAr0 at h
  repeat' split at h
  all_goals first | (cases h; done) | exact nx_on h
theorem stAr1_on (h : stAr1 pc al st ah = some (.inr x)) : False := by
  unfold stAr1 at h
  repeat' split at h
  all_goals first | (cases h; done) | exact nx_on h
theorem stAr2_on (h : stAr2 pc al st ah = some (.inr x)) : False := by
  unfold stAr2 at h
  repeat' split at h
  all_goals first | (cases h; done) | exact nx_on h
theorem stAr3_on (h : stAr3 pc al st ah = some (.inr x)) : False := by
  unfold stAr3 at h
  repeat' split at h
  all_goals first | (cases h; done) | exact nx_on h
theorem newO_on {i : Nat} (h : newO mi i pc al st ah = some (.inr x)) : False := by
  unfold newO at h
  repeat' split at h
  all_goals first | (cases h; done) | exact nx_on h
theorem newA_on {ty : ArrayType} (h : newA ty pc al st ah = some (.inr x)) : False := by
  unfold newA at h
  repeat' split at h
  all_goals first | (cases h; done) | exact nx_on h
theorem newQ_on {i : Nat} (h : newQ mi i pc al st ah = some (.inr x)) : False := by
  unfold newQ at h
  repeat' split at h
  all_goals first | (cases h; done) | exact nx_on h
theorem inst_on {i : Nat} (h : inst mi i pc al st ah = some (.inr x)) : False := by
  unfold inst at h
  repeat' split at h
  all_goals first | (cases h; done) | exact nx_on h
theorem cast_on {i : Nat} (h : cast mi i pc al st ah = some (.inr x)) : False := by
  unfold cast at h
  repeat' split at h
  all_goals first | (cases h; done) | exact nx_on h
theorem aycp_on (h : aycp pc al st ah = some (.inr x)) : False := by
  unfold aycp at h
  repeat' split at h
  all_goals first | (cases h; done) | exact nx_on h
/-- which instructions end a frame or call -/
def kinds (mi : Nat) (i : Instr) (len pc : Nat) (al : LV) (st : List Value) (ah : AH) (x : (Option Value) ⊕ (Nat × List Value × Nat × List Value)) : Prop :=
  (i = .ireturn ∧ len = 1 ∧ rtI mi st = some (.inr x)) ∨ (i = .lreturn ∧ len = 1 ∧ rtL mi st = some (.inr x)) ∨ (i = .areturn ∧ len = 1 ∧ rtA mi st = some (.inr x)) ∨ (i = .return_ ∧ len = 1 ∧ rtV mi st = some (.inr x)) ∨
  (∃ k, i = .invokevirtual k ∧ len = 3 ∧ iV mi k pc st ah = some (.inr x)) ∨ (∃ k, i = .invokestatic k ∧ len = 3 ∧ iS mi k pc al st ah = some (.inr x)) ∨ (∃ k, i = .invokespecial k ∧ len = 3 ∧ iP mi k pc al st ah = some (.inr x))
set_option maxHeartbeats 2000000 in
theorem stI_kinds {i : Instr} {len : Nat} (h : stI X mi i len pc al st ah = some (.inr x)) : kinds mi i len pc al st ah x := by
  unfold stI at h
  unfold kinds
  split at h
  all_goals first
    | (exact (nx_on h).elim; done) | (exact (ldV_on h).elim; done) | (exact (stV_on h).elim; done) | (exact (stL_on h).elim; done) | (exact (biI_on h).elim; done) | (exact (biL_on h).elim; done)
    | (exact (tsw_on h).elim; done) | (exact (gtF_on h).elim; done) | (exact (ptF_on h).elim; done) | (exact (ldAr0_on h).elim; done) | (exact (ldAr1_on h).elim; done) | (exact (ldAr2_on h).elim; done) | (exact (ldAr3_on h).elim; done)
    | (exact (stAr0_on h).elim; done) | (exact (stAr1_on h).elim; done) | (exact (stAr2_on h).elim; done) | (exact (stAr3_on h).elim; done) | (exact (newO_on h).elim; done) | (exact (newA_on h).elim; done) | (exact (newQ_on h).elim; done) | (exact (inst_on h).elim; done) | (exact (cast_on h).elim; done)
    | (exact Or.inl ⟨rfl, rfl, h⟩; done) | (exact Or.inr (Or.inl ⟨rfl, rfl, h⟩); done) | (exact Or.inr (Or.inr (Or.inl ⟨rfl, rfl, h⟩)); done) | (exact Or.inr (Or.inr (Or.inr (Or.inl ⟨rfl, rfl, h⟩))); done)
    | (exact Or.inr (Or.inr (Or.inr (Or.inr (Or.inl ⟨_, rfl, rfl, h⟩)))); done) | (exact Or.inr (Or.inr (Or.inr (Or.inr (Or.inr (Or.inl ⟨_, rfl, rfl, h⟩))))); done) | (exact Or.inr (Or.inr (Or.inr (Or.inr (Or.inr (Or.inr ⟨_, rfl, rfl, h⟩))))); done)
    | (cases h; done)
    | (split at h
       all_goals first
         | (cases h; done)
         | (exact (nx_on h).elim; done)
         | (exact (br_on h).elim; done)
         | (split at h <;> first | (cases h; done) | (exact (nx_on h).elim; done)))
end SR
theorem stp_grw {X : XS} {mi pc : Nat} {al : LV} {st : List Value} {ah : AH} {q : Nat × LV × List Value × AH} (h : stp X mi pc al st ah = some (.inl q)) : grw ah q.2.2.2 := by
  unfold stp at h
  split at h
  · exact stI_grw h
  · cases h
theorem grw.tr {a b c : AH} (h1 : grw a b) (h2 : grw b c) : grw a c := ⟨Nat.le_trans h1.1 h2.1, Nat.le_trans h1.2 h2.2⟩
theorem run_grw {X : XS} : ∀ {n d mi pc : Nat} {ls : LV} {st : List Value} {ah : AH} {r : Option Value × AH}, run X n d mi pc ls st ah = some r → grw ah r.2
  | 0, _, _, _, _, _, _, _, h => by simp [run] at h
  | n + 1, d, mi, pc, ls, st, ah, r, h => by
    unfold run at h
    split at h
    · cases h
    · next q hq => exact (stp_grw hq).tr (run_grw h)
    · next v hq => cases h; exact grw.rf
    · next q hq =>
      cases d with
      | zero => cases h
      | succ d =>
        dsimp only at h
        split at h
        · next hl =>
          split at h
          · cases h
          · next r1 hr1 => exact (run_grw hr1).tr (run_grw h)
        · cases h
section SR2
variable {p : Program} {l : Launch} {e : Env} {R : Room} {s : State} {m : MethodId} {args : Array Value} {below : List Frame} {meth : Method} {c : Code} {Q : State → Prop}
variable {mi : Nat} {X : XS} {sz : Nat} {ad : Nat → Nat} {zf : Value} {D : va_G} {cA : Nat → ClassId} {n0 z0 : Nat} {pc : Nat} {al : LV} {st : List Value} {ah : AH} {q : Nat × LV × List Value × AH}
variable {ls : Array Slot} {H : Heap} {locs : List Loc}
theorem sd_ret {v : Option Value} (hC : Cx p R s m args meth c mi X sz ad zf D cA) (h : stp X mi pc al st ah = some (.inr (.inl v))) : Kk p l e R s m args below meth c mi sz ad zf D cA n0 z0 (MQ below (Qcc sz ad zf D cA v ah) args s (ah.length - n0) (asz ah - z0) (fun q => sz ≤ q)) (pc, al, st, ah) := by
  intro ls H locs hS
  obtain ⟨hx, hb, hml, hr, hlo, hown, hnm, hts, hE, hR⟩ := hC
  have hq : ∀ t : State, t.heap = H → s.WarmedH t.vm → Qcc sz ad zf D cA v ah args s (.returned (v.map (cv ad zf))) t := fun t ht _ => ⟨rfl, by rw [ht]; exact hS.2.1, va_S.F hS.2.2.1 ht⟩
  have hf : ∀ q ∈ locs, (fun a => sz ≤ a) q.base := hS.2.2.1.2.2
  unfold stp at h
  split at h
  · next i len hdg =>
    rcases stI_kinds h with ⟨rfl, rfl, h1⟩ | ⟨rfl, rfl, h1⟩ | ⟨rfl, rfl, h1⟩ | ⟨rfl, rfl, h1⟩ | ⟨k, rfl, rfl, h1⟩ | ⟨k, rfl, rfl, h1⟩ | ⟨k, rfl, rfl, h1⟩
    · unfold rtI at h1
      split at h1
      · next w =>
        split at h1
        · next ty hty =>
          split at h1
          · next hn =>
            cases h1
            exact W.zret hx hb (hr.trans hty) hn hq hf hdg hlo
          · cases h1
        · cases h1
      · cases h1
    · unfold rtL at h1
      split at h1
      · next w =>
        split at h1
        · next hty =>
          cases h1
          exact W.lret hx hb (hr.trans hty) hq hf hdg hlo
        · cases h1
      · cases h1
    · unfold rtA at h1
      split at h1
      · next w =>
        split at h1
        · next hty =>
          cases h1
          rw [Bool.and_eq_true] at hty
          have h2 : ∃ rt, mR mi = some rt ∧ ((∃ n, rt = .object n) ∨ ∃ t, rt = .array t) := by
            have h3 := hty.1
            unfold isOb at h3
            split at h3
            · next n hn => exact ⟨_, hn, Or.inl ⟨n, rfl⟩⟩
            · next n hn => exact ⟨_, hn, Or.inr ⟨n, rfl⟩⟩
            · cases h3
          obtain ⟨rt, h3, h4⟩ := h2
          refine W.aret hx hb (hr.trans h3) h4 ?_ hq hf hdg hlo
          rcases isA_of hty.2 with rfl | ⟨a, rfl⟩
          · exact Or.inl rfl
          · exact Or.inr ⟨_, rfl⟩
        · cases h1
      · cases h1
    · unfold rtV at h1
      split at h1
      · split at h1
        · next hty =>
          cases h1
          exact W.vret hx hb (hr.trans hty) hq hf hdg hlo
        · cases h1
      · cases h1
    · unfold iV at h1
      repeat' split at h1
      all_goals first | (cases h1; done) | (obtain ⟨w, -, -, h2⟩ := callTo_of h1; cases h2)
    · unfold iS at h1
      repeat' split at h1
      all_goals first | (cases h1; done) | (exact (aycp_on h1).elim) | (obtain ⟨w, -, -, h2⟩ := callTo_of h1; cases h2)
    · unfold iP at h1
      repeat' split at h1
      all_goals first | (cases h1; done) | (exact (nx_on h1).elim) | (obtain ⟨w, -, -, h2⟩ := callTo_of h1; cases h2)
  · cases h
end SR2
