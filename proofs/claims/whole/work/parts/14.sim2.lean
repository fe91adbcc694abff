/-! the pure heap only grows; the run as a whole -/
def grw (ah ah2 : AH) : Prop := ah.length ≤ ah2.length ∧ asz ah ≤ asz ah2
theorem grw.rf {ah : AH} : grw ah ah := ⟨Nat.le_refl _, Nat.le_refl _⟩
theorem grw.set {ah : AH} {a : Nat} {e0 e1 : va_E} (h : ah[a]? = some e0) (hc : csz e1 = csz e0) : grw ah (ah.set a e1) := ⟨by rw [List.length_set]; exact Nat.le_refl _, by rw [asz_set h hc]; exact Nat.le_refl _⟩
theorem grw.app {ah : AH} {e : va_E} : grw ah (ah ++ [e]) := ⟨by rw [List.length_append]; exact Nat.le_add_right _ _, by rw [asz_app]; exact Nat.le_add_right _ _⟩
section SL
variable {X : XS} {mi pc : Nat} {al : LV} {st : List Value} {ah : AH} {q : Nat × LV × List Value × AH}
theorem nx_grw {pc' : Nat} {ls' : LV} {st' : List Value} (h : nx pc' ls' st' ah = some (.inl q)) : grw ah q.2.2.2 := by
  cases nx_inj h
  exact grw.rf
theorem tsw_grw {dflt lo hi : Int} {offs : Array Int} (h : tsw dflt lo hi offs pc al st ah = some (.inl q)) : grw ah q.2.2.2 := by
  unfold tsw at h
  repeat' split at h
  all_goals first | (cases h; done) | exact nx_grw h
theorem gtF_grw {i : Nat} (h : gtF mi i pc al st ah = some (.inl q)) : grw ah q.2.2.2 := by
  unfold gtF at h
  repeat' split at h
  all_goals first | (cases h; done) | exact nx_grw h
theorem ptF_grw {i : Nat} (h : ptF mi i pc al st ah = some (.inl q)) : grw ah q.2.2.2 := by
  unfold ptF at h
  repeat' split at h
  all_goals first | (cases h; done) | (cases nx_inj h; exact ⟨Nat.le_of_eq setF_len.symm, Nat.le_of_eq setF_asz.symm⟩)
theorem ldAr0_grw (h : ldAr0 X pc al st ah = some (.inl q)) : grw ah q.2.2.2 := by
  unfold ldAr0 at h
  repeat' split at h
  all_goals first | (cases h; done) | exact nx_grw h
theorem ldAr1_grw (h : ldAr1 pc al st ah = some (.inl q)) : grw ah q.2.2.2 := by
  unfold ldAr1 at h
  repeat' split at h
  all_goals first | (cases h; done) | exact nx_grw h
theorem ldAr2_grw (h : ldAr2 pc al st ah = some (.inl q)) : grw ah q.2.2.2 := by
  unfold ldAr2 at h
  repeat' split at h
  all_goals first | (cases h; done) | exact nx_grw h
theorem ldAr3_grw (h : ldAr3 pc al st ah = some (.inl q)) : grw ah q.2.2.2 := by
  unfold ldAr3 at h
  repeat' split at h
  all_goals first | (cases h; done) | exact nx_grw h
theorem stAr0_grw (h : stAr0 pc al st ah = some (.inl q)) : grw ah q.2.2.2 := by
  unfold stAr0 at h
  split at h
  · split at h
    · next w hw =>
      split at h
      · cases nx_inj h; exact grw.set (arW_of hw) rfl
      · cases h
    · cases h
  · cases h
theorem stAr1_grw (h : stAr1 pc al st ah = some (.inl q)) : grw ah q.2.2.2 := by
  unfold stAr1 at h
  split at h
  · split at h
    · next w hw =>
      split at h
      · cases nx_inj h; exact grw.set (arL_of hw) rfl
      · cases h
    · cases h
  · cases h
theorem stAr2_grw (h : stAr2 pc al st ah = some (.inl q)) : grw ah q.2.2.2 := by
  unfold stAr2 at h
  split at h
  · split at h
    · next w hw =>
      split at h
      · cases nx_inj h; exact grw.set (arZ_of hw) rfl
      · cases h
    · cases h
  · cases h
theorem stAr3_grw (h : stAr3 pc al st ah = some (.inl q)) : grw ah q.2.2.2 := by
  unfold stAr3 at h
  split at h
  · split at h
    · next w hw =>
      split at h
      · split at h
        · cases nx_inj h; exact grw.set (arQ_of hw).1 rfl
        · cases h
      · cases h
    · cases h
  · cases h
theorem newO_grw {i : Nat} (h : newO mi i pc al st ah = some (.inl q)) : grw ah q.2.2.2 := by
  unfold newO at h
  repeat' split at h
  all_goals first | (cases h; done) | (cases nx_inj h; exact grw.app)
theorem newA_grw {ty : ArrayType} (h : newA ty pc al st ah = some (.inl q)) : grw ah q.2.2.2 := by
  unfold newA at h
  repeat' split at h
  all_goals first | (cases h; done) | (cases nx_inj h; exact grw.app)
theorem newQ_grw {i : Nat} (h : newQ mi i pc al st ah = some (.inl q)) : grw ah q.2.2.2 := by
  unfold newQ at h
  repeat' split at h
  all_goals first | (cases h; done) | (cases nx_inj h; exact grw.app)
theorem inst_grw {i : Nat} (h : inst mi i pc al st ah = some (.inl q)) : grw ah q.2.2.2 := by
  unfold inst at h
  repeat' split at h
  all_goals first | (cases h; done) | exact nx_grw h
theorem cast_grw {i : Nat} (h : cast mi i pc al st ah = some (.inl q)) : grw ah q.2.2.2 := by
  unfold cast at h
  repeat' split at h
  all_goals first | (cases h; done) | exact nx_grw h
theorem aycp_grw (h : aycp pc al st ah = some (.inl q)) : grw ah q.2.2.2 := by
  unfold aycp at h
  split at h
  · split at h
    · next f g hf hg =>
      split at h
      · cases nx_inj h; exact grw.set (arW_of hg) rfl
      · cases h
    · cases h
  · cases h
theorem iS_grw {i : Nat} (h : iS mi i pc al st ah = some (.inl q)) : grw ah q.2.2.2 := by
  unfold iS at h
  repeat' split at h
  all_goals first | (cases h; done) | exact aycp_grw h | (obtain ⟨w, -, -, h2⟩ := callTo_of h; cases h2)
theorem iP_grw {i : Nat} (h : iP mi i pc al st ah = some (.inl q)) : grw ah q.2.2.2 := by
  unfold iP at h
  repeat' split at h
  all_goals first | (cases h; done) | exact nx_grw h | (obtain ⟨w, -, -, h2⟩ := callTo_of h; cases h2)
set_option maxHeartbeats 2000000 in
theorem stI_grw {i : Instr} {len : Nat} (h : stI X mi i len pc al st ah = some (.inl q)) : grw ah q.2.2.2 := by
  unfold stI at h
  split at h
  case h_14 => exact nx_grw h
  all_goals first
    | (exact nx_grw h; done)
    | (obtain ⟨v, -, -, rfl⟩ := ldV_of h; exact grw.rf)
    | (obtain ⟨v, r, -, -, -, -, rfl⟩ := stV_of h; exact grw.rf)
    | (obtain ⟨v, r, -, -, -, rfl⟩ := stL_of h; exact grw.rf)
    | (obtain ⟨x, y, r, z, -, -, rfl⟩ := biI_of h; exact grw.rf)
    | (obtain ⟨x, y, r, z, -, -, rfl⟩ := biL_of h; exact grw.rf)
    | (exact tsw_grw h; done) | (exact gtF_grw h; done) | (exact ptF_grw h; done) | (exact ldAr0_grw h; done) | (exact ldAr1_grw h; done) | (exact ldAr2_grw h; done) | (exact ldAr3_grw h; done) | (exact stAr0_grw h; done) | (exact stAr1_grw h; done) | (exact stAr2_grw h; done) | (exact stAr3_grw h; done) | (exact newO_grw h; done) | (exact newA_grw h; done) | (exact newQ_grw h; done) | (exact inst_grw h; done) | (exact cast_grw h; done) | (exact iS_grw h; done) | (exact iP_grw h; done)
    | (exact (iV_no h).elim; done)
    | (exact (rtI_no h).elim; done)
    | (exact (rtL_no h).elim; done)
    | (exact (rtA_no h).elim; done)
    | (exact (rtV_no h).elim; done)
    | (cases h; done)
    | skip
  all_goals first
    | (split at h
       all_goals first
         | (cases h; done)
         | (exact nx_grw h; done)
         | (obtain ⟨-, ⟨-, rfl⟩ | ⟨-, rfl⟩⟩ := br_of h <;> exact grw.rf)
         | (split at h <;> first | (cases h; done) | (exact nx_grw h; done)))
end SL
