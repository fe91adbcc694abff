/-! a step of the pure machine is one of the machine: loads, stores, arithmetic, jumps -/
section SD
variable {p : Program} {l : Launch} {e : Env} {R : Room} {s : State} {m : MethodId} {args : Array Value} {below : List Frame} {meth : Method} {c : Code} {Q : State → Prop}
variable {mi : Nat} {X : XS} {sz : Nat} {ad : Nat → Nat} {zf : Value} {D : va_G} {cA : Nat → ClassId} {n0 z0 : Nat} {pc : Nat} {al : LV} {st : List Value} {ah : AH} {q : Nat × LV × List Value × AH}
theorem nx_inj {pc' : Nat} {ls' : LV} {st' : List Value} {ah' : AH} (h : nx pc' ls' st' ah' = some (.inl q)) : q = (pc', ls', st', ah') := by
  unfold nx at h
  cases h
  rfl
theorem ldV_of {chk : Value → Bool} {k pc' : Nat} (h : ldV chk al k pc' st ah = some (.inl q)) : ∃ v, al[k]? = some (some v) ∧ chk v = true ∧ q = (pc', al, v :: st, ah) := by
  unfold ldV at h
  split at h
  · next v hv =>
    split at h
    · next hc => exact ⟨v, hv, hc, nx_inj h⟩
    · cases h
  · cases h
theorem stV_of {chk : Value → Bool} {k pc' : Nat} (h : stV chk al k pc' st ah = some (.inl q)) : ∃ v r, st = v :: r ∧ chk v = true ∧ k < al.length ∧ nkk al k = true ∧ q = (pc', al.set k (some v), r, ah) := by
  unfold stV at h
  split at h
  · next v r =>
    split at h
    · next hc =>
      simp only [Bool.and_eq_true, decide_eq_true_eq] at hc
      exact ⟨v, r, rfl, hc.1, hc.2.1, hc.2.2, nx_inj h⟩
    · cases h
  · cases h
theorem stL_of {k pc' : Nat} (h : stL al k pc' st ah = some (.inl q)) : ∃ v r, st = .long v :: r ∧ k + 1 < al.length ∧ nkk al k = true ∧ q = (pc', (al.set k (some (.long v))).set (k + 1) none, r, ah) := by
  unfold stL at h
  split at h
  · next v r =>
    split at h
    · next hc =>
      simp only [Bool.and_eq_true, decide_eq_true_eq] at hc
      exact ⟨v, r, rfl, hc.1, hc.2, nx_inj h⟩
    · cases h
  · cases h
theorem biI_of {f : Int32 → Int32 → Option Int32} {pc' : Nat} (h : biI f al pc' st ah = some (.inl q)) : ∃ x y r z, st = .int y :: .int x :: r ∧ f x y = some z ∧ q = (pc', al, .int z :: r, ah) := by
  unfold biI at h
  split at h
  · next y x r =>
    split at h
    · next z hz => exact ⟨x, y, r, z, rfl, hz, nx_inj h⟩
    · cases h
  · cases h
theorem biL_of {f : Int64 → Int64 → Option Int64} {pc' : Nat} (h : biL f al pc' st ah = some (.inl q)) : ∃ x y r z, st = .long y :: .long x :: r ∧ f x y = some z ∧ q = (pc', al, .long z :: r, ah) := by
  unfold biL at h
  split at h
  · next y x r =>
    split at h
    · next z hz => exact ⟨x, y, r, z, rfl, hz, nx_inj h⟩
    · cases h
  · cases h
theorem jok_of {off : Int} (h : jok pc off = true) : (pc : Int) + off = ((jmp pc off : Nat) : Int) := by
  have := of_decide_eq_true h
  unfold jmp
  omega
theorem br_of {b : Bool} {off : Int} {r : List Value} (h : br b al pc off r ah = some (.inl q)) : jok pc off = true ∧ ((b = true ∧ q = (jmp pc off, al, r, ah)) ∨ (b = false ∧ q = (pc + 3, al, r, ah))) := by
  unfold br at h
  split at h
  · next hj =>
    split at h
    · next hb => exact ⟨hj, Or.inl ⟨hb, nx_inj h⟩⟩
    · next hb => exact ⟨hj, Or.inr ⟨by simpa using hb, nx_inj h⟩⟩
  · cases h
variable (hC : Cx p R s m args meth c mi X sz ad zf D cA) (kk : Kk p l e R s m args below meth c mi sz ad zf D cA n0 z0 Q q)
theorem sd_iload_n {k : Fin 4} (hC : Cx p R s m args meth c mi X sz ad zf D cA) (kk : Kk p l e R s m args below meth c mi sz ad zf D cA n0 z0 Q q) (hdg : decode (mC mi) pc = .ok (.iload_n k, 1)) (h : ldV isI al k.val (pc + 1) st ah = some (.inl q)) : Kk p l e R s m args below meth c mi sz ad zf D cA n0 z0 Q (pc, al, st, ah) := by
  obtain ⟨v, hv, hc, rfl⟩ := ldV_of h
  obtain ⟨x, rfl⟩ := isI_of hc
  intro ls H locs hS
  exact lv_iload_n hC.1 hC.2.1 hdg rfl (hS.1.get hv) (kk ls H locs hS)
theorem sd_iload {k : Nat} (hC : Cx p R s m args meth c mi X sz ad zf D cA) (kk : Kk p l e R s m args below meth c mi sz ad zf D cA n0 z0 Q q) (hdg : decode (mC mi) pc = .ok (.iload k, 2)) (h : ldV isI al k (pc + 2) st ah = some (.inl q)) : Kk p l e R s m args below meth c mi sz ad zf D cA n0 z0 Q (pc, al, st, ah) := by
  obtain ⟨v, hv, hc, rfl⟩ := ldV_of h
  obtain ⟨x, rfl⟩ := isI_of hc
  intro ls H locs hS
  exact lv_iload hC.1 hC.2.1 hdg (hS.1.get hv) (kk ls H locs hS)
theorem sd_lload_n {k : Fin 4} (hC : Cx p R s m args meth c mi X sz ad zf D cA) (kk : Kk p l e R s m args below meth c mi sz ad zf D cA n0 z0 Q q) (hdg : decode (mC mi) pc = .ok (.lload_n k, 1)) (h : ldV isL al k.val (pc + 1) st ah = some (.inl q)) : Kk p l e R s m args below meth c mi sz ad zf D cA n0 z0 Q (pc, al, st, ah) := by
  obtain ⟨v, hv, hc, rfl⟩ := ldV_of h
  obtain ⟨x, rfl⟩ := isL_of hc
  intro ls H locs hS
  exact lv_lload_n hC.1 hC.2.1 hdg rfl (hS.1.get hv) (kk ls H locs hS)
theorem sd_lload {k : Nat} (hC : Cx p R s m args meth c mi X sz ad zf D cA) (kk : Kk p l e R s m args below meth c mi sz ad zf D cA n0 z0 Q q) (hdg : decode (mC mi) pc = .ok (.lload k, 2)) (h : ldV isL al k (pc + 2) st ah = some (.inl q)) : Kk p l e R s m args below meth c mi sz ad zf D cA n0 z0 Q (pc, al, st, ah) := by
  obtain ⟨v, hv, hc, rfl⟩ := ldV_of h
  obtain ⟨x, rfl⟩ := isL_of hc
  intro ls H locs hS
  exact lv_lload hC.1 hC.2.1 hdg (hS.1.get hv) (kk ls H locs hS)
theorem sd_aload_n {k : Fin 4} (hC : Cx p R s m args meth c mi X sz ad zf D cA) (kk : Kk p l e R s m args below meth c mi sz ad zf D cA n0 z0 Q q) (hdg : decode (mC mi) pc = .ok (.aload_n k, 1)) (h : ldV isA al k.val (pc + 1) st ah = some (.inl q)) : Kk p l e R s m args below meth c mi sz ad zf D cA n0 z0 Q (pc, al, st, ah) := by
  obtain ⟨v, hv, hc, rfl⟩ := ldV_of h
  intro ls H locs hS
  rcases isA_of hc with rfl | ⟨x, rfl⟩
  · exact lv_aload_nN hC.1 hC.2.1 hdg rfl (hS.1.get hv) (kk ls H locs hS)
  · exact lv_aload_n hC.1 hC.2.1 hdg rfl (hS.1.get hv) (kk ls H locs hS)
theorem sd_aload {k : Nat} (hC : Cx p R s m args meth c mi X sz ad zf D cA) (kk : Kk p l e R s m args below meth c mi sz ad zf D cA n0 z0 Q q) (hdg : decode (mC mi) pc = .ok (.aload k, 2)) (h : ldV isA al k (pc + 2) st ah = some (.inl q)) : Kk p l e R s m args below meth c mi sz ad zf D cA n0 z0 Q (pc, al, st, ah) := by
  obtain ⟨v, hv, hc, rfl⟩ := ldV_of h
  intro ls H locs hS
  rcases isA_of hc with rfl | ⟨x, rfl⟩
  · exact lv_aloadN hC.1 hC.2.1 hdg (hS.1.get hv) (kk ls H locs hS)
  · exact lv_aload hC.1 hC.2.1 hdg (hS.1.get hv) (kk ls H locs hS)
theorem hz_of (hC : Cx p R s m args meth c mi X sz ad zf D cA) : zf = .null ∨ ∃ a, zf = .ref a := hC.2.2.2.2.2.2.2.2.1.2.2.1.1
theorem sd_istore_n {k : Fin 4} (hC : Cx p R s m args meth c mi X sz ad zf D cA) (kk : Kk p l e R s m args below meth c mi sz ad zf D cA n0 z0 Q q) (hdg : decode (mC mi) pc = .ok (.istore_n k, 1)) (h : stV isI al k.val (pc + 1) st ah = some (.inl q)) : Kk p l e R s m args below meth c mi sz ad zf D cA n0 z0 Q (pc, al, st, ah) := by
  obtain ⟨v, r, rfl, hc, hl, hk, rfl⟩ := stV_of h
  obtain ⟨x, rfl⟩ := isI_of hc
  intro ls H locs hS
  exact lv_istore_n hC.1 hC.2.1 hdg rfl hS.1.2 (by rw [← hS.1.1]; exact hl) rfl (fun ls2 h2 => kk ls2 H locs ⟨lok.set1 (hz_of hC) hS.1 hk h2, hS.2⟩)
theorem sd_istore {k : Nat} (hC : Cx p R s m args meth c mi X sz ad zf D cA) (kk : Kk p l e R s m args below meth c mi sz ad zf D cA n0 z0 Q q) (hdg : decode (mC mi) pc = .ok (.istore k, 2)) (h : stV isI al k (pc + 2) st ah = some (.inl q)) : Kk p l e R s m args below meth c mi sz ad zf D cA n0 z0 Q (pc, al, st, ah) := by
  obtain ⟨v, r, rfl, hc, hl, hk, rfl⟩ := stV_of h
  obtain ⟨x, rfl⟩ := isI_of hc
  intro ls H locs hS
  exact lv_istore hC.1 hC.2.1 hdg hS.1.2 (by rw [← hS.1.1]; exact hl) rfl (fun ls2 h2 => kk ls2 H locs ⟨lok.set1 (hz_of hC) hS.1 hk h2, hS.2⟩)
theorem sd_astore_n {k : Fin 4} (hC : Cx p R s m args meth c mi X sz ad zf D cA) (kk : Kk p l e R s m args below meth c mi sz ad zf D cA n0 z0 Q q) (hdg : decode (mC mi) pc = .ok (.astore_n k, 1)) (h : stV isA al k.val (pc + 1) st ah = some (.inl q)) : Kk p l e R s m args below meth c mi sz ad zf D cA n0 z0 Q (pc, al, st, ah) := by
  obtain ⟨v, r, rfl, hc, hl, hk, rfl⟩ := stV_of h
  intro ls H locs hS
  rcases isA_of hc with rfl | ⟨x, rfl⟩
  · exact lv_astore_nN hC.1 hC.2.1 hdg rfl hS.1.2 (by rw [← hS.1.1]; exact hl) rfl (fun ls2 h2 => kk ls2 H locs ⟨lok.set1 (hz_of hC) hS.1 hk h2, hS.2⟩)
  · exact lv_astore_n hC.1 hC.2.1 hdg rfl hS.1.2 (by rw [← hS.1.1]; exact hl) rfl (fun ls2 h2 => kk ls2 H locs ⟨lok.set1 (hz_of hC) hS.1 hk h2, hS.2⟩)
theorem sd_astore {k : Nat} (hC : Cx p R s m args meth c mi X sz ad zf D cA) (kk : Kk p l e R s m args below meth c mi sz ad zf D cA n0 z0 Q q) (hdg : decode (mC mi) pc = .ok (.astore k, 2)) (h : stV isA al k (pc + 2) st ah = some (.inl q)) : Kk p l e R s m args below meth c mi sz ad zf D cA n0 z0 Q (pc, al, st, ah) := by
  obtain ⟨v, r, rfl, hc, hl, hk, rfl⟩ := stV_of h
  intro ls H locs hS
  rcases isA_of hc with rfl | ⟨x, rfl⟩
  · exact lv_astoreN hC.1 hC.2.1 hdg hS.1.2 (by rw [← hS.1.1]; exact hl) rfl (fun ls2 h2 => kk ls2 H locs ⟨lok.set1 (hz_of hC) hS.1 hk h2, hS.2⟩)
  · exact lv_astore hC.1 hC.2.1 hdg hS.1.2 (by rw [← hS.1.1]; exact hl) rfl (fun ls2 h2 => kk ls2 H locs ⟨lok.set1 (hz_of hC) hS.1 hk h2, hS.2⟩)
theorem sd_lstore_n {k : Fin 4} (hC : Cx p R s m args meth c mi X sz ad zf D cA) (kk : Kk p l e R s m args below meth c mi sz ad zf D cA n0 z0 Q q) (hdg : decode (mC mi) pc = .ok (.lstore_n k, 1)) (h : stL al k.val (pc + 1) st ah = some (.inl q)) : Kk p l e R s m args below meth c mi sz ad zf D cA n0 z0 Q (pc, al, st, ah) := by
  obtain ⟨v, r, rfl, hl, hk, rfl⟩ := stL_of h
  intro ls H locs hS
  exact lv_lstore_n hC.1 hC.2.1 hdg rfl hS.1.2 (by rw [← hS.1.1]; exact hl) rfl (fun ls2 h2 => kk ls2 H locs ⟨lok.set2 (hz_of hC) hS.1 hk h2, hS.2⟩)
theorem sd_lstore {k : Nat} (hC : Cx p R s m args meth c mi X sz ad zf D cA) (kk : Kk p l e R s m args below meth c mi sz ad zf D cA n0 z0 Q q) (hdg : decode (mC mi) pc = .ok (.lstore k, 2)) (h : stL al k (pc + 2) st ah = some (.inl q)) : Kk p l e R s m args below meth c mi sz ad zf D cA n0 z0 Q (pc, al, st, ah) := by
  obtain ⟨v, r, rfl, hl, hk, rfl⟩ := stL_of h
  intro ls H locs hS
  exact lv_lstore hC.1 hC.2.1 hdg hS.1.2 (by rw [← hS.1.1]; exact hl) rfl (fun ls2 h2 => kk ls2 H locs ⟨lok.set2 (hz_of hC) hS.1 hk h2, hS.2⟩)
theorem sd_iinc {k : Nat} {n : Int} {x : Int32} (hC : Cx p R s m args meth c mi X sz ad zf D cA) (hdg : decode (mC mi) pc = .ok (.iinc k n, 3)) (hx : al[k]? = some (some (.int x))) (hk : nkk al k = true) (kk : Kk p l e R s m args below meth c mi sz ad zf D cA n0 z0 Q (pc + 3, al.set k (some (.int (x + Int32.ofInt n))), st, ah)) : Kk p l e R s m args below meth c mi sz ad zf D cA n0 z0 Q (pc, al, st, ah) := by
  intro ls H locs hS
  obtain ⟨j, hj⟩ := List.getElem?_of_mem (asl_mem (ad := ad) (zf := zf).mpr ⟨_, hx, rfl⟩)
  exact lv_iinc (k := j) hC.1 hC.2.1 hdg hS.1.2 hj rfl (by rw [← hS.1.1]; exact (List.getElem?_eq_some_iff.mp hx).1) rfl (fun ls2 h2 => kk ls2 H locs ⟨lok.set1 (v := .int (x + Int32.ofInt n)) (hz_of hC) hS.1 hk h2, hS.2⟩)
end SD
