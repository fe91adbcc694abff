/-! a step of the pure machine is one of the machine: constants, arithmetic, jumps, the stack -/
section SE
variable {p : Program} {l : Launch} {e : Env} {R : Room} {s : State} {m : MethodId} {args : Array Value} {below : List Frame} {meth : Method} {c : Code} {Q : State → Prop}
variable {mi : Nat} {X : XS} {sz : Nat} {ad : Nat → Nat} {zf : Value} {D : va_G} {cA : Nat → ClassId} {n0 z0 : Nat} {pc : Nat} {al : LV} {st : List Value} {ah : AH} {q : Nat × LV × List Value × AH}

theorem sd_iadd  (hC : Cx p R s m args meth c mi X sz ad zf D cA) (kk : Kk p l e R s m args below meth c mi sz ad zf D cA n0 z0 Q q) (hdg : decode (mC mi) pc = .ok (.iadd, 1)) (h : biI (fun x y => some (x + y)) al (pc + 1) st ah = some (.inl q)) : Kk p l e R s m args below meth c mi sz ad zf D cA n0 z0 Q (pc, al, st, ah) := by
  obtain ⟨x, y, r, z, rfl, hf, rfl⟩ := biI_of h
  cases hf
  intro ls H locs hS
  exact lv_iadd hC.1 hC.2.1 hdg (kk ls H locs hS)
theorem sd_isub  (hC : Cx p R s m args meth c mi X sz ad zf D cA) (kk : Kk p l e R s m args below meth c mi sz ad zf D cA n0 z0 Q q) (hdg : decode (mC mi) pc = .ok (.isub, 1)) (h : biI (fun x y => some (x - y)) al (pc + 1) st ah = some (.inl q)) : Kk p l e R s m args below meth c mi sz ad zf D cA n0 z0 Q (pc, al, st, ah) := by
  obtain ⟨x, y, r, z, rfl, hf, rfl⟩ := biI_of h
  cases hf
  intro ls H locs hS
  exact lv_isub hC.1 hC.2.1 hdg (kk ls H locs hS)
theorem sd_imul  (hC : Cx p R s m args meth c mi X sz ad zf D cA) (kk : Kk p l e R s m args below meth c mi sz ad zf D cA n0 z0 Q q) (hdg : decode (mC mi) pc = .ok (.imul, 1)) (h : biI (fun x y => some (x * y)) al (pc + 1) st ah = some (.inl q)) : Kk p l e R s m args below meth c mi sz ad zf D cA n0 z0 Q (pc, al, st, ah) := by
  obtain ⟨x, y, r, z, rfl, hf, rfl⟩ := biI_of h
  cases hf
  intro ls H locs hS
  exact lv_imul hC.1 hC.2.1 hdg (kk ls H locs hS)
theorem sd_iand  (hC : Cx p R s m args meth c mi X sz ad zf D cA) (kk : Kk p l e R s m args below meth c mi sz ad zf D cA n0 z0 Q q) (hdg : decode (mC mi) pc = .ok (.iand, 1)) (h : biI (fun x y => some (x &&& y)) al (pc + 1) st ah = some (.inl q)) : Kk p l e R s m args below meth c mi sz ad zf D cA n0 z0 Q (pc, al, st, ah) := by
  obtain ⟨x, y, r, z, rfl, hf, rfl⟩ := biI_of h
  cases hf
  intro ls H locs hS
  exact lv_iand hC.1 hC.2.1 hdg (kk ls H locs hS)
theorem sd_ior  (hC : Cx p R s m args meth c mi X sz ad zf D cA) (kk : Kk p l e R s m args below meth c mi sz ad zf D cA n0 z0 Q q) (hdg : decode (mC mi) pc = .ok (.ior, 1)) (h : biI (fun x y => some (x ||| y)) al (pc + 1) st ah = some (.inl q)) : Kk p l e R s m args below meth c mi sz ad zf D cA n0 z0 Q (pc, al, st, ah) := by
  obtain ⟨x, y, r, z, rfl, hf, rfl⟩ := biI_of h
  cases hf
  intro ls H locs hS
  exact lv_ior hC.1 hC.2.1 hdg (kk ls H locs hS)
theorem sd_ixor  (hC : Cx p R s m args meth c mi X sz ad zf D cA) (kk : Kk p l e R s m args below meth c mi sz ad zf D cA n0 z0 Q q) (hdg : decode (mC mi) pc = .ok (.ixor, 1)) (h : biI (fun x y => some (x ^^^ y)) al (pc + 1) st ah = some (.inl q)) : Kk p l e R s m args below meth c mi sz ad zf D cA n0 z0 Q (pc, al, st, ah) := by
  obtain ⟨x, y, r, z, rfl, hf, rfl⟩ := biI_of h
  cases hf
  intro ls H locs hS
  exact lv_ixor hC.1 hC.2.1 hdg (kk ls H locs hS)
theorem sd_ishl  (hC : Cx p R s m args meth c mi X sz ad zf D cA) (kk : Kk p l e R s m args below meth c mi sz ad zf D cA n0 z0 Q q) (hdg : decode (mC mi) pc = .ok (.ishl, 1)) (h : biI (fun x y => some (x <<< (y &&& 31))) al (pc + 1) st ah = some (.inl q)) : Kk p l e R s m args below meth c mi sz ad zf D cA n0 z0 Q (pc, al, st, ah) := by
  obtain ⟨x, y, r, z, rfl, hf, rfl⟩ := biI_of h
  cases hf
  intro ls H locs hS
  exact lv_ishl hC.1 hC.2.1 hdg (kk ls H locs hS)
theorem sd_ishr  (hC : Cx p R s m args meth c mi X sz ad zf D cA) (kk : Kk p l e R s m args below meth c mi sz ad zf D cA n0 z0 Q q) (hdg : decode (mC mi) pc = .ok (.ishr, 1)) (h : biI (fun x y => some (x >>> (y &&& 31))) al (pc + 1) st ah = some (.inl q)) : Kk p l e R s m args below meth c mi sz ad zf D cA n0 z0 Q (pc, al, st, ah) := by
  obtain ⟨x, y, r, z, rfl, hf, rfl⟩ := biI_of h
  cases hf
  intro ls H locs hS
  exact lv_ishr hC.1 hC.2.1 hdg (kk ls H locs hS)
theorem sd_iushr  (hC : Cx p R s m args meth c mi X sz ad zf D cA) (kk : Kk p l e R s m args below meth c mi sz ad zf D cA n0 z0 Q q) (hdg : decode (mC mi) pc = .ok (.iushr, 1)) (h : biI (fun x y => some ((x.toUInt32 >>> (y.toUInt32 &&& Int32.toUInt32 31)).toInt32)) al (pc + 1) st ah = some (.inl q)) : Kk p l e R s m args below meth c mi sz ad zf D cA n0 z0 Q (pc, al, st, ah) := by
  obtain ⟨x, y, r, z, rfl, hf, rfl⟩ := biI_of h
  cases hf
  intro ls H locs hS
  exact lv_iushr hC.1 hC.2.1 hdg rfl (kk ls H locs hS)
theorem sd_idiv  (hC : Cx p R s m args meth c mi X sz ad zf D cA) (kk : Kk p l e R s m args below meth c mi sz ad zf D cA n0 z0 Q q) (hdg : decode (mC mi) pc = .ok (.idiv, 1)) (h : biI (fun x y => if y = 0 then none else some (x / y)) al (pc + 1) st ah = some (.inl q)) : Kk p l e R s m args below meth c mi sz ad zf D cA n0 z0 Q (pc, al, st, ah) := by
  obtain ⟨x, y, r, z, rfl, hf, rfl⟩ := biI_of h
  by_cases hy : y = 0
  · rw [if_pos hy] at hf; cases hf
  rw [if_neg hy] at hf
  cases hf
  intro ls H locs hS
  exact lv_idiv hC.1 hC.2.1 hdg hy (kk ls H locs hS)
theorem sd_irem  (hC : Cx p R s m args meth c mi X sz ad zf D cA) (kk : Kk p l e R s m args below meth c mi sz ad zf D cA n0 z0 Q q) (hdg : decode (mC mi) pc = .ok (.irem, 1)) (h : biI (fun x y => if y = 0 then none else some (x - x / y * y)) al (pc + 1) st ah = some (.inl q)) : Kk p l e R s m args below meth c mi sz ad zf D cA n0 z0 Q (pc, al, st, ah) := by
  obtain ⟨x, y, r, z, rfl, hf, rfl⟩ := biI_of h
  by_cases hy : y = 0
  · rw [if_pos hy] at hf; cases hf
  rw [if_neg hy] at hf
  cases hf
  intro ls H locs hS
  exact lv_irem hC.1 hC.2.1 hdg hy (kk ls H locs hS)
theorem sd_ladd  (hC : Cx p R s m args meth c mi X sz ad zf D cA) (kk : Kk p l e R s m args below meth c mi sz ad zf D cA n0 z0 Q q) (hdg : decode (mC mi) pc = .ok (.ladd, 1)) (h : biL (fun x y => some (x + y)) al (pc + 1) st ah = some (.inl q)) : Kk p l e R s m args below meth c mi sz ad zf D cA n0 z0 Q (pc, al, st, ah) := by
  obtain ⟨x, y, r, z, rfl, hf, rfl⟩ := biL_of h
  cases hf
  intro ls H locs hS
  exact lv_ladd hC.1 hC.2.1 hdg (kk ls H locs hS)
theorem sd_lmul  (hC : Cx p R s m args meth c mi X sz ad zf D cA) (kk : Kk p l e R s m args below meth c mi sz ad zf D cA n0 z0 Q q) (hdg : decode (mC mi) pc = .ok (.lmul, 1)) (h : biL (fun x y => some (x * y)) al (pc + 1) st ah = some (.inl q)) : Kk p l e R s m args below meth c mi sz ad zf D cA n0 z0 Q (pc, al, st, ah) := by
  obtain ⟨x, y, r, z, rfl, hf, rfl⟩ := biL_of h
  cases hf
  intro ls H locs hS
  exact lv_lmul hC.1 hC.2.1 hdg (kk ls H locs hS)
theorem sd_land  (hC : Cx p R s m args meth c mi X sz ad zf D cA) (kk : Kk p l e R s m args below meth c mi sz ad zf D cA n0 z0 Q q) (hdg : decode (mC mi) pc = .ok (.land, 1)) (h : biL (fun x y => some (x &&& y)) al (pc + 1) st ah = some (.inl q)) : Kk p l e R s m args below meth c mi sz ad zf D cA n0 z0 Q (pc, al, st, ah) := by
  obtain ⟨x, y, r, z, rfl, hf, rfl⟩ := biL_of h
  cases hf
  intro ls H locs hS
  exact lv_land hC.1 hC.2.1 hdg (kk ls H locs hS)
theorem sd_lor  (hC : Cx p R s m args meth c mi X sz ad zf D cA) (kk : Kk p l e R s m args below meth c mi sz ad zf D cA n0 z0 Q q) (hdg : decode (mC mi) pc = .ok (.lor, 1)) (h : biL (fun x y => some (x ||| y)) al (pc + 1) st ah = some (.inl q)) : Kk p l e R s m args below meth c mi sz ad zf D cA n0 z0 Q (pc, al, st, ah) := by
  obtain ⟨x, y, r, z, rfl, hf, rfl⟩ := biL_of h
  cases hf
  intro ls H locs hS
  exact lv_lor hC.1 hC.2.1 hdg (kk ls H locs hS)
theorem sd_ldiv  (hC : Cx p R s m args meth c mi X sz ad zf D cA) (kk : Kk p l e R s m args below meth c mi sz ad zf D cA n0 z0 Q q) (hdg : decode (mC mi) pc = .ok (.ldiv, 1)) (h : biL (fun x y => if y = 0 then none else some (x / y)) al (pc + 1) st ah = some (.inl q)) : Kk p l e R s m args below meth c mi sz ad zf D cA n0 z0 Q (pc, al, st, ah) := by
  obtain ⟨x, y, r, z, rfl, hf, rfl⟩ := biL_of h
  by_cases hy : y = 0
  · rw [if_pos hy] at hf; cases hf
  rw [if_neg hy] at hf
  cases hf
  intro ls H locs hS
  exact lv_ldiv hC.1 hC.2.1 hdg hy (kk ls H locs hS)
theorem sd_lrem  (hC : Cx p R s m args meth c mi X sz ad zf D cA) (kk : Kk p l e R s m args below meth c mi sz ad zf D cA n0 z0 Q q) (hdg : decode (mC mi) pc = .ok (.lrem, 1)) (h : biL (fun x y => if y = 0 then none else some (x - x / y * y)) al (pc + 1) st ah = some (.inl q)) : Kk p l e R s m args below meth c mi sz ad zf D cA n0 z0 Q (pc, al, st, ah) := by
  obtain ⟨x, y, r, z, rfl, hf, rfl⟩ := biL_of h
  by_cases hy : y = 0
  · rw [if_pos hy] at hf; cases hf
  rw [if_neg hy] at hf
  cases hf
  intro ls H locs hS
  exact lv_lrem hC.1 hC.2.1 hdg hy (kk ls H locs hS)
theorem sd_iconst {n : Int} (hC : Cx p R s m args meth c mi X sz ad zf D cA) (kk : Kk p l e R s m args below meth c mi sz ad zf D cA n0 z0 Q q) (hdg : decode (mC mi) pc = .ok (.iconst n, 1)) (h : nx (pc + 1) al (.int (Int32.ofInt n) :: st) ah = some (.inl q)) : Kk p l e R s m args below meth c mi sz ad zf D cA n0 z0 Q (pc, al, st, ah) := by
  cases nx_inj h
  intro ls H locs hS
  exact lv_iconst hC.1 hC.2.1 hdg rfl (kk ls H locs hS)
theorem sd_bipush {n : Int} (hC : Cx p R s m args meth c mi X sz ad zf D cA) (kk : Kk p l e R s m args below meth c mi sz ad zf D cA n0 z0 Q q) (hdg : decode (mC mi) pc = .ok (.bipush n, 2)) (h : nx (pc + 2) al (.int (Int8.ofInt n).toInt32 :: st) ah = some (.inl q)) : Kk p l e R s m args below meth c mi sz ad zf D cA n0 z0 Q (pc, al, st, ah) := by
  cases nx_inj h
  intro ls H locs hS
  exact lv_bipush hC.1 hC.2.1 hdg rfl (kk ls H locs hS)
theorem sd_sipush {n : Int} (hC : Cx p R s m args meth c mi X sz ad zf D cA) (kk : Kk p l e R s m args below meth c mi sz ad zf D cA n0 z0 Q q) (hdg : decode (mC mi) pc = .ok (.sipush n, 3)) (h : nx (pc + 3) al (.int (Int16.ofInt n).toInt32 :: st) ah = some (.inl q)) : Kk p l e R s m args below meth c mi sz ad zf D cA n0 z0 Q (pc, al, st, ah) := by
  cases nx_inj h
  intro ls H locs hS
  exact lv_sipush hC.1 hC.2.1 hdg rfl (kk ls H locs hS)
theorem sd_lconst {n : Fin 2} (hC : Cx p R s m args meth c mi X sz ad zf D cA) (kk : Kk p l e R s m args below meth c mi sz ad zf D cA n0 z0 Q q) (hdg : decode (mC mi) pc = .ok (.lconst n, 1)) (h : nx (pc + 1) al (.long (Int64.ofNat n.val) :: st) ah = some (.inl q)) : Kk p l e R s m args below meth c mi sz ad zf D cA n0 z0 Q (pc, al, st, ah) := by
  cases nx_inj h
  intro ls H locs hS
  exact lv_lconst hC.1 hC.2.1 hdg rfl (kk ls H locs hS)
theorem sd_aconst_null  (hC : Cx p R s m args meth c mi X sz ad zf D cA) (kk : Kk p l e R s m args below meth c mi sz ad zf D cA n0 z0 Q q) (hdg : decode (mC mi) pc = .ok (.aconst_null, 1)) (h : nx (pc + 1) al (.null :: st) ah = some (.inl q)) : Kk p l e R s m args below meth c mi sz ad zf D cA n0 z0 Q (pc, al, st, ah) := by
  cases nx_inj h
  intro ls H locs hS
  exact lv_null hC.1 hC.2.1 hdg (kk ls H locs hS)
theorem sd_lshl {x : Int64} {y : Int32} (hC : Cx p R s m args meth c mi X sz ad zf D cA) (hdg : decode (mC mi) pc = .ok (.lshl, 1))  (kk : Kk p l e R s m args below meth c mi sz ad zf D cA n0 z0 Q (pc + 1, al, .long (x <<< (y.toInt64 &&& 63)) :: st, ah)) : Kk p l e R s m args below meth c mi sz ad zf D cA n0 z0 Q (pc, al, .int y :: .long x :: st, ah) := by
  intro ls H locs hS
  exact lv_lshl hC.1 hC.2.1 hdg rfl (kk ls H locs hS)
theorem sd_lshr {x : Int64} {y : Int32} (hC : Cx p R s m args meth c mi X sz ad zf D cA) (hdg : decode (mC mi) pc = .ok (.lshr, 1))  (kk : Kk p l e R s m args below meth c mi sz ad zf D cA n0 z0 Q (pc + 1, al, .long (x >>> (y.toInt64 &&& 63)) :: st, ah)) : Kk p l e R s m args below meth c mi sz ad zf D cA n0 z0 Q (pc, al, .int y :: .long x :: st, ah) := by
  intro ls H locs hS
  exact lv_lshr hC.1 hC.2.1 hdg rfl (kk ls H locs hS)
theorem sd_lcmp {x y : Int64} (hC : Cx p R s m args meth c mi X sz ad zf D cA) (hdg : decode (mC mi) pc = .ok (.lcmp, 1))  (kk : Kk p l e R s m args below meth c mi sz ad zf D cA n0 z0 Q (pc + 1, al, .int (lg_cmp x y) :: st, ah)) : Kk p l e R s m args below meth c mi sz ad zf D cA n0 z0 Q (pc, al, .long y :: .long x :: st, ah) := by
  intro ls H locs hS
  exact W.lcmp hC.1 hC.2.1 hdg (kk ls H locs hS)
theorem sd_i2l {x : Int32} (hC : Cx p R s m args meth c mi X sz ad zf D cA) (hdg : decode (mC mi) pc = .ok (.i2l, 1))  (kk : Kk p l e R s m args below meth c mi sz ad zf D cA n0 z0 Q (pc + 1, al, .long x.toInt64 :: st, ah)) : Kk p l e R s m args below meth c mi sz ad zf D cA n0 z0 Q (pc, al, .int x :: st, ah) := by
  intro ls H locs hS
  exact lv_i2l hC.1 hC.2.1 hdg rfl (kk ls H locs hS)
theorem sd_l2i {x : Int64} (hC : Cx p R s m args meth c mi X sz ad zf D cA) (hdg : decode (mC mi) pc = .ok (.l2i, 1))  (kk : Kk p l e R s m args below meth c mi sz ad zf D cA n0 z0 Q (pc + 1, al, .int x.toInt32 :: st, ah)) : Kk p l e R s m args below meth c mi sz ad zf D cA n0 z0 Q (pc, al, .long x :: st, ah) := by
  intro ls H locs hS
  exact lv_l2i hC.1 hC.2.1 hdg rfl (kk ls H locs hS)
theorem sd_i2c {x : Int32} (hC : Cx p R s m args meth c mi X sz ad zf D cA) (hdg : decode (mC mi) pc = .ok (.i2c, 1))  (kk : Kk p l e R s m args below meth c mi sz ad zf D cA n0 z0 Q (pc + 1, al, .int (x.toUInt32 % 65536).toInt32 :: st, ah)) : Kk p l e R s m args below meth c mi sz ad zf D cA n0 z0 Q (pc, al, .int x :: st, ah) := by
  intro ls H locs hS
  exact lv_i2c hC.1 hC.2.1 hdg rfl (kk ls H locs hS)
theorem sd_dup {v : Value} (hC : Cx p R s m args meth c mi X sz ad zf D cA) (hdg : decode (mC mi) pc = .ok (.dup, 1)) (hv : v.category = 1) (kk : Kk p l e R s m args below meth c mi sz ad zf D cA n0 z0 Q (pc + 1, al, v :: v :: st, ah)) : Kk p l e R s m args below meth c mi sz ad zf D cA n0 z0 Q (pc, al, v :: st, ah) := by
  intro ls H locs hS
  exact lv_dup hC.1 hC.2.1 hdg (by rw [cv_cat (hz_of hC)]; exact hv) (kk ls H locs hS)
theorem sd_pop {v : Value} (hC : Cx p R s m args meth c mi X sz ad zf D cA) (hdg : decode (mC mi) pc = .ok (.pop, 1)) (hv : v.category = 1) (kk : Kk p l e R s m args below meth c mi sz ad zf D cA n0 z0 Q (pc + 1, al, st, ah)) : Kk p l e R s m args below meth c mi sz ad zf D cA n0 z0 Q (pc, al, v :: st, ah) := by
  intro ls H locs hS
  exact lv_pop hC.1 hC.2.1 hdg (by rw [cv_cat (hz_of hC)]; exact hv) (kk ls H locs hS)
theorem sd_dup2 {v w : Value} (hC : Cx p R s m args meth c mi X sz ad zf D cA) (hdg : decode (mC mi) pc = .ok (.dup2, 1)) (hv : v.category = 1) (hw : w.category = 1) (kk : Kk p l e R s m args below meth c mi sz ad zf D cA n0 z0 Q (pc + 1, al, v :: w :: v :: w :: st, ah)) : Kk p l e R s m args below meth c mi sz ad zf D cA n0 z0 Q (pc, al, v :: w :: st, ah) := by
  intro ls H locs hS
  exact lv_dup2_11 hC.1 hC.2.1 hdg (by rw [cv_cat (hz_of hC)]; exact hv) (by rw [cv_cat (hz_of hC)]; exact hw) (kk ls H locs hS)
theorem sd_goto {off : Int} (hC : Cx p R s m args meth c mi X sz ad zf D cA) (hdg : decode (mC mi) pc = .ok (.goto off, 3)) (hj : jok pc off = true) (kk : Kk p l e R s m args below meth c mi sz ad zf D cA n0 z0 Q (jmp pc off, al, st, ah)) : Kk p l e R s m args below meth c mi sz ad zf D cA n0 z0 Q (pc, al, st, ah) := by
  intro ls H locs hS
  exact lv_goto hC.1 hC.2.1 hdg (jok_of hj) (kk ls H locs hS)
theorem sd_if_eq {x : Int32} {off : Int} (hC : Cx p R s m args meth c mi X sz ad zf D cA) (kk : Kk p l e R s m args below meth c mi sz ad zf D cA n0 z0 Q q) (hdg : decode (mC mi) pc = .ok (.ifCond .eq off, 3)) (h : br (cdI .eq x 0) al pc off st ah = some (.inl q)) : Kk p l e R s m args below meth c mi sz ad zf D cA n0 z0 Q (pc, al, .int x :: st, ah) := by
  obtain ⟨hj, hq⟩ := br_of h
  intro ls H locs hS
  rcases hq with ⟨hb, rfl⟩ | ⟨hb, rfl⟩
  · exact lv_if_eq hC.1 hC.2.1 hdg (jok_of hj) (fun _ => kk ls H locs hS) (fun hn => absurd (of_decide_eq_true hb) hn)
  · exact lv_if_eq hC.1 hC.2.1 hdg (jok_of hj) (fun hy => absurd hy (of_decide_eq_false hb)) (fun _ => kk ls H locs hS)
theorem sd_if_ne {x : Int32} {off : Int} (hC : Cx p R s m args meth c mi X sz ad zf D cA) (kk : Kk p l e R s m args below meth c mi sz ad zf D cA n0 z0 Q q) (hdg : decode (mC mi) pc = .ok (.ifCond .ne off, 3)) (h : br (cdI .ne x 0) al pc off st ah = some (.inl q)) : Kk p l e R s m args below meth c mi sz ad zf D cA n0 z0 Q (pc, al, .int x :: st, ah) := by
  obtain ⟨hj, hq⟩ := br_of h
  intro ls H locs hS
  rcases hq with ⟨hb, rfl⟩ | ⟨hb, rfl⟩
  · exact lv_if_ne hC.1 hC.2.1 hdg (jok_of hj) (fun _ => kk ls H locs hS) (fun hn => absurd hn (of_decide_eq_true hb))
  · exact lv_if_ne hC.1 hC.2.1 hdg (jok_of hj) (fun hy => absurd hy (of_decide_eq_false hb)) (fun _ => kk ls H locs hS)
theorem sd_if_lt {x : Int32} {off : Int} (hC : Cx p R s m args meth c mi X sz ad zf D cA) (kk : Kk p l e R s m args below meth c mi sz ad zf D cA n0 z0 Q q) (hdg : decode (mC mi) pc = .ok (.ifCond .lt off, 3)) (h : br (cdI .lt x 0) al pc off st ah = some (.inl q)) : Kk p l e R s m args below meth c mi sz ad zf D cA n0 z0 Q (pc, al, .int x :: st, ah) := by
  obtain ⟨hj, hq⟩ := br_of h
  intro ls H locs hS
  rcases hq with ⟨hb, rfl⟩ | ⟨hb, rfl⟩
  · exact lv_if_lt hC.1 hC.2.1 hdg (jok_of hj) (fun _ => kk ls H locs hS) (fun hn => absurd (of_decide_eq_true hb) hn)
  · exact lv_if_lt hC.1 hC.2.1 hdg (jok_of hj) (fun hy => absurd hy (of_decide_eq_false hb)) (fun _ => kk ls H locs hS)
theorem sd_if_ge {x : Int32} {off : Int} (hC : Cx p R s m args meth c mi X sz ad zf D cA) (kk : Kk p l e R s m args below meth c mi sz ad zf D cA n0 z0 Q q) (hdg : decode (mC mi) pc = .ok (.ifCond .ge off, 3)) (h : br (cdI .ge x 0) al pc off st ah = some (.inl q)) : Kk p l e R s m args below meth c mi sz ad zf D cA n0 z0 Q (pc, al, .int x :: st, ah) := by
  obtain ⟨hj, hq⟩ := br_of h
  intro ls H locs hS
  rcases hq with ⟨hb, rfl⟩ | ⟨hb, rfl⟩
  · exact lv_if_ge hC.1 hC.2.1 hdg (jok_of hj) (fun _ => kk ls H locs hS) (fun hn => absurd (of_decide_eq_true hb) hn)
  · exact lv_if_ge hC.1 hC.2.1 hdg (jok_of hj) (fun hy => absurd hy (of_decide_eq_false hb)) (fun _ => kk ls H locs hS)
theorem sd_if_gt {x : Int32} {off : Int} (hC : Cx p R s m args meth c mi X sz ad zf D cA) (kk : Kk p l e R s m args below meth c mi sz ad zf D cA n0 z0 Q q) (hdg : decode (mC mi) pc = .ok (.ifCond .gt off, 3)) (h : br (cdI .gt x 0) al pc off st ah = some (.inl q)) : Kk p l e R s m args below meth c mi sz ad zf D cA n0 z0 Q (pc, al, .int x :: st, ah) := by
  obtain ⟨hj, hq⟩ := br_of h
  intro ls H locs hS
  rcases hq with ⟨hb, rfl⟩ | ⟨hb, rfl⟩
  · exact lv_if_gt hC.1 hC.2.1 hdg (jok_of hj) (fun _ => kk ls H locs hS) (fun hn => absurd (of_decide_eq_true hb) hn)
  · exact lv_if_gt hC.1 hC.2.1 hdg (jok_of hj) (fun hy => absurd hy (of_decide_eq_false hb)) (fun _ => kk ls H locs hS)
theorem sd_if_le {x : Int32} {off : Int} (hC : Cx p R s m args meth c mi X sz ad zf D cA) (kk : Kk p l e R s m args below meth c mi sz ad zf D cA n0 z0 Q q) (hdg : decode (mC mi) pc = .ok (.ifCond .le off, 3)) (h : br (cdI .le x 0) al pc off st ah = some (.inl q)) : Kk p l e R s m args below meth c mi sz ad zf D cA n0 z0 Q (pc, al, .int x :: st, ah) := by
  obtain ⟨hj, hq⟩ := br_of h
  intro ls H locs hS
  rcases hq with ⟨hb, rfl⟩ | ⟨hb, rfl⟩
  · exact lv_if_le hC.1 hC.2.1 hdg (jok_of hj) (fun _ => kk ls H locs hS) (fun hn => absurd (of_decide_eq_true hb) hn)
  · exact lv_if_le hC.1 hC.2.1 hdg (jok_of hj) (fun hy => absurd hy (of_decide_eq_false hb)) (fun _ => kk ls H locs hS)
theorem sd_icmp_eq {x y : Int32} {off : Int} (hC : Cx p R s m args meth c mi X sz ad zf D cA) (kk : Kk p l e R s m args below meth c mi sz ad zf D cA n0 z0 Q q) (hdg : decode (mC mi) pc = .ok (.if_icmp .eq off, 3)) (h : br (cdI .eq x y) al pc off st ah = some (.inl q)) : Kk p l e R s m args below meth c mi sz ad zf D cA n0 z0 Q (pc, al, .int y :: .int x :: st, ah) := by
  obtain ⟨hj, hq⟩ := br_of h
  intro ls H locs hS
  rcases hq with ⟨hb, rfl⟩ | ⟨hb, rfl⟩
  · exact lv_icmp_eq hC.1 hC.2.1 hdg (jok_of hj) (fun _ => kk ls H locs hS) (fun hn => absurd (of_decide_eq_true hb) hn)
  · exact lv_icmp_eq hC.1 hC.2.1 hdg (jok_of hj) (fun hy => absurd hy (of_decide_eq_false hb)) (fun _ => kk ls H locs hS)
theorem sd_icmp_ne {x y : Int32} {off : Int} (hC : Cx p R s m args meth c mi X sz ad zf D cA) (kk : Kk p l e R s m args below meth c mi sz ad zf D cA n0 z0 Q q) (hdg : decode (mC mi) pc = .ok (.if_icmp .ne off, 3)) (h : br (cdI .ne x y) al pc off st ah = some (.inl q)) : Kk p l e R s m args below meth c mi sz ad zf D cA n0 z0 Q (pc, al, .int y :: .int x :: st, ah) := by
  obtain ⟨hj, hq⟩ := br_of h
  intro ls H locs hS
  rcases hq with ⟨hb, rfl⟩ | ⟨hb, rfl⟩
  · exact lv_icmp_ne hC.1 hC.2.1 hdg (jok_of hj) (fun _ => kk ls H locs hS) (fun hn => absurd hn (of_decide_eq_true hb))
  · exact lv_icmp_ne hC.1 hC.2.1 hdg (jok_of hj) (fun hy => absurd hy (of_decide_eq_false hb)) (fun _ => kk ls H locs hS)
theorem sd_icmp_lt {x y : Int32} {off : Int} (hC : Cx p R s m args meth c mi X sz ad zf D cA) (kk : Kk p l e R s m args below meth c mi sz ad zf D cA n0 z0 Q q) (hdg : decode (mC mi) pc = .ok (.if_icmp .lt off, 3)) (h : br (cdI .lt x y) al pc off st ah = some (.inl q)) : Kk p l e R s m args below meth c mi sz ad zf D cA n0 z0 Q (pc, al, .int y :: .int x :: st, ah) := by
  obtain ⟨hj, hq⟩ := br_of h
  intro ls H locs hS
  rcases hq with ⟨hb, rfl⟩ | ⟨hb, rfl⟩
  · exact lv_icmp_lt hC.1 hC.2.1 hdg (jok_of hj) (fun _ => kk ls H locs hS) (fun hn => absurd (of_decide_eq_true hb) hn)
  · exact lv_icmp_lt hC.1 hC.2.1 hdg (jok_of hj) (fun hy => absurd hy (of_decide_eq_false hb)) (fun _ => kk ls H locs hS)
theorem sd_icmp_ge {x y : Int32} {off : Int} (hC : Cx p R s m args meth c mi X sz ad zf D cA) (kk : Kk p l e R s m args below meth c mi sz ad zf D cA n0 z0 Q q) (hdg : decode (mC mi) pc = .ok (.if_icmp .ge off, 3)) (h : br (cdI .ge x y) al pc off st ah = some (.inl q)) : Kk p l e R s m args below meth c mi sz ad zf D cA n0 z0 Q (pc, al, .int y :: .int x :: st, ah) := by
  obtain ⟨hj, hq⟩ := br_of h
  intro ls H locs hS
  rcases hq with ⟨hb, rfl⟩ | ⟨hb, rfl⟩
  · exact lv_icmp_ge hC.1 hC.2.1 hdg (jok_of hj) (fun _ => kk ls H locs hS) (fun hn => absurd (of_decide_eq_true hb) hn)
  · exact lv_icmp_ge hC.1 hC.2.1 hdg (jok_of hj) (fun hy => absurd hy (of_decide_eq_false hb)) (fun _ => kk ls H locs hS)
theorem sd_icmp_gt {x y : Int32} {off : Int} (hC : Cx p R s m args meth c mi X sz ad zf D cA) (kk : Kk p l e R s m args below meth c mi sz ad zf D cA n0 z0 Q q) (hdg : decode (mC mi) pc = .ok (.if_icmp .gt off, 3)) (h : br (cdI .gt x y) al pc off st ah = some (.inl q)) : Kk p l e R s m args below meth c mi sz ad zf D cA n0 z0 Q (pc, al, .int y :: .int x :: st, ah) := by
  obtain ⟨hj, hq⟩ := br_of h
  intro ls H locs hS
  rcases hq with ⟨hb, rfl⟩ | ⟨hb, rfl⟩
  · exact lv_icmp_gt hC.1 hC.2.1 hdg (jok_of hj) (fun _ => kk ls H locs hS) (fun hn => absurd (of_decide_eq_true hb) hn)
  · exact lv_icmp_gt hC.1 hC.2.1 hdg (jok_of hj) (fun hy => absurd hy (of_decide_eq_false hb)) (fun _ => kk ls H locs hS)
theorem sd_icmp_le {x y : Int32} {off : Int} (hC : Cx p R s m args meth c mi X sz ad zf D cA) (kk : Kk p l e R s m args below meth c mi sz ad zf D cA n0 z0 Q q) (hdg : decode (mC mi) pc = .ok (.if_icmp .le off, 3)) (h : br (cdI .le x y) al pc off st ah = some (.inl q)) : Kk p l e R s m args below meth c mi sz ad zf D cA n0 z0 Q (pc, al, .int y :: .int x :: st, ah) := by
  obtain ⟨hj, hq⟩ := br_of h
  intro ls H locs hS
  rcases hq with ⟨hb, rfl⟩ | ⟨hb, rfl⟩
  · exact lv_icmp_le hC.1 hC.2.1 hdg (jok_of hj) (fun _ => kk ls H locs hS) (fun hn => absurd (of_decide_eq_true hb) hn)
  · exact lv_icmp_le hC.1 hC.2.1 hdg (jok_of hj) (fun hy => absurd hy (of_decide_eq_false hb)) (fun _ => kk ls H locs hS)
theorem sd_ifnull_n {off : Int} (hC : Cx p R s m args meth c mi X sz ad zf D cA) (kk : Kk p l e R s m args below meth c mi sz ad zf D cA n0 z0 Q q) (hdg : decode (mC mi) pc = .ok (.ifnull off, 3)) (h : br (true) al pc off st ah = some (.inl q)) : Kk p l e R s m args below meth c mi sz ad zf D cA n0 z0 Q (pc, al, .null :: st, ah) := by
  obtain ⟨hj, hq⟩ := br_of h
  intro ls H locs hS
  rcases hq with ⟨hb, rfl⟩ | ⟨hb, rfl⟩
  · exact lv_ifnullN hC.1 hC.2.1 hdg (jok_of hj) (kk ls H locs hS)
  · cases hb
theorem sd_ifnull_r {off : Int} {a : Nat} (hC : Cx p R s m args meth c mi X sz ad zf D cA) (kk : Kk p l e R s m args below meth c mi sz ad zf D cA n0 z0 Q q) (hdg : decode (mC mi) pc = .ok (.ifnull off, 3)) (h : br (false) al pc off st ah = some (.inl q)) : Kk p l e R s m args below meth c mi sz ad zf D cA n0 z0 Q (pc, al, .ref a :: st, ah) := by
  obtain ⟨hj, hq⟩ := br_of h
  intro ls H locs hS
  rcases hq with ⟨hb, rfl⟩ | ⟨hb, rfl⟩
  · cases hb
  · exact lv_ifnull hC.1 hC.2.1 hdg (kk ls H locs hS)
theorem sd_ifnonnull_n {off : Int} (hC : Cx p R s m args meth c mi X sz ad zf D cA) (kk : Kk p l e R s m args below meth c mi sz ad zf D cA n0 z0 Q q) (hdg : decode (mC mi) pc = .ok (.ifnonnull off, 3)) (h : br (false) al pc off st ah = some (.inl q)) : Kk p l e R s m args below meth c mi sz ad zf D cA n0 z0 Q (pc, al, .null :: st, ah) := by
  obtain ⟨hj, hq⟩ := br_of h
  intro ls H locs hS
  rcases hq with ⟨hb, rfl⟩ | ⟨hb, rfl⟩
  · cases hb
  · exact lv_ifnonnullN hC.1 hC.2.1 hdg (kk ls H locs hS)
theorem sd_ifnonnull_r {off : Int} {a : Nat} (hC : Cx p R s m args meth c mi X sz ad zf D cA) (kk : Kk p l e R s m args below meth c mi sz ad zf D cA n0 z0 Q q) (hdg : decode (mC mi) pc = .ok (.ifnonnull off, 3)) (h : br (true) al pc off st ah = some (.inl q)) : Kk p l e R s m args below meth c mi sz ad zf D cA n0 z0 Q (pc, al, .ref a :: st, ah) := by
  obtain ⟨hj, hq⟩ := br_of h
  intro ls H locs hS
  rcases hq with ⟨hb, rfl⟩ | ⟨hb, rfl⟩
  · exact lv_ifnonnull hC.1 hC.2.1 hdg (jok_of hj) (kk ls H locs hS)
  · cases hb
theorem sd_tsw {dflt lo hi : Int} {offs : Array Int} {len : Nat} (hC : Cx p R s m args meth c mi X sz ad zf D cA) (kk : Kk p l e R s m args below meth c mi sz ad zf D cA n0 z0 Q q) (hdg : decode (mC mi) pc = .ok (.tableswitch dflt lo hi offs, len)) (h : tsw dflt lo hi offs pc al st ah = some (.inl q)) : Kk p l e R s m args below meth c mi sz ad zf D cA n0 z0 Q (pc, al, st, ah) := by
  unfold tsw at h
  split at h
  · next x r =>
    split at h
    · next hx =>
      split at h
      · next hj =>
        cases nx_inj h
        intro ls H locs hS
        exact lv_tableOut hC.1 hC.2.1 hdg hx (jok_of hj) (kk ls H locs hS)
      · cases h
    · next hx =>
      split at h
      · next off ho =>
        split at h
        · next hj =>
          cases nx_inj h
          intro ls H locs hS
          exact lv_tableIn hC.1 hC.2.1 hdg (fun q => hx (Or.inl q)) (fun q => hx (Or.inr q)) ho (jok_of hj) (kk ls H locs hS)
        · cases h
      · cases h
  · cases h
theorem kE_of {o i : Nat} {v : Value} (h : kE o i = some v) : ∃ p, okKT (o, i, v, p) = true := by
  unfold kE at h
  rw [Option.map_eq_some_iff] at h
  obtain ⟨t, h1, h2⟩ := h
  have h3 := List.find?_some h1
  simp only [Bool.and_eq_true, beq_iff_eq] at h3
  have h4 := List.all_eq_true.mp KT_ok t (List.mem_of_find?_eq_some h1)
  obtain ⟨a, b, c, d⟩ := t
  obtain ⟨rfl, rfl⟩ := h3
  subst h2
  exact ⟨d, h4⟩
theorem sd_ldc {k : Nat} {v : Value} (hC : Cx p R s m args meth c mi X sz ad zf D cA) (hdg : decode (mC mi) pc = .ok (.ldc k, 2)) (hv : kE (mO mi) k = some v) (hn : ¬ isL v = true) (kk : Kk p l e R s m args below meth c mi sz ad zf D cA n0 z0 Q (pc + 2, al, v :: st, ah)) : Kk p l e R s m args below meth c mi sz ad zf D cA n0 z0 Q (pc, al, st, ah) := by
  obtain ⟨w, hk⟩ := kE_of hv
  intro ls H locs hS
  obtain ⟨hx, hb, hml, hr, hlo, hown, hnm, hts, hE, hR⟩ := hC
  cases v with
  | int x => exact lv_ldc hx hb hown (hts _ (atw_g hk)) hdg (kk ls H locs hS)
  | ref r =>
    simp only [okKT, Bool.and_eq_true, decide_eq_true_eq] at hk
    obtain ⟨ho, hk⟩ := hk
    split at hk
    · next t ht =>
      simp only [Bool.and_eq_true, decide_eq_true_eq] at hk
      obtain ⟨⟨⟨h1, h2⟩, h3⟩, h4⟩ := hk
      have hR := hE.1.2.2.2.2.2 _ _ ht
      rw [show 1000000 + (r - 1000000) = r from Nat.add_sub_cancel' h2, h1] at hR
      have hown2 : s.vm.findClass RX11 = some m.cls := by rw [ho] at hown; exact hown
      exact va_ldcS hx hb hown2 hR hdg (kk ls H locs hS)
    · cases hk
  | long x => exact absurd rfl hn
  | _ => cases hk
theorem va_ldcSW {H : Heap} {locs : List Loc} {cells slots : Nat} {ls : Array Slot} {rest : List Value} {cc : ByteArray} (hexec : p.tables.exec = Jvm.exec) (hb : c.code = cc) {own tx : String} {index q : Nat} (hown : s.vm.findClass own = some m.cls) (hZ : vk_R own index tx q s) (hdg : decode cc pc = .ok (.ldc_w index, 3))
    (k : W p l e R s m args below meth c H locs cells slots Q (F0 m (pc + 3) ls (.ref q :: rest))) : W p l e R s m args below meth c H locs cells slots Q (F0 m pc ls rest) := by
  intro T hT X
  obtain ⟨t, a1, b1⟩ := k T hT X
  exact ⟨t, X.ldcStringW hexec hown (text := tx) (a := q) hZ.1 hZ.2 (g := F0 m pc ls rest) rfl (by rw [hb]; exact hdg) t a1, b1⟩
theorem sd_ldc_w {k : Nat} {v : Value} (hC : Cx p R s m args meth c mi X sz ad zf D cA) (hdg : decode (mC mi) pc = .ok (.ldc_w k, 3)) (hv : kE (mO mi) k = some v) (hn : ¬ isL v = true) (kk : Kk p l e R s m args below meth c mi sz ad zf D cA n0 z0 Q (pc + 3, al, v :: st, ah)) : Kk p l e R s m args below meth c mi sz ad zf D cA n0 z0 Q (pc, al, st, ah) := by
  obtain ⟨w, hk⟩ := kE_of hv
  intro ls H locs hS
  obtain ⟨hx, hb, hml, hr, hlo, hown, hnm, hts, hE, hR⟩ := hC
  cases v with
  | int x => exact lv_ldcw hx hb hown (hts _ (atw_g hk)) hdg (kk ls H locs hS)
  | ref r =>
    simp only [okKT, Bool.and_eq_true, decide_eq_true_eq] at hk
    obtain ⟨ho, hk⟩ := hk
    split at hk
    · next t ht =>
      simp only [Bool.and_eq_true, decide_eq_true_eq] at hk
      obtain ⟨⟨⟨h1, h2⟩, h3⟩, h4⟩ := hk
      have hR := hE.1.2.2.2.2.2 _ _ ht
      rw [show 1000000 + (r - 1000000) = r from Nat.add_sub_cancel' h2, h1] at hR
      have hown2 : s.vm.findClass RX11 = some m.cls := by rw [ho] at hown; exact hown
      exact va_ldcSW hx hb hown2 hR hdg (kk ls H locs hS)
    · cases hk
  | long x => exact absurd rfl hn
  | _ => cases hk
theorem sd_ldc2_w {k : Nat} {v : Value} (hC : Cx p R s m args meth c mi X sz ad zf D cA) (hdg : decode (mC mi) pc = .ok (.ldc2_w k, 3)) (hv : kE (mO mi) k = some v) (hn : isL v = true) (kk : Kk p l e R s m args below meth c mi sz ad zf D cA n0 z0 Q (pc + 3, al, v :: st, ah)) : Kk p l e R s m args below meth c mi sz ad zf D cA n0 z0 Q (pc, al, st, ah) := by
  obtain ⟨w, hk⟩ := kE_of hv
  obtain ⟨x, rfl⟩ := isL_of hn
  intro ls H locs hS
  obtain ⟨hx, hb, hml, hr, hlo, hown, hnm, hts, hE, hR⟩ := hC
  exact lv_ldc2 hx hb hown (hts _ (atw_g hk)) hdg (kk ls H locs hS)
theorem sd_getstatic {k : Nat} {v : Value} (hC : Cx p R s m args meth c mi X sz ad zf D cA) (hdg : decode (mC mi) pc = .ok (.getstatic k, 3)) (hv : gE (mO mi) k = some v) (kk : Kk p l e R s m args below meth c mi sz ad zf D cA n0 z0 Q (pc + 3, al, v :: st, ah)) : Kk p l e R s m args below meth c mi sz ad zf D cA n0 z0 Q (pc, al, st, ah) := by
  unfold gE at hv
  rw [Option.map_eq_some_iff] at hv
  obtain ⟨t, h1, h2⟩ := hv
  have h3 := List.find?_some h1
  simp only [Bool.and_eq_true, beq_iff_eq] at h3
  have hm := List.mem_of_find?_eq_some h1
  have h4 := List.all_eq_true.mp GS_ok t hm
  intro ls H locs hS
  obtain ⟨hx, hb, hml, hr, hlo, hown, hnm, hts, hE, hR⟩ := hC
  unfold GS at hm
  simp only [List.mem_cons, List.not_mem_nil, or_false] at hm
  rcases hm with rfl | rfl
  · obtain ⟨e1, e2⟩ := h3
    subst h2
    rw [← e1] at hown
    dsimp only at e2
    subst e2
    exact va_gets hx hb hE.2.1.2.1 hS.2.2.1 hown (hts _ (atw_g (p := 367) (w := .fieldLink (oN 14) 38 "java/lang/String" "COMPACT_STRINGS" "Z") h4)) (fun _ h => h) hdg (kk ls H locs hS)
  · obtain ⟨e1, e2⟩ := h3
    subst h2
    rw [← e1] at hown
    dsimp only at e2
    subst e2
    exact va_gets hx hb hE.2.1.2.2.1 hS.2.2.1 hown (hts _ (atw_g (p := 383) (w := .fieldLink (oN 14) 1053 "jdk/internal/util/Preconditions" "SIOOBE_FORMATTER" "Ljava/util/function/BiFunction;") h4)) (fun _ h => h) hdg (kk ls H locs hS)

end SE
