/-! the pure machine's run is a run of the machine -/
section SM
variable {p : Program} {l : Launch} {e : Env} {R : Room} {s : State} {m : MethodId} {args : Array Value} {below : List Frame} {meth : Method} {c : Code} {Q : State → Prop}
variable {mi : Nat} {X : XS} {sz : Nat} {ad : Nat → Nat} {zf : Value} {D : va_G} {cA : Nat → ClassId} {n0 z0 : Nat} {pc : Nat} {al : LV} {st : List Value} {ah : AH} {q : Nat × LV × List Value × AH}
theorem callTo_of {t : Option (Nat × Nat × List Nat)} {as r : List Value} {x : RS} (h : callTo t as pc r = some x) : ∃ w, t = some w ∧ stW r ≤ 8 ∧ x = .inr (.inr (w.2.1, as, pc + 3, r)) := by
  unfold callTo at h
  split at h
  · next w =>
    split at h
    · next hw => exact ⟨w, rfl, hw, (Option.some.inj h).symm⟩
    · cases h
  · cases h
theorem iV_no {i : Nat} (h : iV mi i pc st ah = some (.inl q)) : False := by
  unfold iV at h
  split at h
  · split at h
    · split at h
      · split at h
        · obtain ⟨w, -, -, h2⟩ := callTo_of h
          cases h2
        · cases h
      · cases h
    · cases h
  · cases h
theorem rtI_no (h : rtI mi st = some (.inl q)) : False := by
  unfold rtI at h
  split at h
  · split at h
    · split at h <;> cases h
    · cases h
  · cases h
theorem rtL_no (h : rtL mi st = some (.inl q)) : False := by
  unfold rtL at h
  split at h
  · split at h <;> cases h
  · cases h
theorem rtA_no (h : rtA mi st = some (.inl q)) : False := by
  unfold rtA at h
  split at h
  · split at h <;> cases h
  · cases h
theorem rtV_no (h : rtV mi st = some (.inl q)) : False := by
  unfold rtV at h
  split at h
  · split at h <;> cases h
  · cases h
set_option maxHeartbeats 1000000 in
theorem sd_go (hC : Cx p R s m args meth c mi X sz ad zf D cA) (kk : Kk p l e R s m args below meth c mi sz ad zf D cA n0 z0 Q q) (hle : q.2.2.2.length ≤ R.cells + n0 ∧ asz q.2.2.2 ≤ R.slots + z0) (h : stp X mi pc al st ah = some (.inl q)) : Kk p l e R s m args below meth c mi sz ad zf D cA n0 z0 Q (pc, al, st, ah) := by
  unfold stp at h
  split at h
  · next i len hdg =>
    unfold stI at h
    split at h
    · exact sd_aload_n hC kk hdg h
    · exact sd_aload hC kk hdg h
    · exact sd_iload_n hC kk hdg h
    · exact sd_iload hC kk hdg h
    · exact sd_lload_n hC kk hdg h
    · exact sd_lload hC kk hdg h
    · exact sd_astore_n hC kk hdg h
    · exact sd_astore hC kk hdg h
    · exact sd_istore_n hC kk hdg h
    · exact sd_istore hC kk hdg h
    · exact sd_lstore_n hC kk hdg h
    · exact sd_lstore hC kk hdg h
    · exact sd_iconst hC kk hdg h
    · exact sd_bipush hC kk hdg h
    · exact sd_sipush hC kk hdg h
    · exact sd_lconst hC kk hdg h
    · exact sd_aconst_null hC kk hdg h
    · split at h
      · next v hv =>
        split at h
        · cases h
        · next hn => cases nx_inj h; exact sd_ldc hC hdg hv hn kk
      · cases h
    · split at h
      · next v hv =>
        split at h
        · cases h
        · next hn => cases nx_inj h; exact sd_ldc_w hC hdg hv hn kk
      · cases h
    · split at h
      · next v hv =>
        split at h
        · next hn => cases nx_inj h; exact sd_ldc2_w hC hdg hv hn kk
        · cases h
      · cases h
    · split at h
      · next v hv => cases nx_inj h; exact sd_getstatic hC hdg hv kk
      · cases h
    · split at h
      · next x hx =>
        split at h
        · next hk => cases nx_inj h; exact sd_iinc hC hdg hx hk kk
        · cases h
      · cases h
    · split at h
      · split at h
        · next hv => cases nx_inj h; exact sd_dup hC hdg hv kk
        · cases h
      · cases h
    · split at h
      · split at h
        · next hv => cases nx_inj h; exact sd_pop hC hdg hv kk
        · cases h
      · cases h
    · split at h
      · split at h
        · next hv => cases nx_inj h; exact sd_dup2 hC hdg hv.1 hv.2 kk
        · cases h
      · cases h
    · exact sd_iadd hC kk hdg h
    · exact sd_isub hC kk hdg h
    · exact sd_imul hC kk hdg h
    · exact sd_iand hC kk hdg h
    · exact sd_ior hC kk hdg h
    · exact sd_ixor hC kk hdg h
    · exact sd_ishl hC kk hdg h
    · exact sd_ishr hC kk hdg h
    · exact sd_iushr hC kk hdg h
    · exact sd_idiv hC kk hdg h
    · exact sd_irem hC kk hdg h
    · exact sd_ladd hC kk hdg h
    · exact sd_lmul hC kk hdg h
    · exact sd_land hC kk hdg h
    · exact sd_lor hC kk hdg h
    · exact sd_ldiv hC kk hdg h
    · exact sd_lrem hC kk hdg h
    · split at h
      · cases nx_inj h; exact sd_lshl hC hdg kk
      · cases h
    · split at h
      · cases nx_inj h; exact sd_lshr hC hdg kk
      · cases h
    · split at h
      · cases nx_inj h; exact sd_lcmp hC hdg kk
      · cases h
    · split at h
      · cases nx_inj h; exact sd_i2l hC hdg kk
      · cases h
    · split at h
      · cases nx_inj h; exact sd_l2i hC hdg kk
      · cases h
    · split at h
      · cases nx_inj h; exact sd_i2c hC hdg kk
      · cases h
    · split at h
      · next hj => cases nx_inj h; exact sd_goto hC hdg hj kk
      · cases h
    · next cd off =>
      split at h
      · cases cd
        · exact sd_if_eq hC kk hdg h
        · exact sd_if_ne hC kk hdg h
        · exact sd_if_lt hC kk hdg h
        · exact sd_if_ge hC kk hdg h
        · exact sd_if_gt hC kk hdg h
        · exact sd_if_le hC kk hdg h
      · cases h
    · next cd off =>
      split at h
      · cases cd
        · exact sd_icmp_eq hC kk hdg h
        · exact sd_icmp_ne hC kk hdg h
        · exact sd_icmp_lt hC kk hdg h
        · exact sd_icmp_ge hC kk hdg h
        · exact sd_icmp_gt hC kk hdg h
        · exact sd_icmp_le hC kk hdg h
      · cases h
    · split at h
      · exact sd_ifnull_n hC kk hdg h
      · exact sd_ifnull_r hC kk hdg h
      · cases h
    · split at h
      · exact sd_ifnonnull_n hC kk hdg h
      · exact sd_ifnonnull_r hC kk hdg h
      · cases h
    · exact sd_tsw hC kk hdg h
    · exact sd_getfield hC kk hdg h
    · exact sd_putfield hC kk hdg h
    · exact sd_ldAr0 hC kk hdg h
    · exact sd_ldAr1 hC kk hdg h
    · exact sd_ldAr2 hC kk hdg h
    · exact sd_ldAr3 hC kk hdg h
    · exact sd_stAr0 hC kk hdg h
    · exact sd_stAr1 hC kk hdg h
    · exact sd_stAr2 hC kk hdg h
    · exact sd_stAr3 hC kk hdg h
    · split at h
      · split at h
        · next n hn => cases nx_inj h; exact sd_alen hC hdg hn kk
        · cases h
      · cases h
    · exact sd_new hC kk hle hdg h
    · exact sd_newarray hC kk hle hdg h
    · exact sd_anewarray hC kk hle hdg h
    · exact sd_inst hC kk hdg h
    · exact sd_cast hC kk hdg h
    · exact (iV_no h).elim
    · unfold iS at h
      split at h
      · next t ht =>
        split at h
        · split at h
          · next h9 => exact sd_aycp hC kk hdg ht h9 h
          · split at h
            · obtain ⟨w, -, -, h2⟩ := callTo_of h
              cases h2
            · cases h
        · cases h
      · cases h
    · unfold iP at h
      split at h
      · next t ht =>
        split at h
        · split at h
          · next h8 =>
            split at h
            · split at h
              · next hw => cases nx_inj h; exact sd_objInit hC hdg ht h8 hw kk
              · cases h
            · cases h
          · split at h
            · obtain ⟨w, -, -, h2⟩ := callTo_of h
              cases h2
            · cases h
        · cases h
      · cases h
    · exact (rtI_no h).elim
    · exact (rtL_no h).elim
    · exact (rtA_no h).elim
    · exact (rtV_no h).elim
    · cases h
  · cases h
end SM
