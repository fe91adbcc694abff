/-! Integer.bitCount -/
theorem lane {x y m M : Nat} (hx : x < 256) (hm : m < 256) : (x + 256 * y) &&& (m + 256 * M) = (x &&& m) + 256 * (y &&& M) := by
  have h1 : ((x + 256 * y) &&& (m + 256 * M)) % 2 ^ 8 = x &&& m := by
    rw [Nat.and_mod_two_pow]
    congr 1 <;> omega
  have h2 : ((x + 256 * y) &&& (m + 256 * M)) / 2 ^ 8 = y &&& M := by
    rw [Nat.and_div_two_pow]
    congr 1 <;> omega
  omega
def pc1 (x : Nat) : Nat := x - (x / 2 &&& 85)
def pc2 (x : Nat) : Nat := (x &&& 51) + (x / 4 &&& 51)
theorem pc_a : ∀ x, x < 256 → (x / 2 &&& 85) ≤ x ∧ pc1 x < 256 ∧ pc2 (pc1 x) ≤ 68 ∧ pc2 (pc1 x) % 16 ≤ 4 ∧ (x / 2 < 128 ∧ ((x / 2 + 128) &&& 85) = (x / 2 &&& 85)) := by decide +kernel
theorem pc_b : ∀ x, x < 256 → ∀ t, t < 4 → ((x / 4 + 64 * t) &&& 51) = (x / 4 &&& 51) ∧ ((x / 2 + 128 * (t % 2)) &&& 85) = (x / 2 &&& 85) := by decide +kernel
theorem pc_c : ∀ x, x < 256 → ∀ t, t < 5 → ((pc2 (pc1 x) + pc2 (pc1 x) / 16 + 16 * t) &&& 15) = cnt (Nat.testBit x) 8 := by decide +kernel
theorem pc_d (x : Nat) (h : x < 256) : cnt (Nat.testBit x) 8 ≤ 8 := cnt_le _ _
def pcF (n : Nat) : Nat :=
  let n1 := n - (n / 2 &&& 1431655765)
  let n2 := (n1 &&& 858993459) + (n1 / 4 &&& 858993459)
  let n3 := (n2 + n2 / 16) &&& 252645135
  let n4 := n3 + n3 / 256
  let n5 := n4 + n4 / 65536
  n5 &&& 63
theorem cnt_add (f : Nat → Bool) (m : Nat) : ∀ k, cnt f (m + k) = cnt f m + cnt (fun i => f (i + m)) k
  | 0 => rfl
  | k + 1 => by
    show cnt f (m + k) + (if f (m + k) then 1 else 0) = cnt f m + (cnt (fun i => f (i + m)) k + (if f (k + m) then 1 else 0))
    rw [cnt_add f m k, Nat.add_comm k m, Nat.add_assoc]
theorem pc_and {a b e m : Nat} (ha : a < 256) (hb : b < 256) (hm : m < 256) (M : Nat) (hM : M = m + 256 * (m + 256 * (m + 256 * m))) : (a + 256 * (b + 256 * e)) &&& M = (a &&& m) + 256 * ((b &&& m) + 256 * (e &&& (m + 256 * m))) := by
  subst hM
  rw [lane ha hm, lane hb hm]
theorem pc_top {e m : Nat} (he : e < 256) (hm : m < 256) : e &&& (m + 256 * m) = e &&& m := by
  have := lane (x := e) (y := 0) (m := m) (M := m) he hm
  simpa using this
theorem pcF_eq {a b e : Nat} (ha : a < 256) (hb : b < 256) (he : e < 256) : pcF (a + 256 * (b + 256 * e)) = cnt (Nat.testBit a) 8 + cnt (Nat.testBit b) 8 + cnt (Nat.testBit e) 8 := by
  have a1 := pc_a a ha
  have b1 := pc_a b hb
  have e1 := pc_a e he
  have s1 : (a + 256 * (b + 256 * e)) / 2 &&& 1431655765 = (a / 2 &&& 85) + 256 * ((b / 2 &&& 85) + 256 * (e / 2 &&& 85)) := by
    rw [show (a + 256 * (b + 256 * e)) / 2 = (a / 2 + 128 * (b % 4 % 2)) + 256 * ((b / 2 + 128 * (e % 4 % 2)) + 256 * (e / 2)) by omega]
    rw [pc_and (m := 85) (by omega) (by omega) (by omega) 1431655765 rfl, (pc_b a ha (b % 4) (by omega)).2, (pc_b b hb (e % 4) (by omega)).2, pc_top (by omega) (by omega)]
  have s2 : a + 256 * (b + 256 * e) - ((a / 2 &&& 85) + 256 * ((b / 2 &&& 85) + 256 * (e / 2 &&& 85))) = pc1 a + 256 * (pc1 b + 256 * pc1 e) := by
    unfold pc1
    omega
  have s3 : (pc1 a + 256 * (pc1 b + 256 * pc1 e)) &&& 858993459 = (pc1 a &&& 51) + 256 * ((pc1 b &&& 51) + 256 * (pc1 e &&& 51)) := by
    rw [pc_and (m := 51) a1.2.1 b1.2.1 (by omega) 858993459 rfl, pc_top e1.2.1 (by omega)]
  have s4 : (pc1 a + 256 * (pc1 b + 256 * pc1 e)) / 4 &&& 858993459 = (pc1 a / 4 &&& 51) + 256 * ((pc1 b / 4 &&& 51) + 256 * (pc1 e / 4 &&& 51)) := by
    have h1 := a1.2.1
    have h2 := b1.2.1
    have h3 := e1.2.1
    rw [show (pc1 a + 256 * (pc1 b + 256 * pc1 e)) / 4 = (pc1 a / 4 + 64 * (pc1 b % 4)) + 256 * ((pc1 b / 4 + 64 * (pc1 e % 4)) + 256 * (pc1 e / 4)) by omega]
    rw [pc_and (m := 51) (by omega) (by omega) (by omega) 858993459 rfl, (pc_b _ h1 (pc1 b % 4) (by omega)).1, (pc_b _ h2 (pc1 e % 4) (by omega)).1, pc_top (by omega) (by omega)]
  have s5 : (pc1 a &&& 51) + 256 * ((pc1 b &&& 51) + 256 * (pc1 e &&& 51)) + ((pc1 a / 4 &&& 51) + 256 * ((pc1 b / 4 &&& 51) + 256 * (pc1 e / 4 &&& 51))) = pc2 (pc1 a) + 256 * (pc2 (pc1 b) + 256 * pc2 (pc1 e)) := by
    unfold pc2
    omega
  have ca := pc_c a ha
  have cb := pc_c b hb
  have ce := pc_c e he
  have da := pc_d a ha
  have db := pc_d b hb
  have de := pc_d e he
  have a3 := a1.2.2.1
  have b3 := b1.2.2.1
  have e3 := e1.2.2.1
  have b4 := b1.2.2.2.1
  have e4 := e1.2.2.2.1
  unfold pcF
  simp only []
  rw [s1, s2, s3, s4, s5]
  generalize hA : pc2 (pc1 a) = A at *
  generalize hB : pc2 (pc1 b) = B at *
  generalize hE : pc2 (pc1 e) = E at *
  rw [show A + 256 * (B + 256 * E) + (A + 256 * (B + 256 * E)) / 16 = (A + A / 16 + 16 * (B % 16)) + 256 * ((B + B / 16 + 16 * (E % 16)) + 256 * (E + E / 16)) by omega]
  rw [pc_and (m := 15) (by omega) (by omega) (by omega) 252645135 rfl, ca (B % 16) (by omega), cb (E % 16) (by omega), pc_top (by omega) (by omega)]
  have ce0 := ce 0 (by omega)
  rw [Nat.mul_zero, Nat.add_zero] at ce0
  rw [ce0]
  rw [show (63 : Nat) = 2 ^ 6 - 1 from rfl, Nat.and_two_pow_sub_one_eq_mod]
  clear s1 s2 s3 s4 s5 ca cb ce ce0 a1 b1 e1
  generalize cnt (Nat.testBit a) 8 = u at *
  generalize cnt (Nat.testBit b) 8 = v at *
  generalize cnt (Nat.testBit e) 8 = z at *
  rw [show (u + 256 * (v + 256 * z)) / 256 = v + 256 * z by omega]
  rw [show (u + 256 * (v + 256 * z) + (v + 256 * z)) / 65536 = z by omega]
  omega
theorem tb_hi (n i k : Nat) : Nat.testBit (n / 2 ^ k) i = Nat.testBit n (i + k) := Nat.testBit_div_two_pow n i
theorem pcF_cnt {n : Nat} (h : n < 2 ^ 24) : pcF n = cnt (Nat.testBit n) 24 := by
  have e : n = n % 256 + 256 * (n / 256 % 256 + 256 * (n / 65536)) := by omega
  have h2 := pcF_eq (a := n % 256) (b := n / 256 % 256) (e := n / 65536) (by omega) (by omega) (by omega)
  rw [← e] at h2
  rw [h2, show (24 : Nat) = 8 + 16 from rfl, cnt_add, show (16 : Nat) = 8 + 8 from rfl, cnt_add]
  have c1 : cnt (Nat.testBit (n % 256)) 8 = cnt (Nat.testBit n) 8 := cnt_cong (fun i hi => by
    rw [show (256 : Nat) = 2 ^ 8 from rfl, Nat.testBit_mod_two_pow]; simp [hi])
  have c2 : cnt (Nat.testBit (n / 256 % 256)) 8 = cnt (fun i => Nat.testBit n (i + 8)) 8 := cnt_cong (fun i hi => by
    rw [show (256 : Nat) = 2 ^ 8 from rfl, Nat.testBit_mod_two_pow, tb_hi]; simp [hi])
  have c3 : cnt (Nat.testBit (n / 65536)) 8 = cnt (fun i => (fun i => Nat.testBit n (i + 8)) (i + 8)) 8 := cnt_cong (fun i hi => by
    rw [show (65536 : Nat) = 2 ^ 16 from rfl, tb_hi])
  rw [c1, c2, c3]
  exact Nat.add_assoc _ _ _
theorem nI_and (a b : Nat) : nI a &&& nI b = nI (a &&& b) := by
  apply Int32.toBitVec_inj.1
  show BitVec.ofNat 32 a &&& BitVec.ofNat 32 b = BitVec.ofNat 32 (a &&& b)
  apply BitVec.eq_of_getLsbD_eq
  intro i hi
  simp [hi]
theorem us_cnt : ∀ j : Fin 32, (UInt32.ofNat j.val &&& Int32.toUInt32 31).toNat % 32 = j.val := by decide +kernel
theorem nI_ush {k j : Nat} (hk : k < 2 ^ 32) (hj : j < 32) : ((nI k).toUInt32 >>> ((nI j).toUInt32 &&& Int32.toUInt32 31)).toInt32 = nI (k / 2 ^ j) := by
  rw [← Nat.shiftRight_eq_div_pow]
  have hs : k >>> j ≤ k := by
    rw [Nat.shiftRight_eq_div_pow]
    exact Nat.div_le_self _ _
  have e2 : UInt32.ofNat k >>> (UInt32.ofNat j &&& Int32.toUInt32 31) = UInt32.ofNat (k >>> j) := by
    apply UInt32.toNat_inj.1
    have h1 : (UInt32.ofNat k).toNat = k := Nat.mod_eq_of_lt (by omega)
    have h2 : (UInt32.ofNat (k >>> j)).toNat = k >>> j := Nat.mod_eq_of_lt (by omega)
    rw [UInt32.toNat_shiftRight, us_cnt ⟨j, hj⟩, h1, h2]
  show (UInt32.ofNat k >>> (UInt32.ofNat j &&& Int32.toUInt32 31)).toInt32 = _
  rw [e2]
  rfl
theorem bt_nI (n : Nat) {i : Nat} (hi : i < 32) : bt (nI n) i = n.testBit i := by
  show (BitVec.ofNat 32 n).getLsbD i = _
  rw [BitVec.getLsbD_ofNat]
  simp [hi]
section BC
variable {X : XS} {d : Nat} {ah : AH} {K Q : Option Value → AH → Prop}
theorem c_bitCount {n : Nat} (h : n < 2 ^ 24) : Cl X d 175 [.int (nI n)] ah K = K (some (.int (nI (cnt (bt (nI n)) 24)))) ah := by
  have h1 : (n / 2 &&& 1431655765) ≤ n := Nat.le_trans Nat.and_le_left (Nat.div_le_self _ _)
  have h2 : ∀ x y m : Nat, x < 2 ^ 25 → y < 2 ^ 25 → (x &&& m) + (y &&& m) < 2 ^ 26 := fun x y m hx hy => by
    have := @Nat.and_le_left x m
    have := @Nat.and_le_left y m
    omega
  rw [e175]
  simp only [s175_0, s175_1, s175_2, s175_3, s175_4, s175_7, s175_8, s175_9, s175_10, s175_11, s175_14, s175_15, s175_16, s175_17, s175_18, s175_21, s175_22, s175_23, s175_24, s175_25, s175_26, s175_27, s175_28, s175_29, s175_32, s175_33, s175_34, s175_35, s175_36, s175_38, s175_39, s175_40, s175_41, s175_42, s175_43, s175_45, s175_46, s175_47, s175_48, s175_49, s175_51, s175_52, zb0, zb1, ob_some, tl_s, tl_n, nk_i, nk_r, nk_n, nk_0, pk_us, pk_un, va_up_self, va_up_ne, ne_eq, Nat.reduceEqDiff, not_false_eq_true, true_and, and_true, eq_self, z11, z00, bI_z, gf_0_0, gf_0_1, gf_0_2, gf_0_3, gf_0_4, gf_0_5, gf_0_6, rcv_0, rcO_0, gf_1_0, gf_1_1, sf_1_1, gf_1_2, gf_1_3, gf_1_4, gf_1_5, sf_1_5, gf_1_6, sf_1_6, gf_1_7, sf_1_7, gf_1_8, sf_1_8, gf_1_9, sf_1_9, gf_1_10, sf_1_10, gf_1_11, sf_1_11, rcv_1, rcO_1, gf_6_0, sf_6_0, gf_6_1, sf_6_1, gf_6_2, sf_6_2, gf_6_3, sf_6_3, gf_6_4, gf_6_5, rcv_6, rcO_6, gf_9_0, gf_9_1, sf_9_1, rcv_9, rcO_9, gf_12_0, sf_12_0, gf_12_1, sf_12_1, gf_12_2, gf_12_3, rcv_12, rcO_12, gf_15_0, sf_15_0, gf_15_1, sf_15_1, gf_15_2, gf_15_3, rcv_15, rcO_15, gf_18_0, sf_18_0, gf_18_1, sf_18_1, gf_18_2, gf_18_3, gf_18_4, gf_18_5, sf_18_5, gf_18_6, sf_18_6, gf_18_7, sf_18_7, gf_18_8, sf_18_8, rcv_18, rcO_18, gf_24_0, gf_24_1, gf_24_2, sf_24_2, rcv_24, rcO_24, gf_28_0, gf_28_1, gf_28_2, gf_28_3, sf_28_3, gf_28_4, gf_28_5, sf_28_5, gf_28_6, sf_28_6, gf_28_7, gf_28_8, gf_28_9, gf_28_10, gf_28_11, gf_28_12, gf_28_13, sf_28_13, gf_28_14, sf_28_14, gf_28_15, sf_28_15, gf_28_16, sf_28_16, gf_28_17, sf_28_17, gf_28_18, sf_28_18, gf_28_19, gf_28_20, gf_28_21, gf_28_22, gf_28_23, gf_28_24, sf_28_24, gf_28_25, rcv_28, rcO_28, aI_2, aW_2, sI_2, aI_3, aW_3, sI_3, aI_4, aW_4, sI_4, aI_5, aW_5, sI_5, aI_7, aW_7, sI_7, aI_8, aW_8, sI_8, aI_13, aW_13, sI_13, aI_14, aW_14, sI_14, aI_16, aW_16, sI_16, aI_17, aW_17, sI_17, aI_21, aW_21, sI_21, aI_22, aW_22, sI_22, aI_23, aW_23, sI_23, aI_25, aW_25, sI_25, aI_26, aW_26, sI_26, aI_29, aW_29, sI_29, aI_31, aW_31, sI_31, aI_32, aW_32, sI_32, aI_33, aW_33, sI_33, aI_34, aW_34, sI_34, aI_35, aW_35, sI_35, aI_36, aW_36, sI_36, aI_37, aW_37, sI_37, aI_38, aW_38, sI_38, aI_41, aW_41, sI_41, aI_42, aW_42, sI_42, aI_43, aW_43, sI_43, aL_19, sL_19, aL_20, sL_20, aL_27, sL_27, aL_39, sL_39, aL_40, sL_40, aL_44, sL_44, aB_30, aZ_30, sZ_30, aQ_10, aQ_11, sQ_10]
  have e1 : ((nI n).toUInt32 >>> (Int32.toUInt32 1 &&& Int32.toUInt32 31)).toInt32 = nI (n / 2) := nI_ush (j := 1) (by omega) (by omega)
  rw [e1, show (1431655765 : Int32) = nI 1431655765 from rfl, nI_and, nI_sub h1]
  generalize hn1 : n - (n / 2 &&& 1431655765) = x1
  have b1 : x1 < 2 ^ 24 := by omega
  have e2 : ((nI x1).toUInt32 >>> (Int32.toUInt32 2 &&& Int32.toUInt32 31)).toInt32 = nI (x1 / 4) := nI_ush (j := 2) (by omega) (by omega)
  rw [e2, show (858993459 : Int32) = nI 858993459 from rfl, nI_and, nI_and, nI_add]
  have b2 := h2 x1 (x1 / 4) 858993459 (by omega) (by omega)
  generalize hn2 : (x1 &&& 858993459) + (x1 / 4 &&& 858993459) = x2 at b2 ⊢
  have e3 : ((nI x2).toUInt32 >>> (Int32.toUInt32 4 &&& Int32.toUInt32 31)).toInt32 = nI (x2 / 16) := nI_ush (j := 4) (by omega) (by omega)
  rw [e3, show (252645135 : Int32) = nI 252645135 from rfl, nI_add, nI_and]
  have b3 := @Nat.and_le_left (x2 + x2 / 16) 252645135
  generalize hn3 : (x2 + x2 / 16) &&& 252645135 = x3 at b3 ⊢
  have e4 : ((nI x3).toUInt32 >>> (Int32.toUInt32 8 &&& Int32.toUInt32 31)).toInt32 = nI (x3 / 256) := nI_ush (j := 8) (by omega) (by omega)
  rw [e4, nI_add]
  have e5 : ((nI (x3 + x3 / 256)).toUInt32 >>> (Int32.toUInt32 16 &&& Int32.toUInt32 31)).toInt32 = nI ((x3 + x3 / 256) / 65536) := nI_ush (j := 16) (by omega) (by omega)
  rw [e5, nI_add, show (63 : Int32) = nI 63 from rfl, nI_and]
  have hp : pcF n = x3 + x3 / 256 + (x3 + x3 / 256) / 65536 &&& 63 := by
    unfold pcF
    simp only []
    rw [hn1, hn2, hn3]
  rw [← hp, pcF_cnt h, cnt_cong (fun i hi => (bt_nI n (show i < 32 by omega)).symm)]
/-- a set whose bits are all below 20 -/
def low20 (x : Int32) : Prop := ∀ i, 20 ≤ i → bt x i = false
theorem low_nI {x : Int32} (h : low20 x) : ∃ n, n < 2 ^ 20 ∧ x = nI n := by
  refine ⟨x.toBitVec.toNat, Nat.lt_pow_two_of_testBit _ (fun i hi => h i hi), ?_⟩
  apply Int32.toBitVec_inj.1
  show x.toBitVec = BitVec.ofNat 32 x.toBitVec.toNat
  simp
theorem c_pop {x : Int32} (h : low20 x) : Cl X d 175 [.int x] ah K = K (some (.int (nI (cnt (bt x) 20)))) ah := by
  obtain ⟨n, hn, rfl⟩ := low_nI h
  rw [c_bitCount (by omega), cnt_ext (show 20 ≤ 24 by omega) h]
end BC
