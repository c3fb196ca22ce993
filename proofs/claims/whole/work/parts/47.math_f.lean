/-! counting bits by halves -/
theorem land_b {a b c d : Nat} (hb : b < 256) (hd : d < 256) : ((b + 256 * a) &&& (d + 256 * c)) = (b &&& d) + 256 * (a &&& c) := by
  have h1 := Nat.and_mod_two_pow (a := b + 256 * a) (b := d + 256 * c) (n := 8)
  have h2 := Nat.and_div_two_pow (a := b + 256 * a) (b := d + 256 * c) (n := 8)
  rw [show (2 : Nat) ^ 8 = 256 by decide] at h1 h2
  rw [show (b + 256 * a) % 256 = b by omega, show (d + 256 * c) % 256 = d by omega] at h1
  rw [show (b + 256 * a) / 256 = a by omega, show (d + 256 * c) / 256 = c by omega] at h2
  omega
def pA (y : Nat) : Nat := y - ((y / 2) &&& 85)
def pB (y : Nat) : Nat := (pA y &&& 51) + ((pA y / 4) &&& 51)
def c8 (y : Nat) : Nat := cnt (fun j => y.testBit j) 8
theorem byte1 : ∀ y, y < 256 → ∀ c, c < 2 → ((y / 2 + 128 * c) &&& 85) = ((y / 2) &&& 85) ∧ ((y / 2) &&& 85) ≤ y := by decide +kernel
theorem byte2 : ∀ y, y < 256 → ∀ c, c < 4 → ((pA y / 4 + 64 * c) &&& 51) = ((pA y / 4) &&& 51) ∧ pA y < 256 := by decide +kernel
theorem byte3 : ∀ y, y < 256 → pB y / 16 ≤ 4 ∧ pB y % 16 ≤ 4 ∧ pB y < 80 ∧ ((pB y + pB y / 16) % 16) = c8 y ∧ c8 y ≤ 8 := by decide +kernel
theorem l4 {y0 y1 y2 y3 m : Nat} (h0 : y0 < 256) (h1 : y1 < 256) (h2 : y2 < 256) (hm : m < 256) : ((y0 + 256 * (y1 + 256 * (y2 + 256 * y3))) &&& (m + 256 * (m + 256 * (m + 256 * m)))) = (y0 &&& m) + 256 * ((y1 &&& m) + 256 * ((y2 &&& m) + 256 * (y3 &&& m))) := by
  rw [land_b h0 hm, land_b h1 hm, land_b h2 hm]
theorem m15 (x : Nat) : (x &&& 15) = x % 16 := Nat.and_two_pow_sub_one_eq_mod x 4
theorem sw1 {y0 y1 y2 y3 u : Nat} (h0 : y0 < 256) (h1 : y1 < 256) (h2 : y2 < 256) (h3 : y3 < 256) (hu : u = y0 + 256 * (y1 + 256 * (y2 + 256 * y3))) : ((u / 2) &&& 1431655765) ≤ u ∧ u - ((u / 2) &&& 1431655765) = pA y0 + 256 * (pA y1 + 256 * (pA y2 + 256 * pA y3)) := by
  have d2 : u / 2 = (y0 / 2 + 128 * (y1 % 2)) + 256 * ((y1 / 2 + 128 * (y2 % 2)) + 256 * ((y2 / 2 + 128 * (y3 % 2)) + 256 * (y3 / 2 + 128 * 0))) := by omega
  have m1 : ((u / 2) &&& 1431655765) = ((y0 / 2) &&& 85) + 256 * (((y1 / 2) &&& 85) + 256 * (((y2 / 2) &&& 85) + 256 * ((y3 / 2) &&& 85))) := by
    rw [d2, show (1431655765 : Nat) = 85 + 256 * (85 + 256 * (85 + 256 * 85)) by decide, l4 (by omega) (by omega) (by omega) (by decide), (byte1 y0 h0 _ (by omega)).1, (byte1 y1 h1 _ (by omega)).1, (byte1 y2 h2 _ (by omega)).1, (byte1 y3 h3 _ (by omega)).1]
  have b0 := (byte1 y0 h0 0 (by omega)).2
  have b1 := (byte1 y1 h1 0 (by omega)).2
  have b2 := (byte1 y2 h2 0 (by omega)).2
  have b3 := (byte1 y3 h3 0 (by omega)).2
  rw [m1, hu]
  unfold pA
  clear m1 d2 hu
  generalize (y0 / 2 &&& 85) = z0 at *
  generalize (y1 / 2 &&& 85) = z1 at *
  generalize (y2 / 2 &&& 85) = z2 at *
  generalize (y3 / 2 &&& 85) = z3 at *
  omega
theorem sw2 {y0 y1 y2 y3 a1 : Nat} (h0 : y0 < 256) (h1 : y1 < 256) (h2 : y2 < 256) (h3 : y3 < 256) (ea : a1 = pA y0 + 256 * (pA y1 + 256 * (pA y2 + 256 * pA y3))) : (a1 &&& 858993459) + ((a1 / 4) &&& 858993459) = pB y0 + 256 * (pB y1 + 256 * (pB y2 + 256 * pB y3)) := by
  have p0 := (byte2 y0 h0 0 (by omega)).2
  have p1 := (byte2 y1 h1 0 (by omega)).2
  have p2 := (byte2 y2 h2 0 (by omega)).2
  have p3 := (byte2 y3 h3 0 (by omega)).2
  have d4 : a1 / 4 = (pA y0 / 4 + 64 * (pA y1 % 4)) + 256 * ((pA y1 / 4 + 64 * (pA y2 % 4)) + 256 * ((pA y2 / 4 + 64 * (pA y3 % 4)) + 256 * (pA y3 / 4 + 64 * 0))) := by omega
  have c51 : (858993459 : Nat) = 51 + 256 * (51 + 256 * (51 + 256 * 51)) := by decide
  rw [d4, ea, c51, l4 p0 p1 p2 (by decide), l4 (by omega) (by omega) (by omega) (by decide), (byte2 y0 h0 _ (by omega)).1, (byte2 y1 h1 _ (by omega)).1, (byte2 y2 h2 _ (by omega)).1, (byte2 y3 h3 _ (by omega)).1]
  unfold pB
  clear d4 ea c51
  generalize (pA y0 &&& 51) = z0
  generalize (pA y1 &&& 51) = z1
  generalize (pA y2 &&& 51) = z2
  generalize (pA y3 &&& 51) = z3
  generalize (pA y0 / 4 &&& 51) = x0
  generalize (pA y1 / 4 &&& 51) = x1
  generalize (pA y2 / 4 &&& 51) = x2
  generalize (pA y3 / 4 &&& 51) = x3
  omega
theorem sw3 {z0 z1 z2 z3 k0 k1 k2 k3 a2 : Nat} (b0 : z0 / 16 ≤ 4) (b1 : z1 / 16 ≤ 4) (b2 : z2 / 16 ≤ 4) (b3 : z3 / 16 ≤ 4) (g0 : z0 < 80) (g1 : z1 < 80) (g2 : z2 < 80) (g3 : z3 < 80) (m1 : z1 % 16 ≤ 4) (m2 : z2 % 16 ≤ 4) (m3 : z3 % 16 ≤ 4) (e0 : (z0 + z0 / 16) % 16 = k0) (e1 : (z1 + z1 / 16) % 16 = k1) (e2 : (z2 + z2 / 16) % 16 = k2) (e3 : (z3 + z3 / 16) % 16 = k3) (ea : a2 = z0 + 256 * (z1 + 256 * (z2 + 256 * z3))) :
    a2 < 2 ^ 31 ∧ a2 + a2 / 16 < 2 ^ 32 ∧ ((a2 + a2 / 16) &&& 252645135) = k0 + 256 * (k1 + 256 * (k2 + 256 * k3)) := by
  have d16 : a2 / 16 = (z0 / 16 + 16 * (z1 % 16)) + 256 * ((z1 / 16 + 16 * (z2 % 16)) + 256 * ((z2 / 16 + 16 * (z3 % 16)) + 256 * (z3 / 16))) := by omega
  have ds : a2 + a2 / 16 = (z0 + z0 / 16 + 16 * (z1 % 16)) + 256 * ((z1 + z1 / 16 + 16 * (z2 % 16)) + 256 * ((z2 + z2 / 16 + 16 * (z3 % 16)) + 256 * (z3 + z3 / 16))) := by rw [d16, ea]; omega
  refine ⟨by omega, by rw [ds]; omega, ?_⟩
  rw [ds, show (252645135 : Nat) = 15 + 256 * (15 + 256 * (15 + 256 * 15)) by decide, l4 (by omega) (by omega) (by omega) (by decide), m15, m15, m15, m15, Nat.add_mul_mod_self_left, Nat.add_mul_mod_self_left, Nat.add_mul_mod_self_left, e0, e1, e2, e3]
theorem sw4 {k0 k1 k2 k3 a3 : Nat} (b0 : k0 ≤ 8) (b1 : k1 ≤ 8) (b2 : k2 ≤ 8) (b3 : k3 ≤ 8) (ea : a3 = k0 + 256 * (k1 + 256 * (k2 + 256 * k3))) : a3 + a3 / 256 < 2 ^ 31 ∧ (a3 + a3 / 256) + (a3 + a3 / 256) / 65536 < 2 ^ 31 ∧ (((a3 + a3 / 256) + (a3 + a3 / 256) / 65536) &&& 63) = k0 + k1 + k2 + k3 := by
  have f1 : a3 / 256 = k1 + 256 * (k2 + 256 * k3) := by omega
  have f2 : a3 + a3 / 256 = (k0 + k1) + 256 * ((k1 + k2) + 256 * ((k2 + k3) + 256 * k3)) := by omega
  clear f1
  generalize a3 + a3 / 256 = a4 at *
  have f3 : a4 / 65536 = (k2 + k3) + 256 * k3 := by omega
  have f4 : a4 + a4 / 65536 = (k0 + k1 + k2 + k3) + 256 * ((k1 + k2 + k3) + 256 * ((k2 + k3) + 256 * k3)) := by omega
  rw [show ((a4 + a4 / 65536) &&& 63) = (a4 + a4 / 65536) % 64 from Nat.and_two_pow_sub_one_eq_mod _ 6]
  omega
def NN (x : Int32) : Nat := x.toBitVec.toNat
theorem NN_lt (x : Int32) : NN x < 2 ^ 32 := x.toBitVec.isLt
theorem NN_and (x y : Int32) : NN (x &&& y) = (NN x &&& NN y) := by unfold NN; rw [Int32.toBitVec_and, BitVec.toNat_and]
theorem NN_add {x y : Int32} (h : NN x + NN y < 2 ^ 32) : NN (x + y) = NN x + NN y := by unfold NN at *; rw [Int32.toBitVec_add, BitVec.toNat_add]; exact Nat.mod_eq_of_lt h
theorem NN_sub {x y : Int32} (h : NN y ≤ NN x) : NN (x - y) = NN x - NN y := by
  have := NN_lt x
  unfold NN at *
  rw [Int32.toBitVec_sub, BitVec.toNat_sub]
  omega
theorem NN_ush (x y : Int32) (k : Nat) (hk : (y.toUInt32 &&& Int32.toUInt32 31).toNat % 32 = k) : NN ((x.toUInt32 >>> (y.toUInt32 &&& Int32.toUInt32 31)).toInt32) = NN x / 2 ^ k := by
  show (x.toUInt32 >>> (y.toUInt32 &&& Int32.toUInt32 31)).toNat = _
  rw [UInt32.toNat_shiftRight, hk, Nat.shiftRight_eq_div_pow]
  rfl
theorem NN_inj {x y : Int32} (h : NN x = NN y) : x = y := Int32.toBitVec_inj.mp (BitVec.eq_of_toNat_eq h)
theorem NN_nI {a : Nat} (h : a < 2 ^ 32) : NN (nI a) = a := by
  show (BitVec.ofNat 32 a).toNat = a
  rw [BitVec.toNat_ofNat]
  exact Nat.mod_eq_of_lt h
theorem cnt32 (x : Int32) {y0 y1 y2 y3 : Nat} (h0 : y0 < 256) (h1 : y1 < 256) (h2 : y2 < 256) (h3 : y3 < 256) (hu : NN x = y0 + 256 * (y1 + 256 * (y2 + 256 * y3))) : cnt (fun i => btB x i) 32 = c8 y0 + c8 y1 + c8 y2 + c8 y3 := by
  have e : ∀ i, i < 32 → btB x i = (NN x).testBit i := fun i hi => by rw [btB_bt hi]; rfl
  have s : ∀ (u b a j : Nat), b < 256 → u = b + 256 * a → u.testBit (8 + j) = a.testBit j := fun u b a j hb hu => by
    rw [Nat.add_comm 8 j, Nat.testBit_add, show u / 2 ^ 8 = a by rw [hu]; omega]
  have l : ∀ (u b a j : Nat), b < 256 → u = b + 256 * a → j < 8 → u.testBit j = b.testBit j := fun u b a j hb hu hj => by
    have : b = u % 2 ^ 8 := by rw [hu]; omega
    rw [this, Nat.testBit_mod_two_pow]
    simp [hj]
  rw [cnt_congr e]
  generalize NN x = u at *
  rw [show (32 : Nat) = 8 + (8 + (8 + 8)) by decide, cnt_add, cnt_add, cnt_add]
  have t1 : ∀ j, u.testBit (8 + j) = (y1 + 256 * (y2 + 256 * y3)).testBit j := fun j => s u y0 _ j h0 hu
  have t2 : ∀ j, (y1 + 256 * (y2 + 256 * y3)).testBit (8 + j) = (y2 + 256 * y3).testBit j := fun j => s _ y1 _ j h1 rfl
  have t3 : ∀ j, (y2 + 256 * y3).testBit (8 + j) = y3.testBit j := fun j => s _ y2 _ j h2 rfl
  rw [show cnt (fun i => u.testBit i) 8 = c8 y0 from cnt_congr (fun i hi => l u y0 _ i h0 hu hi), show cnt (fun i => u.testBit (8 + i)) 8 = c8 y1 from cnt_congr (fun i hi => by rw [t1]; exact l _ y1 _ i h1 rfl hi), show cnt (fun i => u.testBit (8 + (8 + i))) 8 = c8 y2 from cnt_congr (fun i hi => by rw [t1, t2]; exact l _ y2 _ i h2 rfl hi), show cnt (fun i => u.testBit (8 + (8 + (8 + i)))) 8 = c8 y3 from cnt_congr (fun i hi => by rw [t1, t2, t3])]
  omega
section CLASS
variable {dp : Nat}
theorem j_bitCount {h : List AC} (x : Int32) : Mt (dp + 1) 0 0 mJ_bitCount [.int x] h (RI (nI (cnt (fun i => btB x i) 32)) h) := by
  refine Mt.of (by decide +kernel) rfl (Nat.le_of_ble_eq_true rfl) rfl ?_
  obtain ⟨y0, y1, y2, y3, h0, h1, h2, h3, hu⟩ : ∃ y0 y1 y2 y3, y0 < 256 ∧ y1 < 256 ∧ y2 < 256 ∧ y3 < 256 ∧ NN x = y0 + 256 * (y1 + 256 * (y2 + 256 * y3)) := by
    have := NN_lt x
    exact ⟨NN x % 256, NN x / 256 % 256, NN x / 65536 % 256, NN x / 16777216, by omega, by omega, by omega, by omega, by omega⟩
  obtain ⟨a1, a2⟩ := sw1 h0 h1 h2 h3 hu
  obtain ⟨q01, q02, q03, q04, q05⟩ := byte3 y0 h0
  obtain ⟨q11, q12, q13, q14, q15⟩ := byte3 y1 h1
  obtain ⟨q21, q22, q23, q24, q25⟩ := byte3 y2 h2
  obtain ⟨q31, q32, q33, q34, q35⟩ := byte3 y3 h3
  have c1 : NN 1431655765 = 1431655765 := by decide +kernel
  have c2 : NN 858993459 = 858993459 := by decide +kernel
  have c3 : NN 252645135 = 252645135 := by decide +kernel
  have c4 : NN (nI 63) = 63 := by decide +kernel
  refine V.ildn 0 dJ_bitCount_0 rfl rfl ?_
  refine V.ildn 0 dJ_bitCount_1 rfl rfl ?_
  refine V.iconst (nI 1) dJ_bitCount_2 (by decide +kernel) ?_
  refine V.iushr _ dJ_bitCount_3 rfl ?_
  generalize hs1 : (x.toUInt32 >>> ((nI 1).toUInt32 &&& Int32.toUInt32 31)).toInt32 = s1
  have n1 : NN s1 = NN x / 2 := by rw [← hs1, NN_ush x (nI 1) 1 (by decide +kernel)]
  refine V.ldcw dJ_bitCount_4 c_J_265 ?_
  refine V.iand dJ_bitCount_7 ?_
  refine V.isub dJ_bitCount_8 ?_
  have nA : NN (x - (s1 &&& 1431655765)) = pA y0 + 256 * (pA y1 + 256 * (pA y2 + 256 * pA y3)) := by rw [NN_sub (by rw [NN_and, n1, c1]; exact a1), NN_and, n1, c1]; exact a2
  generalize x - (s1 &&& 1431655765) = xA at nA ⊢
  refine V.istn 0 dJ_bitCount_9 rfl (Nat.le_of_ble_eq_true rfl) ?_
  refine V.ildn 0 dJ_bitCount_10 rfl rfl ?_
  refine V.ldcw dJ_bitCount_11 c_J_266 ?_
  refine V.iand dJ_bitCount_14 ?_
  refine V.ildn 0 dJ_bitCount_15 rfl rfl ?_
  refine V.iconst (nI 2) dJ_bitCount_16 (by decide +kernel) ?_
  refine V.iushr _ dJ_bitCount_17 rfl ?_
  generalize hs2 : (xA.toUInt32 >>> ((nI 2).toUInt32 &&& Int32.toUInt32 31)).toInt32 = s2
  have n2 : NN s2 = NN xA / 4 := by rw [← hs2, NN_ush xA (nI 2) 2 (by decide +kernel)]
  refine V.ldcw dJ_bitCount_18 c_J_266 ?_
  refine V.iand dJ_bitCount_21 ?_
  refine V.iadd dJ_bitCount_22 ?_
  have w2 := sw2 h0 h1 h2 h3 nA
  obtain ⟨w3, w4, w5⟩ := sw3 q01 q11 q21 q31 q03 q13 q23 q33 q12 q22 q32 q04 q14 q24 q34 w2
  have nB : NN ((xA &&& 858993459) + (s2 &&& 858993459)) = pB y0 + 256 * (pB y1 + 256 * (pB y2 + 256 * pB y3)) := by rw [NN_add (by rw [NN_and, NN_and, n2, c2]; omega), NN_and, NN_and, n2, c2]; exact w2
  generalize (xA &&& 858993459) + (s2 &&& 858993459) = xB at nB ⊢
  refine V.istn 0 dJ_bitCount_23 rfl (Nat.le_of_ble_eq_true rfl) ?_
  refine V.ildn 0 dJ_bitCount_24 rfl rfl ?_
  refine V.ildn 0 dJ_bitCount_25 rfl rfl ?_
  refine V.iconst (nI 4) dJ_bitCount_26 (by decide +kernel) ?_
  refine V.iushr _ dJ_bitCount_27 rfl ?_
  generalize hs3 : (xB.toUInt32 >>> ((nI 4).toUInt32 &&& Int32.toUInt32 31)).toInt32 = s3
  have n3 : NN s3 = NN xB / 16 := by rw [← hs3, NN_ush xB (nI 4) 4 (by decide +kernel)]
  refine V.iadd dJ_bitCount_28 ?_
  refine V.ldcw dJ_bitCount_29 c_J_267 ?_
  refine V.iand dJ_bitCount_32 ?_
  rw [w2] at w3 w4 w5
  have nC : NN ((xB + s3) &&& 252645135) = c8 y0 + 256 * (c8 y1 + 256 * (c8 y2 + 256 * c8 y3)) := by rw [NN_and, NN_add (by rw [n3, nB]; exact w4), n3, nB, c3]; exact w5
  generalize (xB + s3) &&& 252645135 = xC at nC ⊢
  obtain ⟨v1, v2, v3⟩ := sw4 q05 q15 q25 q35 nC
  refine V.istn 0 dJ_bitCount_33 rfl (Nat.le_of_ble_eq_true rfl) ?_
  refine V.ildn 0 dJ_bitCount_34 rfl rfl ?_
  refine V.ildn 0 dJ_bitCount_35 rfl rfl ?_
  refine V.bipush (nI 8) dJ_bitCount_36 (by decide +kernel) ?_
  refine V.iushr _ dJ_bitCount_38 rfl ?_
  generalize hs4 : (xC.toUInt32 >>> ((nI 8).toUInt32 &&& Int32.toUInt32 31)).toInt32 = s4
  have n4 : NN s4 = NN xC / 256 := by rw [← hs4, NN_ush xC (nI 8) 8 (by decide +kernel)]
  refine V.iadd dJ_bitCount_39 ?_
  have nD : NN (xC + s4) = NN xC + NN xC / 256 := by rw [NN_add (by rw [n4]; omega), n4]
  generalize xC + s4 = xD at nD ⊢
  refine V.istn 0 dJ_bitCount_40 rfl (Nat.le_of_ble_eq_true rfl) ?_
  refine V.ildn 0 dJ_bitCount_41 rfl rfl ?_
  refine V.ildn 0 dJ_bitCount_42 rfl rfl ?_
  refine V.bipush (nI 16) dJ_bitCount_43 (by decide +kernel) ?_
  refine V.iushr _ dJ_bitCount_45 rfl ?_
  generalize hs5 : (xD.toUInt32 >>> ((nI 16).toUInt32 &&& Int32.toUInt32 31)).toInt32 = s5
  have n5 : NN s5 = NN xD / 65536 := by rw [← hs5, NN_ush xD (nI 16) 16 (by decide +kernel)]
  refine V.iadd dJ_bitCount_46 ?_
  have nE : NN (xD + s5) = NN xD + NN xD / 65536 := by rw [NN_add (by rw [n5, nD]; omega), n5]
  generalize xD + s5 = xE at nE ⊢
  refine V.istn 0 dJ_bitCount_47 rfl (Nat.le_of_ble_eq_true rfl) ?_
  refine V.ildn 0 dJ_bitCount_48 rfl rfl ?_
  refine V.bipush (nI 63) dJ_bitCount_49 (by decide +kernel) ?_
  refine V.iand dJ_bitCount_51 ?_
  exact V.ireturn dJ_bitCount_52 rfl (by first | rfl | decide +kernel) (⟨congrArg (fun x => some (Value.int x)) (NN_inj (by rw [NN_and, c4, nE, nD, v3, cnt32 x h0 h1 h2 h3 hu, NN_nI (by omega)])), rfl⟩)
end CLASS
