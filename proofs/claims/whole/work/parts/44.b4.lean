/-! how many bits a long has -/
def Mk (c : Nat) : Nat → Nat
  | 0 => 0
  | k + 1 => 256 * Mk c k + c
theorem Mk_lt {c : Nat} (h : c < 256) : ∀ k, Mk c k < 256 ^ k
  | 0 => by show 0 < 1; decide
  | k + 1 => by have := Mk_lt h k; rw [Mk, Nat.pow_succ]; omega
/-- a mask takes a shifted number byte by byte -/
theorem Mk_sh {s c : Nat} (hs : s < 8) (hc : c < 2 ^ (8 - s)) (k a m : Nat) (ha : a < 256) : ((256 * m + a) / 2 ^ s) &&& (256 * Mk c k + c) = 256 * ((m / 2 ^ s) &&& Mk c k) + ((a / 2 ^ s) &&& c) := by
  have hc8 : c < 256 := Nat.lt_of_lt_of_le hc (by rw [show 256 = 2 ^ 8 from rfl]; exact Nat.pow_le_pow_right (by decide) (by omega))
  have hA : (a / 2 ^ s) &&& c < 2 ^ 8 := Nat.lt_of_le_of_lt Nat.and_le_right hc8
  apply Nat.eq_of_testBit_eq
  intro i
  rw [Nat.testBit_and, Nat.testBit_div_two_pow, show 256 = 2 ^ 8 from rfl, Nat.testBit_two_pow_mul_add _ (by omega), Nat.testBit_two_pow_mul_add _ hc8, Nat.testBit_two_pow_mul_add _ hA, Nat.testBit_and, Nat.testBit_and, Nat.testBit_div_two_pow, Nat.testBit_div_two_pow]
  by_cases h8 : i < 8
  · rw [if_pos h8, if_pos h8]
    by_cases h9 : i + s < 8
    · rw [if_pos h9]
    · have : c.testBit i = false := Nat.testBit_lt_two_pow (Nat.lt_of_lt_of_le hc (Nat.pow_le_pow_right (by decide) (by omega)))
      rw [this, Bool.and_false, Bool.and_false]
  · rw [if_neg h8, if_neg h8, if_neg (by omega), show i + s - 8 = i - 8 + s from by omega]
def s1 (n : Nat) : Nat := n - ((n / 2) &&& 85)
def s2 (n : Nat) : Nat := (n &&& 51) + ((n / 4) &&& 51)
def s3 (n : Nat) : Nat := (n + n / 16) % 16
def S1 (k n : Nat) : Nat := n - ((n / 2) &&& Mk 85 k)
def S2 (k n : Nat) : Nat := (n &&& Mk 51 k) + ((n / 4) &&& Mk 51 k)
def S3 (k n : Nat) : Nat := (n + n / 16) &&& Mk 15 k
theorem S1_s (k a m : Nat) (ha : a < 256) : S1 (k + 1) (256 * m + a) = 256 * S1 k m + s1 a := by
  have h := Mk_sh (s := 1) (c := 85) (by decide) (by decide) k a m ha
  have h1 : (m / 2) &&& Mk 85 k ≤ m / 2 := Nat.and_le_left
  have h2 : (a / 2) &&& 85 ≤ a / 2 := Nat.and_le_left
  unfold S1 s1
  rw [Mk, show (256 * m + a) / 2 = (256 * m + a) / 2 ^ 1 from rfl, h]
  show _ - (256 * ((m / 2) &&& Mk 85 k) + ((a / 2) &&& 85)) = _
  generalize (m / 2) &&& Mk 85 k = x at *
  generalize (a / 2) &&& 85 = y at *
  omega
theorem S2_s (k a m : Nat) (ha : a < 256) : S2 (k + 1) (256 * m + a) = 256 * S2 k m + s2 a := by
  have h := Mk_sh (s := 2) (c := 51) (by decide) (by decide) k a m ha
  have h0 := Mk_sh (s := 0) (c := 51) (by decide) (by decide) k a m ha
  rw [Nat.pow_zero, Nat.div_one, Nat.div_one, Nat.div_one] at h0
  unfold S2 s2
  rw [Mk, h0, show (256 * m + a) / 4 = (256 * m + a) / 2 ^ 2 from rfl, h]
  show _ + (256 * ((m / 4) &&& Mk 51 k) + ((a / 4) &&& 51)) = _
  omega
theorem S3_s (k a m : Nat) (ha : a + a / 16 + 16 * (m % 16) < 256) : S3 (k + 1) (256 * m + a) = 256 * S3 k m + s3 a := by
  have e : 256 * m + a + (256 * m + a) / 16 = 256 * (m + m / 16) + (a + a / 16 + 16 * (m % 16)) := by omega
  have h0 := Mk_sh (s := 0) (c := 15) (by decide) (by decide) k _ (m + m / 16) ha
  rw [Nat.pow_zero, Nat.div_one, Nat.div_one, Nat.div_one] at h0
  unfold S3 s3
  rw [Mk, e, h0]
  have : (a + a / 16 + 16 * (m % 16)) &&& 15 = (a + a / 16 + 16 * (m % 16)) % 16 := Nat.and_two_pow_sub_one_eq_mod _ 4
  rw [this]
  omega
theorem sb_all : ∀ b, b < 256 → s1 b < 256 ∧ s2 (s1 b) % 16 ≤ 4 ∧ s2 (s1 b) ≤ 68 ∧ s3 (s2 (s1 b)) = fb_ct (fun i => b.testBit i) 8 := by decide +kernel
/-- the bytes of a number, their bits counted, put together again -/
def pB (n : Nat) : Nat → Nat
  | 0 => 0
  | k + 1 => 256 * pB (n / 256) k + fb_ct (fun i => (n % 256).testBit i) 8
def p2 (n : Nat) : Nat → Nat
  | 0 => 0
  | k + 1 => 256 * p2 (n / 256) k + s2 (s1 (n % 256))
def p1 (n : Nat) : Nat → Nat
  | 0 => 0
  | k + 1 => 256 * p1 (n / 256) k + s1 (n % 256)
theorem p1_S : ∀ k n, n < 256 ^ k → S1 k n = p1 n k
  | 0, n, h => by have : n = 0 := by rw [Nat.pow_zero] at h; omega
                  subst this; rfl
  | k + 1, n, h => by
    have e : n = 256 * (n / 256) + n % 256 := (Nat.div_add_mod n 256).symm
    rw [Nat.pow_succ] at h
    rw [p1, ← p1_S k (n / 256) (by omega), ← S1_s k _ _ (Nat.mod_lt _ (by decide)), ← e]
theorem p2_S : ∀ k n, S2 k (p1 n k) = p2 n k
  | 0, n => by show (0 &&& 0) + ((0 / 4) &&& 0) = 0; rfl
  | k + 1, n => by
    rw [p1, p2, S2_s k _ _ (sb_all _ (Nat.mod_lt _ (by decide))).1, p2_S k]
theorem p2_16 : ∀ k n, p2 n k % 16 ≤ 4
  | 0, n => by show 0 % 16 ≤ 4; decide
  | k + 1, n => by
    have := (sb_all (n % 256) (Nat.mod_lt _ (by decide))).2.1
    rw [p2]
    omega
theorem p3_S : ∀ k n, S3 k (p2 n k) = pB n k
  | 0, n => by show ((0 + 0 / 16) &&& 0) = 0; rfl
  | k + 1, n => by
    obtain ⟨h1, h2, h3, h4⟩ := sb_all (n % 256) (Nat.mod_lt _ (by decide))
    have h5 := p2_16 k (n / 256)
    rw [p2, pB, S3_s k _ _ (by omega), p3_S k, h4]
theorem S1_lt {n : Nat} (h : n < 18446744073709551616) : S1 8 n < 18446744073709551616 := by unfold S1; omega
theorem p2_lt : ∀ k n, p2 n k < 256 ^ k
  | 0, n => by show 0 < 1; decide
  | k + 1, n => by
    have := p2_lt k (n / 256)
    have := (sb_all (n % 256) (Nat.mod_lt _ (by decide))).2.2.1
    rw [p2, Nat.pow_succ]
    omega
theorem p1_lt : ∀ k n, p1 n k < 256 ^ k
  | 0, n => by show 0 < 1; decide
  | k + 1, n => by
    have := p1_lt k (n / 256)
    have := (sb_all (n % 256) (Nat.mod_lt _ (by decide))).1
    rw [p1, Nat.pow_succ]
    omega
theorem uN_and (x y : Int64) : uN (x &&& y) = uN x &&& uN y := by
  show (x.toUInt64 &&& y.toUInt64).toNat = _
  rw [UInt64.toNat_and]; rfl
theorem uN_sub {x y : Int64} (h : uN y ≤ uN x) : uN (x - y) = uN x - uN y := by
  show (x.toUInt64 - y.toUInt64).toNat = _
  rw [UInt64.toNat_sub_of_le]
  · rfl
  · exact UInt64.le_iff_toNat_le.mpr h
theorem p2_le : ∀ k n, 255 * p2 n k + 68 ≤ 68 * 256 ^ k
  | 0, n => by show 255 * 0 + 68 ≤ 68 * 1; decide
  | k + 1, n => by
    have := p2_le k (n / 256)
    have := (sb_all (n % 256) (Nat.mod_lt _ (by decide))).2.2.1
    rw [p2, Nat.pow_succ]
    omega
theorem pB_le : ∀ k n, 255 * pB n k + 8 ≤ 8 * 256 ^ k
  | 0, n => by show 255 * 0 + 8 ≤ 8 * 1; decide
  | k + 1, n => by
    have := pB_le k (n / 256)
    have := fb_ct_le (fun i => (n % 256).testBit i) 8
    rw [pB, Nat.pow_succ]
    omega
theorem uN_m1 : uN 6148914691236517205 = Mk 85 8 := by decide +kernel
theorem uN_m2 : uN 3689348814741910323 = Mk 51 8 := by decide +kernel
theorem uN_m3 : uN 1085102592571150095 = Mk 15 8 := by decide +kernel
theorem uN_s1 (x : Int64) : uN (x.toUInt64 >>> ((1 : Int32).toInt64.toUInt64 &&& Int64.toUInt64 63)).toInt64 = uN x / 2 := uN_sk x (k := 1) (by decide)
theorem uN_s2 (x : Int64) : uN (x.toUInt64 >>> ((2 : Int32).toInt64.toUInt64 &&& Int64.toUInt64 63)).toInt64 = uN x / 4 := uN_sk x (k := 2) (by decide)
theorem uN_s4 (x : Int64) : uN (x.toUInt64 >>> ((4 : Int32).toInt64.toUInt64 &&& Int64.toUInt64 63)).toInt64 = uN x / 16 := uN_sk x (k := 4) (by decide)
theorem uN_s8 (x : Int64) : uN (x.toUInt64 >>> ((8 : Int32).toInt64.toUInt64 &&& Int64.toUInt64 63)).toInt64 = uN x / 256 := uN_sk x (k := 8) (by decide)
theorem uN_s16 (x : Int64) : uN (x.toUInt64 >>> ((16 : Int32).toInt64.toUInt64 &&& Int64.toUInt64 63)).toInt64 = uN x / 65536 := uN_sk x (k := 16) (by decide)
theorem low7 (x : Int64) : x.toInt32 &&& 127 = nI (uN x % 128) := by
  rw [pk_and x.toInt32 7 (by decide)]
  congr 1
  have e : x.toInt32.toBitVec = x.toBitVec.signExtend 32 := Int64.toBitVec_toInt32 x
  rw [e, BitVec.signExtend_eq_setWidth_of_le _ (by decide), BitVec.toNat_setWidth]
  show x.toBitVec.toNat % 4294967296 % 128 = x.toBitVec.toNat % 128
  omega
def lb1 (x0 : Int64) : Int64 := x0 - ((x0.toUInt64 >>> ((1 : Int32).toInt64.toUInt64 &&& Int64.toUInt64 63)).toInt64 &&& 6148914691236517205)
def lb2 (x1 : Int64) : Int64 := (x1 &&& 3689348814741910323) + ((x1.toUInt64 >>> ((2 : Int32).toInt64.toUInt64 &&& Int64.toUInt64 63)).toInt64 &&& 3689348814741910323)
def lb3 (x2 : Int64) : Int64 := (x2 + (x2.toUInt64 >>> ((4 : Int32).toInt64.toUInt64 &&& Int64.toUInt64 63)).toInt64) &&& 1085102592571150095
def lb4 (x3 : Int64) : Int64 := x3 + (x3.toUInt64 >>> ((8 : Int32).toInt64.toUInt64 &&& Int64.toUInt64 63)).toInt64
def lb5 (x4 : Int64) : Int64 := x4 + (x4.toUInt64 >>> ((16 : Int32).toInt64.toUInt64 &&& Int64.toUInt64 63)).toInt64
def lb6 (x5 : Int64) : Int64 := x5 + (x5.toUInt64 >>> ((32 : Int32).toInt64.toUInt64 &&& Int64.toUInt64 63)).toInt64
theorem lbc_6 (x : Int64) : lbc x = (lb6 (lb5 (lb4 (lb3 (lb2 (lb1 x)))))).toInt32 &&& 127 := rfl
theorem p256 : (256 : Nat) ^ 8 = 18446744073709551616 := by decide
theorem u_lb1 (x : Int64) : uN (lb1 x) = p1 (uN x) 8 := by
  have h := uN_lt x
  unfold lb1
  have e : uN ((x.toUInt64 >>> ((1 : Int32).toInt64.toUInt64 &&& Int64.toUInt64 63)).toInt64 &&& 6148914691236517205) = (uN x / 2) &&& Mk 85 8 := by rw [uN_and, uN_s1, uN_m1]
  rw [uN_sub, e]
  · exact p1_S 8 (uN x) (by rw [p256]; exact h)
  · rw [e]; exact Nat.le_trans Nat.and_le_left (Nat.div_le_self _ _)
theorem u_lb2 (x : Int64) : uN (lb2 (lb1 x)) = p2 (uN x) 8 := by
  have h := p2_lt 8 (uN x)
  rw [p256] at h
  unfold lb2
  rw [uN_add, uN_and, uN_and, uN_s2, uN_m2, u_lb1]
  have e := p2_S 8 (uN x)
  unfold S2 at e
  rw [e]
  exact Nat.mod_eq_of_lt h
theorem u_lb3 (x : Int64) : uN (lb3 (lb2 (lb1 x))) = pB (uN x) 8 := by
  have h := p2_le 8 (uN x)
  rw [p256] at h
  unfold lb3
  rw [uN_and, uN_add, uN_s4, uN_m3, u_lb2, Nat.mod_eq_of_lt (by omega)]
  exact p3_S 8 (uN x)
theorem lbc_n (x : Int64) : lbc x = nI ((pB (uN x) 8 + pB (uN x) 8 / 256 + (pB (uN x) 8 + pB (uN x) 8 / 256) / 65536 + (pB (uN x) 8 + pB (uN x) 8 / 256 + (pB (uN x) 8 + pB (uN x) 8 / 256) / 65536) / 4294967296) % 128) := by
  have h := pB_le 8 (uN x)
  rw [p256] at h
  rw [lbc_6, low7]
  unfold lb6 lb5 lb4
  congr 2
  rw [uN_add, uN_s32, uN_add, uN_s16, uN_add, uN_s8, u_lb3]
  generalize pB (uN x) 8 = P at *
  rw [Nat.mod_eq_of_lt (a := P + P / 256) (by omega)]
  rw [Nat.mod_eq_of_lt (a := P + P / 256 + (P + P / 256) / 65536) (by omega)]
  rw [Nat.mod_eq_of_lt (by omega)]
theorem dvL {A k Y R : Nat} (h : R < k) (e : A = k * Y + R) : A / k = Y := by
  subst e
  rw [Nat.mul_add_div (by omega), Nat.div_eq_of_lt h]; rfl
theorem li1 (c0 c1 c2 c3 c4 c5 c6 c7 : Nat) : c0 + 256 * c1 + 65536 * c2 + 16777216 * c3 + 4294967296 * c4 + 1099511627776 * c5 + 281474976710656 * c6 + 72057594037927936 * c7 = 256 * (c1 + 256 * c2 + 65536 * c3 + 16777216 * c4 + 4294967296 * c5 + 1099511627776 * c6 + 281474976710656 * c7) + (c0) := by omega
theorem li2 (c0 c1 c2 c3 c4 c5 c6 c7 : Nat) : c0 + 256 * c1 + 65536 * c2 + 16777216 * c3 + 4294967296 * c4 + 1099511627776 * c5 + 281474976710656 * c6 + 72057594037927936 * c7 + (c1 + 256 * c2 + 65536 * c3 + 16777216 * c4 + 4294967296 * c5 + 1099511627776 * c6 + 281474976710656 * c7) = 65536 * (c2 + 257 * c3 + 65792 * c4 + 16842752 * c5 + 4311744512 * c6 + 1103806595072 * c7) + (c0 + 257 * c1 + 256 * c2) := by omega
theorem li3 (c0 c1 c2 c3 c4 c5 c6 c7 : Nat) : c0 + 256 * c1 + 65536 * c2 + 16777216 * c3 + 4294967296 * c4 + 1099511627776 * c5 + 281474976710656 * c6 + 72057594037927936 * c7 + (c1 + 256 * c2 + 65536 * c3 + 16777216 * c4 + 4294967296 * c5 + 1099511627776 * c6 + 281474976710656 * c7) + (c2 + 257 * c3 + 65792 * c4 + 16842752 * c5 + 4311744512 * c6 + 1103806595072 * c7) = 4294967296 * (c4 + 257 * c5 + 65793 * c6 + 16843009 * c7) + (c0 + 257 * c1 + 65793 * c2 + 16843009 * c3 + 16843008 * c4 + 16842752 * c5 + 16777216 * c6) := by omega
theorem li4 (c0 c1 c2 c3 c4 c5 c6 c7 : Nat) : c0 + 256 * c1 + 65536 * c2 + 16777216 * c3 + 4294967296 * c4 + 1099511627776 * c5 + 281474976710656 * c6 + 72057594037927936 * c7 + (c1 + 256 * c2 + 65536 * c3 + 16777216 * c4 + 4294967296 * c5 + 1099511627776 * c6 + 281474976710656 * c7) + (c2 + 257 * c3 + 65792 * c4 + 16842752 * c5 + 4311744512 * c6 + 1103806595072 * c7) + (c4 + 257 * c5 + 65793 * c6 + 16843009 * c7) = 128 * (2 * c1 + 514 * c2 + 131586 * c3 + 33686018 * c4 + 8623620610 * c5 + 2207646876162 * c6 + 565157600297474 * c7) + (c0 + c1 + c2 + c3 + c4 + c5 + c6 + c7) := by omega
theorem fold8 {c0 c1 c2 c3 c4 c5 c6 c7 P : Nat} (h0 : c0 ≤ 8) (h1 : c1 ≤ 8) (h2 : c2 ≤ 8) (h3 : c3 ≤ 8) (h4 : c4 ≤ 8) (h5 : c5 ≤ 8) (h6 : c6 ≤ 8) (h7 : c7 ≤ 8) (hP : P = c0 + 256 * c1 + 65536 * c2 + 16777216 * c3 + 4294967296 * c4 + 1099511627776 * c5 + 281474976710656 * c6 + 72057594037927936 * c7) : (P + P / 256 + (P + P / 256) / 65536 + (P + P / 256 + (P + P / 256) / 65536) / 4294967296) % 128 = c0 + c1 + c2 + c3 + c4 + c5 + c6 + c7 := by
  have r1 : c0 < 256 := by omega
  have r2 : c0 + 257 * c1 + 256 * c2 < 65536 := by omega
  have r3 : c0 + 257 * c1 + 65793 * c2 + 16843009 * c3 + 16843008 * c4 + 16842752 * c5 + 16777216 * c6 < 4294967296 := by omega
  have r4 : c0 + c1 + c2 + c3 + c4 + c5 + c6 + c7 < 128 := by omega
  rw [hP, dvL r1 (li1 c0 c1 c2 c3 c4 c5 c6 c7), dvL r2 (li2 c0 c1 c2 c3 c4 c5 c6 c7), dvL r3 (li3 c0 c1 c2 c3 c4 c5 c6 c7), li4 c0 c1 c2 c3 c4 c5 c6 c7, Nat.mul_add_mod, Nat.mod_eq_of_lt r4]
theorem ct_split (p : Nat → Bool) (k : Nat) : fb_ct p (8 * (k + 1)) = fb_ct p 8 + fb_ct (fun i => p (8 + i)) (8 * k) := by rw [show 8 * (k + 1) = 8 + 8 * k from by omega]; exact fb_ct_split p 8 (8 * k)
/-- the counted bytes, added -/
def pS (n : Nat) : Nat → Nat
  | 0 => 0
  | k + 1 => fb_ct (fun i => (n % 256).testBit i) 8 + pS (n / 256) k
theorem pS_ct : ∀ k n, pS n k = fb_ct (fun i => n.testBit i) (8 * k)
  | 0, n => rfl
  | k + 1, n => by
    rw [pS, pS_ct k, ct_split]
    congr 1
    · exact fb_ct_cong fun i hi => by rw [show 256 = 2 ^ 8 from rfl, Nat.testBit_mod_two_pow, decide_eq_true hi]; rfl
    · exact fb_ct_cong fun i hi => by rw [show 256 = 2 ^ 8 from rfl, Nat.testBit_div_two_pow, Nat.add_comm]
theorem wb_u (x : Int64) (i : Nat) : wb x i = (uN x).testBit i := rfl
theorem lbc_ct (x : Int64) : lbc x = nI (fb_ct (wb x) 64) := by
  rw [lbc_n, show fb_ct (wb x) 64 = pS (uN x) 8 from (pS_ct 8 (uN x)).symm]
  congr 1
  have L : ∀ n : Nat, fb_ct (fun i => n.testBit i) 8 ≤ 8 := fun n => fb_ct_le _ 8
  refine (fold8 (L (uN x % 256)) (L (uN x / 256 % 256)) (L (uN x / 256 / 256 % 256)) (L (uN x / 256 / 256 / 256 % 256)) (L (uN x / 256 / 256 / 256 / 256 % 256)) (L (uN x / 256 / 256 / 256 / 256 / 256 % 256)) (L (uN x / 256 / 256 / 256 / 256 / 256 / 256 % 256)) (L (uN x / 256 / 256 / 256 / 256 / 256 / 256 / 256 % 256)) ?_).trans ?_
  · simp only [pB]; clear L; omega
  · simp only [pS]; clear L; omega
theorem lbc_mono {x y : Int64} (h : ∀ i, i < 64 → wb x i = true → wb y i = true) : lbc x ≤ lbc y := by
  rw [lbc_ct, lbc_ct]
  exact nI_le (fb_ct_sub h) (by have := fb_ct_le (wb y) 64; omega)
theorem lbc_0 (x : Int64) : ¬ lbc x < 0 := by
  rw [lbc_ct]
  exact nI_pos (by have := fb_ct_le (wb x) 64; omega)
