/-! a long's bits, counted -/
theorem dgS_odd (b : Nat → Nat) : ∀ m, dgS 1 b (2 * m) = dgS 1 (evn b) (2 * m) + 2 * dgS 1 (evn (fun j => b (j + 1))) (2 * m)
  | 0 => rfl
  | m + 1 => by
    have e : 2 * (m + 1) = 2 * m + 1 + 1 := by omega
    have i := dgS_odd b m
    rw [e, dgS, dgS, i, dgS, dgS, dgS, dgS]
    have z1 : evn b (2 * m + 1) = 0 := if_neg (by omega)
    have z2 : evn b (2 * m) = b (2 * m) := if_pos (by omega)
    have z3 : evn (fun j => b (j + 1)) (2 * m + 1) = 0 := if_neg (by omega)
    have z4 : evn (fun j => b (j + 1)) (2 * m) = b (2 * m + 1) := if_pos (by omega)
    have k : b (2 * m + 1) * (2 ^ (2 * m) * 2) = 2 * (b (2 * m + 1) * 2 ^ (2 * m)) := by rw [Nat.mul_comm (2 ^ (2 * m)) 2, Nat.mul_left_comm]
    rw [z1, z2, z3, z4, Nat.one_mul, Nat.one_mul, Nat.pow_succ, k, Nat.zero_mul]
    omega
theorem dgS_low {w : Nat} {a : Nat → Nat} (h : ∀ j, a j < 2 ^ w) : ∀ m, dgS w a (m + 1) % 2 ^ w = a 0
  | 0 => by
    show (0 + a 0 * 2 ^ (w * 0)) % 2 ^ w = a 0
    rw [Nat.mul_zero, Nat.pow_zero, Nat.mul_one, Nat.zero_add, Nat.mod_eq_of_lt (h 0)]
  | m + 1 => by
    have e : w * (m + 1) = w + w * m := by rw [Nat.mul_add, Nat.mul_one, Nat.add_comm]
    rw [dgS, e, Nat.pow_add, Nat.mul_left_comm, Nat.add_mul_mod_self_left, dgS_low h m]
def p2 (a : Nat → Nat) : Nat → Nat := fun j => a (2 * j) + a (2 * j + 1)
theorem sum_p2 (a : Nat → Nat) : ∀ m, sumN (p2 a) m = sumN a (2 * m)
  | 0 => rfl
  | m + 1 => by
    have e : 2 * (m + 1) = 2 * m + 1 + 1 := by omega
    rw [e, sumN, sumN, sumN, sum_p2 a m]
    show sumN a (2 * m) + (a (2 * m) + a (2 * m + 1)) = _
    omega
theorem sum_bN (p : Nat → Bool) : ∀ n, n ≤ 64 → sumN (bN p) n = cntB p n
  | 0, _ => rfl
  | n + 1, hn => by
    rw [sumN, cntB, sum_bN p n (by omega)]
    unfold bN
    by_cases q : p n = true
    · rw [if_pos ⟨by omega, q⟩, if_pos q]
    · rw [if_neg (fun z => q z.2), if_neg q]
def m1B : Nat := 6148914691236517205
def m2B : Nat := 3689348814741910323
def m4B : Nat := 1085102592571150095
theorem m1_eq : m1B = dgS 1 (evn (fun _ => 2 ^ 1 - 1)) 64 := by decide +kernel
theorem m2_eq : m2B = dgS 2 (evn (fun _ => 2 ^ 2 - 1)) 32 := by decide +kernel
theorem m4_eq : m4B = dgS 4 (evn (fun _ => 2 ^ 4 - 1)) 16 := by decide +kernel
theorem bN_1 (p : Nat → Bool) (j : Nat) : bN p j ≤ 1 := by unfold bN; split <;> omega
theorem bN_z (p : Nat → Bool) {j : Nat} (h : 64 ≤ j) : bN p j = 0 := if_neg (fun q => by omega)
theorem p2_le {a : Nat → Nat} {b : Nat} (h : ∀ j, a j ≤ b) (j : Nat) : p2 a j ≤ 2 * b := by
  have h1 := h (2 * j)
  have h2 := h (2 * j + 1)
  unfold p2
  omega
theorem p2_z {a : Nat → Nat} {m : Nat} (h : ∀ j, 2 * m ≤ j → a j = 0) {j : Nat} (hj : m ≤ j) : p2 a j = 0 := by
  unfold p2
  rw [h _ (by omega), h _ (by omega)]
def s1 (x : Nat) : Nat := x - (x >>> 1 &&& m1B)
def s2 (x : Nat) : Nat := (x &&& m2B) + (x >>> 2 &&& m2B)
def s3 (x : Nat) : Nat := (x + x >>> 4) &&& m4B
theorem evn_add (a b : Nat → Nat) : (fun j => evn a j + evn b j) = evn (fun j => a j + b j) := by
  funext j
  unfold evn
  split <;> rfl
theorem s1_eq (p : Nat → Bool) : s1 (dgS 1 (bN p) 64) = dgS 2 (p2 (bN p)) 32 ∧ (dgS 1 (bN p) 64 >>> 1 &&& m1B) ≤ dgS 1 (bN p) 64 := by
  have hb : ∀ j, bN p j < 2 ^ 1 := fun j => by have := bN_1 p j; omega
  have e1 : dgS 1 (bN p) 64 >>> 1 = dgS 1 (fun j => bN p (j + 1)) 64 := dgS_shr (by decide) hb (fun j hj => bN_z p hj) 1
  have e2 : dgS 1 (bN p) 64 >>> 1 &&& m1B = dgS 1 (evn (fun j => bN p (j + 1))) 64 := by rw [e1, m1_eq]; exact dgS_mask (by decide) (fun j => hb (j + 1)) 64
  have e3 := dgS_odd (bN p) 32
  have e4 := dgS_add 1 (evn (bN p)) (evn (fun j => bN p (j + 1))) 64
  rw [evn_add] at e4
  have e5 := dgS_pair 1 (fun j => bN p j + bN p (j + 1)) 32
  have e3' : dgS 1 (bN p) 64 = dgS 1 (evn (bN p)) 64 + 2 * dgS 1 (evn (fun j => bN p (j + 1))) 64 := e3
  have e5' : dgS 1 (evn (fun j => bN p j + bN p (j + 1))) 64 = dgS 2 (p2 (bN p)) 32 := e5
  constructor
  · unfold s1
    rw [e2, ← e5', ← e4, e3']
    omega
  · rw [e2, e3']
    omega
theorem s2_eq {a : Nat → Nat} (h : ∀ j, a j ≤ 2) (hz : ∀ j, 32 ≤ j → a j = 0) : s2 (dgS 2 a 32) = dgS 4 (p2 a) 16 := by
  have hb : ∀ j, a j < 2 ^ 2 := fun j => by have := h j; omega
  have e1 : dgS 2 a 32 >>> 2 = dgS 2 (fun j => a (j + 1)) 32 := dgS_shr (by decide) hb hz 1
  unfold s2
  rw [e1, m2_eq, dgS_mask (by decide) hb, dgS_mask (by decide) (fun j => hb (j + 1)), dgS_add, evn_add]
  exact dgS_pair 2 (fun j => a j + a (j + 1)) 16
theorem s3_eq {a : Nat → Nat} (h : ∀ j, a j ≤ 4) (hz : ∀ j, 16 ≤ j → a j = 0) : s3 (dgS 4 a 16) = dgS 8 (p2 a) 8 := by
  have hb : ∀ j, a j < 2 ^ 4 := fun j => by have := h j; omega
  have e1 : dgS 4 a 16 >>> 4 = dgS 4 (fun j => a (j + 1)) 16 := dgS_shr (by decide) hb hz 1
  have hc : ∀ j, (fun j => a j + a (j + 1)) j < 2 ^ 4 := fun j => by have := h j; have := h (j + 1); show a j + a (j + 1) < 16; omega
  unfold s3
  rw [e1, dgS_add, m4_eq, dgS_mask (by decide) hc]
  exact dgS_pair 4 (fun j => a j + a (j + 1)) 8
theorem s4_eq {a : Nat → Nat} {b : Nat} (h : ∀ j, a j ≤ b) (hb : b < 256) (hz : ∀ j, 8 ≤ j → a j = 0) (k : Nat) : dgS 8 a 8 + dgS 8 a 8 >>> (8 * k) = dgS 8 (fun j => a j + a (j + k)) 8 := by
  have hc : ∀ j, a j < 2 ^ 8 := fun j => by have := h j; omega
  rw [dgS_shr (by decide) hc hz k, dgS_add]
/-- the six steps together -/
theorem swar (p : Nat → Bool) : ∃ x2 x3 x4 x5 x6 : Nat, s2 (s1 (dgS 1 (bN p) 64)) = x2 ∧ s3 x2 = x3 ∧ x3 + x3 >>> 8 = x4 ∧ x4 + x4 >>> 16 = x5 ∧ x5 + x5 >>> 32 = x6 ∧ x6 % 128 = cntB p 64 ∧ x6 < 2 ^ 64 := by
  obtain ⟨q1, -⟩ := s1_eq p
  have h1 : ∀ j, p2 (bN p) j ≤ 2 := p2_le (bN_1 p)
  have z1 : ∀ j, 32 ≤ j → p2 (bN p) j = 0 := fun j hj => p2_z (fun i hi => bN_z p hi) hj
  have q2 := s2_eq h1 z1
  have h2 : ∀ j, p2 (p2 (bN p)) j ≤ 4 := p2_le h1
  have z2 : ∀ j, 16 ≤ j → p2 (p2 (bN p)) j = 0 := fun j hj => p2_z z1 hj
  have q3 := s3_eq h2 z2
  have h3 : ∀ j, p2 (p2 (p2 (bN p))) j ≤ 8 := p2_le h2
  have z3 : ∀ j, 8 ≤ j → p2 (p2 (p2 (bN p))) j = 0 := fun j hj => p2_z z2 hj
  have hs : sumN (p2 (p2 (p2 (bN p)))) 8 = cntB p 64 := by rw [sum_p2, sum_p2, sum_p2, sum_bN p _ (Nat.le_refl _)]
  obtain ⟨a, ha⟩ : ∃ a, a = p2 (p2 (p2 (bN p))) := ⟨_, rfl⟩
  rw [← ha] at h3 z3 q3 hs
  have q4 := s4_eq h3 (by decide) z3 1
  have h4 : ∀ j, (fun j => a j + a (j + 1)) j ≤ 16 := fun j => by have := h3 j; have := h3 (j + 1); show a j + a (j + 1) ≤ 16; omega
  have z4 : ∀ j, 8 ≤ j → (fun j => a j + a (j + 1)) j = 0 := fun j hj => by show a j + a (j + 1) = 0; rw [z3 j hj, z3 (j + 1) (by omega)]
  have q5 := s4_eq h4 (by decide) z4 2
  have h5 : ∀ j, (fun j => (a j + a (j + 1)) + (a (j + 2) + a (j + 2 + 1))) j ≤ 32 := fun j => by have := h3 j; have := h3 (j + 1); have := h3 (j + 2); have := h3 (j + 2 + 1); show (a j + a (j + 1)) + (a (j + 2) + a (j + 2 + 1)) ≤ 32; omega
  have z5 : ∀ j, 8 ≤ j → (fun j => (a j + a (j + 1)) + (a (j + 2) + a (j + 2 + 1))) j = 0 := fun j hj => by show (a j + a (j + 1)) + (a (j + 2) + a (j + 2 + 1)) = 0; rw [z3 j hj, z3 (j + 1) (by omega), z3 (j + 2) (by omega), z3 (j + 2 + 1) (by omega)]
  have q6 := s4_eq h5 (by decide) z5 4
  have h6 : ∀ j, (fun j => ((a j + a (j + 1)) + (a (j + 2) + a (j + 2 + 1))) + ((a (j + 4) + a (j + 4 + 1)) + (a (j + 4 + 2) + a (j + 4 + 2 + 1)))) j < 2 ^ 8 := fun j => by
    have k1 : (a j + a (j + 1)) + (a (j + 2) + a (j + 2 + 1)) ≤ 32 := h5 j
    have k2 : (a (j + 4) + a (j + 4 + 1)) + (a (j + 4 + 2) + a (j + 4 + 2 + 1)) ≤ 32 := h5 (j + 4)
    show ((a j + a (j + 1)) + (a (j + 2) + a (j + 2 + 1))) + ((a (j + 4) + a (j + 4 + 1)) + (a (j + 4 + 2) + a (j + 4 + 2 + 1))) < 256
    omega
  have low := dgS_low h6 7
  have hs2 : ((((((((0 + a 0) + a 1) + a 2) + a 3) + a 4) + a 5) + a 6) + a 7) = cntB p 64 := hs
  refine ⟨dgS 4 (p2 (p2 (bN p))) 16, dgS 8 a 8, _, _, _, by rw [q1, q2], q3, q4, q5, q6, ?_, dgS_lt h6 8⟩
  have hle := cntB_le p 64
  have low2 : dgS 8 (fun j => ((a j + a (j + 1)) + (a (j + 2) + a (j + 2 + 1))) + ((a (j + 4) + a (j + 4 + 1)) + (a (j + 4 + 2) + a (j + 4 + 2 + 1)))) 8 % 256 = ((a 0 + a 1) + (a 2 + a 3)) + ((a 4 + a 5) + (a 6 + a 7)) := low
  show dgS 8 (fun j => ((a j + a (j + 1)) + (a (j + 2) + a (j + 2 + 1))) + ((a (j + 4) + a (j + 4 + 1)) + (a (j + 4 + 2) + a (j + 4 + 2 + 1)))) 8 % 128 = cntB p 64
  generalize dgS 8 (fun j => ((a j + a (j + 1)) + (a (j + 2) + a (j + 2 + 1))) + ((a (j + 4) + a (j + 4 + 1)) + (a (j + 4 + 2) + a (j + 4 + 2 + 1)))) 8 = y at low2 ⊢
  omega
/-! longs that are naturals -/
def LN (n : Nat) : Int64 := Int64.ofBitVec (BitVec.ofNat 64 n)
theorem LN_and (a b : Nat) : LN a &&& LN b = LN (a &&& b) := by
  apply Int64.toBitVec_inj.mp
  rw [Int64.toBitVec_and]
  show BitVec.ofNat 64 a &&& BitVec.ofNat 64 b = BitVec.ofNat 64 (a &&& b)
  apply BitVec.eq_of_getLsbD_eq
  intro i hi
  rw [BitVec.getLsbD_and, BitVec.getLsbD_ofNat, BitVec.getLsbD_ofNat, BitVec.getLsbD_ofNat, Nat.testBit_and]
  simp [hi]
theorem LN_add (a b : Nat) : LN a + LN b = LN (a + b) := by
  apply Int64.toBitVec_inj.mp
  rw [Int64.toBitVec_add]
  show BitVec.ofNat 64 a + BitVec.ofNat 64 b = BitVec.ofNat 64 (a + b)
  rw [BitVec.ofNat_add]
theorem LN_sub {a b : Nat} (h : b ≤ a) : LN a - LN b = LN (a - b) := by
  apply Int64.toBitVec_inj.mp
  rw [Int64.toBitVec_sub]
  show BitVec.ofNat 64 a - BitVec.ofNat 64 b = BitVec.ofNat 64 (a - b)
  have e : BitVec.ofNat 64 a = BitVec.ofNat 64 (a - b) + BitVec.ofNat 64 b := by rw [← BitVec.ofNat_add, Nat.sub_add_cancel h]
  rw [e, BitVec.add_sub_cancel]
theorem LN_shr {n : Nat} (h : n < 2 ^ 64) {y : Int32} {k : Nat} (hy : ((y.toInt64.toUInt64 &&& Int64.toUInt64 63).toBitVec % 64).toNat = k) : ((LN n).toUInt64 >>> (y.toInt64.toUInt64 &&& Int64.toUInt64 63)).toInt64 = LN (n >>> k) := by
  apply Int64.toBitVec_inj.mp
  show ((LN n).toUInt64 >>> (y.toInt64.toUInt64 &&& Int64.toUInt64 63)).toBitVec = BitVec.ofNat 64 (n >>> k)
  rw [UInt64.toBitVec_shiftRight]
  apply BitVec.eq_of_toNat_eq
  rw [BitVec.ushiftRight_eq', BitVec.toNat_ushiftRight, hy]
  show (BitVec.ofNat 64 n).toNat >>> k = _
  rw [BitVec.toNat_ofNat, BitVec.toNat_ofNat, Nat.mod_eq_of_lt h, Nat.mod_eq_of_lt (Nat.lt_of_le_of_lt (by rw [Nat.shiftRight_eq_div_pow]; exact Nat.div_le_self _ _) h)]
theorem LN_low (n : Nat) : (LN n).toInt32 &&& 127 = iI ((n % 128 : Nat) : Int) := by
  apply Int32.toBitVec_inj.mp
  rw [Int32.toBitVec_and]
  show BitVec.signExtend 32 (BitVec.ofNat 64 n) &&& 127#32 = BitVec.ofInt 32 ((n % 128 : Nat) : Int)
  rw [BitVec.ofInt_natCast]
  apply BitVec.eq_of_getLsbD_eq
  intro i hi
  have e : 127 = 2 ^ 7 - 1 := by decide
  have e2 : n % 128 = n % 2 ^ 7 := rfl
  rw [BitVec.getLsbD_and, BitVec.getLsbD_signExtend, BitVec.getLsbD_ofNat, BitVec.getLsbD_ofNat, BitVec.getLsbD_ofNat, e, Nat.testBit_two_pow_sub_one, e2, Nat.testBit_mod_two_pow]
  simp [hi, show i < 64 by omega, Bool.and_comm]
