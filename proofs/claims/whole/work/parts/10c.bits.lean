/-! counting bits: the JDK's way -/
def bcA (x : Int32) : Int32 := x - ((x.toUInt32 >>> ((1 : Int32).toUInt32 &&& Int32.toUInt32 31)).toInt32 &&& 1431655765)
def bcB (x : Int32) : Int32 := (x &&& 858993459) + ((x.toUInt32 >>> ((2 : Int32).toUInt32 &&& Int32.toUInt32 31)).toInt32 &&& 858993459)
def bcC (x : Int32) : Int32 := (x + (x.toUInt32 >>> ((4 : Int32).toUInt32 &&& Int32.toUInt32 31)).toInt32) &&& 252645135
def bcD (x : Int32) : Int32 := x + (x.toUInt32 >>> ((8 : Int32).toUInt32 &&& Int32.toUInt32 31)).toInt32
def bcE (x : Int32) : Int32 := x + (x.toUInt32 >>> ((16 : Int32).toUInt32 &&& Int32.toUInt32 31)).toInt32
theorem bc_16 : ∀ n : Nat, n < 16 → bcE (bcD (bcC (bcB (bcA (iI ((n : Nat) : Int)))))) &&& 63 = iI ((popN n : Nat) : Int) := by decide +kernel
/-- digits of w bits -/
def dgS (w : Nat) (a : Nat → Nat) : Nat → Nat
  | 0 => 0
  | m + 1 => dgS w a m + a m * 2 ^ (w * m)
theorem dgS_lt {w : Nat} {a : Nat → Nat} (h : ∀ j, a j < 2 ^ w) : ∀ m, dgS w a m < 2 ^ (w * m)
  | 0 => by rw [Nat.mul_zero]; exact Nat.one_pos
  | m + 1 => by
    have i := dgS_lt h m
    have j := h m
    have e : 2 ^ (w * (m + 1)) = 2 ^ w * 2 ^ (w * m) := by rw [Nat.mul_add, Nat.mul_one, Nat.pow_add, Nat.mul_comm]
    rw [dgS, e]
    have k : (a m + 1) * 2 ^ (w * m) ≤ 2 ^ w * 2 ^ (w * m) := Nat.mul_le_mul_right _ j
    rw [Nat.add_mul, Nat.one_mul] at k
    omega
theorem dgS_bit {w : Nat} {a : Nat → Nat} (hw : 0 < w) (h : ∀ j, a j < 2 ^ w) : ∀ m i, (dgS w a m).testBit i = (decide (i < w * m) && (a (i / w)).testBit (i % w))
  | 0, i => by rw [dgS, Nat.zero_testBit, Nat.mul_zero, decide_eq_false (Nat.not_lt_zero i), Bool.false_and]
  | m + 1, i => by
    have ih := dgS_bit hw h m i
    have lt := dgS_lt h m
    have e : dgS w a (m + 1) = 2 ^ (w * m) * a m + dgS w a m := by rw [dgS, Nat.mul_comm, Nat.add_comm]
    rw [e, Nat.testBit_two_pow_mul_add _ lt]
    have e2 : w * (m + 1) = w * m + w := by rw [Nat.mul_add, Nat.mul_one]
    rw [e2]
    by_cases q : i < w * m
    · rw [if_pos q, ih, decide_eq_true q, decide_eq_true (show i < w * m + w by omega)]
    · rw [if_neg q]
      by_cases q2 : i < w * m + w
      · have hd : i / w = m := by
          have := Nat.div_mul_le_self i w
          have := Nat.lt_div_mul_add hw (a := i)
          have h1 : i / w < m + 1 := Nat.div_lt_of_lt_mul (by rw [e2]; exact q2)
          have h2 : m ≤ i / w := (Nat.le_div_iff_mul_le hw).mpr (by rw [Nat.mul_comm]; omega)
          omega
        have hm : i % w = i - w * m := by
          have := Nat.div_add_mod i w
          rw [hd] at this
          omega
        rw [decide_eq_true q2, Bool.true_and, hd, hm]
      · rw [decide_eq_false q2, Bool.false_and]
        refine Nat.testBit_lt_two_pow (Nat.lt_of_lt_of_le (h m) (Nat.pow_le_pow_right (by decide) (by omega)))
theorem dgS_add (w : Nat) (a b : Nat → Nat) : ∀ m, dgS w a m + dgS w b m = dgS w (fun j => a j + b j) m
  | 0 => rfl
  | m + 1 => by
    rw [dgS, dgS, dgS, ← dgS_add w a b m, Nat.add_mul]
    omega
theorem dgS_cong {w : Nat} {a b : Nat → Nat} : ∀ {m : Nat}, (∀ j, j < m → a j = b j) → dgS w a m = dgS w b m
  | 0, _ => rfl
  | m + 1, h => by rw [dgS, dgS, dgS_cong (fun j hj => h j (by omega)), h m (by omega)]
/-- the even digits, by a mask -/
def evn (a : Nat → Nat) : Nat → Nat := fun j => if j % 2 = 0 then a j else 0
theorem dgS_mask {w : Nat} {a : Nat → Nat} (hw : 0 < w) (h : ∀ j, a j < 2 ^ w) (m : Nat) : dgS w a m &&& dgS w (evn (fun _ => 2 ^ w - 1)) m = dgS w (evn a) m := by
  have h1 : ∀ j, evn (fun _ => 2 ^ w - 1) j < 2 ^ w := fun j => by
    have : 0 < 2 ^ w := Nat.two_pow_pos w
    show (if j % 2 = 0 then 2 ^ w - 1 else 0) < 2 ^ w
    split <;> omega
  have h2 : ∀ j, evn a j < 2 ^ w := fun j => by
    have : 0 < 2 ^ w := Nat.two_pow_pos w
    unfold evn
    split
    · exact h j
    · exact this
  apply Nat.eq_of_testBit_eq
  intro i
  rw [Nat.testBit_and, dgS_bit hw h, dgS_bit hw h1, dgS_bit hw h2]
  unfold evn
  by_cases q : (i / w) % 2 = 0
  · rw [if_pos q, if_pos q, Nat.testBit_two_pow_sub_one, decide_eq_true (Nat.mod_lt i hw), Bool.and_true]
    cases decide (i < w * m) <;> simp
  · rw [if_neg q, if_neg q, Nat.zero_testBit, Bool.and_false, Bool.and_false]
/-- down by a digit -/
theorem dgS_shr {w : Nat} {a : Nat → Nat} (hw : 0 < w) (h : ∀ j, a j < 2 ^ w) {m : Nat} (hz : ∀ j, m ≤ j → a j = 0) (k : Nat) : dgS w a m >>> (w * k) = dgS w (fun j => a (j + k)) m := by
  apply Nat.eq_of_testBit_eq
  intro i
  rw [Nat.testBit_shiftRight, dgS_bit hw h, dgS_bit hw (fun j => h (j + k))]
  have e1 : (w * k + i) / w = i / w + k := by rw [Nat.mul_comm, Nat.add_comm, Nat.add_mul_div_right _ _ hw]
  have e2 : (w * k + i) % w = i % w := by rw [Nat.add_comm, Nat.add_mul_mod_self_left]
  rw [e1, e2]
  by_cases q : w * k + i < w * m
  · rw [decide_eq_true q, decide_eq_true (show i < w * m by omega)]
  · rw [decide_eq_false q, Bool.false_and]
    have h3 : m ≤ i / w + k := by
      have : w * m ≤ w * k + i := by omega
      have h4 : m ≤ (w * k + i) / w := (Nat.le_div_iff_mul_le hw).mpr (by rw [Nat.mul_comm]; exact this)
      rw [e1] at h4
      exact h4
    rw [hz _ h3, Nat.zero_testBit, Bool.and_false]
/-- pairs of digits -/
theorem dgS_pair (w : Nat) (a : Nat → Nat) : ∀ m, dgS w (evn a) (2 * m) = dgS (2 * w) (fun j => a (2 * j)) m
  | 0 => rfl
  | m + 1 => by
    have e : 2 * (m + 1) = 2 * m + 1 + 1 := by omega
    rw [e, dgS, dgS, dgS, dgS_pair w a m]
    have z : evn a (2 * m + 1) = 0 := if_neg (by omega)
    have y : evn a (2 * m) = a (2 * m) := if_pos (by omega)
    have x : w * (2 * m) = 2 * w * m := by rw [← Nat.mul_assoc, Nat.mul_comm w 2]
    rw [z, y, x, Nat.zero_mul, Nat.add_zero]
def bN (p : Nat → Bool) : Nat → Nat := fun j => if j < 64 ∧ p j = true then 1 else 0
theorem nS_dg (p : Nat → Bool) : ∀ n, n ≤ 64 → nS p n = dgS 1 (bN p) n
  | 0, _ => rfl
  | n + 1, hn => by
    apply Nat.eq_of_testBit_eq
    intro i
    rw [nS_bit, dgS_bit (by decide) (fun j => by unfold bN; split <;> decide), Nat.div_one, Nat.mod_one, Nat.one_mul]
    unfold bN
    by_cases q : i < n + 1
    · rw [decide_eq_true q]
      by_cases q2 : p i = true
      · rw [if_pos ⟨by omega, q2⟩, q2]
        rfl
      · rw [if_neg (fun z => q2 z.2)]
        simp at q2
        rw [q2]
        rfl
    · rw [decide_eq_false q]
      rfl
