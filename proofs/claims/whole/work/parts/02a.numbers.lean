/-! numbers as integers, sets as functions to Bool -/
def iI (z : Int) : Int32 := Int32.ofInt z
abbrev InR (z : Int) : Prop := -2147483648 ≤ z ∧ z < 2147483648
theorem iI_add (a b : Int) : iI a + iI b = iI (a + b) := (Int32.ofInt_add a b).symm
theorem iI_sub (a b : Int) : iI a - iI b = iI (a - b) := (Int32.ofInt_sub a b).symm
theorem iI_mul (a b : Int) : iI a * iI b = iI (a * b) := (Int32.ofInt_mul a b).symm
theorem iI_neg (a : Int) : - iI a = iI (- a) := (Int32.ofInt_neg a).symm
theorem iI_of (x : Int32) : iI x.toInt = x := Int32.ofInt_toInt x
theorem bm32 {z : Int} (h : InR z) : z.bmod 4294967296 = z := Int.bmod_eq_of_le (by omega) (by omega)
theorem iI_toInt {z : Int} (h : InR z) : (iI z).toInt = z := by
  unfold iI
  rw [Int32.toInt_ofInt]
  exact bm32 h
theorem iI_lt {a b : Int} (ha : InR a) (hb : InR b) : iI a < iI b ↔ a < b := by
  rw [Int32.lt_iff_toInt_lt, iI_toInt ha, iI_toInt hb]
theorem iI_le {a b : Int} (ha : InR a) (hb : InR b) : iI a ≤ iI b ↔ a ≤ b := by
  rw [Int32.le_iff_toInt_le, iI_toInt ha, iI_toInt hb]
theorem iI_eq {a b : Int} (ha : InR a) (hb : InR b) : iI a = iI b ↔ a = b := by
  rw [← Int32.toInt_inj, iI_toInt ha, iI_toInt hb]
theorem iI_0 : (0 : Int32) = iI 0 := rfl
theorem iI_in {z : Int} {n : Nat} (h : 0 ≤ z ∧ z < n) (hn : n ≤ 1000000) : vp_in (iI z) n := by
  rw [vp_in_iff, iI_toInt ⟨by omega, by omega⟩]
  exact h
theorem iI_cl {z : Int} {i : Nat} (h : z = ↑i) (hi : i < 1000000) : (iI z).toNatClampNeg = i := by
  subst h
  have h1 : (iI (i : Int)).toInt = (i : Int) := iI_toInt ⟨by omega, by omega⟩
  show (iI (i : Int)).toInt.toNat = i
  rw [h1]
  exact Int.toNat_natCast i
theorem iI_tdiv {a b : Int} (ha : InR a) (h0 : 0 ≤ a) (hb : InR b) (h1 : 0 < b) : iI a / iI b = iI (a / b) := by
  rw [← Int32.toInt_inj, Int32.toInt_div, iI_toInt ha, iI_toInt hb, Int.tdiv_eq_ediv_of_nonneg h0]
  have h2 : 0 ≤ a / b := Int.ediv_nonneg h0 (by omega)
  have h3 : a / b ≤ a := Int.ediv_le_self _ h0
  rw [iI_toInt ⟨by omega, by omega⟩]
  exact Int.bmod_eq_of_le (by omega) (by omega)
theorem iI_tmod {a b : Int} (ha : InR a) (h0 : 0 ≤ a) (hb : InR b) (h1 : 0 < b) : iI a - iI a / iI b * iI b = iI (a % b) := by
  rw [iI_tdiv ha h0 hb h1, iI_mul, iI_sub, Int.mul_comm, ← Int.emod_def]
theorem iI_ne0 {a : Int} (ha : InR a) (h : a ≠ 0) : ¬ iI a = 0 := fun q => h ((iI_eq ha ⟨by omega, by omega⟩).mp q)
def bz (b : Bool) : Int := if b then 1 else 0
theorem bz_in (b : Bool) : 0 ≤ bz b ∧ bz b ≤ 1 := by cases b <;> decide
theorem bz_t {b : Bool} (h : b = true) : iI 1 = iI (bz b) := by rw [h]; rfl
theorem bz_f {b : Bool} (h : b = false) : iI 0 = iI (bz b) := by rw [h]; rfl
theorem bd_t {P : Prop} [Decidable P] (h : P) : iI 1 = iI (bz (decide P)) := bz_t (decide_eq_true h)
theorem bd_f {P : Prop} [Decidable P] (h : ¬ P) : iI 0 = iI (bz (decide P)) := bz_f (decide_eq_false h)
theorem bz_ne (b : Bool) : iI (bz b) = 0 ↔ b = false := by cases b <;> decide
theorem bz_nar (b : Bool) : narrow .boolean (.int (iI (bz b))) = .int (iI (bz b)) := by cases b <;> rfl
theorem nar_1 : narrow .boolean (.int (iI 1)) = .int (iI 1) := rfl
theorem nar_0 : narrow .boolean (.int (iI 0)) = .int (iI 0) := rfl
theorem bz_vnar (b : Bool) : vp_nar .boolean (iI (bz b)) = iI (bz b) := by cases b <;> rfl
/-- arrays -/
def nF (f : Nat → Nat) : Nat → Int32 := fun k => iI ↑(f k)
def zF (f : Nat → Int) : Nat → Int32 := fun k => iI (f k)
def bF (f : Nat → Bool) : Nat → Int32 := fun k => iI (bz (f k))
def up {α : Type} (f : Nat → α) (k : Nat) (v : α) : Nat → α := fun j => if j = k then v else f j
theorem up_s {α : Type} (f : Nat → α) (k : Nat) (v : α) : up f k v k = v := if_pos rfl
theorem up_n {α : Type} (f : Nat → α) {k j : Nat} (v : α) (h : j ≠ k) : up f k v j = f j := if_neg h
theorem up_le (f : Nat → Nat) {k v b : Nat} (h : ∀ j, f j ≤ b) (hv : v ≤ b) : ∀ j, up f k v j ≤ b := fun j => by
  unfold up
  split
  · exact hv
  · exact h j
theorem nF_up (f : Nat → Nat) (k v : Nat) : upd (nF f) k (iI ↑v) = nF (up f k v) := by
  funext j
  unfold upd nF up
  split <;> rfl
theorem zF_up (f : Nat → Int) (k : Nat) (v : Int) : upd (zF f) k (iI v) = zF (up f k v) := by
  funext j
  unfold upd zF up
  split <;> rfl
theorem bF_up (f : Nat → Bool) (k : Nat) (v : Bool) : upd (bF f) k (iI (bz v)) = bF (up f k v) := by
  funext j
  unfold upd bF up
  split <;> rfl
theorem nF_0 : (fun _ => 0 : Nat → Int32) = nF (fun _ => 0) := rfl
theorem zF_0 : (fun _ => 0 : Nat → Int32) = zF (fun _ => 0) := rfl
theorem bF_0 : (fun _ => 0 : Nat → Int32) = bF (fun _ => false) := rfl
/-- longs -/
def lI (z : Int) : Int64 := Int64.ofInt z
abbrev InL (z : Int) : Prop := -9223372036854775808 ≤ z ∧ z < 9223372036854775808
theorem lI_add (a b : Int) : lI a + lI b = lI (a + b) := (Int64.ofInt_add a b).symm
theorem lI_sub (a b : Int) : lI a - lI b = lI (a - b) := (Int64.ofInt_sub a b).symm
theorem lI_mul (a b : Int) : lI a * lI b = lI (a * b) := (Int64.ofInt_mul a b).symm
theorem bm64 {z : Int} (h : InL z) : z.bmod 18446744073709551616 = z := Int.bmod_eq_of_le (by omega) (by omega)
theorem lI_toInt {z : Int} (h : InL z) : (lI z).toInt = z := by
  unfold lI
  rw [Int64.toInt_ofInt]
  exact bm64 h
theorem lI_lt {a b : Int} (ha : InL a) (hb : InL b) : lI a < lI b ↔ a < b := by
  rw [Int64.lt_iff_toInt_lt, lI_toInt ha, lI_toInt hb]
theorem lI_eq {a b : Int} (ha : InL a) (hb : InL b) : lI a = lI b ↔ a = b := by
  rw [← Int64.toInt_inj, lI_toInt ha, lI_toInt hb]
theorem iI_toL {z : Int} (h : InR z) : (iI z).toInt64 = lI z := by
  rw [← Int64.toInt_inj, Int32.toInt_toInt64, iI_toInt h, lI_toInt ⟨by omega, by omega⟩]
theorem lI_tdiv {a b : Int} (ha : InL a) (h0 : 0 ≤ a) (hb : InL b) (h1 : 0 < b) : lI a / lI b = lI (a / b) := by
  rw [← Int64.toInt_inj, Int64.toInt_div, lI_toInt ha, lI_toInt hb, Int.tdiv_eq_ediv_of_nonneg h0]
  have h2 : 0 ≤ a / b := Int.ediv_nonneg h0 (by omega)
  have h3 : a / b ≤ a := Int.ediv_le_self _ h0
  rw [lI_toInt ⟨by omega, by omega⟩]
  exact Int.bmod_eq_of_le (by omega) (by omega)
theorem lI_tmod {a b : Int} (ha : InL a) (h0 : 0 ≤ a) (hb : InL b) (h1 : 0 < b) : lI a - lI a / lI b * lI b = lI (a % b) := by
  rw [lI_tdiv ha h0 hb h1, lI_mul, lI_sub, Int.mul_comm, ← Int.emod_def]
theorem lI_ne0 {a : Int} (ha : InL a) (h : a ≠ 0) : ¬ lI a = 0 := fun q => h ((lI_eq ha ⟨by omega, by omega⟩).mp q)
/-- sets -/
def nS (p : Nat → Bool) : Nat → Nat
  | 0 => 0
  | n + 1 => nS p n ||| (if p n then 2 ^ n else 0)
theorem nS_bit (p : Nat → Bool) (i : Nat) : ∀ n, (nS p n).testBit i = (decide (i < n) && p i)
  | 0 => by simp [nS]
  | n + 1 => by
    rw [nS, Nat.testBit_or, nS_bit p i n]
    by_cases h : p n = true
    · rw [if_pos h, Nat.testBit_two_pow]
      by_cases hi : n = i
      · subst hi
        simp [h]
      · have e : decide (i < n + 1) = decide (i < n) := by
          apply decide_eq_decide.mpr
          omega
        rw [e]
        simp [hi]
    · rw [if_neg h]
      by_cases hi : n = i
      · subst hi
        simp at h
        simp [h]
      · have e : decide (i < n + 1) = decide (i < n) := by
          apply decide_eq_decide.mpr
          omega
        rw [e]
        simp
def lS (p : Nat → Bool) : Int64 := Int64.ofBitVec (BitVec.ofNat 64 (nS p 64))
def iS (p : Nat → Bool) : Int32 := Int32.ofBitVec (BitVec.ofNat 32 (nS p 32))
theorem lS_bit (p : Nat → Bool) (i : Nat) : (lS p).toBitVec.getLsbD i = (decide (i < 64) && p i) := by
  show (BitVec.ofNat 64 (nS p 64)).getLsbD i = _
  rw [BitVec.getLsbD_ofNat, nS_bit]
  by_cases h : i < 64 <;> simp [h]
theorem iS_bit (p : Nat → Bool) (i : Nat) : (iS p).toBitVec.getLsbD i = (decide (i < 32) && p i) := by
  show (BitVec.ofNat 32 (nS p 32)).getLsbD i = _
  rw [BitVec.getLsbD_ofNat, nS_bit]
  by_cases h : i < 32 <;> simp [h]
theorem l_ext {x y : Int64} (h : ∀ i, i < 64 → x.toBitVec.getLsbD i = y.toBitVec.getLsbD i) : x = y :=
  Int64.toBitVec_inj.mp (BitVec.eq_of_getLsbD_eq h)
theorem i_ext {x y : Int32} (h : ∀ i, i < 32 → x.toBitVec.getLsbD i = y.toBitVec.getLsbD i) : x = y :=
  Int32.toBitVec_inj.mp (BitVec.eq_of_getLsbD_eq h)
theorem lS_cong {p q : Nat → Bool} (h : ∀ i, i < 64 → p i = q i) : lS p = lS q := l_ext fun i hi => by rw [lS_bit, lS_bit, h i hi]
theorem iS_cong {p q : Nat → Bool} (h : ∀ i, i < 32 → p i = q i) : iS p = iS q := i_ext fun i hi => by rw [iS_bit, iS_bit, h i hi]
theorem lS_inj {p q : Nat → Bool} (h : lS p = lS q) {i : Nat} (hi : i < 64) : p i = q i := by
  have h1 := lS_bit p i
  rw [h, lS_bit] at h1
  simpa [hi] using h1.symm
theorem iS_inj {p q : Nat → Bool} (h : iS p = iS q) {i : Nat} (hi : i < 32) : p i = q i := by
  have h1 := iS_bit p i
  rw [h, iS_bit] at h1
  simpa [hi] using h1.symm
theorem lS_or (p q : Nat → Bool) : lS p ||| lS q = lS (fun i => p i || q i) := l_ext fun i hi => by
  rw [Int64.toBitVec_or, BitVec.getLsbD_or, lS_bit, lS_bit, lS_bit]
  simp [hi]
theorem lS_and (p q : Nat → Bool) : lS p &&& lS q = lS (fun i => p i && q i) := l_ext fun i hi => by
  rw [Int64.toBitVec_and, BitVec.getLsbD_and, lS_bit, lS_bit, lS_bit]
  simp [hi]
theorem iS_or (p q : Nat → Bool) : iS p ||| iS q = iS (fun i => p i || q i) := i_ext fun i hi => by
  rw [Int32.toBitVec_or, BitVec.getLsbD_or, iS_bit, iS_bit, iS_bit]
  simp [hi]
theorem iS_and (p q : Nat → Bool) : iS p &&& iS q = iS (fun i => p i && q i) := i_ext fun i hi => by
  rw [Int32.toBitVec_and, BitVec.getLsbD_and, iS_bit, iS_bit, iS_bit]
  simp [hi]
theorem lS_not (p : Nat → Bool) : lS p ^^^ (-1) = lS (fun i => !p i) := l_ext fun i hi => by
  have e : (-1 : Int64).toBitVec = BitVec.allOnes 64 := by decide
  rw [Int64.toBitVec_xor, BitVec.getLsbD_xor, lS_bit, lS_bit, e, BitVec.getLsbD_allOnes]
  simp [hi]
theorem iS_not (p : Nat → Bool) : iS p ^^^ (-1) = iS (fun i => !p i) := i_ext fun i hi => by
  have e : (-1 : Int32).toBitVec = BitVec.allOnes 32 := by decide
  rw [Int32.toBitVec_xor, BitVec.getLsbD_xor, iS_bit, iS_bit, e, BitVec.getLsbD_allOnes]
  simp [hi]
theorem lS_0 : (0 : Int64) = lS (fun _ => false) := l_ext fun i hi => by
  rw [lS_bit]
  simp
theorem iS_0 : (0 : Int32) = iS (fun _ => false) := i_ext fun i hi => by
  rw [iS_bit]
  simp
theorem lS_e0 (p : Nat → Bool) : lS p = 0 ↔ ∀ i, i < 64 → p i = false := by
  rw [lS_0]
  exact ⟨fun h i hi => lS_inj h hi, fun h => lS_cong h⟩
theorem iS_e0 (p : Nat → Bool) : iS p = 0 ↔ ∀ i, i < 32 → p i = false := by
  rw [iS_0]
  exact ⟨fun h i hi => iS_inj h hi, fun h => iS_cong h⟩
theorem sh_l : ∀ n : Nat, n < 64 → (((iI ↑n).toInt64 &&& 63).toBitVec.smod 64).toNat = n := by decide +kernel
theorem sh_i : ∀ n : Nat, n < 32 → ((iI ↑n &&& 31).toBitVec.smod 32).toNat = n := by decide +kernel
theorem lS_one {n : Nat} (hn : n < 64) : (1 : Int64) <<< ((iI ↑n).toInt64 &&& 63) = lS (fun i => decide (i = n)) := l_ext fun i hi => by
  rw [lS_bit, Int64.toBitVec_shiftLeft, BitVec.getLsbD_shiftLeft', sh_l n hn]
  have e : (1 : Int64).toBitVec = 1#64 := rfl
  rw [e, BitVec.getLsbD_one]
  by_cases h : i = n
  · subst h; simp [hi]
  · by_cases h2 : i < n
    · simp [hi, h, h2]
    · have h3 : ¬ i - n = 0 := by omega
      simp [hi, h, h2, h3]
theorem iS_one {n : Nat} (hn : n < 32) : (1 : Int32) <<< (iI ↑n &&& 31) = iS (fun i => decide (i = n)) := i_ext fun i hi => by
  rw [iS_bit, Int32.toBitVec_shiftLeft, BitVec.getLsbD_shiftLeft', sh_i n hn]
  have e : (1 : Int32).toBitVec = 1#32 := rfl
  rw [e, BitVec.getLsbD_one]
  by_cases h : i = n
  · subst h; simp [hi]
  · by_cases h2 : i < n
    · simp [hi, h, h2]
    · have h3 : ¬ i - n = 0 := by omega
      simp [hi, h, h2, h3]
theorem lS_shl (p : Nat → Bool) {n : Nat} (hn : n < 64) : lS p <<< ((iI ↑n).toInt64 &&& 63) = lS (fun i => decide (n ≤ i) && p (i - n)) := l_ext fun i hi => by
  rw [lS_bit, Int64.toBitVec_shiftLeft, BitVec.getLsbD_shiftLeft', sh_l n hn, lS_bit]
  by_cases h2 : i < n
  · have h3 : ¬ n ≤ i := by omega
    simp [h2, h3]
  · have h3 : n ≤ i := by omega
    have h4 : i - n < 64 := by omega
    simp [hi, h2, h3, h4]
theorem lS_shr (p : Nat → Bool) {n : Nat} (hn : n < 64) (h63 : p 63 = false) : lS p >>> ((iI ↑n).toInt64 &&& 63) = lS (fun i => decide (i + n < 64) && p (i + n)) := l_ext fun i hi => by
  rw [lS_bit, Int64.toBitVec_shiftRight, BitVec.getLsbD_sshiftRight', sh_l n hn]
  have hm : (lS p).toBitVec.msb = false := by rw [BitVec.msb_eq_getLsbD_last, lS_bit]; simp [h63]
  rw [hm, lS_bit]
  by_cases h2 : n + i < 64
  · have h3 : i + n < 64 := by omega
    simp [hi, h2, h3, Nat.add_comm i n, Nat.not_le.mpr hi]
  · have h3 : ¬ i + n < 64 := by omega
    simp [hi, h2, h3]
theorem lS_get (p : Nat → Bool) {n : Nat} (hn : n < 64) : (lS p >>> ((iI ↑n).toInt64 &&& 63)) &&& 1 = lI (bz (p n)) := l_ext fun i hi => by
  have e : (1 : Int64).toBitVec = 1#64 := rfl
  have e2 : ∀ b : Bool, ∀ j, j < 64 → (lI (bz b)).toBitVec.getLsbD j = (decide (j = 0) && b) := by decide +kernel
  rw [e2 _ _ hi, Int64.toBitVec_and, BitVec.getLsbD_and, e, BitVec.getLsbD_one, Int64.toBitVec_shiftRight, BitVec.getLsbD_sshiftRight', sh_l n hn]
  by_cases h : i = 0
  · subst h
    rw [lS_bit]
    simp [hn]
  · simp [h]
theorem iS_get (p : Nat → Bool) {n : Nat} (hn : n < 32) : (iS p >>> (iI ↑n &&& 31)) &&& 1 = iI (bz (p n)) := i_ext fun i hi => by
  have e : (1 : Int32).toBitVec = 1#32 := rfl
  have e2 : ∀ b : Bool, ∀ j, j < 32 → (iI (bz b)).toBitVec.getLsbD j = (decide (j = 0) && b) := by decide +kernel
  rw [e2 _ _ hi, Int32.toBitVec_and, BitVec.getLsbD_and, e, BitVec.getLsbD_one, Int32.toBitVec_shiftRight, BitVec.getLsbD_sshiftRight', sh_i n hn]
  by_cases h : i = 0
  · subst h
    rw [iS_bit]
    simp [hn]
  · simp [h]
theorem iI_set {n : Nat} (hn : n < 2147483648) : iI ↑n = iS (fun i => n.testBit i) := i_ext fun i hi => by
  rw [iS_bit]
  show (BitVec.ofInt 32 (n : Int)).getLsbD i = _
  rw [BitVec.ofInt_natCast, BitVec.getLsbD_ofNat]
theorem lI_set {n : Nat} (hn : n < 2147483648) : lI ↑n = lS (fun i => n.testBit i) := l_ext fun i hi => by
  rw [lS_bit]
  show (BitVec.ofInt 64 (n : Int)).getLsbD i = _
  rw [BitVec.ofInt_natCast, BitVec.getLsbD_ofNat]
/-- folds -/
def anyB (f : Nat → Bool) : Nat → Bool
  | 0 => false
  | n + 1 => anyB f n || f n
theorem anyB_iff (f : Nat → Bool) : ∀ n, anyB f n = true ↔ ∃ k, k < n ∧ f k = true
  | 0 => by simp [anyB]
  | n + 1 => by
    rw [anyB, Bool.or_eq_true, anyB_iff f n]
    constructor
    · rintro (⟨k, h1, h2⟩ | h)
      · exact ⟨k, by omega, h2⟩
      · exact ⟨n, by omega, h⟩
    · rintro ⟨k, h1, h2⟩
      by_cases h : k = n
      · subst h; exact Or.inr h2
      · exact Or.inl ⟨k, by omega, h2⟩
theorem anyB_f {f : Nat → Bool} {n : Nat} : anyB f n = false ↔ ∀ k, k < n → f k = false := by
  rw [← Bool.not_eq_true, anyB_iff]
  constructor
  · intro h k hk
    cases e : f k with
    | false => rfl
    | true => exact absurd ⟨k, hk, e⟩ h
  · rintro h ⟨k, hk, e⟩
    rw [h k hk] at e
    cases e
theorem anyB_cong {f g : Nat → Bool} : ∀ {n : Nat}, (∀ k, k < n → f k = g k) → anyB f n = anyB g n
  | 0, _ => rfl
  | n + 1, h => by rw [anyB, anyB, anyB_cong (fun k hk => h k (by omega)), h n (by omega)]
def cntB (f : Nat → Bool) : Nat → Nat
  | 0 => 0
  | n + 1 => cntB f n + (if f n then 1 else 0)
theorem cntB_le (f : Nat → Bool) : ∀ n, cntB f n ≤ n
  | 0 => Nat.le_refl _
  | n + 1 => by
    have := cntB_le f n
    rw [cntB]
    split <;> omega
theorem cntB_cong {f g : Nat → Bool} : ∀ {n : Nat}, (∀ k, k < n → f k = g k) → cntB f n = cntB g n
  | 0, _ => rfl
  | n + 1, h => by rw [cntB, cntB, cntB_cong (fun k hk => h k (by omega)), h n (by omega)]
