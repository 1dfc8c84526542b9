/-! the ground, said as functions -/
theorem anyB_stop {f : Nat → Bool} {n : Nat} (h : ∀ k, n ≤ k → f k = false) : ∀ m, n ≤ m → anyB f m = anyB f n
  | 0, hm => by
    have e : n = 0 := by omega
    rw [e]
  | m + 1, hm => by
    by_cases e : n = m + 1
    · rw [e]
    · rw [anyB, anyB_stop h m (by omega), h m (by omega), Bool.or_false]
/-- where guns stand -/
def stF (stand : Nat → Nat) (guns : Nat) : Nat → Bool := fun i => anyB (fun g => decide (i = stand g)) guns
theorem stF_iff {stand : Nat → Nat} {guns i : Nat} : stF stand guns i = true ↔ ∃ g, g < guns ∧ stand g = i := by
  unfold stF
  rw [anyB_iff]
  constructor
  · rintro ⟨g, h1, h2⟩
    exact ⟨g, h1, (of_decide_eq_true h2).symm⟩
  · rintro ⟨g, h1, h2⟩
    exact ⟨g, h1, decide_eq_true h2.symm⟩
def inb (wide high : Nat) (x y : Int) : Bool := decide (0 ≤ x ∧ x < (wide : Int) ∧ 0 ≤ y ∧ y < (high : Int))
def rx (wide c way o : Nat) : Int := ((c % wide : Nat) : Int) + (o : Int) * acr way
def ry (wide c way o : Nat) : Int := ((c / wide : Nat) : Int) + (o : Int) * dwn way
def rpos (wide c way o : Nat) : Nat := (ry wide c way o * (wide : Int) + rx wide c way o).toNat
theorem rx_0 (wide c way : Nat) : rx wide c way 0 = ((c % wide : Nat) : Int) := by
  unfold rx
  rw [Int.natCast_zero, Int.zero_mul, Int.add_zero]
theorem ry_0 (wide c way : Nat) : ry wide c way 0 = ((c / wide : Nat) : Int) := by
  unfold ry
  rw [Int.natCast_zero, Int.zero_mul, Int.add_zero]
theorem rx_s (wide c way o : Nat) : rx wide c way o + acr way = rx wide c way (o + 1) := by
  unfold rx
  rw [Int.natCast_add, Int.add_mul, Int.natCast_one, Int.one_mul, Int.add_assoc]
theorem ry_s (wide c way o : Nat) : ry wide c way o + dwn way = ry wide c way (o + 1) := by
  unfold ry
  rw [Int.natCast_add, Int.add_mul, Int.natCast_one, Int.one_mul, Int.add_assoc]
theorem rpos_eq {wide c way o : Nat} (hx : 0 ≤ rx wide c way o) (hy : 0 ≤ ry wide c way o) : ry wide c way o * (wide : Int) + rx wide c way o = ((rpos wide c way o : Nat) : Int) := by
  unfold rpos
  have h : 0 ≤ ry wide c way o * (wide : Int) := Int.mul_nonneg hy (by omega)
  omega
theorem rpos_lt {wide high c way o : Nat} (h : inb wide high (rx wide c way o) (ry wide c way o) = true) : rpos wide c way o < wide * high := by
  have h1 := of_decide_eq_true h
  have e := rpos_eq h1.1 h1.2.2.1
  have h2 : ry wide c way o + 1 ≤ (high : Int) := by omega
  have h3 : (ry wide c way o + 1) * (wide : Int) ≤ (high : Int) * (wide : Int) := Int.mul_le_mul_of_nonneg_right h2 (by omega)
  rw [Int.add_mul, Int.one_mul] at h3
  have h4 : ((wide * high : Nat) : Int) = (high : Int) * (wide : Int) := by rw [Int.natCast_mul, Int.mul_comm]
  omega
def rayOk (wide high c : Nat) (sg : Nat → Bool) (way : Nat) : Nat → Bool
  | 0 => true
  | o + 1 => rayOk wide high c sg way o && inb wide high (rx wide c way (o + 1)) (ry wide c way (o + 1)) && (decide (o = 0) || !sg (rpos wide c way o))
def rayHit (wide high c : Nat) (sg : Nat → Bool) (way o i : Nat) : Bool := rayOk wide high c sg way (o + 1) && decide (i = rpos wide c way (o + 1))
def seenF (wide high c r : Nat) (sg : Nat → Bool) : Nat → Bool := fun i => anyB (fun way => anyB (fun o => rayHit wide high c sg way o i) r) 8
theorem rayOk_dead {wide high c : Nat} {sg : Nat → Bool} {way o : Nat} (h : rayOk wide high c sg way o = false) : ∀ k, o ≤ k → rayOk wide high c sg way k = false
  | 0, hk => by
    have e : o = 0 := by omega
    rw [← e]
    exact h
  | k + 1, hk => by
    by_cases e : o = k + 1
    · rw [← e]
      exact h
    · rw [rayOk, rayOk_dead h k (by omega), Bool.false_and, Bool.false_and]
theorem ray_end {wide high c : Nat} {sg : Nat → Bool} {way o r : Nat} (i : Nat) (hr : o ≤ r) (h : rayOk wide high c sg way (o + 1) = false) : anyB (fun o => rayHit wide high c sg way o i) r = anyB (fun o => rayHit wide high c sg way o i) o :=
  anyB_stop (fun k hk => by
    unfold rayHit
    rw [rayOk_dead h (k + 1) (by omega), Bool.false_and]) r hr
/-- what gun g sees -/
def seesG (wide high : Nat) (kind stand reach : Nat → Nat) (sg : Nat → Bool) (g : Nat) : Nat → Bool := seenF wide high (stand g) (rng (kind g) (reach g)) sg
theorem seenF_lt {wide high c r : Nat} {sg : Nat → Bool} {i : Nat} (h : seenF wide high c r sg i = true) : i < wide * high := by
  unfold seenF at h
  obtain ⟨way, -, h⟩ := (anyB_iff _ _).mp h
  obtain ⟨o, -, h⟩ := (anyB_iff _ _).mp h
  unfold rayHit at h
  rw [Bool.and_eq_true] at h
  have h2 := h.1
  rw [rayOk, Bool.and_eq_true, Bool.and_eq_true] at h2
  rw [of_decide_eq_true h.2]
  exact rpos_lt h2.1.2
def shotF (wide high guns : Nat) (kind stand reach : Nat → Nat) (hush : Nat → Bool) : Nat → Bool := fun i => anyB (fun g => !hush g && seesG wide high kind stand reach (stF stand guns) g i) guns
def hitF (wide high guns : Nat) (kind stand reach : Nat → Nat) (sil aims : Nat → Bool) (g : Nat) : Bool := !sil g && anyB (fun i => seesG wide high kind stand reach (stF stand guns) g i && aims i) 64
def bitsF (f : Nat → Bool) (n : Nat) : Nat → Bool := fun i => anyB (fun g => decide (i = g) && f g) n
theorem bitsF_t {f : Nat → Bool} {n : Nat} (h : f n = true) : (fun x9 => bitsF f n x9 || (fun x9 => decide (x9 = n)) x9) = bitsF f (n + 1) := by
  funext i
  show _ = (anyB _ n || (decide (i = n) && f n))
  rw [h, Bool.and_true]
  rfl
theorem bitsF_f {f : Nat → Bool} {n : Nat} (h : f n = false) : bitsF f n = bitsF f (n + 1) := by
  funext i
  show _ = (anyB _ n || (decide (i = n) && f n))
  rw [h, Bool.and_false, Bool.or_false]
  rfl
theorem bitsF_eq (f : Nat → Bool) (n i : Nat) : bitsF f n i = (decide (i < n) && f i) := by
  rw [Bool.eq_iff_iff]
  unfold bitsF
  rw [anyB_iff, Bool.and_eq_true]
  constructor
  · rintro ⟨k, h1, h2⟩
    rw [Bool.and_eq_true] at h2
    have e := of_decide_eq_true h2.1
    subst e
    exact ⟨decide_eq_true h1, h2.2⟩
  · rintro ⟨h1, h2⟩
    exact ⟨i, of_decide_eq_true h1, by rw [h2]; simp⟩
theorem ex_any {f g : Nat → Bool} (h : ∃ i, i < 64 ∧ (fun x9 => f x9 && g x9) i = true) : anyB (fun i => f i && g i) 64 = true := (anyB_iff _ _).mpr h
theorem no_any {f g : Nat → Bool} (h : ∀ i, i < 64 → (fun x9 => f x9 && g x9) i = false) : anyB (fun i => f i && g i) 64 = false := anyB_f.mpr h
def soilF (cells guns : Nat) (clay stand : Nat → Nat) : Nat → Bool := fun i => bitsF (fun c => decide (0 < clay c)) cells i && !stF stand guns i
def openF (wide high cells guns : Nat) (clay kind stand reach : Nat → Nat) (hush : Nat → Bool) : Nat → Bool := fun i => soilF cells guns clay stand i && !shotF wide high guns kind stand reach hush i
def nextF (wide : Nat) (fc lc p : Nat → Bool) : Nat → Bool := fun i => ((decide (1 ≤ i) && (p (i - 1) && !lc (i - 1)) || decide (i + 1 < 64) && (p (i + 1) && !fc (i + 1))) || decide (wide ≤ i) && p (i - wide)) || decide (i + wide < 64) && p (i + wide)
def rchF (wide : Nat) (fc lc op : Nat → Bool) : Nat → Nat → Bool
  | 0 => fun i => op i && fc i
  | n + 1 => fun i => rchF wide fc lc op n i || (nextF wide fc lc (rchF wide fc lc op n) i && op i)
theorem rchF_sub {wide : Nat} {fc lc op : Nat → Bool} : ∀ {n i : Nat}, rchF wide fc lc op n i = true → op i = true
  | 0, i, h => by
    rw [rchF, Bool.and_eq_true] at h
    exact h.1
  | n + 1, i, h => by
    rw [rchF, Bool.or_eq_true, Bool.and_eq_true] at h
    rcases h with h | h
    · exact rchF_sub h
    · exact h.2
def besZ (wide high c side : Nat) : Int :=
  if side = 0 then (if 0 < c / wide then (c : Int) - wide else -9)
  else if side = 1 then (if 0 < c % wide then (c : Int) - 1 else -9)
  else if side = 2 then (if c % wide < wide - 1 then (c : Int) + 1 else -9)
  else (if c / wide < high - 1 then (c : Int) + wide else -9)
