/-! the reference's state, in words -/
def absd (a b : Int) : Int := if a < b then b - a else a - b
theorem absd_lt {a b : Int} (h : a < b) : absd a b = b - a := if_pos h
theorem absd_ge {a b : Int} (h : b ≤ a) : absd a b = a - b := if_neg (by omega)
theorem absd_in (a b : Int) : 0 ≤ absd a b ∧ (absd a b = a - b ∨ absd a b = b - a) := by
  unfold absd
  split <;> omega
def sgn (v : Int) : Int := if 0 < v then 1 else if v < 0 then -1 else 0
theorem sgn_p {v : Int} (h : 0 < v) : sgn v = 1 := if_pos h
theorem sgn_n {v : Int} (h : v < 0) : sgn v = -1 := by
  unfold sgn
  rw [if_neg (by omega), if_pos h]
theorem sgn_0 {v : Int} (h : v = 0) : sgn v = 0 := by
  unfold sgn
  rw [if_neg (by omega), if_neg (by omega)]
theorem sgn_in (v : Int) : -1 ≤ sgn v ∧ sgn v ≤ 1 := by
  unfold sgn
  split
  · omega
  · split <;> omega
theorem bz_inR (b : Bool) : InR (bz b) := by cases b <;> decide
theorem bz_1i {b : Bool} (h : bz b = 1) : b = true := by
  cases b with
  | false => exact absurd h (by decide)
  | true => rfl
theorem bz_0i {b : Bool} (h : bz b ≠ 1) : b = false := by
  cases b with
  | false => rfl
  | true => exact absurd rfl h
theorem stF_s (stand : Nat → Nat) (g c : Nat) : stF stand (g + 1) c = (stF stand g c || decide (c = stand g)) := rfl
theorem bitsF_z {f : Nat → Bool} {n : Nat} (h : f n = false) : (fun x9 => bitsF f n x9 || (fun _ => false) x9) = bitsF f (n + 1) := by
  rw [← bitsF_f h]
  funext i
  show (bitsF f n i || false) = _
  rw [Bool.or_false]
def ModOk (wide high guns ext : Nat) (clay kind stand reach : Nat → Nat) : Prop :=
  wide ≤ 6 ∧ high ≤ 6 ∧ wide * high ≤ 36 ∧ guns ≤ 4 ∧ ext ≤ 1 ∧ (∀ k, clay k ≤ 9) ∧ (∀ k, kind k ≤ 2) ∧ (∀ k, stand k < 36) ∧ (∀ k, reach k ≤ 9) ∧ (∀ g, g < guns + ext → stand g < wide * high)
/-! lines of sight as the reference has them -/
def lFar (dx dy : Int) : Int := if absd dx 0 > absd dy 0 then absd dx 0 else absd dy 0
def lStep (wide : Nat) (dx dy : Int) : Int := (wide : Int) * sgn dy + sgn dx
def lClear (dx dy r : Int) : Bool := decide (1 ≤ lFar dx dy ∧ lFar dx dy ≤ r ∧ (dx = 0 ∨ dy = 0 ∨ absd dx 0 = absd dy 0))
def ldx (wide c t : Nat) : Int := ((t % wide : Nat) : Int) - ((c % wide : Nat) : Int)
def ldy (wide c t : Nat) : Int := ((t / wide : Nat) : Int) - ((c / wide : Nat) : Int)
def lpos (wide c : Nat) (dx dy : Int) (k : Nat) : Nat := ((c : Int) + (k : Int) * lStep wide dx dy).toNat
def lookF (wide c t r : Nat) (sg : Nat → Bool) : Bool := lClear (ldx wide c t) (ldy wide c t) r && !anyB (fun j => sg (lpos wide c (ldx wide c t) (ldy wide c t) (j + 1))) ((lFar (ldx wide c t) (ldy wide c t)).toNat - 1)
theorem lFar_in (dx dy : Int) : 0 ≤ lFar dx dy ∧ dx ≤ lFar dx dy ∧ -dx ≤ lFar dx dy ∧ dy ≤ lFar dx dy ∧ -dy ≤ lFar dx dy ∧ (lFar dx dy = dx ∨ lFar dx dy = -dx ∨ lFar dx dy = dy ∨ lFar dx dy = -dy) := by
  unfold lFar absd
  repeat' split
  all_goals omega
theorem step_in {d k f : Int} (h0 : 0 ≤ k) (hk : k ≤ f) (hf : d = 0 ∨ d = f ∨ d = -f) : (0 ≤ k * sgn d ∧ k * sgn d ≤ d) ∨ (d ≤ k * sgn d ∧ k * sgn d ≤ 0) := by
  by_cases h1 : 0 < d
  · rw [sgn_p h1]
    left
    omega
  · by_cases h2 : d < 0
    · rw [sgn_n h2]
      right
      omega
    · have h3 : d = 0 := by omega
      rw [sgn_0 h3, h3]
      left
      omega
theorem clear_in {dx dy : Int} (h : dx = 0 ∨ dy = 0 ∨ absd dx 0 = absd dy 0) : (dx = 0 ∨ dx = lFar dx dy ∨ dx = -lFar dx dy) ∧ (dy = 0 ∨ dy = lFar dx dy ∨ dy = -lFar dx dy) := by
  revert h
  unfold lFar absd
  repeat' split
  all_goals omega
theorem cell_in {wide high : Nat} {x y : Int} (hx : 0 ≤ x ∧ x < wide) (hy : 0 ≤ y ∧ y < high) : 0 ≤ (wide : Int) * y + x ∧ (wide : Int) * y + x < ((wide * high : Nat) : Int) := by
  have h1 : 0 ≤ (wide : Int) * y := Int.mul_nonneg (by omega) hy.1
  have h2 : (wide : Int) * (y + 1) ≤ (wide : Int) * (high : Int) := Int.mul_le_mul_of_nonneg_left (by omega) (by omega)
  rw [Int.mul_add, Int.mul_one] at h2
  rw [Int.natCast_mul]
  omega
theorem div_in {wide high c : Nat} (hc : c < wide * high) : c / wide < high := Nat.div_lt_of_lt_mul hc
theorem look_eq (wide c : Nat) (dx dy : Int) (k : Nat) : (c : Int) + (k : Int) * lStep wide dx dy = (wide : Int) * (((c / wide : Nat) : Int) + (k : Int) * sgn dy) + (((c % wide : Nat) : Int) + (k : Int) * sgn dx) := by
  have e : (c : Int) = (wide : Int) * ((c / wide : Nat) : Int) + ((c % wide : Nat) : Int) := by
    rw [← Int.natCast_mul, ← Int.natCast_add, Nat.div_add_mod]
  unfold lStep
  rw [Int.mul_add, Int.mul_add]
  have e2 : (k : Int) * ((wide : Int) * sgn dy) = (wide : Int) * ((k : Int) * sgn dy) := Int.mul_left_comm _ _ _
  rw [e2]
  omega
theorem look_rng {wide high c t : Nat} (h0 : 0 < wide) (hc : c < wide * high) (ht : t < wide * high) (hcl : ldx wide c t = 0 ∨ ldy wide c t = 0 ∨ absd (ldx wide c t) 0 = absd (ldy wide c t) 0) {k : Nat} (hk : (k : Int) ≤ lFar (ldx wide c t) (ldy wide c t)) :
    0 ≤ (c : Int) + (k : Int) * lStep wide (ldx wide c t) (ldy wide c t) ∧ (c : Int) + (k : Int) * lStep wide (ldx wide c t) (ldy wide c t) < ((wide * high : Nat) : Int) := by
  rw [look_eq]
  obtain ⟨q1, q2⟩ := clear_in hcl
  have r1 := step_in (by omega) hk q1
  have r2 := step_in (by omega) hk q2
  have m1 := Nat.mod_lt c h0
  have m2 := Nat.mod_lt t h0
  have d1 := div_in hc
  have d2 := div_in ht
  have z1 : 0 ≤ ((c / wide : Nat) : Int) := Int.natCast_nonneg _
  have z2 : 0 ≤ ((t / wide : Nat) : Int) := Int.natCast_nonneg _
  have z3 : 0 ≤ ((c % wide : Nat) : Int) := Int.natCast_nonneg _
  have z4 : 0 ≤ ((t % wide : Nat) : Int) := Int.natCast_nonneg _
  have m1' : ((c % wide : Nat) : Int) < wide := by exact_mod_cast m1
  have m2' : ((t % wide : Nat) : Int) < wide := by exact_mod_cast m2
  have d1' : ((c / wide : Nat) : Int) < high := by exact_mod_cast d1
  have d2' : ((t / wide : Nat) : Int) < high := by exact_mod_cast d2
  have e1 : ldx wide c t = ((t % wide : Nat) : Int) - ((c % wide : Nat) : Int) := rfl
  have e2 : ldy wide c t = ((t / wide : Nat) : Int) - ((c / wide : Nat) : Int) := rfl
  generalize (k : Int) * sgn (ldx wide c t) = kx at r1 ⊢
  generalize (k : Int) * sgn (ldy wide c t) = ky at r2 ⊢
  generalize ((c / wide : Nat) : Int) = cy at *
  generalize ((t / wide : Nat) : Int) = ty at *
  generalize ((c % wide : Nat) : Int) = cx at *
  generalize ((t % wide : Nat) : Int) = tx at *
  exact cell_in ⟨by omega, by omega⟩ ⟨by omega, by omega⟩
theorem anyB_mono {f : Nat → Bool} {n m : Nat} (h : n ≤ m) (ha : anyB f n = true) : anyB f m = true := by
  obtain ⟨k, h1, h2⟩ := (anyB_iff f n).mp ha
  exact (anyB_iff f m).mpr ⟨k, by omega, h2⟩
theorem look_end {wide c t r : Nat} {sg : Nat → Bool} {b : Bool} {k : Nat} {far : Int} (hf : b = (lClear (ldx wide c t) (ldy wide c t) r && !anyB (fun j => sg (lpos wide c (ldx wide c t) (ldy wide c t) (j + 1))) (k - 1))) (hfar : far = lFar (ldx wide c t) (ldy wide c t)) (hk : 1 ≤ k ∧ ((k : Int) ≤ far ∨ k = 1)) (he : b = false ∨ far ≤ (k : Int)) : b = lookF wide c t r sg := by
  unfold lookF
  cases e : lClear (ldx wide c t) (ldy wide c t) r with
  | false => rw [hf, e]; rfl
  | true =>
    have h1 := (of_decide_eq_true e).1
    have hkf : k - 1 ≤ (lFar (ldx wide c t) (ldy wide c t)).toNat - 1 := by omega
    rcases he with q | q
    · rw [q, e] at hf
      rw [q]
      have ha : anyB (fun j => sg (lpos wide c (ldx wide c t) (ldy wide c t) (j + 1))) (k - 1) = true := by
        cases e2 : anyB (fun j => sg (lpos wide c (ldx wide c t) (ldy wide c t) (j + 1))) (k - 1) with
        | true => rfl
        | false => rw [e2] at hf; cases hf
      rw [anyB_mono hkf ha]
      rfl
    · rw [hf, e, show k - 1 = (lFar (ldx wide c t) (ldy wide c t)).toNat - 1 from by omega]
