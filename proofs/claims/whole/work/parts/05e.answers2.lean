/-! what the public methods answer, further -/
theorem okg_lt {n : Nat} {k : Nat} (h : 0 ≤ ((k : Nat) : Int) ∧ ((k : Nat) : Int) < (n : Int)) : k < n := Int.ofNat_lt.mp h.2
def aOf (n : Nat) (f : Nat → Int) (g : Int) : Int := if 0 ≤ g ∧ g < (n : Int) then f g.toNat else -1
theorem aOf_y {n : Nat} {f : Nat → Int} {k : Nat} (h : 0 ≤ ((k : Nat) : Int) ∧ ((k : Nat) : Int) < (n : Int)) : f k = aOf n f ((k : Nat) : Int) := (if_pos h).symm
theorem aOf_n {n : Nat} {f : Nat → Int} {c : Int} (h : ¬ (0 ≤ c ∧ c < (n : Int))) : -1 = aOf n f c := (if_neg h).symm
/-- int answers that are sets -/
def aOfS (n : Nat) (f : Nat → Nat → Bool) (g : Int) : Int32 := if 0 ≤ g ∧ g < (n : Int) then iS (f g.toNat) else iI (-1)
theorem aOfS_y {n : Nat} {f : Nat → Nat → Bool} {k : Nat} (h : 0 ≤ ((k : Nat) : Int) ∧ ((k : Nat) : Int) < (n : Int)) : iS (f k) = aOfS n f ((k : Nat) : Int) := (if_pos h).symm
theorem aOfS_n {n : Nat} {f : Nat → Nat → Bool} {c : Int} (h : ¬ (0 ≤ c ∧ c < (n : Int))) : iI (-1) = aOfS n f c := (if_neg h).symm
/-- long answers that are sets -/
def aOfL (n : Nat) (f : Nat → Nat → Bool) (g : Int) : Int64 := if 0 ≤ g ∧ g < (n : Int) then lS (f g.toNat) else lI (-9223372036854775808)
theorem aOfL_y {n : Nat} {f : Nat → Nat → Bool} {k : Nat} (h : 0 ≤ ((k : Nat) : Int) ∧ ((k : Nat) : Int) < (n : Int)) : lS (f k) = aOfL n f ((k : Nat) : Int) := (if_pos h).symm
theorem aOfL_n {n : Nat} {f : Nat → Nat → Bool} {c : Int} (h : ¬ (0 ≤ c ∧ c < (n : Int))) : lI (-9223372036854775808) = aOfL n f c := (if_neg h).symm
def oGun (kind stand reach : Nat → Nat) (sil : Nat → Bool) (what : Int) (g : Nat) : Int := if what = 0 then ((kind g : Nat) : Int) else if what = 1 then ((stand g : Nat) : Int) else if what = 2 then ((reach g : Nat) : Int) else if what = 3 then ((rng (kind g) (reach g) : Nat) : Int) else if what = 4 then bz (sil g) else -2
def tTrc (t : Int) (n : Int) : Int := 31 * t + n
def tTell (kind : Nat → Nat) (t : Int) (g : Nat) : Int := if kind g = 0 then tTrc t 1 else if kind g = 1 then tTrc (tTrc t 2) 1 else tTrc (tTrc (tTrc (tTrc t 3) 2) 1) 1
def vTell (kind reach : Nat → Nat) (g : Nat) : Int := if kind g = 0 then ((reach g : Nat) : Int) else if kind g = 1 then ((reach g : Nat) : Int) + 100 else 2 * ((reach g : Nat) : Int) + 100
def aBack (n : Nat) (k : Int) : Int := if 0 ≤ k ∧ k ≤ (n : Int) then (n : Int) - k else -2
def uBack (n : Nat) (k : Int) : Nat := if 0 ≤ k ∧ k ≤ (n : Int) then n - k.toNat else n
def aSo (n : Nat) (rdOf : Nat → Nat) (rdWas : Nat → Bool) (shot : Nat → Bool) : Bool := !anyB (fun x => shot (rdOf x) != rdWas x) n
def shotQ (m : Nat → Bool) : Bool := anyB m 32
theorem shotQ_t {m : Nat → Bool} (h : ∃ i, i < 32 ∧ m i = true) : shotQ m = true := (anyB_iff m 32).mpr h
theorem shotQ_f {m : Nat → Bool} (h : ∀ i, i < 32 → m i = false) : shotQ m = false := anyB_f.mpr h
theorem aSo_s (n : Nat) (rdOf : Nat → Nat) (rdWas : Nat → Bool) (shot : Nat → Bool) : aSo (n + 1) rdOf rdWas shot = (aSo n rdOf rdWas shot && (shot (rdOf n) == rdWas n)) := by
  unfold aSo
  rw [anyB, Bool.not_or]
  congr 1
  cases shot (rdOf n) <;> cases rdWas n <;> rfl
