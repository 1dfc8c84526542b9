/-! a text, code by code -/
def codZ (num : Nat → Int) (r fr n : Nat) : Int := if r < n then num (fr + r) else -9
theorem codZ_in {num : Nat → Int} (h : ∀ k, -2147483648 ≤ num k ∧ num k < 2147483648) (r fr n : Nat) : -2147483648 ≤ codZ num r fr n ∧ codZ num r fr n < 2147483648 := by
  unfold codZ
  split
  · exact h _
  · omega
/-- a digit between two numbers; the code less 48 wraps -/
def figV (c : Int) : Int := (c - 48).bmod 4294967296
def figZ (c lo hi : Int) : Int := if lo ≤ figV c ∧ figV c ≤ hi then figV c else -9
theorem figV_in (c : Int) : -2147483648 ≤ figV c ∧ figV c < 2147483648 := by
  unfold figV
  have h1 := Int.le_bmod (x := c - 48) (m := 4294967296) (by decide)
  have h2 := Int.bmod_lt (x := c - 48) (m := 4294967296) (by decide)
  omega
theorem figV_eq (c : Int) : iI (c - 48) = iI (figV c) := by
  have h := figV_in c
  rw [← Int32.toInt_inj, iI_toInt (z := figV c) ⟨h.1, h.2⟩]
  unfold iI
  rw [Int32.toInt_ofInt]
  rfl
