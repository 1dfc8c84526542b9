/-! what the public methods answer -/
def mseesF (wide : Nat) (kind stand reach : Nat → Nat) (sg : Nat → Bool) (g c : Nat) : Bool := lookF wide (stand g) c (rng (kind g) (reach g)) sg
def mshotB (wide n : Nat) (kind stand reach : Nat → Nat) (sil : Nat → Bool) (c : Nat) : Nat → Bool := bitsF (fun g => !sil g && mseesF wide kind stand reach (stF stand n) g c) n
def mcovB (wide n guns : Nat) (kind stand reach : Nat → Nat) (k : Nat) : Nat → Bool := bitsF (fun g => mseesF wide kind stand reach (stF stand n) g (stand k)) guns
def okc (n : Nat) (c : Int) : Prop := 0 ≤ c ∧ c < (n : Int)
theorem okc_n {n : Nat} {c : Int} (h : ¬ ¬ (0 ≤ c ∧ c < (n : Int))) : 0 ≤ c ∧ c < (n : Int) := Classical.not_not.mp h
def aClay (n : Nat) (clay : Nat → Nat) (c : Int) : Int := if 0 ≤ c ∧ c < (n : Int) then ((clay c.toNat : Nat) : Int) else -1
def aSet (n : Nat) (f : Nat → Nat) (c v : Int) : Int := if 0 ≤ c ∧ c < (n : Int) then (if 0 ≤ v ∧ v ≤ 9 then ((f c.toNat : Nat) : Int) else -2) else -1
def uSet (n : Nat) (f : Nat → Nat) (c v : Int) : Nat → Nat := if 0 ≤ c ∧ c < (n : Int) then (if 0 ≤ v ∧ v ≤ 9 then up f c.toNat v.toNat else f) else f
def aHush (n : Nat) (sil : Nat → Bool) (g : Int) : Int := if 0 ≤ g ∧ g < (n : Int) then bz (sil g.toNat) else -1
def uHush (n : Nat) (sil : Nat → Bool) (g : Int) (b : Bool) : Nat → Bool := if 0 ≤ g ∧ g < (n : Int) then up sil g.toNat b else sil
def aHaul (n m : Nat) (f : Nat → Nat) (g c : Int) : Int := if 0 ≤ g ∧ g < (n : Int) then (if 0 ≤ c ∧ c < (m : Int) then ((f g.toNat : Nat) : Int) else -1) else -1
def uHaul (n m : Nat) (f : Nat → Nat) (g c : Int) : Nat → Nat := if 0 ≤ g ∧ g < (n : Int) then (if 0 ≤ c ∧ c < (m : Int) then up f g.toNat c.toNat else f) else f
theorem hush_t (sil : Nat → Bool) (g : Nat) : (fun x9 => sil x9 || (fun x9 => decide (x9 = g)) x9) = up sil g true := by
  funext i
  unfold up
  by_cases h : i = g <;> simp [h]
theorem hush_f (sil : Nat → Bool) (g : Nat) : (fun x9 => sil x9 && (fun x9 => !(fun x9 => decide (x9 = g)) x9) x9) = up sil g false := by
  funext i
  unfold up
  by_cases h : i = g <;> simp [h]
