/-! sheets of the class, one by one -/
def shz (lane : Int) (len : Nat) : Int := if lane = -1 then -1 else (len : Int)
theorem shz_n {lane : Int} {len : Nat} (h : lane = -1) : shz lane len = -1 := if_pos h
theorem shz_y {lane : Int} {len : Nat} (h : lane ≠ -1) : shz lane len = (len : Int) := if_neg h
def newC (k ln n lane : Int) (len : Nat) (num : Nat → Int) (lane2 : Int) (len2 : Nat) (num2 : Nat → Int) : Prop :=
  (newOk k ln n → lane2 = ln ∧ len2 = n.toNat ∧ num2 = fun i => if i < 60 then 0 else num i) ∧ (¬ newOk k ln n → lane2 = lane ∧ len2 = len ∧ num2 = num)
theorem newC_no {k ln n lane : Int} {len : Nat} {num : Nat → Int} (h : ¬ newOk k ln n) : newC k ln n lane len num lane len num := ⟨fun q => absurd q h, fun _ => ⟨rfl, rfl, rfl⟩⟩
theorem newC_y {k ln lane : Int} {n : Nat} {len : Nat} {num num2 : Nat → Int} (h : newOk k ln ((n : Nat) : Int)) (e : num2 = fun i => if i < 60 then 0 else num i) : newC k ln ((n : Nat) : Int) lane len num ln n num2 := ⟨fun _ => ⟨rfl, rfl, e⟩, fun q => absurd h q⟩
def cellC (lane : Int) (len : Nat) (num : Nat → Int) (k i ln : Int) : Int := if (0 ≤ k ∧ k ≤ 3) ∧ (0 ≤ ln ∧ ln ≤ 2) then (if 0 ≤ shz lane len ∧ lane ≠ ln then -9223372036854775808 else if 0 < noCellZ (shz lane len) i then -9223372036854775808 else num i.toNat) else -9223372036854775808
def cellF (lane : Int) (len : Nat) (k i ln : Int) : Int := if (0 ≤ k ∧ k ≤ 3) ∧ (0 ≤ ln ∧ ln ≤ 2) then (if 0 ≤ shz lane len ∧ lane ≠ ln then 2 else noCellZ (shz lane len) i) else 0
theorem cellC_no {lane : Int} {len : Nat} {num : Nat → Int} {k i ln : Int} (h : ¬ ((0 ≤ k ∧ k ≤ 3) ∧ (0 ≤ ln ∧ ln ≤ 2))) : -9223372036854775808 = cellC lane len num k i ln ∧ 0 = cellF lane len k i ln := ⟨(if_neg h).symm, (if_neg h).symm⟩
theorem cellC_2 {lane : Int} {len : Nat} {num : Nat → Int} {k i ln : Int} (h : (0 ≤ k ∧ k ≤ 3) ∧ (0 ≤ ln ∧ ln ≤ 2)) (h1 : lane ≠ -1 ∧ lane ≠ ln) : -9223372036854775808 = cellC lane len num k i ln ∧ 2 = cellF lane len k i ln := by
  have e : 0 ≤ shz lane len ∧ lane ≠ ln := ⟨by rw [shz_y h1.1]; omega, h1.2⟩
  unfold cellC cellF
  rw [if_pos h, if_pos h, if_pos e, if_pos e]
  exact ⟨rfl, rfl⟩
theorem cellC_1 {lane : Int} {len : Nat} {num : Nat → Int} {k i ln : Int} (h : (0 ≤ k ∧ k ≤ 3) ∧ (0 ≤ ln ∧ ln ≤ 2)) (h1 : lane = -1) : -9223372036854775808 = cellC lane len num k i ln ∧ 1 = cellF lane len k i ln := by
  have z := shz_n (len := len) h1
  have e : ¬ (0 ≤ shz lane len ∧ lane ≠ ln) := fun q => by rw [z] at q; omega
  have f := noCellZ_1 (z := shz lane len) (i := i) (by rw [z]; decide)
  unfold cellC cellF
  rw [if_pos h, if_pos h, if_neg e, if_neg e, ← f, if_pos (by decide)]
  exact ⟨rfl, rfl⟩
theorem cellC_3 {lane : Int} {len : Nat} {num : Nat → Int} {k i ln : Int} (h : (0 ≤ k ∧ k ≤ 3) ∧ (0 ≤ ln ∧ ln ≤ 2)) (h1 : lane ≠ -1) (h2 : lane = ln) (h3 : ¬ (0 ≤ i ∧ i < (len : Int))) : -9223372036854775808 = cellC lane len num k i ln ∧ 3 = cellF lane len k i ln := by
  have z := shz_y (len := len) h1
  have e : ¬ (0 ≤ shz lane len ∧ lane ≠ ln) := fun q => q.2 h2
  have f := noCellZ_3 (z := shz lane len) (i := i) (by rw [z]; omega) (by rw [z]; omega)
  unfold cellC cellF
  rw [if_pos h, if_pos h, if_neg e, if_neg e, ← f, if_pos (by decide)]
  exact ⟨rfl, rfl⟩
theorem cellC_y {lane : Int} {len : Nat} {num : Nat → Int} {k ln : Int} {i : Nat} (h : (0 ≤ k ∧ k ≤ 3) ∧ (0 ≤ ln ∧ ln ≤ 2)) (h1 : lane ≠ -1) (h2 : lane = ln) (h3 : (i : Int) < (len : Int)) : num i = cellC lane len num k ((i : Nat) : Int) ln ∧ 0 = cellF lane len k ((i : Nat) : Int) ln := by
  have z := shz_y (len := len) h1
  have e : ¬ (0 ≤ shz lane len ∧ lane ≠ ln) := fun q => q.2 h2
  have f := noCellZ_0 (z := shz lane len) (i := ((i : Nat) : Int)) (by rw [z]; omega) (by rw [z]; omega)
  unfold cellC cellF
  rw [if_pos h, if_pos h, if_neg e, if_neg e, ← f, if_neg (by decide), Int.toNat_natCast]
  exact ⟨rfl, rfl⟩
def cpzC (z1 l1 z2 l2 k i o j n : Int) : Int := if (0 ≤ k ∧ k ≤ 3) ∧ (0 ≤ o ∧ o ≤ 3) then (if z1 < 0 ∨ z2 < 0 then 1 else if l1 ≠ l2 then 2 else if (i < 0 ∨ n < 0 ∨ i + n > z1) ∨ (j < 0 ∨ n < 0 ∨ j + n > z2) then 3 else 0) else -1
def cpyC (num nu1 : Nat → Int) (z i j n : Int) (nu2 : Nat → Int) : Prop := nu2 = if z = 0 then cpyZ num nu1 i.toNat j.toNat n.toNat else nu1
theorem cpC_m1 {num nu1 : Nat → Int} {z1 l1 z2 l2 k i o j n : Int} (h : ¬ ((0 ≤ k ∧ k ≤ 3) ∧ (0 ≤ o ∧ o ≤ 3))) : iI (-1) = iI (aCpy (cpzC z1 l1 z2 l2 k i o j n) n) ∧ cpyC num nu1 (cpzC z1 l1 z2 l2 k i o j n) i j n nu1 ∧ 0 = fCpy (cpzC z1 l1 z2 l2 k i o j n) := by
  have e : cpzC z1 l1 z2 l2 k i o j n = -1 := if_neg h
  unfold cpyC
  rw [e]
  exact ⟨rfl, rfl, rfl⟩
theorem cpC_f {num nu1 : Nat → Int} {z1 l1 z2 l2 k i o j n z : Int} (hz : z = 1 ∨ z = 2 ∨ z = 3) (e : cpzC z1 l1 z2 l2 k i o j n = z) : iI (-10 - z) = iI (aCpy (cpzC z1 l1 z2 l2 k i o j n) n) ∧ cpyC num nu1 (cpzC z1 l1 z2 l2 k i o j n) i j n nu1 ∧ z = fCpy (cpzC z1 l1 z2 l2 k i o j n) := by
  unfold cpyC
  rw [e]
  rcases hz with h | h | h <;> subst h <;> exact ⟨rfl, rfl, rfl⟩
theorem cpC_0 {num nu1 nu2 : Nat → Int} {z1 l1 z2 l2 k o : Int} {i j n : Nat} (e : cpzC z1 l1 z2 l2 k ((i : Nat) : Int) o ((j : Nat) : Int) ((n : Nat) : Int) = 0) (h : nu2 = cpyZ num nu1 i j n) : iI ((n : Nat) : Int) = iI (aCpy (cpzC z1 l1 z2 l2 k ((i : Nat) : Int) o ((j : Nat) : Int) ((n : Nat) : Int)) ((n : Nat) : Int)) ∧ cpyC num nu1 (cpzC z1 l1 z2 l2 k ((i : Nat) : Int) o ((j : Nat) : Int) ((n : Nat) : Int)) ((i : Nat) : Int) ((j : Nat) : Int) ((n : Nat) : Int) nu2 ∧ 0 = fCpy (cpzC z1 l1 z2 l2 k ((i : Nat) : Int) o ((j : Nat) : Int) ((n : Nat) : Int)) := by
  unfold cpyC
  rw [e]
  exact ⟨rfl, h, rfl⟩
theorem cpzC_1 {z1 l1 z2 l2 k i o j n : Int} (h : (0 ≤ k ∧ k ≤ 3) ∧ (0 ≤ o ∧ o ≤ 3)) (h1 : z1 < 0 ∨ z2 < 0) : cpzC z1 l1 z2 l2 k i o j n = 1 := (if_pos h).trans (if_pos h1)
theorem cpzC_2 {z1 l1 z2 l2 k i o j n : Int} (h : (0 ≤ k ∧ k ≤ 3) ∧ (0 ≤ o ∧ o ≤ 3)) (h1 : ¬ (z1 < 0 ∨ z2 < 0)) (h2 : l1 ≠ l2) : cpzC z1 l1 z2 l2 k i o j n = 2 := (if_pos h).trans ((if_neg h1).trans (if_pos h2))
theorem cpzC_3 {z1 l1 z2 l2 k i o j n : Int} (h : (0 ≤ k ∧ k ≤ 3) ∧ (0 ≤ o ∧ o ≤ 3)) (h1 : ¬ (z1 < 0 ∨ z2 < 0)) (h2 : l1 = l2) (h3 : (i < 0 ∨ n < 0 ∨ i + n > z1) ∨ (j < 0 ∨ n < 0 ∨ j + n > z2)) : cpzC z1 l1 z2 l2 k i o j n = 3 := (if_pos h).trans ((if_neg h1).trans ((if_neg (fun q => q h2)).trans (if_pos h3)))
theorem cpzC_0 {z1 l1 z2 l2 k i o j n : Int} (h : (0 ≤ k ∧ k ≤ 3) ∧ (0 ≤ o ∧ o ≤ 3)) (h1 : ¬ (z1 < 0 ∨ z2 < 0)) (h2 : l1 = l2) (h3 : ¬ ((i < 0 ∨ n < 0 ∨ i + n > z1) ∨ (j < 0 ∨ n < 0 ∨ j + n > z2))) : cpzC z1 l1 z2 l2 k i o j n = 0 := (if_pos h).trans ((if_neg h1).trans ((if_neg (fun q => q h2)).trans (if_neg h3)))
/-- nights of a trench, step by step -/
theorem nig_y {clay : Nat → Nat} {dug : Nat → Bool} {num : Nat → Int} {fr y x : Nat} (hx : x = nigF clay dug num fr y) (h : toldF num fr y (tcF num fr y) = true) : x = nigF clay dug num fr (y + 1) := by
  rw [nigF, h, ← hx]
  rfl
theorem nig_n {clay : Nat → Nat} {dug : Nat → Bool} {num : Nat → Int} {fr y x : Nat} (hx : x = nigF clay dug num fr y) (h : toldF num fr y (tcF num fr y) = false) : x + (if dug (tcF num fr y) then 0 else clay (tcF num fr y)) = nigF clay dug num fr (y + 1) := by
  rw [nigF, h, ← hx, Bool.false_or]
theorem told_s (num : Nat → Int) (fr y : Nat) : (fun x9 => (toldF num fr y) x9 || (fun x9 => decide (x9 = tcF num fr y)) x9) = toldF num fr (y + 1) := rfl
theorem trA_9 {nig sht bits x : Nat} {by_ : Nat → Bool} {fw what : Int} (h : fw = -9) (h1 : what ≠ 1) (h0 : what ≠ 0) (h2 : what ≠ 2) (h3 : what ≠ 3) (hx : x = bits) : iI ((x : Nat) : Int) = trA fw nig sht by_ bits what := by
  unfold trA trZ
  rw [if_neg (by omega), if_neg h1, if_neg (by omega), if_neg h0, if_neg h2, hx]
