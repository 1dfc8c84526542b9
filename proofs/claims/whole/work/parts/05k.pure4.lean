/-! copies, trenches -/
def cpZ (sz ln : Nat → Int) (k i o j n : Int) : Int := if (0 ≤ k ∧ k ≤ 3) ∧ (0 ≤ o ∧ o ≤ 3) then (if sz k.toNat < 0 ∨ sz o.toNat < 0 then 1 else if ln k.toNat ≠ ln o.toNat then 2 else if (i < 0 ∨ n < 0 ∨ i + n > sz k.toNat) ∨ (j < 0 ∨ n < 0 ∨ j + n > sz o.toNat) then 3 else 0) else -1
def aCpy (z n : Int) : Int := if z = -1 then -1 else if z = 0 then n else -10 - z
def fCpy (z : Int) : Int := if z = -1 then 0 else z
def cpyF (num : Nat → Int) (f t n : Nat) : Nat → Int := fun x => if t ≤ x ∧ x < t + n then num (f + (x - t)) else num x
def cpyR (num : Nat → Int) (z k i o j n : Int) (nm2 : Nat → Int) : Prop := nm2 = if z = 0 then cpyF num (60 * k.toNat + i.toNat) (60 * o.toNat + j.toNat) n.toNat else num
theorem cp_m1 {sz ln num : Nat → Int} {k i o j n : Int} (h : ¬ ((0 ≤ k ∧ k ≤ 3) ∧ (0 ≤ o ∧ o ≤ 3))) : iI (-1) = iI (aCpy (cpZ sz ln k i o j n) n) ∧ cpyR num (cpZ sz ln k i o j n) k i o j n num ∧ 0 = fCpy (cpZ sz ln k i o j n) := by
  have e : cpZ sz ln k i o j n = -1 := if_neg h
  unfold cpyR
  rw [e]
  exact ⟨rfl, rfl, rfl⟩
theorem cp_f {sz ln num : Nat → Int} {k i o j n z : Int} (hz : z = 1 ∨ z = 2 ∨ z = 3) (e : cpZ sz ln k i o j n = z) : iI (-10 - z) = iI (aCpy (cpZ sz ln k i o j n) n) ∧ cpyR num (cpZ sz ln k i o j n) k i o j n num ∧ z = fCpy (cpZ sz ln k i o j n) := by
  unfold cpyR
  rw [e]
  rcases hz with h | h | h <;> subst h <;> exact ⟨rfl, rfl, rfl⟩
theorem cp_0 {sz ln num nm : Nat → Int} {k i o j n : Int} (e : cpZ sz ln k i o j n = 0) (h : nm = cpyF num (60 * k.toNat + i.toNat) (60 * o.toNat + j.toNat) n.toNat) : iI n = iI (aCpy (cpZ sz ln k i o j n) n) ∧ cpyR num (cpZ sz ln k i o j n) k i o j n nm ∧ 0 = fCpy (cpZ sz ln k i o j n) := by
  unfold cpyR
  rw [e]
  exact ⟨rfl, h, rfl⟩
theorem cpZ_1 {sz ln : Nat → Int} {k o : Nat} {i j n : Int} (hk : 0 ≤ ((k : Nat) : Int) ∧ ((k : Nat) : Int) ≤ 3) (ho : 0 ≤ ((o : Nat) : Int) ∧ ((o : Nat) : Int) ≤ 3) (h : sz k < 0 ∨ sz o < 0) : cpZ sz ln ((k : Nat) : Int) i ((o : Nat) : Int) j n = 1 := (if_pos ⟨hk, ho⟩).trans (if_pos h)
theorem cpZ_2 {sz ln : Nat → Int} {k o : Nat} {i j n : Int} (hk : 0 ≤ ((k : Nat) : Int) ∧ ((k : Nat) : Int) ≤ 3) (ho : 0 ≤ ((o : Nat) : Int) ∧ ((o : Nat) : Int) ≤ 3) (h : 0 ≤ sz k ∧ 0 ≤ sz o) (h2 : ln k ≠ ln o) : cpZ sz ln ((k : Nat) : Int) i ((o : Nat) : Int) j n = 2 := (if_pos ⟨hk, ho⟩).trans ((if_neg (show ¬ (sz k < 0 ∨ sz o < 0) by omega)).trans (if_pos h2))
theorem cpZ_3 {sz ln : Nat → Int} {k o : Nat} {i j n : Int} (hk : 0 ≤ ((k : Nat) : Int) ∧ ((k : Nat) : Int) ≤ 3) (ho : 0 ≤ ((o : Nat) : Int) ∧ ((o : Nat) : Int) ≤ 3) (h : 0 ≤ sz k ∧ 0 ≤ sz o) (h2 : ln k = ln o) (h3 : (i < 0 ∨ n < 0 ∨ i + n > sz k) ∨ (j < 0 ∨ n < 0 ∨ j + n > sz o)) : cpZ sz ln ((k : Nat) : Int) i ((o : Nat) : Int) j n = 3 := (if_pos ⟨hk, ho⟩).trans ((if_neg (show ¬ (sz k < 0 ∨ sz o < 0) by omega)).trans ((if_neg (show ¬ ln k ≠ ln o from fun q => q h2)).trans (if_pos h3)))
theorem cpZ_0 {sz ln : Nat → Int} {k o : Nat} {i j n : Int} (hk : 0 ≤ ((k : Nat) : Int) ∧ ((k : Nat) : Int) ≤ 3) (ho : 0 ≤ ((o : Nat) : Int) ∧ ((o : Nat) : Int) ≤ 3) (h : 0 ≤ sz k ∧ 0 ≤ sz o) (h2 : ln k = ln o) (h3 : ¬ (i < 0 ∨ n < 0 ∨ i + n > sz k)) (h4 : ¬ (j < 0 ∨ n < 0 ∨ j + n > sz o)) : cpZ sz ln ((k : Nat) : Int) i ((o : Nat) : Int) j n = 0 := (if_pos ⟨hk, ho⟩).trans ((if_neg (show ¬ (sz k < 0 ∨ sz o < 0) by omega)).trans ((if_neg (show ¬ ln k ≠ ln o from fun q => q h2)).trans (if_neg (fun q => q.elim h3 h4))))
theorem cpy_s (num : Nat → Int) (f t g : Nat) {v : Int} (hv : v = num (f + g)) : up (cpyF num f t g) (t + g) v = cpyF num f t (g + 1) := by
  funext x
  unfold up cpyF
  by_cases h : x = t + g
  · rw [if_pos h, if_pos (by omega), hv, show f + (x - t) = f + g from by omega]
  · rw [if_neg h]
    by_cases h2 : t ≤ x ∧ x < t + g
    · rw [if_pos h2, if_pos (by omega)]
    · rw [if_neg h2, if_neg (by omega)]
/-- a trench's cells -/
def tcF (num : Nat → Int) (fr x : Nat) : Nat := (num (fr + x)).toNat
def goB (wide n : Nat) (clay stand : Nat → Nat) (num : Nat → Int) (fr x : Nat) : Bool := decide (0 < clay (tcF num fr x) ∧ stF stand n (tcF num fr x) = false) && (if x = 0 then decide (tcF num fr x % wide = 0) else nxtB wide (tcF num fr (x - 1)) (tcF num fr x))
def fwZ (go : Nat → Bool) : Nat → Int
  | 0 => -9
  | n + 1 => if fwZ go n < 0 then (if go n = true then -9 else ((n : Nat) : Int)) else fwZ go n
theorem fwZ_in (go : Nat → Bool) : ∀ n, fwZ go n = -9 ∨ (0 ≤ fwZ go n ∧ fwZ go n < n)
  | 0 => Or.inl rfl
  | n + 1 => by
    have h := fwZ_in go n
    rw [fwZ]
    split
    · split
      · exact Or.inl rfl
      · right; omega
    · right; omega
theorem fwZ_stay {go : Nat → Bool} {x : Nat} (h : 0 ≤ fwZ go x) : ∀ n, x ≤ n → fwZ go n = fwZ go x
  | 0, hn => by rw [show x = 0 from by omega]
  | n + 1, hn => by
    by_cases e : x = n + 1
    · rw [e]
    · rw [fwZ, fwZ_stay h n (by omega), if_neg (by omega)]
def toldF (num : Nat → Int) (fr n : Nat) : Nat → Bool := fun c => anyB (fun y => decide (c = tcF num fr y)) n
def nigF (clay : Nat → Nat) (dug : Nat → Bool) (num : Nat → Int) (fr : Nat) : Nat → Nat
  | 0 => 0
  | n + 1 => nigF clay dug num fr n + (if (toldF num fr n (tcF num fr n) || dug (tcF num fr n)) = true then 0 else clay (tcF num fr n))
def shtF (shot : Nat → Bool) (num : Nat → Int) (fr : Nat) : Nat → Nat := cntB (fun y => shot (tcF num fr y))
def byF (m : Nat → Nat → Bool) (num : Nat → Int) (fr n : Nat) : Nat → Bool := fun g => anyB (fun y => m (tcF num fr y) g) n
theorem nigF_le {clay : Nat → Nat} (h : ∀ k, clay k ≤ 9) (dug : Nat → Bool) (num : Nat → Int) (fr : Nat) : ∀ n, nigF clay dug num fr n ≤ 9 * n
  | 0 => Nat.le_refl _
  | n + 1 => by
    have h1 := nigF_le h dug num fr n
    have h2 := h (tcF num fr n)
    rw [nigF]
    split <;> omega
def trZ (fw : Int) (nig sht : Nat) (bits : Nat) (what : Int) : Int := if what = 1 then fw else if 0 ≤ fw then -100 - fw else if what = 0 then ((nig : Nat) : Int) else if what = 2 then ((sht : Nat) : Int) else ((bits : Nat) : Int)
def trA (fw : Int) (nig sht : Nat) (by_ : Nat → Bool) (bits : Nat) (what : Int) : Int32 := if what ≠ 1 ∧ fw < 0 ∧ what = 3 then iS by_ else iI (trZ fw nig sht bits what)
theorem up_pre {α : Type} {f F : Nat → α} {g : Nat} {v : α} (h : ∀ x, x < g → f x = F x) (hv : v = F g) : ∀ x, x < g + 1 → up f g v x = F x := fun x hx => by
  unfold up
  by_cases q : x = g
  · rw [if_pos q, q, hv]
  · rw [if_neg q]
    exact h x (by omega)
theorem trA_1 {fw wr : Int} {nig sht bits : Nat} {by_ : Nat → Bool} {what : Int} (h : wr = fw) (hw : what = 1) : iI wr = trA fw nig sht by_ bits what := by
  unfold trA trZ
  rw [if_neg (by omega), if_pos hw, h]
theorem trA_w {fw wr : Int} {nig sht bits : Nat} {by_ : Nat → Bool} {what : Int} (h : wr = fw) (hw : what ≠ 1) (h2 : 0 ≤ wr) : iI (-100 - wr) = trA fw nig sht by_ bits what := by
  unfold trA trZ
  rw [if_neg (by omega), if_neg hw, if_pos (by omega), h]
theorem trA_0 {fw : Int} {nig sht bits x : Nat} {by_ : Nat → Bool} {what : Int} (h : fw < 0) (hw : what = 0) (hx : x = nig) : iI ((x : Nat) : Int) = trA fw nig sht by_ bits what := by
  unfold trA trZ
  rw [if_neg (by omega), if_neg (by omega), if_neg (by omega), if_pos hw, hx]
theorem trA_2 {fw : Int} {nig sht bits x : Nat} {by_ : Nat → Bool} {what : Int} (h : fw < 0) (hw : what = 2) (hx : x = sht) : iI ((x : Nat) : Int) = trA fw nig sht by_ bits what := by
  unfold trA trZ
  rw [if_neg (by omega), if_neg (by omega), if_neg (by omega), if_neg (by omega), if_pos hw, hx]
theorem trA_3 {fw : Int} {nig sht bits : Nat} {by_ bb : Nat → Bool} {what : Int} (h : fw < 0) (hw : what = 3) (hx : bb = by_) : iS bb = trA fw nig sht by_ bits what := by
  unfold trA
  rw [if_pos ⟨by omega, h, hw⟩, hx]
theorem trA_4 {fw : Int} {nig sht : Nat} {by_ td tt : Nat → Bool} {what : Int} (h : fw < 0) (h1 : what ≠ 1) (h0 : what ≠ 0) (h2 : what ≠ 2) (h3 : what ≠ 3) (hx : td = tt) : iI ((cntB td 64 : Nat) : Int) = trA fw nig sht by_ (cntB tt 64) what := by
  unfold trA trZ
  rw [if_neg (by omega), if_neg h1, if_neg (by omega), if_neg h0, if_neg h2, hx]
