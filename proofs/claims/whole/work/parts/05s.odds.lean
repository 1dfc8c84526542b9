/-! odds: sets of guns, shares -/
def okS (sil : Nat → Bool) (g : Nat) : Bool := !anyB (fun i => g.testBit i && sil i) 32
theorem okS_0 (sil : Nat → Bool) : okS sil 0 = true := by
  unfold okS
  rw [anyB_f.mpr (fun i _ => by rw [Nat.zero_testBit]; rfl)]
  rfl
theorem okS_t {sil : Nat → Bool} {g : Nat} (h : ∀ i, i < 32 → (fun x9 => g.testBit x9 && sil x9) i = false) : okS sil g = true := by
  unfold okS
  rw [anyB_f.mpr h]
  rfl
theorem okS_f {sil : Nat → Bool} {g : Nat} (h : ∃ i, i < 32 ∧ (fun x9 => g.testBit x9 && sil x9) i = true) : okS sil g = false := by
  unfold okS
  rw [(anyB_iff _ _).mpr h]
  rfl
theorem cntB_pos {f : Nat → Bool} (h : f 0 = true) : ∀ {n : Nat}, 0 < n → 0 < cntB f n
  | 0, q => absurd q (Nat.lt_irrefl _)
  | n + 1, _ => by
    rw [cntB]
    by_cases e : n = 0
    · subst e
      rw [if_pos h]
      omega
    · have := cntB_pos h (n := n) (by omega)
      omega
theorem pow2_le {g : Nat} (h : g ≤ 4) : 1 ≤ 2 ^ g ∧ 2 ^ g ≤ 16 := by
  have : ∀ g, g ≤ 4 → 1 ≤ 2 ^ g ∧ 2 ^ g ≤ 16 := by decide
  exact this g h
def shZ (u d : Nat) (which : Int) : Int := ((if which = 0 then ((u : Nat) : Int) else ((d : Nat) : Int))) / ((Nat.gcd u d : Nat) : Int)
theorem gcd_st {u d x y : Nat} (h : Nat.gcd x y = Nat.gcd u d) : Nat.gcd y (x % y) = Nat.gcd u d := by
  rw [← h, Nat.gcd_comm x y, Nat.gcd_rec y x, Nat.gcd_comm]
theorem and_dec_f {a : Bool} {P : Prop} [Decidable P] (h : ¬ P) : (a && decide P) = false := by
  rw [decide_eq_false h, Bool.and_false]
theorem and_dec_t {a : Bool} {P : Prop} [Decidable P] (ha : a = true) (h : P) : (a && decide P) = true := by
  rw [ha, decide_eq_true h]
  rfl
theorem tb63 {n : Nat} (h : n < 2147483648) : n.testBit 63 = false := Nat.testBit_lt_two_pow (by omega)
def popN (m : Nat) : Nat := cntB (fun i => m.testBit i) 64
def slZ (ok sap : Nat → Bool) : Nat → Int
  | 0 => -9
  | g + 1 => if ok g = true ∧ (slZ ok sap g < 0 ∨ popN g < popN (slZ ok sap g).toNat) ∧ sap g = true then ((g : Nat) : Int) else slZ ok sap g
theorem slZ_in (ok sap : Nat → Bool) : ∀ g, slZ ok sap g = -9 ∨ (0 ≤ slZ ok sap g ∧ slZ ok sap g < (g : Int))
  | 0 => Or.inl rfl
  | g + 1 => by
    have h := slZ_in ok sap g
    rw [slZ]
    split
    · right; omega
    · rcases h with q | q
      · exact Or.inl q
      · right; omega
theorem ModOk.post {wide high guns : Nat} {clay kind stand reach : Nat → Nat} (h : ModOk wide high guns 0 clay kind stand reach) {p : Nat} (hp : p < wide * high) : ModOk wide high guns 1 clay (up kind guns 0) (up stand guns p) (up reach guns 2) := by
  obtain ⟨h1, h2, h3, h4, h5, h6, h7, h8, h9, h10⟩ := h
  refine ⟨h1, h2, h3, h4, by omega, h6, up_le kind h7 (by omega), fun j => ?_, up_le reach h9 (by omega), fun g hg => ?_⟩
  · unfold up
    split
    · omega
    · exact h8 j
  · unfold up
    split
    · exact hp
    · exact h10 g (by omega)
def ntZ (w : Int) : Int := if w < 0 then 100000000 else w
