/-! odds: sets of guns, shares -/
def okS (sil : Nat → Bool) (g : Nat) : Bool := !anyB (fun i => g.testBit i && sil i) 32
theorem okS_0 (sil : Nat → Bool) : okS sil 0 = true := by
  unfold okS
  rw [anyB_f.mpr (fun i _ => by rw [Nat.zero_testBit]; rfl)]
  rfl
theorem okS_t {sil : Nat → Bool} {g : Nat} (h : ∀ i, i < 32 → (fun x9 => g.testBit x9 && sil x9) i = false) : okS sil g = true := by
  unfold okS
  rw [anyB_f.mpr h]
  rfl
theorem okS_f {sil : Nat → Bool} {g : Nat} (h : ∃ i, i < 32 ∧ (fun x9 => g.testBit x9 && sil x9) i = true) : okS sil g = false := by
  unfold okS
  rw [(anyB_iff _ _).mpr h]
  rfl
theorem cntB_pos {f : Nat → Bool} (h : f 0 = true) : ∀ {n : Nat}, 0 < n → 0 < cntB f n
  | 0, q => absurd q (Nat.lt_irrefl _)
  | n + 1, _ => by
    rw [cntB]
    by_cases e : n = 0
    · subst e
      rw [if_pos h]
      omega
    · have := cntB_pos h (n := n) (by omega)
      omega
theorem pow2_le {g : Nat} (h : g ≤ 4) : 1 ≤ 2 ^ g ∧ 2 ^ g ≤ 16 := by
  have : ∀ g, g ≤ 4 → 1 ≤ 2 ^ g ∧ 2 ^ g ≤ 16 := by decide
  exact this g h
def shZ (u d : Nat) (which : Int) : Int := ((if which = 0 then ((u : Nat) : Int) else ((d : Nat) : Int))) / ((Nat.gcd u d : Nat) : Int)
theorem gcd_st {u d x y : Nat} (h : Nat.gcd x y = Nat.gcd u d) : Nat.gcd y (x % y) = Nat.gcd u d := by
  rw [← h, Nat.gcd_comm x y, Nat.gcd_rec y x, Nat.gcd_comm]
theorem and_dec_f {a : Bool} {P : Prop} [Decidable P] (h : ¬ P) : (a && decide P) = false := by
  rw [decide_eq_false h, Bool.and_false]
theorem and_dec_t {a : Bool} {P : Prop} [Decidable P] (ha : a = true) (h : P) : (a && decide P) = true := by
  rw [ha, decide_eq_true h]
  rfl
theorem tb63 {n : Nat} (h : n < 2147483648) : n.testBit 63 = false := Nat.testBit_lt_two_pow (by omega)
def popN (m : Nat) : Nat := cntB (fun i => m.testBit i) 64
def slZ (ok sap : Nat → Bool) : Nat → Int
  | 0 => -9
  | g + 1 => if ok g = true ∧ (slZ ok sap g < 0 ∨ popN g < popN (slZ ok sap g).toNat) ∧ sap g = true then ((g : Nat) : Int) else slZ ok sap g
theorem slZ_in (ok sap : Nat → Bool) : ∀ g, slZ ok sap g = -9 ∨ (0 ≤ slZ ok sap g ∧ slZ ok sap g < (g : Int))
  | 0 => Or.inl rfl
  | g + 1 => by
    have h := slZ_in ok sap g
    rw [slZ]
    split
    · right; omega
    · rcases h with q | q
      · exact Or.inl q
      · right; omega
theorem ModOk.post {wide high guns : Nat} {clay kind stand reach : Nat → Nat} (h : ModOk wide high guns 0 clay kind stand reach) {p : Nat} (hp : p < wide * high) : ModOk wide high guns 1 clay (up kind guns 0) (up stand guns p) (up reach guns 2) := by
  obtain ⟨h1, h2, h3, h4, h5, h6, h7, h8, h9, h10⟩ := h
  refine ⟨h1, h2, h3, h4, by omega, h6, up_le kind h7 (by omega), fun j => ?_, up_le reach h9 (by omega), fun g hg => ?_⟩
  · unfold up
    split
    · omega
    · exact h8 j
  · unfold up
    split
    · exact hp
    · exact h10 g (by omega)
def ntZ (w : Int) : Int := if w < 0 then 100000000 else w
theorem bar_ok {z ln lane i n : Int} (h : 0 ≤ barZ z ln lane i n) : 0 ≤ z ∧ ln = lane ∧ 0 ≤ n ∧ 0 ≤ i ∧ i + n ≤ z := by
  unfold barZ at h
  by_cases a0 : 0 ≤ z ∧ ln ≠ lane
  · rw [if_pos a0] at h; omega
  · rw [if_neg a0] at h
    by_cases a1 : z < 0
    · rw [if_pos a1] at h; omega
    · rw [if_neg a1] at h
      by_cases a2 : n < 0
      · rw [if_pos a2] at h; omega
      · rw [if_neg a2] at h
        by_cases a3 : i < 0 ∨ n < 0 ∨ i + n > z
        · rw [if_pos a3] at h; omega
        · omega
def tgood (num : Nat → Int) (fr n wh : Nat) : Bool := !anyB (fun x => !decide (0 ≤ num (fr + x) ∧ num (fr + x) < (wh : Int))) n
theorem tgood_t {num : Nat → Int} {fr n wh : Nat} (h : ∀ y, y < n → 0 ≤ num (fr + y) ∧ num (fr + y) < (wh : Int)) : tgood num fr n wh = true := by
  unfold tgood
  rw [anyB_f.mpr (fun x hx => by rw [decide_eq_true (h x hx)]; rfl)]
  rfl
theorem tgood_f {num : Nat → Int} {fr n wh x : Nat} (hx : x < n) (h : ¬ (0 ≤ num (fr + x) ∧ num (fr + x) < (wh : Int))) : tgood num fr n wh = false := by
  unfold tgood
  rw [(anyB_iff _ _).mpr ⟨x, hx, by rw [decide_eq_false h]; rfl⟩]
  rfl
def tRng (ln n what : Int) : Prop := (0 ≤ ln ∧ ln ≤ 2) ∧ (0 ≤ n ∧ n ≤ 40) ∧ (0 ≤ what ∧ what ≤ 4)
def trnZ (k ln n what : Int) (guns : Nat) (bar : Int) (good : Bool) (t : Int32) : Int32 := if 0 ≤ k ∧ k ≤ 3 then (if (0 ≤ ln ∧ ln ≤ 2) ∧ (0 ≤ n ∧ n ≤ 40) ∧ (0 ≤ what ∧ what ≤ 4) then (if guns = 0 then iI (-3) else if bar < 0 then iI bar else if good = true then t else iI (-1)) else iI (-2)) else iI (-1)
def trnF (k ln n what : Int) (guns : Nat) (bar : Int) (barf : Int) : Int := if (0 ≤ k ∧ k ≤ 3) ∧ ((0 ≤ ln ∧ ln ≤ 2) ∧ (0 ≤ n ∧ n ≤ 40) ∧ (0 ≤ what ∧ what ≤ 4)) ∧ guns ≠ 0 ∧ bar < 0 then barf else 0
theorem trn_1 {k ln n what bar barf : Int} {guns : Nat} {good : Bool} {t : Int32} (h : ¬ (0 ≤ k ∧ k ≤ 3)) : iI (-1) = trnZ k ln n what guns bar good t ∧ 0 = trnF k ln n what guns bar barf := ⟨(if_neg h).symm, (if_neg (fun q => h q.1)).symm⟩
theorem trn_2 {k ln n what bar barf : Int} {guns : Nat} {good : Bool} {t : Int32} (h : 0 ≤ k ∧ k ≤ 3) (h2 : ¬ ((0 ≤ ln ∧ ln ≤ 2) ∧ (0 ≤ n ∧ n ≤ 40) ∧ (0 ≤ what ∧ what ≤ 4))) : iI (-2) = trnZ k ln n what guns bar good t ∧ 0 = trnF k ln n what guns bar barf := ⟨((if_pos h).trans (if_neg h2)).symm, (if_neg (fun q => h2 q.2.1)).symm⟩
theorem trn_3 {k ln n what bar barf : Int} {guns : Nat} {good : Bool} {t : Int32} (h : 0 ≤ k ∧ k ≤ 3) (h2 : (0 ≤ ln ∧ ln ≤ 2) ∧ (0 ≤ n ∧ n ≤ 40) ∧ (0 ≤ what ∧ what ≤ 4)) (h3 : guns = 0) : iI (-3) = trnZ k ln n what guns bar good t ∧ 0 = trnF k ln n what guns bar barf := ⟨((if_pos h).trans ((if_pos h2).trans (if_pos h3))).symm, (if_neg (fun q => q.2.2.1 h3)).symm⟩
theorem trn_4 {k ln n what bar barf : Int} {guns : Nat} {good : Bool} {t : Int32} (h : 0 ≤ k ∧ k ≤ 3) (h2 : (0 ≤ ln ∧ ln ≤ 2) ∧ (0 ≤ n ∧ n ≤ 40) ∧ (0 ≤ what ∧ what ≤ 4)) (h3 : guns ≠ 0) (h4 : bar < 0) : iI bar = trnZ k ln n what guns bar good t ∧ barf = trnF k ln n what guns bar barf := ⟨((if_pos h).trans ((if_pos h2).trans ((if_neg h3).trans (if_pos h4)))).symm, (if_pos ⟨h, h2, h3, h4⟩).symm⟩
theorem trn_5 {k ln n what bar barf : Int} {guns : Nat} {good : Bool} {t : Int32} (h : 0 ≤ k ∧ k ≤ 3) (h2 : (0 ≤ ln ∧ ln ≤ 2) ∧ (0 ≤ n ∧ n ≤ 40) ∧ (0 ≤ what ∧ what ≤ 4)) (h3 : guns ≠ 0) (h4 : ¬ bar < 0) (h5 : good = false) : iI (-1) = trnZ k ln n what guns bar good t ∧ 0 = trnF k ln n what guns bar barf := ⟨((if_pos h).trans ((if_pos h2).trans ((if_neg h3).trans ((if_neg h4).trans (if_neg (by rw [h5]; decide)))))).symm, (if_neg (fun q => h4 q.2.2.2)).symm⟩
theorem trn_6 {k ln n what bar barf : Int} {guns : Nat} {good : Bool} {t : Int32} (h : 0 ≤ k ∧ k ≤ 3) (h2 : (0 ≤ ln ∧ ln ≤ 2) ∧ (0 ≤ n ∧ n ≤ 40) ∧ (0 ≤ what ∧ what ≤ 4)) (h3 : guns ≠ 0) (h4 : ¬ bar < 0) (h5 : good = true) : t = trnZ k ln n what guns bar good t ∧ 0 = trnF k ln n what guns bar barf := ⟨((if_pos h).trans ((if_pos h2).trans ((if_neg h3).trans ((if_neg h4).trans (if_pos h5))))).symm, (if_neg (fun q => h4 q.2.2.2)).symm⟩
theorem bar_in (z ln lane i n : Int) : -14 ≤ barZ z ln lane i n ∧ barZ z ln lane i n ≤ 0 := by
  unfold barZ
  repeat' split
  all_goals omega
