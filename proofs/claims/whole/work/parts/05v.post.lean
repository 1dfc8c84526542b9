/-! one more gun -/
theorem ModOk.scr {wide high guns : Nat} {clay kind stand reach : Nat → Nat} (h : ModOk wide high guns 0 clay kind stand reach) {a b r : Nat} (ha : a ≤ 2) (hb : b < 36) (hr : r ≤ 9) : ModOk wide high guns 0 clay (up kind guns a) (up stand guns b) (up reach guns r) := by
  obtain ⟨h1, h2, h3, h4, h5, h6, h7, h8, h9, h10⟩ := h
  refine ⟨h1, h2, h3, h4, h5, h6, up_le kind h7 ha, fun j => ?_, up_le reach h9 hr, fun g hg => ?_⟩
  · unfold up
    split
    · exact hb
    · exact h8 j
  · rw [up_n stand _ (show g ≠ guns by omega)]
    exact h10 g hg
theorem stF_up (stand : Nat → Nat) (guns b : Nat) : stF (up stand guns b) (guns + 0) = stF stand (guns + 0) := by
  funext c
  exact anyB_cong (fun g hg => by rw [up_n stand b (show g ≠ guns by omega)])
def psM (its : Nat → Int) : Nat → Int
  | 0 => -9
  | p + 1 => if psM its p < its p then its p else psM its p
def psB (its : Nat → Int) : Nat → Int
  | 0 => -9
  | p + 1 => if psM its p < its p then ((p : Nat) : Int) else psB its p
theorem ntZ_in {w : Int} (h : -9 ≤ w ∧ w ≤ 100000000) : 0 ≤ ntZ w ∧ ntZ w ≤ 100000000 := by
  unfold ntZ
  split <;> omega
def psA (what : Int) (its : Nat → Int) (n : Nat) : Int := if 0 ≤ what ∧ what ≤ 1 then (if what = 0 then psB its n else if psM its n = 100000000 then -9 else psM its n) else -2
theorem psA_n {what : Int} {its : Nat → Int} {n : Nat} (h : ¬ (0 ≤ what ∧ what ≤ 1)) : -2 = psA what its n := (if_neg h).symm
theorem psA_0 {what : Int} {its : Nat → Int} {n p : Nat} (h : 0 ≤ what ∧ what ≤ 1) (h0 : what = 0) (hp : p = n) : psB its p = psA what its n := by
  subst hp
  exact ((if_pos h).trans (if_pos h0)).symm
theorem psA_9 {what : Int} {its : Nat → Int} {n p : Nat} (h : 0 ≤ what ∧ what ≤ 1) (h0 : what ≠ 0) (hp : p = n) (h9 : psM its p = 100000000) : -9 = psA what its n := by
  subst hp
  exact ((if_pos h).trans ((if_neg h0).trans (if_pos h9))).symm
theorem psA_m {what : Int} {its : Nat → Int} {n p : Nat} (h : 0 ≤ what ∧ what ≤ 1) (h0 : what ≠ 0) (hp : p = n) (h9 : psM its p ≠ 100000000) : psM its p = psA what its n := by
  subst hp
  exact ((if_pos h).trans ((if_neg h0).trans (if_neg h9))).symm
