/-! the best first cell, all cells walked -/
def fcC (d : Nat → Nat) (w : Nat) : Nat → Int
  | 0 => -9
  | c + 1 => if c % w = 0 ∧ d c < 1073741824 ∧ (fcC d w c < 0 ∨ d c < d (fcC d w c).toNat) then ((c : Nat) : Int) else fcC d w c
def lcC (d : Nat → Nat) (w c : Nat) : Nat := if fcC d w c < 0 then 1073741824 else d (fcC d w c).toNat
theorem fcC_far (d : Nat → Nat) (w : Nat) : ∀ c, 0 ≤ fcC d w c → d (fcC d w c).toNat < 1073741824
  | 0, q => absurd q (by unfold fcC; omega)
  | c + 1, q => by
    rw [fcC] at q ⊢
    split
    · next z => rw [Int.toNat_natCast]; exact z.2.1
    · next z =>
      rw [if_neg z] at q
      exact fcC_far d w c q
theorem fcC_yes {d : Nat → Nat} {w c : Nat} (h0 : c % w = 0) (h : d c < lcC d w c) : ((c : Nat) : Int) = fcC d w (c + 1) ∧ d c = lcC d w (c + 1) := by
  have e : fcC d w (c + 1) = ((c : Nat) : Int) := by
    rw [fcC]
    refine if_pos ⟨h0, ?_⟩
    unfold lcC at h
    split at h
    · next q => exact ⟨h, Or.inl q⟩
    · next q => exact ⟨Nat.lt_trans h (fcC_far d w c (by omega)), Or.inr h⟩
  refine ⟨e.symm, ?_⟩
  unfold lcC
  rw [e, if_neg (by omega), Int.toNat_natCast]
theorem fcC_col {d : Nat → Nat} {w c : Nat} (h : ¬ c % w = 0) : fcC d w c = fcC d w (c + 1) ∧ lcC d w c = lcC d w (c + 1) := by
  have e : fcC d w (c + 1) = fcC d w c := by
    rw [fcC]
    exact if_neg (fun q => h q.1)
  refine ⟨e.symm, ?_⟩
  unfold lcC
  rw [e]
theorem fcC_no {d : Nat → Nat} {w c : Nat} (h : lcC d w c ≤ d c) : fcC d w c = fcC d w (c + 1) ∧ lcC d w c = lcC d w (c + 1) := by
  have e : fcC d w (c + 1) = fcC d w c := by
    rw [fcC]
    refine if_neg (fun q => ?_)
    obtain ⟨q1, q2, q3⟩ := q
    unfold lcC at h
    split at h
    · next q => omega
    · next q => omega
  refine ⟨e.symm, ?_⟩
  unfold lcC
  rw [e]
theorem lcC_le (d : Nat → Nat) (w c : Nat) : lcC d w c ≤ 1073741824 := by
  unfold lcC
  split
  · exact Nat.le_refl _
  · have := fcC_far d w c (by omega)
    omega
/-- one row of cells: its first one alone counts -/
theorem fcC_row {d : Nat → Nat} {w y : Nat} (ih : fcC d w (y * w) = fsC d w y) : ∀ j, j < w → fcC d w (y * w + j + 1) = fsC d w (y + 1)
  | 0, h => by
    have e0 : (y * w) % w = 0 := Nat.mul_mod_left y w
    rw [Nat.add_zero, fcC, fsC, ih]
    by_cases z : d (y * w) < 1073741824 ∧ (fsC d w y < 0 ∨ d (y * w) < d (fsC d w y).toNat)
    · rw [if_pos z, if_pos ⟨e0, z⟩]
    · rw [if_neg z, if_neg (fun q => z q.2)]
  | j + 1, h => by
    have e1 : (y * w + (j + 1)) % w = j + 1 := by
      rw [Nat.add_comm, Nat.add_mul_mod_self_right, Nat.mod_eq_of_lt h]
    have := fcC_row ih j (by omega)
    rw [← (fcC_col (d := d) (w := w) (c := y * w + (j + 1)) (by omega)).1]
    exact this
theorem fcC_fsC {d : Nat → Nat} {w : Nat} (h0 : 0 < w) : ∀ y, fcC d w (y * w) = fsC d w y
  | 0 => by rw [Nat.zero_mul]; rfl
  | y + 1 => by
    have h := fcC_row (fcC_fsC (d := d) h0 y) (w - 1) (by omega)
    rw [show (y + 1) * w = y * w + (w - 1) + 1 from by rw [Nat.add_mul, Nat.one_mul]; omega]
    exact h
