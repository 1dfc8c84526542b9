/-! what a gun sees: rays and lines are the same -/
theorem ray_iff {wide high c way : Nat} {sg : Nat → Bool} : ∀ n, rayOk wide high c sg way (n + 1) = true ↔ (∀ j, 1 ≤ j → j ≤ n + 1 → inb wide high (rx wide c way j) (ry wide c way j) = true) ∧ ∀ j, 1 ≤ j → j ≤ n → sg (rpos wide c way j) = false
  | 0 => by
    rw [rayOk, rayOk]
    simp only [Bool.true_and, decide_true, Bool.true_or, Bool.and_true]
    constructor
    · intro h
      refine ⟨fun j h1 h2 => ?_, fun j h1 h2 => absurd h2 (by omega)⟩
      have : j = 0 + 1 := by omega
      rw [this]
      exact h
    · intro h
      exact h.1 1 (Nat.le_refl _) (Nat.le_refl _)
  | n + 1 => by
    rw [rayOk, Bool.and_eq_true, Bool.and_eq_true, ray_iff n, decide_eq_false (Nat.succ_ne_zero n), Bool.false_or]
    constructor
    · rintro ⟨⟨⟨h1, h2⟩, h3⟩, h4⟩
      refine ⟨fun j a b => ?_, fun j a b => ?_⟩
      · by_cases q : j = n + 1 + 1
        · rw [q]; exact h3
        · exact h1 j a (by omega)
      · by_cases q : j = n + 1
        · rw [q]; simpa using h4
        · exact h2 j a (by omega)
    · rintro ⟨h1, h2⟩
      exact ⟨⟨⟨fun j a b => h1 j a (by omega), fun j a b => h2 j a (by omega)⟩, h1 _ (by omega) (Nat.le_refl _)⟩, by simp [h2 (n + 1) (by omega) (Nat.le_refl _)]⟩
theorem way_at : ∀ w, w < 8 → (acr w = -1 ∨ acr w = 0 ∨ acr w = 1) ∧ (dwn w = -1 ∨ dwn w = 0 ∨ dwn w = 1) ∧ ¬ (acr w = 0 ∧ dwn w = 0) := by decide +kernel
theorem way_of {a b : Int} (ha : a = -1 ∨ a = 0 ∨ a = 1) (hb : b = -1 ∨ b = 0 ∨ b = 1) (h : ¬ (a = 0 ∧ b = 0)) : ∃ w, w < 8 ∧ acr w = a ∧ dwn w = b := by
  rcases ha with rfl | rfl | rfl <;> rcases hb with rfl | rfl | rfl
  · exact ⟨0, by decide, by decide +kernel, by decide +kernel⟩
  · exact ⟨3, by decide, by decide +kernel, by decide +kernel⟩
  · exact ⟨5, by decide, by decide +kernel, by decide +kernel⟩
  · exact ⟨1, by decide, by decide +kernel, by decide +kernel⟩
  · exact absurd ⟨rfl, rfl⟩ h
  · exact ⟨6, by decide, by decide +kernel, by decide +kernel⟩
  · exact ⟨2, by decide, by decide +kernel, by decide +kernel⟩
  · exact ⟨4, by decide, by decide +kernel, by decide +kernel⟩
  · exact ⟨7, by decide, by decide +kernel, by decide +kernel⟩
theorem sgn_mul {N A : Int} (hN : 1 ≤ N) (hA : A = -1 ∨ A = 0 ∨ A = 1) : sgn (N * A) = A ∧ ((A = 0 ∧ N * A = 0 ∧ absd (N * A) 0 = 0) ∨ (A ≠ 0 ∧ absd (N * A) 0 = N)) := by
  rcases hA with rfl | rfl | rfl
  · rw [Int.mul_neg, Int.mul_one]
    exact ⟨sgn_n (by omega), Or.inr ⟨by decide, by rw [absd_lt (by omega)]; omega⟩⟩
  · rw [Int.mul_zero]
    exact ⟨sgn_0 rfl, Or.inl ⟨rfl, rfl, by decide⟩⟩
  · rw [Int.mul_one]
    exact ⟨sgn_p (by omega), Or.inr ⟨by decide, by rw [absd_ge (by omega)]; omega⟩⟩
theorem far_of {N A B : Int} (hN : 1 ≤ N) (hA : A = -1 ∨ A = 0 ∨ A = 1) (hB : B = -1 ∨ B = 0 ∨ B = 1) (hne : ¬ (A = 0 ∧ B = 0)) : lFar (N * A) (N * B) = N ∧ sgn (N * A) = A ∧ sgn (N * B) = B ∧ (N * A = 0 ∨ N * B = 0 ∨ absd (N * A) 0 = absd (N * B) 0) := by
  obtain ⟨s1, a1⟩ := sgn_mul hN hA
  obtain ⟨s2, a2⟩ := sgn_mul hN hB
  refine ⟨?_, s1, s2, ?_⟩
  · unfold lFar
    rcases a1 with ⟨p1, p2, p3⟩ | ⟨p1, p3⟩ <;> rcases a2 with ⟨q1, q2, q3⟩ | ⟨q1, q3⟩
    · exact absurd ⟨p1, q1⟩ hne
    · rw [p3, q3, if_neg (by omega)]
    · rw [p3, q3, if_pos (by omega)]
    · rw [p3, q3, if_neg (by omega)]
  · rcases a1 with ⟨p1, p2, p3⟩ | ⟨p1, p3⟩
    · exact Or.inl p2
    · rcases a2 with ⟨q1, q2, q3⟩ | ⟨q1, q3⟩
      · exact Or.inr (Or.inl q2)
      · exact Or.inr (Or.inr (by rw [p3, q3]))
theorem lpos_eq {wide c way : Nat} {dx dy : Int} (k : Nat) (h1 : sgn dx = acr way) (h2 : sgn dy = dwn way) : lpos wide c dx dy k = rpos wide c way k := by
  unfold lpos rpos ry rx
  rw [look_eq, h1, h2, Int.mul_comm (wide : Int)]
theorem xy_of {wide high : Nat} {x y : Int} {t : Nat} (h0 : 0 < wide) (h : inb wide high x y = true) (e : y * (wide : Int) + x = (t : Int)) : ((t % wide : Nat) : Int) = x ∧ ((t / wide : Nat) : Int) = y := by
  have hb := of_decide_eq_true h
  obtain ⟨X, hX⟩ := Int.eq_ofNat_of_zero_le hb.1
  obtain ⟨Y, hY⟩ := Int.eq_ofNat_of_zero_le hb.2.2.1
  subst hX hY
  have e2 : t = Y * wide + X := by
    have : ((t : Nat) : Int) = ((Y * wide + X : Nat) : Int) := by rw [Int.natCast_add, Int.natCast_mul]; exact e.symm
    exact Int.ofNat.inj this
  have r := row_at (w := wide) (y := Y) (x := X) (by omega)
  rw [e2, r.1, r.2]
  exact ⟨rfl, rfl⟩
theorem look_seen {wide high c t r : Nat} {sg : Nat → Bool} (h0 : 0 < wide) (hc : c < wide * high) (ht : t < wide * high) : seenF wide high c r sg t = lookF wide c t r sg := by
  rw [Bool.eq_iff_iff]
  have mc := Nat.mod_lt c h0
  have mt := Nat.mod_lt t h0
  have dc := div_in hc
  have dt := div_in ht
  constructor
  · intro h
    unfold seenF at h
    obtain ⟨way, hw, h⟩ := (anyB_iff _ _).mp h
    obtain ⟨o, ho, h⟩ := (anyB_iff _ _).mp h
    unfold rayHit at h
    rw [Bool.and_eq_true] at h
    obtain ⟨h1, h2⟩ := (ray_iff o).mp h.1
    have hi := h1 (o + 1) (by omega) (Nat.le_refl _)
    have hb := of_decide_eq_true hi
    have e := rpos_eq hb.1 hb.2.2.1
    rw [← of_decide_eq_true h.2] at e
    obtain ⟨ex, ey⟩ := xy_of h0 hi e
    obtain ⟨w1, w2, w3⟩ := way_at way hw
    have edx : ldx wide c t = ((o + 1 : Nat) : Int) * acr way := by unfold ldx; rw [ex]; unfold rx; omega
    have edy : ldy wide c t = ((o + 1 : Nat) : Int) * dwn way := by unfold ldy; rw [ey]; unfold ry; omega
    obtain ⟨f1, f2, f3, f4⟩ := far_of (N := ((o + 1 : Nat) : Int)) (by omega) w1 w2 w3
    unfold lookF lClear
    rw [edx, edy, f1, Bool.and_eq_true]
    refine ⟨decide_eq_true ⟨by omega, by omega, f4⟩, ?_⟩
    have : anyB (fun j => sg (lpos wide c (((o + 1 : Nat) : Int) * acr way) (((o + 1 : Nat) : Int) * dwn way) (j + 1))) ((((o + 1 : Nat) : Int)).toNat - 1) = false := anyB_f.mpr fun j hj => by
      rw [lpos_eq (j + 1) f2 f3]
      exact h2 (j + 1) (by omega) (by omega)
    rw [this]
    rfl
  · intro h
    unfold lookF at h
    rw [Bool.and_eq_true] at h
    obtain ⟨g1, g2⟩ := h
    obtain ⟨l1, l2, l3⟩ := of_decide_eq_true g1
    obtain ⟨q1, q2⟩ := clear_in l3
    have zx : 0 ≤ ((c % wide : Nat) : Int) := Int.natCast_nonneg _
    have zy : 0 ≤ ((c / wide : Nat) : Int) := Int.natCast_nonneg _
    have tx : 0 ≤ ((t % wide : Nat) : Int) := Int.natCast_nonneg _
    have ty : 0 ≤ ((t / wide : Nat) : Int) := Int.natCast_nonneg _
    have dxe : ldx wide c t = ((t % wide : Nat) : Int) - ((c % wide : Nat) : Int) := rfl
    have dye : ldy wide c t = ((t / wide : Nat) : Int) - ((c / wide : Nat) : Int) := rfl
    obtain ⟨f, hf⟩ := Int.eq_ofNat_of_zero_le (show 0 ≤ lFar (ldx wide c t) (ldy wide c t) by omega)
    rw [hf] at l1 l2 q1 q2 g2
    have sx : sgn (ldx wide c t) = -1 ∨ sgn (ldx wide c t) = 0 ∨ sgn (ldx wide c t) = 1 := by have := sgn_in (ldx wide c t); omega
    have sy : sgn (ldy wide c t) = -1 ∨ sgn (ldy wide c t) = 0 ∨ sgn (ldy wide c t) = 1 := by have := sgn_in (ldy wide c t); omega
    have mulx : ((f : Nat) : Int) * sgn (ldx wide c t) = ldx wide c t := by
      rcases q1 with z | z | z
      · rw [sgn_0 z, z, Int.mul_zero]
      · rw [sgn_p (by omega), Int.mul_one]; exact z.symm
      · rw [sgn_n (by omega), Int.mul_neg, Int.mul_one]; exact z.symm
    have muly : ((f : Nat) : Int) * sgn (ldy wide c t) = ldy wide c t := by
      rcases q2 with z | z | z
      · rw [sgn_0 z, z, Int.mul_zero]
      · rw [sgn_p (by omega), Int.mul_one]; exact z.symm
      · rw [sgn_n (by omega), Int.mul_neg, Int.mul_one]; exact z.symm
    have hne : ¬ (sgn (ldx wide c t) = 0 ∧ sgn (ldy wide c t) = 0) := fun q => by
      rw [q.1, Int.mul_zero] at mulx
      rw [q.2, Int.mul_zero] at muly
      have : lFar (ldx wide c t) (ldy wide c t) = 0 := by rw [← mulx, ← muly]; decide
      omega
    obtain ⟨way, w0, w1, w2⟩ := way_of sx sy hne
    have inbs : ∀ j : Nat, j ≤ f → inb wide high (rx wide c way j) (ry wide c way j) = true := fun j hj => by
      have s1 := step_in (d := ldx wide c t) (k := ((j : Nat) : Int)) (f := ((f : Nat) : Int)) (by omega) (by omega) q1
      have s2 := step_in (d := ldy wide c t) (k := ((j : Nat) : Int)) (f := ((f : Nat) : Int)) (by omega) (by omega) q2
      unfold inb rx ry
      rw [w1, w2]
      generalize ((j : Nat) : Int) * sgn (ldx wide c t) = a at s1 ⊢
      generalize ((j : Nat) : Int) * sgn (ldy wide c t) = b at s2 ⊢
      have mc' : ((c % wide : Nat) : Int) < (wide : Int) := by exact_mod_cast mc
      have mt' : ((t % wide : Nat) : Int) < (wide : Int) := by exact_mod_cast mt
      have dc' : ((c / wide : Nat) : Int) < (high : Int) := by exact_mod_cast dc
      have dt' : ((t / wide : Nat) : Int) < (high : Int) := by exact_mod_cast dt
      exact decide_eq_true ⟨by omega, by omega, by omega, by omega⟩
    have pos : rpos wide c way f = t := by
      unfold rpos rx ry
      rw [w1, w2, mulx, muly, dxe, dye]
      have e := Nat.div_add_mod t wide
      have e2 : ((t / wide : Nat) : Int) * (wide : Int) + ((t % wide : Nat) : Int) = ((t : Nat) : Int) := by
        rw [← Int.natCast_mul, ← Int.natCast_add, Nat.mul_comm, e]
      rw [show ((c / wide : Nat) : Int) + (((t / wide : Nat) : Int) - ((c / wide : Nat) : Int)) = ((t / wide : Nat) : Int) from by omega, show ((c % wide : Nat) : Int) + (((t % wide : Nat) : Int) - ((c % wide : Nat) : Int)) = ((t % wide : Nat) : Int) from by omega, e2]
      exact Int.toNat_natCast t
    obtain ⟨o, ho⟩ : ∃ o, f = o + 1 := ⟨f - 1, by omega⟩
    have g3 : anyB (fun j => sg (lpos wide c (ldx wide c t) (ldy wide c t) (j + 1))) (((f : Nat) : Int).toNat - 1) = false := by
      generalize anyB (fun j => sg (lpos wide c (ldx wide c t) (ldy wide c t) (j + 1))) (((f : Nat) : Int).toNat - 1) = b at g2
      cases b with
      | false => rfl
      | true => cases g2
    have hk := anyB_f.mp g3
    unfold seenF
    refine (anyB_iff _ _).mpr ⟨way, w0, (anyB_iff _ _).mpr ⟨o, by omega, ?_⟩⟩
    unfold rayHit
    rw [Bool.and_eq_true]
    refine ⟨(ray_iff o).mpr ⟨fun j a b => inbs j (by omega), fun j a b => ?_⟩, decide_eq_true (by rw [← ho]; exact pos.symm)⟩
    have := hk (j - 1) (by omega)
    rw [lpos_eq _ w1.symm w2.symm, show j - 1 + 1 = j from by omega] at this
    exact this
