/-! a gun of a text -/
theorem cod_eq {num : Nat → Int} {r fr n : Nat} {v : Int} (h : codZ num r fr n = v) (hv : v ≠ -9) : r < n ∧ num (fr + r) = v := by
  unfold codZ at h
  by_cases q : r < n
  · rw [if_pos q] at h
    exact ⟨q, h⟩
  · rw [if_neg q] at h
    exact absurd h.symm hv
theorem cod_in {num : Nat → Int} {r fr n : Nat} (h : r < n) : codZ num r fr n = num (fr + r) := if_pos h
theorem tA_3 (num : Nat → Int) (fr : Nat) : 3 ≤ tA num fr := by unfold tA; omega
theorem goP_T {num : Nat → Int} {fr g i : Nat} (hi : i < 5) : goP num fr (tA num fr + 5 * g + i) ↔ (g < 4 ∧ gunP i (num (fr + (tA num fr + 5 * g + i))) (tW num fr) (tH num fr)) := by
  have h3 := tA_3 num fr
  have e : (tA num fr + 5 * g + i - tA num fr) % 5 = i := by omega
  constructor
  · intro h
    have q := h.2.2.2 ⟨by omega, by omega⟩
    rw [e] at q
    exact ⟨by omega, q.2⟩
  · rintro ⟨h1, h2⟩
    exact goP_gu ⟨by omega, by omega⟩ ⟨by omega, by rw [e]; exact h2⟩
theorem rg_bad {num : Nat → Int} {fr n g k : Nat} (hk : k < 5) (hle : tA num fr + 5 * g + k ≤ n) (h0 : k = 0 → (tA num fr + 5 * g < n ∨ g = 0)) (hgo : ∀ i, i < k → goP num fr (tA num fr + 5 * g + i)) (hno : tA num fr + 5 * g + k < n → ¬ goP num fr (tA num fr + 5 * g + k)) : badP num fr n (tA num fr + 5 * g) (tA num fr + 5 * g + k) := by
  refine ⟨hle, fun j h1 h2 => ?_, hno, fun e q => ?_⟩
  · have := hgo (j - (tA num fr + 5 * g)) (by omega)
    rw [show tA num fr + 5 * g + (j - (tA num fr + 5 * g)) = j from by omega] at this
    exact this
  · have q2 := q.2.1
    have q3 := q.2.2
    by_cases z : k = 0
    · have := h0 z
      omega
    · omega
theorem gun_0 {c : Int} {w h : Nat} : c = 59 ↔ gunP 0 c w h := ⟨fun q => ⟨fun _ => q, fun e => by omega, fun e => by omega, fun e => by omega, fun e => by omega⟩, fun q => q.1 rfl⟩
theorem gun_1 {c : Int} {w h : Nat} : kindZ c ≠ -9 ↔ gunP 1 c w h := ⟨fun q => ⟨fun e => by omega, fun _ => q, fun e => by omega, fun e => by omega, fun e => by omega⟩, fun q => q.2.1 rfl⟩
theorem gun_2 {c : Int} {w h : Nat} : (48 ≤ c ∧ c - 48 < (w : Int)) ↔ gunP 2 c w h := ⟨fun q => ⟨fun e => by omega, fun e => by omega, fun _ => q, fun e => by omega, fun e => by omega⟩, fun q => q.2.2.1 rfl⟩
theorem gun_3 {c : Int} {w h : Nat} : (48 ≤ c ∧ c - 48 < (h : Int)) ↔ gunP 3 c w h := ⟨fun q => ⟨fun e => by omega, fun e => by omega, fun e => by omega, fun _ => q, fun e => by omega⟩, fun q => q.2.2.2.1 rfl⟩
theorem gun_4 {c : Int} {w h : Nat} : (48 ≤ c ∧ c ≤ 57) ↔ gunP 4 c w h := ⟨fun q => ⟨fun e => by omega, fun e => by omega, fun e => by omega, fun e => by omega, fun _ => q⟩, fun q => q.2.2.2.2 rfl⟩
def rgR (num : Nat → Int) (fr n g : Nat) (gd : Bool) (r2 g2 : Nat) (k k2 s s2 e e2 : Nat → Nat) : Prop :=
  (gd = true → g < 4 ∧ g2 = g + 1 ∧ r2 = tA num fr + 5 * (g + 1) ∧ tA num fr + 5 * (g + 1) ≤ n ∧ (∀ i, i < 5 → goP num fr (tA num fr + 5 * g + i)) ∧ k2 = up k g (kindZ (num (fr + (tA num fr + 5 * g + 1)))).toNat ∧ s2 = up s g ((num (fr + (tA num fr + 5 * g + 2)) - 48).toNat + (num (fr + (tA num fr + 5 * g + 3)) - 48).toNat * tW num fr) ∧ e2 = up e g (num (fr + (tA num fr + 5 * g + 4)) - 48).toNat) ∧ (gd = false → badP num fr n (tA num fr + 5 * g) r2)
theorem rgR_f {num : Nat → Int} {fr n g r2 g2 : Nat} {k k2 s s2 e e2 : Nat → Nat} (h : badP num fr n (tA num fr + 5 * g) r2) : rgR num fr n g false r2 g2 k k2 s s2 e e2 := ⟨fun q => Bool.noConfusion q, fun _ => h⟩
theorem toN3 {a b : Int} {w : Nat} (ha : 0 ≤ a) (hb : 0 ≤ b) : ((w : Nat) : Int) * b + a = ((a.toNat + b.toNat * w : Nat) : Int) := by
  rw [Int.natCast_add, Int.natCast_mul, Int.toNat_of_nonneg ha, Int.toNat_of_nonneg hb, Int.add_comm, Int.mul_comm]
theorem lt_5 {P : Nat → Prop} (h0 : P 0) (h1 : P 1) (h2 : P 2) (h3 : P 3) (h4 : P 4) : ∀ i, i < 5 → P i
  | 0, _ => h0
  | 1, _ => h1
  | 2, _ => h2
  | 3, _ => h3
  | 4, _ => h4
  | n + 5, h => absurd h (by omega)
theorem kindZ_no {c : Int} (h1 : ¬ c = 103) (h2 : ¬ c = 104) (h3 : ¬ c = 109) : kindZ c = -9 := kindZ_4 h1 h2 h3
theorem kindZ_0n {c : Int} (h : c = 103) : 0 = (kindZ c).toNat := by rw [kindZ_1 h]; rfl
theorem kindZ_1n {c : Int} (h : c = 104) : 1 = (kindZ c).toNat := by rw [kindZ_2 h]; rfl
theorem kindZ_2n {c : Int} (h : c = 109) : 2 = (kindZ c).toNat := by rw [kindZ_3 h]; rfl
theorem kindZ_y {c : Int} (h : c = 103 ∨ c = 104 ∨ c = 109) : kindZ c ≠ -9 := by
  rcases h with h | h | h
  · rw [kindZ_1 h]; decide
  · rw [kindZ_2 h]; decide
  · rw [kindZ_3 h]; decide
