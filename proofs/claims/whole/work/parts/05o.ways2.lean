/-! the first cell of the best way, the next one -/
def fsZ (d : Nat → Nat) (wide : Nat) : Nat → Int
  | 0 => -9
  | y + 1 => if d (y * wide) < 100000000 ∧ (fsZ d wide y < 0 ∨ d (y * wide) < d (fsZ d wide y).toNat) then ((y * wide : Nat) : Int) else fsZ d wide y
theorem fsZ_in (d : Nat → Nat) {wide : Nat} (h : 0 < wide) : ∀ y, fsZ d wide y = -9 ∨ (0 ≤ fsZ d wide y ∧ fsZ d wide y < ((y * wide : Nat) : Int))
  | 0 => Or.inl rfl
  | y + 1 => by
    have ih := fsZ_in d h y
    have e : (y + 1) * wide = y * wide + wide := by rw [Nat.add_mul, Nat.one_mul]
    rw [fsZ, e]
    split
    · right; omega
    · rcases ih with q | q
      · exact Or.inl q
      · right; omega
theorem fsZ_cong {d e : Nat → Nat} {wide : Nat} (h : 0 < wide) : ∀ {y : Nat}, (∀ c, c < y * wide → d c = e c) → fsZ d wide y = fsZ e wide y
  | 0, _ => rfl
  | y + 1, hc => by
    have e1 : (y + 1) * wide = y * wide + wide := by rw [Nat.add_mul, Nat.one_mul]
    rw [e1] at hc
    have ih := fsZ_cong h (y := y) (fun c q => hc c (by omega))
    have hy := fsZ_in e h y
    rw [fsZ, fsZ, ih, hc (y * wide) (by omega)]
    rcases hy with q | q
    · rw [q]
      simp
    · rw [hc (fsZ e wide y).toNat (by omega)]
def nsP (wide : Nat) (W d : Nat → Nat) (c u : Nat) : Bool := nxtB wide c u && decide (W c + d u = d c)
def nsR (p : Nat → Bool) (n : Nat) : Nat → Int
  | 0 => -9
  | k + 1 => if p (n - 1 - k) = true then ((n - 1 - k : Nat) : Int) else nsR p n k
theorem nsR_in (p : Nat → Bool) (n : Nat) (hn : 0 < n) : ∀ k, nsR p n k = -9 ∨ (0 ≤ nsR p n k ∧ nsR p n k < (n : Int))
  | 0 => Or.inl rfl
  | k + 1 => by
    have ih := nsR_in p n hn k
    rw [nsR]
    split
    · right; omega
    · exact ih
theorem nsR_cong {p q : Nat → Bool} {n : Nat} (hn : 0 < n) (h : ∀ u, u < n → p u = q u) : ∀ k, nsR p n k = nsR q n k
  | 0 => rfl
  | k + 1 => by rw [nsR, nsR, nsR_cong hn h k, h _ (by omega)]
theorem nsR_hit {p : Nat → Bool} {n u : Nat} (hu : u < n) (hp : p u = true) : ∀ k, k ≤ n → n - k ≤ u → 0 ≤ nsR p n k
  | 0, _, h => by omega
  | k + 1, hk, h => by
    rw [nsR]
    split
    · omega
    · next q =>
      by_cases e : n - 1 - k = u
      · rw [e] at q
        exact absurd hp q
      · exact nsR_hit hu hp k (by omega) (by omega)
theorem nsR_ok {p : Nat → Bool} {n : Nat} : ∀ {k : Nat}, k ≤ n → 0 ≤ nsR p n k → p (nsR p n k).toNat = true
  | 0, _, h => absurd h (by unfold nsR; omega)
  | k + 1, hk, h => by
    rw [nsR] at h ⊢
    by_cases q : p (n - 1 - k) = true
    · rw [if_pos q]
      exact q
    · rw [if_neg q] at h ⊢
      exact nsR_ok (by omega) h
