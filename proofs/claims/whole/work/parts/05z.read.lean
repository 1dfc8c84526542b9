/-! a text of a ground, place by place -/
def tW (num : Nat → Int) (fr : Nat) : Nat := (num (fr + 1) - 48).toNat
def tH (num : Nat → Int) (fr : Nat) : Nat := (num (fr + 2) - 48).toNat
def tA (num : Nat → Int) (fr : Nat) : Nat := 3 + tW num fr * tH num fr
/-- what a gun's place may hold -/
def gunP (k : Nat) (c : Int) (W H : Nat) : Prop :=
  (k = 0 → c = 59) ∧ (k = 1 → kindZ c ≠ -9) ∧ (k = 2 → 48 ≤ c ∧ c - 48 < (W : Int)) ∧ (k = 3 → 48 ≤ c ∧ c - 48 < (H : Int)) ∧ (k = 4 → 48 ≤ c ∧ c ≤ 57)
/-- the text goes on at place j -/
def goP (num : Nat → Int) (fr j : Nat) : Prop :=
  (j = 0 → num fr = 112) ∧ (1 ≤ j ∧ j < 3 → 50 ≤ num (fr + j) ∧ num (fr + j) ≤ 54) ∧
  (3 ≤ j ∧ j < tA num fr → 48 ≤ num (fr + j) ∧ num (fr + j) ≤ 57) ∧
  (3 ≤ j ∧ tA num fr ≤ j → j < tA num fr + 20 ∧ gunP ((j - tA num fr) % 5) (num (fr + j)) (tW num fr) (tH num fr))
/-- so many places are a text -/
def allP (num : Nat → Int) (fr n : Nat) : Prop := 3 ≤ n ∧ tA num fr < n ∧ (n - tA num fr) % 5 = 0
/-- the first place that stops it is r -/
def badP (num : Nat → Int) (fr n a r : Nat) : Prop :=
  r ≤ n ∧ (∀ j, a ≤ j → j < r → goP num fr j) ∧ (r < n → ¬ goP num fr r) ∧ (r = n → ¬ allP num fr n)
/-- both sizes are there -/
def headP (num : Nat → Int) (fr n : Nat) : Prop := 3 ≤ n ∧ (50 ≤ num (fr + 1) ∧ num (fr + 1) ≤ 54) ∧ (50 ≤ num (fr + 2) ∧ num (fr + 2) ≤ 54)
theorem headP_b {num : Nat → Int} {fr n : Nat} (h : headP num fr n) : (2 ≤ tW num fr ∧ tW num fr ≤ 6) ∧ (2 ≤ tH num fr ∧ tH num fr ≤ 6) ∧ tW num fr * tH num fr ≤ 36 ∧ 4 ≤ tW num fr * tH num fr ∧ num (fr + 1) - 48 = (tW num fr : Int) ∧ num (fr + 2) - 48 = (tH num fr : Int) := by
  obtain ⟨h0, h1, h2⟩ := h
  have a1 : 2 ≤ tW num fr ∧ tW num fr ≤ 6 := by unfold tW; omega
  have a2 : 2 ≤ tH num fr ∧ tH num fr ≤ 6 := by unfold tH; omega
  refine ⟨a1, a2, Nat.mul_le_mul a1.2 a2.2, Nat.mul_le_mul a1.1 a2.1, ?_, ?_⟩
  · unfold tW; omega
  · unfold tH; omega
theorem figV_dig {c : Int} (h : -2147483648 ≤ c ∧ c < 2147483648) {lo hi : Int} (h0 : 0 ≤ lo) (h1 : hi ≤ 9) : (lo ≤ figV c ∧ figV c ≤ hi ↔ lo + 48 ≤ c ∧ c ≤ hi + 48) ∧ (lo + 48 ≤ c ∧ c ≤ hi + 48 → figV c = c - 48) := by
  have key : figV c = if c - 48 < -2147483648 then c - 48 + 4294967296 else c - 48 := by
    unfold figV
    split
    · rw [Int.bmod_def]
      have : (c - 48) % ((4294967296 : Nat) : Int) = c - 48 + 4294967296 := by
        rw [← Int.add_emod_right]
        exact Int.emod_eq_of_lt (by omega) (by omega)
      rw [this]
      split <;> omega
    · rename_i hq
      exact Int.bmod_eq_of_le (by omega) (by omega)
  rw [key]
  constructor
  · split <;> omega
  · intro _
    rw [if_neg (by omega)]
theorem fig_no9 : figV (-9) = -57 := by decide +kernel
theorem fig_ok {num : Nat → Int} (h : ∀ k, -2147483648 ≤ num k ∧ num k < 2147483648) {r fr n r2 : Nat} {lo hi : Int} (h0 : 0 ≤ lo) (h1 : hi ≤ 9) (c : ¬ figZ (codZ num r fr n) lo hi < 0) (q : r2 = (if lo ≤ figV (codZ num r fr n) ∧ figV (codZ num r fr n) ≤ hi then r + 1 else r)) : r < n ∧ lo + 48 ≤ num (fr + r) ∧ num (fr + r) ≤ hi + 48 ∧ figZ (codZ num r fr n) lo hi = num (fr + r) - 48 ∧ r2 = r + 1 := by
  unfold figZ at c ⊢
  by_cases hc : lo ≤ figV (codZ num r fr n) ∧ figV (codZ num r fr n) ≤ hi
  · rw [if_pos hc] at q ⊢
    have hrn : r < n := by
      by_cases e : r < n
      · exact e
      · exfalso
        have : codZ num r fr n = -9 := if_neg e
        rw [this, fig_no9] at hc
        omega
    have e : codZ num r fr n = num (fr + r) := if_pos hrn
    rw [e] at hc ⊢
    have d := figV_dig (h (fr + r)) h0 h1
    have d1 := d.1.mp hc
    exact ⟨hrn, d1.1, d1.2, d.2 d1, q⟩
  · rw [if_neg hc] at c
    omega
theorem fig_no {num : Nat → Int} (h : ∀ k, -2147483648 ≤ num k ∧ num k < 2147483648) {r fr n r2 : Nat} {lo hi : Int} (h0 : 0 ≤ lo) (h1 : hi ≤ 9) (c : figZ (codZ num r fr n) lo hi < 0) (q : r2 = (if lo ≤ figV (codZ num r fr n) ∧ figV (codZ num r fr n) ≤ hi then r + 1 else r)) : r2 = r ∧ (r < n → ¬ (lo + 48 ≤ num (fr + r) ∧ num (fr + r) ≤ hi + 48)) := by
  unfold figZ at c
  by_cases hc : lo ≤ figV (codZ num r fr n) ∧ figV (codZ num r fr n) ≤ hi
  · rw [if_pos hc] at c
    omega
  · rw [if_neg hc] at q
    refine ⟨q, fun hrn hh => hc ?_⟩
    have e : codZ num r fr n = num (fr + r) := if_pos hrn
    rw [e]
    exact (figV_dig (h (fr + r)) h0 h1).1.mpr hh
theorem figZ_or (c lo hi : Int) : figZ c lo hi = -9 ∨ (lo ≤ figZ c lo hi ∧ figZ c lo hi ≤ hi) := by
  unfold figZ
  split
  · exact Or.inr (by assumption)
  · exact Or.inl rfl
theorem figZ_in {c lo hi : Int} (h0 : 0 ≤ lo) (h1 : hi ≤ 9) : -9 ≤ figZ c lo hi ∧ figZ c lo hi ≤ 9 := by
  unfold figZ
  split <;> omega
/-- what readsSquares leaves -/
def sqR (num : Nat → Int) (fr n : Nat) (gd : Bool) (r : Nat) (w h : Int) (cl : Nat → Int) : Prop :=
  (gd = true → headP num fr n ∧ r = tA num fr ∧ r ≤ n ∧ w = (tW num fr : Int) ∧ h = (tH num fr : Int) ∧ ∀ i, i < tW num fr * tH num fr → (48 ≤ num (fr + (3 + i)) ∧ num (fr + (3 + i)) ≤ 57) ∧ cl i = num (fr + (3 + i)) - 48) ∧
  (gd = false → 1 ≤ r ∧ badP num fr n 1 r)
/-- its loop -/
def sqI (num : Nat → Int) (fr n : Nat) (gd : Bool) (c r : Nat) (cl : Nat → Int) : Prop :=
  (gd = true → headP num fr n ∧ c ≤ tW num fr * tH num fr ∧ r = 3 + c ∧ r ≤ n ∧ ∀ i, i < c → (48 ≤ num (fr + (3 + i)) ∧ num (fr + (3 + i)) ≤ 57) ∧ cl i = num (fr + (3 + i)) - 48) ∧
  (gd = false → 1 ≤ r ∧ badP num fr n 1 r)
theorem goP_12 {num : Nat → Int} {fr j : Nat} (h : 1 ≤ j ∧ j < 3) (q : 50 ≤ num (fr + j) ∧ num (fr + j) ≤ 54) : goP num fr j :=
  ⟨fun e => by omega, fun _ => q, fun e => by omega, fun e => by omega⟩
theorem goP_cl {num : Nat → Int} {fr j : Nat} (h : 3 ≤ j ∧ j < tA num fr) (q : 48 ≤ num (fr + j) ∧ num (fr + j) ≤ 57) : goP num fr j :=
  ⟨fun e => by omega, fun e => by omega, fun _ => q, fun e => by omega⟩
theorem goP_gu {num : Nat → Int} {fr j : Nat} (h : 3 ≤ j ∧ tA num fr ≤ j) (q : j < tA num fr + 20 ∧ gunP ((j - tA num fr) % 5) (num (fr + j)) (tW num fr) (tH num fr)) : goP num fr j :=
  ⟨fun e => by omega, fun e => by omega, fun e => by omega, fun _ => q⟩
/-- no first size -/
theorem sqI_b1 {num : Nat → Int} {fr n r : Nat} {cl : Nat → Int} (hn : 1 ≤ n) (e : r = 1) (q : 1 < n → ¬ (50 ≤ num (fr + 1) ∧ num (fr + 1) ≤ 54)) : sqI num fr n false 0 r cl := by
  refine ⟨fun e => Bool.noConfusion e, fun _ => ⟨by omega, by omega, fun j h1 h2 => by omega, fun h g => ?_, fun h g => ?_⟩⟩
  · rw [e] at h g
    exact q h (g.2.1 ⟨by omega, by omega⟩)
  · have := g.1; omega
theorem sqI_b2 {num : Nat → Int} {fr n r : Nat} {cl : Nat → Int} (hn : 1 < n) (h1 : 50 ≤ num (fr + 1) ∧ num (fr + 1) ≤ 54) (e : r = 2) (q : 2 < n → ¬ (50 ≤ num (fr + 2) ∧ num (fr + 2) ≤ 54)) : sqI num fr n false 0 r cl := by
  refine ⟨fun e => Bool.noConfusion e, fun _ => ⟨by omega, by omega, fun j k1 k2 => ?_, fun h g => ?_, fun h g => ?_⟩⟩
  · have : j = 1 := by omega
    subst this
    exact goP_12 (by omega) h1
  · rw [e] at h g
    exact q h (g.2.1 ⟨by omega, by omega⟩)
  · have := g.1; omega
theorem sqI_0 {num : Nat → Int} {fr n r : Nat} {cl : Nat → Int} (h : headP num fr n) (e : r = 3) : sqI num fr n true 0 r cl :=
  ⟨fun _ => ⟨h, Nat.zero_le _, e, by have := h.1; omega, fun i hi => absurd hi (Nat.not_lt_zero _)⟩, fun e => Bool.noConfusion e⟩
theorem sqI_t {num : Nat → Int} {fr n c r r2 : Nat} {cl cl2 : Nat → Int} (h : sqI num fr n true c r cl) (hc : c < tW num fr * tH num fr) (q : r < n ∧ 48 ≤ num (fr + r) ∧ num (fr + r) ≤ 57 ∧ r2 = r + 1) (e : cl2 = up cl c (num (fr + r) - 48)) : sqI num fr n true (c + 1) r2 cl2 := by
  obtain ⟨h1, h2, h3, h4, h5⟩ := h.1 rfl
  refine ⟨fun _ => ⟨h1, by omega, by omega, by omega, fun i hi => ?_⟩, fun e => Bool.noConfusion e⟩
  by_cases k : i = c
  · subst k
    rw [h3] at q e
    rw [e, up_s]
    exact ⟨⟨q.2.1, q.2.2.1⟩, rfl⟩
  · rw [e, up_n _ _ k]
    exact h5 i (by omega)
theorem sqI_f {num : Nat → Int} {fr n c r r2 : Nat} {cl cl2 : Nat → Int} (h : sqI num fr n true c r cl) (hc : c < tW num fr * tH num fr) (e : r2 = r) (q : r < n → ¬ (48 ≤ num (fr + r) ∧ num (fr + r) ≤ 57)) : sqI num fr n false (c + 1) r2 cl2 := by
  obtain ⟨h1, h2, h3, h4, h5⟩ := h.1 rfl
  refine ⟨fun e => Bool.noConfusion e, fun _ => ⟨by omega, by omega, fun j k1 k2 => ?_, fun k g => ?_, fun k g => ?_⟩⟩
  · by_cases k : j < 3
    · refine goP_12 ⟨k1, k⟩ ?_
      have : j = 1 ∨ j = 2 := by omega
      rcases this with rfl | rfl
      · exact h1.2.1
      · exact h1.2.2
    · refine goP_cl ⟨by omega, by unfold tA; omega⟩ ?_
      have := (h5 (j - 3) (by omega)).1
      rw [show 3 + (j - 3) = j from by omega] at this
      exact this
  · rw [e] at k g
    exact q k (g.2.2.1 ⟨by omega, by unfold tA; omega⟩)
  · have := g.2.1
    unfold tA at this
    omega
theorem sqR_t {num : Nat → Int} {fr n c r : Nat} {cl : Nat → Int} {w h : Int} {gd : Bool} (i : sqI num fr n gd c r cl) (e : gd = true) (hc : ¬ c < tW num fr * tH num fr) (hw : w = (tW num fr : Int)) (hh : h = (tH num fr : Int)) : sqR num fr n gd r w h cl := by
  subst e
  obtain ⟨h1, h2, h3, h4, h5⟩ := i.1 rfl
  exact ⟨fun _ => ⟨h1, by unfold tA; omega, h4, hw, hh, fun j hj => h5 j (by omega)⟩, fun e => Bool.noConfusion e⟩
theorem sqR_f {num : Nat → Int} {fr n c r : Nat} {cl : Nat → Int} {w h : Int} {gd : Bool} (i : sqI num fr n gd c r cl) (e : gd = false) : sqR num fr n gd r w h cl := by
  subst e
  exact ⟨fun e => Bool.noConfusion e, i.2⟩
theorem mIf {gd gd2 : Bool} {a b n : Nat} (h : (if gd = true then a else 0) < n + 1) (e : gd = true) (hb : b < a) : (if gd2 = true then b else 0) < n := by
  rw [if_pos e] at h
  split <;> omega
