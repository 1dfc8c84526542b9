/-! the words for the state -/
def cut8 (z : Int) : Int := z.bmod 256
def cut16 (z : Int) : Int := z.bmod 65536
theorem cut8_in (z : Int) : -128 ≤ cut8 z ∧ cut8 z < 128 := by
  unfold cut8
  have h1 := Int.le_bmod (x := z) (m := 256) (by decide)
  have h2 := Int.bmod_lt (x := z) (m := 256) (by decide)
  omega
theorem cut16_in (z : Int) : -32768 ≤ cut16 z ∧ cut16 z < 32768 := by
  unfold cut16
  have h1 := Int.le_bmod (x := z) (m := 65536) (by decide)
  have h2 := Int.bmod_lt (x := z) (m := 65536) (by decide)
  omega
theorem cut8_eq (z : Int) : (iI z).toInt8.toInt32 = iI (cut8 z) := by
  have h := cut8_in z
  rw [← Int32.toInt_inj, Int8.toInt_toInt32, Int32.toInt_toInt8, iI_toInt (z := cut8 z) ⟨by omega, by omega⟩]
  show (Int32.ofInt z).toInt.bmod 256 = z.bmod 256
  rw [Int32.toInt_ofInt]
  show (z.bmod 4294967296).bmod 256 = z.bmod 256
  exact Int.bmod_bmod_of_dvd (show (256 : Nat) ∣ 4294967296 by decide)
theorem cut16_eq (z : Int) : (iI z).toInt16.toInt32 = iI (cut16 z) := by
  have h := cut16_in z
  rw [← Int32.toInt_inj, Int16.toInt_toInt32, Int32.toInt_toInt16, iI_toInt (z := cut16 z) ⟨by omega, by omega⟩]
  show (Int32.ofInt z).toInt.bmod 65536 = z.bmod 65536
  rw [Int32.toInt_ofInt]
  show (z.bmod 4294967296).bmod 65536 = z.bmod 65536
  exact Int.bmod_bmod_of_dvd (show (65536 : Nat) ∣ 4294967296 by decide)
def cutL (lane v : Int) : Int := if lane = 0 then cut8 v else if lane = 1 then cut16 v else v
theorem cutL_0 {lane v : Int} (h : lane = 0) : cutL lane v = cut8 v := if_pos h
theorem cutL_1 {lane v : Int} (h : lane = 1) : cutL lane v = cut16 v := by
  unfold cutL
  rw [if_neg (by omega), if_pos h]
theorem cutL_2 {lane v : Int} (h : ¬ lane = 0) (h2 : ¬ lane = 1) : cutL lane v = v := by
  unfold cutL
  rw [if_neg h, if_neg h2]
theorem cutL_in {lane v : Int} (h : InR v) : InR (cutL lane v) := by
  unfold cutL
  split
  · have := cut8_in v; exact ⟨by omega, by omega⟩
  · split
    · have := cut16_in v; exact ⟨by omega, by omega⟩
    · exact h
def kindZ (c : Int) : Int := if c = 103 then 0 else if c = 104 then 1 else if c = 109 then 2 else -9
theorem kindZ_1 {c : Int} (h : c = 103) : kindZ c = 0 := if_pos h
theorem kindZ_2 {c : Int} (h : c = 104) : kindZ c = 1 := by
  unfold kindZ
  rw [if_neg (by omega), if_pos h]
theorem kindZ_3 {c : Int} (h : c = 109) : kindZ c = 2 := by
  unfold kindZ
  rw [if_neg (by omega), if_neg (by omega), if_pos h]
theorem kindZ_4 {c : Int} (h : ¬ c = 103) (h2 : ¬ c = 104) (h3 : ¬ c = 109) : kindZ c = -9 := by
  unfold kindZ
  rw [if_neg h, if_neg h2, if_neg h3]
theorem bz_inL (b : Bool) : InL (bz b) := by cases b <;> decide
theorem bz_1 {b : Bool} (h : bz b ≠ 0) : b = true := by
  cases b with
  | false => exact absurd rfl h
  | true => rfl
theorem bz_0 {b : Bool} (h : bz b = 0) : b = false := by
  cases b with
  | false => rfl
  | true => exact absurd h (by decide)
def rng (k r : Nat) : Nat := if k = 1 then r + 1 else if k = 2 then (r + 1) / 2 else r
theorem rng_1 {k r : Nat} (h : k = 1) : rng k r = r + 1 := if_pos h
theorem rng_2 {k r : Nat} (h : k = 2) : rng k r = (r + 1) / 2 := by
  unfold rng
  rw [if_neg (by omega), if_pos h]
theorem rng_0 {k r : Nat} (h : k ≠ 1) (h2 : k ≠ 2) : rng k r = r := by
  unfold rng
  rw [if_neg h, if_neg h2]
theorem rng_le {k r : Nat} (h : r ≤ 9) : rng k r ≤ 10 := by
  unfold rng
  split
  · omega
  · split <;> omega
def LandOk (wide high cells guns : Nat) (sil dug fc lc : Nat → Bool) (clay col row kind stand reach : Nat → Nat) : Prop :=
  cells = wide * high ∧ wide ≤ 6 ∧ high ≤ 6 ∧ cells ≤ 36 ∧ guns ≤ 5 ∧ (∀ k, clay k ≤ 9) ∧ (∀ k, col k ≤ 6) ∧ (∀ k, row k ≤ 6) ∧ (∀ k, kind k ≤ 2) ∧ (∀ k, stand k < 36) ∧ (∀ k, reach k ≤ 9) ∧
  (∀ g, g < guns → stand g < cells) ∧ (∀ k, k < cells → col k = k % wide) ∧ (∀ k, k < cells → row k = k / wide) ∧ (∀ i, fc i = decide (i < cells ∧ i % wide = 0)) ∧ (∀ i, lc i = decide (i < cells ∧ i % wide + 1 = wide)) ∧ (∀ i, dug i = true → i < cells) ∧ (∀ g, sil g = true → g < guns ∧ g < 4)
