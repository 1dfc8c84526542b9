/-! sheets -/
def noCellZ (z : Int) (i : Int) : Int := if z < 0 then 1 else if 0 ≤ i ∧ i ≤ z - 1 then 0 else 3
theorem noCellZ_1 {z i : Int} (h : z < 0) : 1 = noCellZ z i := (if_pos h).symm
theorem noCellZ_0 {z i : Int} (h : 0 ≤ z) (h2 : 0 ≤ i ∧ i ≤ z - 1) : 0 = noCellZ z i := by
  unfold noCellZ
  rw [if_neg (by omega), if_pos h2]
theorem noCellZ_3 {z i : Int} (h : 0 ≤ z) (h2 : ¬ (0 ≤ i ∧ i ≤ z - 1)) : 3 = noCellZ z i := by
  unfold noCellZ
  rw [if_neg (by omega), if_neg h2]
theorem noCellZ_in (z i : Int) : 0 ≤ noCellZ z i ∧ noCellZ z i ≤ 3 := by
  unfold noCellZ
  split
  · omega
  · split <;> omega
theorem noCellZ_ok {z i : Int} (h : noCellZ z i ≤ 0) : 0 ≤ i ∧ i < z := by
  unfold noCellZ at h
  split at h
  · omega
  · split at h <;> omega
def aSh (f : Nat → Int) (k : Int) : Int := if 0 ≤ k ∧ k ≤ 3 then f k.toNat else -1
theorem nsh {k : Int} (h : ¬ ¬ (0 ≤ k ∧ k ≤ 3)) : 0 ≤ k ∧ k ≤ 3 := Classical.not_not.mp h
def newOk (k lane n : Int) : Prop := (0 ≤ k ∧ k ≤ 3) ∧ (0 ≤ lane ∧ lane ≤ 2) ∧ 0 ≤ n ∧ n ≤ 60
def aNew (lane n : Int) : Int := if 0 ≤ lane ∧ lane ≤ 2 then (if n ≤ 60 then (if 0 ≤ n then 1 else -10 - 4) else -2) else -2
def newR (k lane n : Int) (sz ln num sz2 ln2 num2 : Nat → Int) : Prop :=
  (newOk k lane n → sz2 = up sz k.toNat n ∧ ln2 = up ln k.toNat lane ∧ (∀ i, i < n.toNat → num2 (60 * k.toNat + i) = 0) ∧ ∀ j, (j < 60 * k.toNat ∨ 60 * k.toNat + 60 ≤ j) → num2 j = num j) ∧ (¬ newOk k lane n → sz2 = sz ∧ ln2 = ln ∧ num2 = num)
theorem newR_no {k lane n : Int} {sz ln num : Nat → Int} (h : ¬ newOk k lane n) : newR k lane n sz ln num sz ln num := ⟨fun q => absurd q h, fun _ => ⟨rfl, rfl, rfl⟩⟩
def barZ (z ln lane i n : Int) : Int := if 0 ≤ z ∧ ln ≠ lane then -10 - 2 else if z < 0 then -10 - 1 else if n < 0 then -10 - 4 else if i < 0 ∨ n < 0 ∨ i + n > z then -10 - 3 else 0
def barF (z ln lane i n flt : Int) : Int := if 0 ≤ z ∧ ln ≠ lane then 2 else if z < 0 then 1 else if n < 0 then 4 else if i < 0 ∨ n < 0 ∨ i + n > z then 3 else flt
theorem bar_2 {z ln lane i n flt : Int} (h : 0 ≤ z) (h2 : ln ≠ lane) : -10 - 2 = barZ z ln lane i n ∧ 2 = barF z ln lane i n flt := ⟨(if_pos ⟨h, h2⟩).symm, (if_pos ⟨h, h2⟩).symm⟩
theorem bar_1 {z ln lane i n flt : Int} (h : z < 0) : -10 - 1 = barZ z ln lane i n ∧ 1 = barF z ln lane i n flt := by
  have a0 : ¬ (0 ≤ z ∧ ln ≠ lane) := by omega
  have a1 : z < 0 := h
  unfold barZ barF
  simp only [if_neg a0, if_pos a1]
  first | done | exact ⟨rfl, rfl⟩ | exact ⟨trivial, trivial⟩
theorem bar_4 {z ln lane i n flt : Int} (h : 0 ≤ z) (h2 : ln = lane) (h3 : n < 0) : -10 - 4 = barZ z ln lane i n ∧ 4 = barF z ln lane i n flt := by
  have a0 : ¬ (0 ≤ z ∧ ln ≠ lane) := fun q => q.2 h2
  have a1 : ¬ z < 0 := by omega
  have a2 : n < 0 := h3
  unfold barZ barF
  simp only [if_neg a0, if_neg a1, if_pos a2]
  first | done | exact ⟨rfl, rfl⟩ | exact ⟨trivial, trivial⟩
theorem bar_3 {z ln lane i n flt : Int} (h : 0 ≤ z) (h2 : ln = lane) (h3 : 0 ≤ n) (h4 : i < 0 ∨ n < 0 ∨ i + n > z) : -10 - 3 = barZ z ln lane i n ∧ 3 = barF z ln lane i n flt := by
  have a0 : ¬ (0 ≤ z ∧ ln ≠ lane) := fun q => q.2 h2
  have a1 : ¬ z < 0 := by omega
  have a2 : ¬ n < 0 := by omega
  have a3 : i < 0 ∨ n < 0 ∨ i + n > z := h4
  unfold barZ barF
  simp only [if_neg a0, if_neg a1, if_neg a2, if_pos a3]
  first | done | exact ⟨rfl, rfl⟩ | exact ⟨trivial, trivial⟩
theorem bar_0 {z ln lane i n flt : Int} (h : 0 ≤ z) (h2 : ln = lane) (h3 : 0 ≤ n) (h4 : ¬ (i < 0 ∨ n < 0 ∨ i + n > z)) : 0 = barZ z ln lane i n ∧ flt = barF z ln lane i n flt := by
  have a0 : ¬ (0 ≤ z ∧ ln ≠ lane) := fun q => q.2 h2
  have a1 : ¬ z < 0 := by omega
  have a2 : ¬ n < 0 := by omega
  have a3 : ¬ (i < 0 ∨ n < 0 ∨ i + n > z) := h4
  unfold barZ barF
  simp only [if_neg a0, if_neg a1, if_neg a2, if_neg a3]
  first | done | exact ⟨rfl, rfl⟩ | exact ⟨trivial, trivial⟩
def aPut (z : Int) (i : Int) : Int := if 0 < noCellZ z i then -10 - noCellZ z i else 1
def aCell (sz ln num : Nat → Int) (k i lane : Int) : Int := if (0 ≤ k ∧ k ≤ 3) ∧ (0 ≤ lane ∧ lane ≤ 2) then (if 0 ≤ sz k.toNat ∧ ln k.toNat ≠ lane then -9223372036854775808 else if 0 < noCellZ (sz k.toNat) i then -9223372036854775808 else num (60 * k.toNat + i.toNat)) else -9223372036854775808
def fCell (sz ln : Nat → Int) (k i lane : Int) : Int := if (0 ≤ k ∧ k ≤ 3) ∧ (0 ≤ lane ∧ lane ≤ 2) then (if 0 ≤ sz k.toNat ∧ ln k.toNat ≠ lane then 2 else noCellZ (sz k.toNat) i) else 0
theorem cell_a {sz ln num : Nat → Int} {k : Nat} {i lane : Int} (hk : 0 ≤ ((k : Nat) : Int) ∧ ((k : Nat) : Int) ≤ 3) (hl : 0 ≤ lane ∧ lane ≤ 2) (h : 0 ≤ sz k ∧ ln k ≠ lane) : -9223372036854775808 = aCell sz ln num ((k : Nat) : Int) i lane ∧ 2 = fCell sz ln ((k : Nat) : Int) i lane := by
  have h' : 0 ≤ sz ((k : Nat) : Int).toNat ∧ ln ((k : Nat) : Int).toNat ≠ lane := h
  have h2 : (0 ≤ ((k : Nat) : Int) ∧ ((k : Nat) : Int) ≤ 3) ∧ (0 ≤ lane ∧ lane ≤ 2) := ⟨hk, hl⟩
  unfold aCell fCell
  rw [if_pos h2, if_pos h2, if_pos h', if_pos h']
  exact ⟨rfl, rfl⟩
theorem cell_b {sz ln num : Nat → Int} {k : Nat} {i lane : Int} (hk : 0 ≤ ((k : Nat) : Int) ∧ ((k : Nat) : Int) ≤ 3) (hl : 0 ≤ lane ∧ lane ≤ 2) (h : ¬ (0 ≤ sz k ∧ ln k ≠ lane)) (hc : 0 < noCellZ (sz k) i) : -9223372036854775808 = aCell sz ln num ((k : Nat) : Int) i lane ∧ noCellZ (sz k) i = fCell sz ln ((k : Nat) : Int) i lane := by
  have h' : ¬ (0 ≤ sz ((k : Nat) : Int).toNat ∧ ln ((k : Nat) : Int).toNat ≠ lane) := h
  have h2 : (0 ≤ ((k : Nat) : Int) ∧ ((k : Nat) : Int) ≤ 3) ∧ (0 ≤ lane ∧ lane ≤ 2) := ⟨hk, hl⟩
  have hc' : 0 < noCellZ (sz ((k : Nat) : Int).toNat) i := hc
  unfold aCell fCell
  rw [if_pos h2, if_pos h2, if_neg h', if_neg h', if_pos hc']
  exact ⟨rfl, rfl⟩
theorem cell_c {sz ln num : Nat → Int} {k w : Nat} {lane : Int} (hk : 0 ≤ ((k : Nat) : Int) ∧ ((k : Nat) : Int) ≤ 3) (hl : 0 ≤ lane ∧ lane ≤ 2) (h : ¬ (0 ≤ sz k ∧ ln k ≠ lane)) (hc : noCellZ (sz k) ((w : Nat) : Int) ≤ 0) : num (60 * k + w) = aCell sz ln num ((k : Nat) : Int) ((w : Nat) : Int) lane ∧ 0 = fCell sz ln ((k : Nat) : Int) ((w : Nat) : Int) lane := by
  have h' : ¬ (0 ≤ sz ((k : Nat) : Int).toNat ∧ ln ((k : Nat) : Int).toNat ≠ lane) := h
  have h2 : (0 ≤ ((k : Nat) : Int) ∧ ((k : Nat) : Int) ≤ 3) ∧ (0 ≤ lane ∧ lane ≤ 2) := ⟨hk, hl⟩
  have hc' : ¬ 0 < noCellZ (sz ((k : Nat) : Int).toNat) ((w : Nat) : Int) := Int.not_lt.mpr hc
  have hin := noCellZ_in (sz k) ((w : Nat) : Int)
  unfold aCell fCell
  rw [if_pos h2, if_pos h2, if_neg h', if_neg h', if_neg hc']
  exact ⟨rfl, (show noCellZ (sz k) ((w : Nat) : Int) = 0 by omega).symm⟩
