/-! grounds and trenches of the class: small steps -/
theorem grR_3e {num : Nat → Int} {fr : Nat} {k ln bar barf n x y : Int} {same new : Prop} (h : 0 ≤ k ∧ k ≤ 3) (h2 : 0 ≤ ln ∧ ln ≤ 2) (e : x = bar ∧ y = barf) (h3 : x < 0) (hs : same) : grR num fr k ln bar barf n x y same new := by
  obtain ⟨e1, e2⟩ := e
  rw [e1] at h3 ⊢
  rw [e2]
  exact grR_3 h h2 h3 hs
theorem trn_4e {k ln n what bar barf x y : Int} {guns : Nat} {good : Bool} {t : Int32} (h : 0 ≤ k ∧ k ≤ 3) (h2 : (0 ≤ ln ∧ ln ≤ 2) ∧ (0 ≤ n ∧ n ≤ 40) ∧ (0 ≤ what ∧ what ≤ 4)) (h3 : guns ≠ 0) (e : x = bar ∧ y = barf) (h4 : x < 0) : iI x = trnZ k ln n what guns bar good t ∧ y = trnF k ln n what guns bar barf := by
  obtain ⟨e1, e2⟩ := e
  rw [e1] at h4 ⊢
  rw [e2]
  exact trn_4 h h2 h3 h4
theorem ff_in {num : Nat → Int} {fr n : Nat} {z : Int} (h : ffR num fr n z) : -9 ≤ z ∧ z ≤ (n : Int) := by
  rcases h with ⟨h, -⟩ | ⟨h, b⟩
  · omega
  · have := b.1
    omega
theorem ff_y {num : Nat → Int} {fr n : Nat} {z : Int} (h : ffR num fr n z) (e : z = -9) : allP num fr n ∧ ∀ j, j < n → goP num fr j := by
  rcases h with ⟨-, h⟩ | ⟨h, -⟩
  · exact h
  · omega
theorem ff_n {num : Nat → Int} {fr n : Nat} {z : Int} (h : ffR num fr n z) (e : z ≠ -9) : 0 ≤ z ∧ badP num fr n 0 z.toNat := by
  rcases h with ⟨h, -⟩ | h
  · exact absurd h e
  · exact h
