/-! small facts for the text and the readings -/
theorem kindZ_b (c : Int) : -9 ≤ kindZ c ∧ kindZ c ≤ 2 := by
  unfold kindZ
  repeat' split
  all_goals omega
theorem cSo_f {g n : Nat} {rdOf : Nat → Nat} {rdWas shot : Nat → Bool} (h : g < n) (c : shot (rdOf g) ≠ rdWas g) : aSo n rdOf rdWas shot = false := by
  unfold aSo
  rw [(anyB_iff _ _).mpr ⟨g, h, by simpa using c⟩]
  rfl
theorem LandOk.reach {wide high cells guns : Nat} {sil dug fc lc : Nat → Bool} {clay col row kind stand reach : Nat → Nat} (h : LandOk wide high cells guns sil dug fc lc clay col row kind stand reach) {k v : Nat} (hv : v ≤ 9) : LandOk wide high cells guns sil dug fc lc clay col row kind stand (up reach k v) := by
  obtain ⟨h1, h2, h3, h4, h5, h6, h7, h8, h9, h10, h11, h12⟩ := h
  exact ⟨h1, h2, h3, h4, h5, h6, h7, h8, h9, h10, up_le reach h11 hv, h12⟩
theorem LandOk.kind {wide high cells guns : Nat} {sil dug fc lc : Nat → Bool} {clay col row kind stand reach : Nat → Nat} (h : LandOk wide high cells guns sil dug fc lc clay col row kind stand reach) {k v : Nat} (hv : v ≤ 2) : LandOk wide high cells guns sil dug fc lc clay col row (up kind k v) stand reach := by
  obtain ⟨h1, h2, h3, h4, h5, h6, h7, h8, h9, h10, h11, h12⟩ := h
  exact ⟨h1, h2, h3, h4, h5, h6, h7, h8, up_le kind h9 hv, h10, h11, h12⟩
theorem LandOk.stand {wide high cells guns : Nat} {sil dug fc lc : Nat → Bool} {clay col row kind stand reach : Nat → Nat} (h : LandOk wide high cells guns sil dug fc lc clay col row kind stand reach) {k v : Nat} (hv : v < cells) : LandOk wide high cells guns sil dug fc lc clay col row kind (up stand k v) reach := by
  obtain ⟨h1, h2, h3, h4, h5, h6, h7, h8, h9, h10, h11, h12, h13⟩ := h
  refine ⟨h1, h2, h3, h4, h5, h6, h7, h8, h9, fun j => ?_, h11, fun g hg => ?_, h13⟩
  · unfold up
    split
    · omega
    · exact h10 j
  · unfold up
    split
    · exact hv
    · exact h12 g hg
theorem LandOk.clay {wide high cells guns : Nat} {sil dug fc lc : Nat → Bool} {clay col row kind stand reach : Nat → Nat} (h : LandOk wide high cells guns sil dug fc lc clay col row kind stand reach) {k v : Nat} (hv : v ≤ 9) : LandOk wide high cells guns sil dug fc lc (up clay k v) col row kind stand reach := by
  obtain ⟨h1, h2, h3, h4, h5, h6, h7⟩ := h
  exact ⟨h1, h2, h3, h4, h5, up_le clay h6 hv, h7⟩
theorem LandOk.sil {wide high cells guns : Nat} {sil dug fc lc : Nat → Bool} {clay col row kind stand reach : Nat → Nat} (h : LandOk wide high cells guns sil dug fc lc clay col row kind stand reach) {s2 : Nat → Bool} (hv : ∀ g, s2 g = true → g < guns ∧ g < 4) : LandOk wide high cells guns s2 dug fc lc clay col row kind stand reach := by
  obtain ⟨h1, h2, h3, h4, h5, h6, h7, h8, h9, h10, h11, h12, h13, h14, h15, h16, h17, h18⟩ := h
  exact ⟨h1, h2, h3, h4, h5, h6, h7, h8, h9, h10, h11, h12, h13, h14, h15, h16, h17, hv⟩
theorem LandOk.dug {wide high cells guns : Nat} {sil dug fc lc : Nat → Bool} {clay col row kind stand reach : Nat → Nat} (h : LandOk wide high cells guns sil dug fc lc clay col row kind stand reach) {d2 : Nat → Bool} (hv : ∀ i, d2 i = true → i < cells) : LandOk wide high cells guns sil d2 fc lc clay col row kind stand reach := by
  obtain ⟨h1, h2, h3, h4, h5, h6, h7, h8, h9, h10, h11, h12, h13, h14, h15, h16, h17, h18⟩ := h
  exact ⟨h1, h2, h3, h4, h5, h6, h7, h8, h9, h10, h11, h12, h13, h14, h15, h16, hv, h18⟩
/-- one gun more -/
theorem LandOk.post {wide high cells guns : Nat} {sil dug fc lc : Nat → Bool} {clay col row kind stand reach : Nat → Nat} (h : LandOk wide high cells guns sil dug fc lc clay col row kind stand reach) {p : Nat} (hp : p < cells) (hg : guns ≤ 4) : LandOk wide high cells (guns + 1) sil dug fc lc clay col row (up kind guns 0) (up stand guns p) (up reach guns 2) := by
  obtain ⟨h1, h2, h3, h4, h5, h6, h7, h8, h9, h10, h11, h12, h13, h14, h15, h16, h17, h18⟩ := h
  refine ⟨h1, h2, h3, h4, by omega, h6, h7, h8, up_le kind h9 (by omega), fun j => ?_, up_le reach h11 (by omega), fun g hg2 => ?_, h13, h14, h15, h16, h17, fun g hs => ?_⟩
  · unfold up
    split
    · omega
    · exact h10 j
  · unfold up
    split
    · exact hp
    · exact h12 g (by omega)
  · have := h18 g hs
    omega
/-- one gun less: what stands beyond the guns is free -/
theorem LandOk.back {wide high cells guns : Nat} {sil dug fc lc : Nat → Bool} {clay col row kind stand reach : Nat → Nat} (h : LandOk wide high cells guns sil dug fc lc clay col row kind stand reach) {a b r : Nat} (ha : a ≤ 2) (hb : b < 36) (hr : r ≤ 9) : LandOk wide high cells guns sil dug fc lc clay col row (up kind guns a) (up stand guns b) (up reach guns r) := by
  obtain ⟨h1, h2, h3, h4, h5, h6, h7, h8, h9, h10, h11, h12, h13, h14, h15, h16, h17, h18⟩ := h
  refine ⟨h1, h2, h3, h4, h5, h6, h7, h8, up_le kind h9 ha, fun j => ?_, up_le reach h11 hr, fun g hg2 => ?_, h13, h14, h15, h16, h17, h18⟩
  · unfold up
    split
    · exact hb
    · exact h10 j
  · rw [up_n stand b (show g ≠ guns by omega)]
    exact h12 g hg2
