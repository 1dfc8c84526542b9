/-- what a text gives: how many guns, clay, kinds, places, reaches -/
def tG (num : Nat → Int) (fr n : Nat) : Nat := (n - tA num fr) / 5
def tkC (num : Nat → Int) (fr m : Nat) (clay : Nat → Nat) : Nat → Nat := fun c => if c < m then (num (fr + (3 + c)) - 48).toNat else clay c
def tkK (num : Nat → Int) (fr m : Nat) (kind : Nat → Nat) : Nat → Nat := fun g => if g < m then (kindZ (num (fr + (tA num fr + 5 * g + 1)))).toNat else kind g
def tkS (num : Nat → Int) (fr m : Nat) (stand : Nat → Nat) : Nat → Nat := fun g => if g < m then (num (fr + (tA num fr + 5 * g + 2)) - 48).toNat + (num (fr + (tA num fr + 5 * g + 3)) - 48).toNat * tW num fr else stand g
def tkR (num : Nat → Int) (fr m : Nat) (reach : Nat → Nat) : Nat → Nat := fun g => if g < m then (num (fr + (tA num fr + 5 * g + 4)) - 48).toNat else reach g
theorem tk_s {α : Type} {f F : Nat → α} {m : Nat} {v : α} (hv : v = F m) : up (fun g => if g < m then F g else f g) m v = fun g => if g < m + 1 then F g else f g := by
  funext g
  show (if g = m then v else if g < m then F g else f g) = if g < m + 1 then F g else f g
  by_cases q : g = m
  · rw [if_pos q, if_pos (by omega), q, hv]
  · rw [if_neg q]
    by_cases q2 : g < m
    · rw [if_pos q2, if_pos (by omega)]
    · rw [if_neg q2, if_neg (by omega)]
theorem goP_gun {num : Nat → Int} {fr n : Nat} (hg : ∀ j, j < n → goP num fr j) (h3 : 3 ≤ n) {g : Nat} (hn : tA num fr + 5 * g + 5 ≤ n) :
    kindZ (num (fr + (tA num fr + 5 * g + 1))) ≠ -9 ∧ (48 ≤ num (fr + (tA num fr + 5 * g + 2)) ∧ num (fr + (tA num fr + 5 * g + 2)) - 48 < (tW num fr : Int)) ∧ (48 ≤ num (fr + (tA num fr + 5 * g + 3)) ∧ num (fr + (tA num fr + 5 * g + 3)) - 48 < (tH num fr : Int)) ∧ (48 ≤ num (fr + (tA num fr + 5 * g + 4)) ∧ num (fr + (tA num fr + 5 * g + 4)) ≤ 57) := by
  have hA : 3 ≤ tA num fr := by unfold tA; omega
  have k1 := (hg (tA num fr + 5 * g + 1) (by omega)).2.2.2 ⟨by omega, by omega⟩
  have k2 := (hg (tA num fr + 5 * g + 2) (by omega)).2.2.2 ⟨by omega, by omega⟩
  have k3 := (hg (tA num fr + 5 * g + 3) (by omega)).2.2.2 ⟨by omega, by omega⟩
  have k4 := (hg (tA num fr + 5 * g + 4) (by omega)).2.2.2 ⟨by omega, by omega⟩
  exact ⟨k1.2.2.1 (by omega), k2.2.2.2.1 (by omega), k3.2.2.2.2.1 (by omega), k4.2.2.2.2.2 (by omega)⟩
theorem goP_head {num : Nat → Int} {fr n : Nat} (hg : ∀ j, j < n → goP num fr j) (h3 : 3 ≤ n) : headP num fr n :=
  ⟨h3, (hg 1 (by omega)).2.1 ⟨by omega, by omega⟩, (hg 2 (by omega)).2.1 ⟨by omega, by omega⟩⟩
theorem kindZ_in {c : Int} (h : kindZ c ≠ -9) : 0 ≤ kindZ c ∧ kindZ c ≤ 2 := by
  unfold kindZ at h ⊢
  repeat' split
  all_goals first | omega | (exfalso; revert h; simp_all)
theorem toN2 {a b : Int} {w : Nat} (ha : 0 ≤ a) (hb : 0 ≤ b) : a + b * ((w : Nat) : Int) = ((a.toNat + b.toNat * w : Nat) : Int) := by
  rw [Int.natCast_add, Int.natCast_mul, Int.toNat_of_nonneg ha, Int.toNat_of_nonneg hb]
theorem tG_eq {num : Nat → Int} {fr n : Nat} (h : allP num fr n) : n = tA num fr + 5 * tG num fr n := by
  obtain ⟨-, h2, h3⟩ := h
  unfold tG
  omega
theorem tG_in {num : Nat → Int} {fr n : Nat} (hg : ∀ j, j < n → goP num fr j) (h : allP num fr n) : 1 ≤ tG num fr n ∧ tG num fr n ≤ 4 := by
  have e := tG_eq h
  obtain ⟨h1, h2, h3⟩ := h
  have hA : 3 ≤ tA num fr := by unfold tA; omega
  have q := ((hg (n - 1) (by omega)).2.2.2 ⟨by omega, by omega⟩).1
  omega
/-! a whole text, as the reference reads it -/
def rqI (num : Nat → Int) (fr n : Nat) (gd : Bool) (r : Nat) (w h : Int) (cl : Nat → Int) : Prop :=
  (gd = true → headP num fr n ∧ num fr = 112 ∧ r = tA num fr ∧ r ≤ n ∧ w = (tW num fr : Int) ∧ h = (tH num fr : Int) ∧ ∀ i, i < tW num fr * tH num fr → (48 ≤ num (fr + (3 + i)) ∧ num (fr + (3 + i)) ≤ 57) ∧ cl i = num (fr + (3 + i)) - 48) ∧ (gd = false → badP num fr n 0 r)
theorem goP_00 {num : Nat → Int} {fr : Nat} (h : num fr = 112) : goP num fr 0 := ⟨fun _ => h, fun e => by omega, fun e => by omega, fun e => by omega⟩
theorem bad_01 {num : Nat → Int} {fr n r : Nat} (h : num fr = 112) (h1 : 1 ≤ r) (b : badP num fr n 1 r) : badP num fr n 0 r := by
  obtain ⟨b1, b2, b3, b4⟩ := b
  refine ⟨b1, fun j _ hj => ?_, b3, b4⟩
  by_cases q : j = 0
  · subst q
    exact goP_00 h
  · exact b2 j (by omega) hj
theorem rqI_0 {num : Nat → Int} {fr n : Nat} {w h : Int} {cl : Nat → Int} (hc : codZ num 0 fr n ≠ 112) : rqI num fr n false 0 w h cl := by
  refine ⟨fun e => Bool.noConfusion e, fun _ => ⟨Nat.zero_le _, fun j _ hj => absurd hj (Nat.not_lt_zero j), fun h0 g => ?_, fun e q => ?_⟩⟩
  · exact hc ((cod_in h0).trans (g.1 rfl))
  · have := q.1
    omega
theorem rqI_f {num : Nat → Int} {fr n r : Nat} {w h : Int} {cl cl2 : Nat → Int} {gd : Bool} (hc : num fr = 112) (q : sqR num fr n gd r w h cl) (e : gd = false) : rqI num fr n false r w h cl2 := by
  subst e
  have := q.2 rfl
  exact ⟨fun e => Bool.noConfusion e, fun _ => bad_01 hc this.1 this.2⟩
theorem rqI_t {num : Nat → Int} {fr n r : Nat} {w h : Int} {cl : Nat → Int} {gd : Bool} (hc : num fr = 112) (q : sqR num fr n gd r w h cl) (e : gd = true) : rqI num fr n true r w h cl := by
  subst e
  obtain ⟨q1, q2, q3, q4, q5, q6⟩ := q.1 rfl
  exact ⟨fun _ => ⟨q1, hc, q2, q3, q4, q5, q6⟩, fun e => Bool.noConfusion e⟩
/-- the gun loop -/
def rgI (num : Nat → Int) (fr n : Nat) (gd : Bool) (r : Nat) (w h : Int) (g : Nat) (k0 kk s0 ss e0 ee : Nat → Nat) (cl : Nat → Int) : Prop :=
  (gd = true → headP num fr n ∧ r = tA num fr + 5 * g ∧ r ≤ n ∧ g ≤ 4 ∧ w = (tW num fr : Int) ∧ h = (tH num fr : Int) ∧ (∀ j, j < r → goP num fr j) ∧ kk = tkK num fr g k0 ∧ ss = tkS num fr g s0 ∧ ee = tkR num fr g e0 ∧ ∀ i, i < tW num fr * tH num fr → cl i = num (fr + (3 + i)) - 48) ∧ (gd = false → badP num fr n 0 r)
theorem rgI_0 {num : Nat → Int} {fr n r : Nat} {w h : Int} {cl : Nat → Int} {gd : Bool} {k0 s0 e0 : Nat → Nat} (q : rqI num fr n gd r w h cl) : rgI num fr n gd r w h 0 k0 k0 s0 s0 e0 e0 cl := by
  refine ⟨fun e => ?_, q.2⟩
  obtain ⟨q1, q2, q3, q4, q5, q6, q7⟩ := q.1 e
  refine ⟨q1, by omega, q4, by omega, q5, q6, fun j hj => ?_, ?_, ?_, ?_, fun i hi => (q7 i hi).2⟩
  · by_cases z : j = 0
    · subst z
      exact goP_00 q2
    · by_cases z2 : j < 3
      · refine goP_12 ⟨by omega, z2⟩ ?_
        have : j = 1 ∨ j = 2 := by omega
        rcases this with rfl | rfl
        · exact q1.2.1
        · exact q1.2.2
      · refine goP_cl ⟨by omega, by omega⟩ ?_
        have := (q7 (j - 3) (by unfold tA at q3; omega)).1
        rw [show 3 + (j - 3) = j from by omega] at this
        exact this
  · funext g
    exact (if_neg (Nat.not_lt_zero g)).symm
  · funext g
    exact (if_neg (Nat.not_lt_zero g)).symm
  · funext g
    exact (if_neg (Nat.not_lt_zero g)).symm
theorem rgI_s {num : Nat → Int} {fr n r r2 g g2 : Nat} {w h : Int} {cl : Nat → Int} {gd2 : Bool} {k0 kk k2 s0 ss s2 e0 ee e2 : Nat → Nat} (q : rgI num fr n true r w h g k0 kk s0 ss e0 ee cl) (p : rgR num fr n g gd2 r2 g2 kk k2 ss s2 ee e2) : rgI num fr n gd2 r2 ((tW num fr : Nat) : Int) ((tH num fr : Nat) : Int) g2 k0 k2 s0 s2 e0 e2 cl := by
  obtain ⟨q1, q2, q3, q4, q5, q6, q7, q8, q9, qa, qb⟩ := q.1 rfl
  refine ⟨fun e => ?_, fun e => ?_⟩
  · obtain ⟨p1, p2, p3, p4, p5, p6, p7, p8⟩ := p.1 e
    subst p2
    refine ⟨q1, p3, by omega, by omega, rfl, rfl, fun j hj => ?_, ?_, ?_, ?_, qb⟩
    · by_cases z : j < r
      · exact q7 j z
      · have := p5 (j - (tA num fr + 5 * g)) (by omega)
        rw [show tA num fr + 5 * g + (j - (tA num fr + 5 * g)) = j from by omega] at this
        exact this
    · rw [p6, q8]
      exact tk_s rfl
    · rw [p7, q9]
      exact tk_s rfl
    · rw [p8, qa]
      exact tk_s rfl
  · obtain ⟨b1, b2, b3, b4⟩ := p.2 e
    refine ⟨b1, fun j _ hj => ?_, b3, b4⟩
    by_cases z : j < r
    · exact q7 j z
    · exact b2 j (by omega) hj
theorem mIf2 {gd gd2 : Bool} {a b n : Nat} (h : (if gd = true then a else 0) < n + 1) (e : gd = true) (ha : 0 < a) (hb : gd2 = true → b < a) : (if gd2 = true then b else 0) < n := by
  rw [if_pos e] at h
  split
  · have := hb (by assumption)
    omega
  · omega
def rdR (num : Nat → Int) (fr n : Nat) (gd : Bool) (r : Nat) (w h : Int) (g : Nat) (k0 kk s0 ss e0 ee : Nat → Nat) (cl : Nat → Int) : Prop :=
  (gd = true → (∀ j, j < n → goP num fr j) ∧ allP num fr n ∧ w = (tW num fr : Int) ∧ h = (tH num fr : Int) ∧ g = tG num fr n ∧ kk = tkK num fr (tG num fr n) k0 ∧ ss = tkS num fr (tG num fr n) s0 ∧ ee = tkR num fr (tG num fr n) e0 ∧ ∀ i, i < tW num fr * tH num fr → cl i = num (fr + (3 + i)) - 48) ∧ (gd = false → badP num fr n 0 r)
theorem rdR_t {num : Nat → Int} {fr n r g : Nat} {w h : Int} {cl : Nat → Int} {gd : Bool} {k0 kk s0 ss e0 ee : Nat → Nat} (q : rgI num fr n gd r w h g k0 kk s0 ss e0 ee cl) (hx : gd = false ∨ (g ≠ 0 ∧ n ≤ r)) : rdR num fr n gd r w h g k0 kk s0 ss e0 ee cl := by
  refine ⟨fun e => ?_, q.2⟩
  rcases hx with z | ⟨z1, z2⟩
  · rw [z] at e
    cases e
  · obtain ⟨q1, q2, q3, q4, q5, q6, q7, q8, q9, qa, qb⟩ := q.1 e
    have h3 := tA_3 num fr
    have eg : tG num fr n = g := by unfold tG; omega
    rw [eg]
    exact ⟨fun j hj => q7 j (by omega), ⟨by omega, by omega, by omega⟩, q5, q6, rfl, q8, q9, qa, qb⟩
/-- a ground by a text: what is answered, what becomes of the state -/
def grR (num : Nat → Int) (fr : Nat) (k ln bar barf n an flt2 : Int) (same new : Prop) : Prop :=
  if 0 ≤ k ∧ k ≤ 3 then (if 0 ≤ ln ∧ ln ≤ 2 then (if bar < 0 then (an = bar ∧ flt2 = barf ∧ same) else flt2 = 0 ∧ (((an = ((tG num fr n.toNat : Nat) : Int) ∧ (∀ j, j < n.toNat → goP num fr j) ∧ allP num fr n.toNat) ∧ new) ∨ ((∃ r : Nat, an = -100 - ((r : Nat) : Int) ∧ badP num fr n.toNat 0 r) ∧ same))) else (an = -2 ∧ flt2 = 0 ∧ same)) else (an = -1 ∧ flt2 = 0 ∧ same)
theorem grR_1 {num : Nat → Int} {fr : Nat} {k ln bar barf n : Int} {same new : Prop} (h : ¬ (0 ≤ k ∧ k ≤ 3)) (hs : same) : grR num fr k ln bar barf n (-1) 0 same new := by
  unfold grR
  rw [if_neg h]
  exact ⟨rfl, rfl, hs⟩
theorem grR_2 {num : Nat → Int} {fr : Nat} {k ln bar barf n : Int} {same new : Prop} (h : 0 ≤ k ∧ k ≤ 3) (h2 : ¬ (0 ≤ ln ∧ ln ≤ 2)) (hs : same) : grR num fr k ln bar barf n (-2) 0 same new := by
  unfold grR
  rw [if_pos h, if_neg h2]
  exact ⟨rfl, rfl, hs⟩
theorem grR_3 {num : Nat → Int} {fr : Nat} {k ln bar barf n : Int} {same new : Prop} (h : 0 ≤ k ∧ k ≤ 3) (h2 : 0 ≤ ln ∧ ln ≤ 2) (h3 : bar < 0) (hs : same) : grR num fr k ln bar barf n bar barf same new := by
  unfold grR
  rw [if_pos h, if_pos h2, if_pos h3]
  exact ⟨rfl, rfl, hs⟩
theorem grR_4 {num : Nat → Int} {fr r : Nat} {k ln bar barf : Int} {n : Nat} {same new : Prop} (h : 0 ≤ k ∧ k ≤ 3) (h2 : 0 ≤ ln ∧ ln ≤ 2) (h3 : ¬ bar < 0) (hb : badP num fr n 0 r) (hs : same) : grR num fr k ln bar barf ((n : Nat) : Int) (-100 - ((r : Nat) : Int)) 0 same new := by
  unfold grR
  rw [if_pos h, if_pos h2, if_neg h3]
  exact ⟨rfl, Or.inr ⟨⟨r, rfl, hb⟩, hs⟩⟩
theorem grR_5 {num : Nat → Int} {fr : Nat} {k ln bar barf : Int} {n : Nat} {same new : Prop} (h : 0 ≤ k ∧ k ≤ 3) (h2 : 0 ≤ ln ∧ ln ≤ 2) (h3 : ¬ bar < 0) (ha : ∀ j, j < n → goP num fr j) (hb : allP num fr n) (hs : new) : grR num fr k ln bar barf ((n : Nat) : Int) ((tG num fr n : Nat) : Int) 0 same new := by
  unfold grR
  rw [if_pos h, if_pos h2, if_neg h3]
  exact ⟨rfl, Or.inl ⟨⟨rfl, ha, hb⟩, hs⟩⟩
