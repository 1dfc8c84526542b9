/-! the sheets of both, in one -/
def ShI (k : Nat) (lane : Int) (len : Nat) (num shSz shLn shNum : Nat → Int) : Prop :=
  (-1 ≤ lane ∧ lane ≤ 2) ∧ len ≤ 60 ∧ (∀ y, -2147483648 ≤ num y ∧ num y < 2147483648) ∧ shSz k = shz lane len ∧ (lane ≠ -1 → shLn k = lane ∧ ∀ y, y < len → num y = shNum (60 * k + y))
def ShAll (lanes : Nat → Int) (lens : Nat → Nat) (nums : Nat → Nat → Int) (shSz shLn shNum : Nat → Int) : Prop :=
  (∀ k, k < 4 → ShI k (lanes k) (lens k) (nums k) shSz shLn shNum) ∧ (∀ k, -1 ≤ shSz k ∧ shSz k ≤ 60) ∧ (∀ k, 0 ≤ shLn k ∧ shLn k ≤ 2) ∧ ∀ k, -2147483648 ≤ shNum k ∧ shNum k < 2147483648
theorem ShI_bar {k : Nat} {lane : Int} {len : Nat} {num shSz shLn shNum : Nat → Int} {ln i n : Int} (h : ShI k lane len num shSz shLn shNum) : barZ (shz lane len) lane ln i n = barZ (shSz k) (shLn k) ln i n ∧ (∀ flt, barF (shz lane len) lane ln i n flt = barF (shSz k) (shLn k) ln i n flt) ∧ (¬ barZ (shz lane len) lane ln i n < 0 → TQ num shNum i.toNat (60 * k + i.toNat) n.toNat) := by
  obtain ⟨h1, h2, h3, h4, h5⟩ := h
  rw [h4]
  by_cases q : lane = -1
  · rw [shz_n q]
    refine ⟨?_, fun flt => ?_, fun z => ?_⟩
    · rw [← (bar_1 (z := -1) (ln := lane) (lane := ln) (i := i) (n := n) (flt := 0) (by decide)).1, ← (bar_1 (z := -1) (ln := shLn k) (lane := ln) (i := i) (n := n) (flt := 0) (by decide)).1]
    · rw [← (bar_1 (z := -1) (ln := lane) (lane := ln) (i := i) (n := n) (flt := flt) (by decide)).2, ← (bar_1 (z := -1) (ln := shLn k) (lane := ln) (i := i) (n := n) (flt := flt) (by decide)).2]
    · rw [← (bar_1 (z := -1) (ln := lane) (lane := ln) (i := i) (n := n) (flt := 0) (by decide)).1] at z
      omega
  · obtain ⟨e1, e2⟩ := h5 q
    rw [e1]
    refine ⟨rfl, fun _ => rfl, fun z y hy => ?_⟩
    have b := bar_ok (Int.not_lt.mp z)
    rw [shz_y q] at b
    rw [e2 _ (by omega), Nat.add_assoc]
/-! the text -/
theorem TQ_1 {num num' : Nat → Int} {fr fr' n : Nat} (h : TQ num num' fr fr' n) (h3 : 3 ≤ n) : tW num fr = tW num' fr' ∧ tH num fr = tH num' fr' ∧ tA num fr = tA num' fr' := by
  have e1 : tW num fr = tW num' fr' := by unfold tW; rw [h 1 (by omega)]
  have e2 : tH num fr = tH num' fr' := by unfold tH; rw [h 2 (by omega)]
  exact ⟨e1, e2, by unfold tA; rw [e1, e2]⟩
theorem goP_TQ {num num' : Nat → Int} {fr fr' n j : Nat} (h : TQ num num' fr fr' n) (hj : j < n) (g : goP num fr j) : goP num' fr' j := by
  obtain ⟨g1, g2, g3, g4⟩ := g
  have e := h j hj
  refine ⟨fun z => ?_, fun z => ?_, fun z => ?_, fun z => ?_⟩
  · have e0 := h 0 (by omega)
    rw [Nat.add_zero, Nat.add_zero] at e0
    rw [← e0]
    exact g1 z
  · rw [← e]
    exact g2 z
  · obtain ⟨e1, e2, e3⟩ := TQ_1 h (by omega)
    rw [← e]
    exact g3 ⟨z.1, by rw [e3]; exact z.2⟩
  · obtain ⟨e1, e2, e3⟩ := TQ_1 h (by omega)
    rw [← e, ← e1, ← e2, ← e3]
    exact g4 ⟨z.1, by rw [e3]; exact z.2⟩
theorem TQ_symm {num num' : Nat → Int} {fr fr' n : Nat} (h : TQ num num' fr fr' n) : TQ num' num fr' fr n := fun y hy => (h y hy).symm
theorem allP_TQ {num num' : Nat → Int} {fr fr' n : Nat} (h : TQ num num' fr fr' n) (g : allP num fr n) : allP num' fr' n := by
  obtain ⟨g1, g2, g3⟩ := g
  obtain ⟨e1, e2, e3⟩ := TQ_1 h g1
  refine ⟨g1, ?_, ?_⟩
  · rw [← e3]; exact g2
  · rw [← e3]; exact g3
theorem bad_one {num num' : Nat → Int} {fr fr' n r r' : Nat} (h : TQ num num' fr fr' n) (b : badP num fr n 0 r) (b' : badP num' fr' n 0 r') : r = r' := by
  obtain ⟨b1, b2, b3, -⟩ := b
  obtain ⟨c1, c2, c3, -⟩ := b'
  rcases Nat.lt_trichotomy r r' with q | q | q
  · exact absurd (goP_TQ (TQ_symm h) (by omega) (c2 r (Nat.zero_le _) q)) (b3 (by omega))
  · exact q
  · exact absurd (goP_TQ h (by omega) (b2 r' (Nat.zero_le _) q)) (c3 (by omega))
theorem bad_all {num num' : Nat → Int} {fr fr' n r : Nat} (h : TQ num num' fr fr' n) (g : ∀ j, j < n → goP num fr j) (a : allP num fr n) (b : badP num' fr' n 0 r) : False := by
  obtain ⟨b1, b2, b3, b4⟩ := b
  by_cases q : r = n
  · exact b4 q (allP_TQ h a)
  · exact b3 (by omega) (goP_TQ h (by omega) (g r (by omega)))
theorem gr_two {num num' : Nat → Int} {fr fr' : Nat} {k ln bar bar' barf barf' n an an' f2 f2' : Int} {same same' new new' : Prop} (h : grR num fr k ln bar barf n an f2 same new) (h' : grR num' fr' k ln bar' barf' n an' f2' same' new') (hb : 0 ≤ k ∧ k ≤ 3 → bar = bar' ∧ barf = barf' ∧ (¬ bar < 0 → TQ num num' fr fr' n.toNat)) :
    an = an' ∧ f2 = f2' ∧ ((same ∧ same') ∨ (new ∧ new' ∧ TQ num num' fr fr' n.toNat ∧ (∀ j, j < n.toNat → goP num fr j) ∧ allP num fr n.toNat)) := by
  unfold grR at h h'
  by_cases q : 0 ≤ k ∧ k ≤ 3
  · obtain ⟨e1, e2, e3⟩ := hb q
    rw [if_pos q] at h h'
    by_cases w : 0 ≤ ln ∧ ln ≤ 2
    · rw [if_pos w] at h h'
      rw [← e1, ← e2] at h'
      by_cases v : bar < 0
      · rw [if_pos v] at h h'
        exact ⟨h.1.trans h'.1.symm, h.2.1.trans h'.2.1.symm, Or.inl ⟨h.2.2, h'.2.2⟩⟩
      · rw [if_neg v] at h h'
        have t := e3 v
        obtain ⟨z, h⟩ := h
        obtain ⟨z', h'⟩ := h'
        refine ⟨?_, z.trans z'.symm, ?_⟩
        · rcases h with ⟨⟨h1, h2, h3⟩, -⟩ | ⟨⟨r, h1, h2⟩, -⟩ <;> rcases h' with ⟨⟨g1, g2, g3⟩, -⟩ | ⟨⟨r', g1, g2⟩, -⟩
          · rw [h1, g1]
            have e := (TQ_1 t h3.1).2.2
            unfold tG
            rw [e]
          · exact (bad_all t h2 h3 g2).elim
          · exact (bad_all (TQ_symm t) g2 g3 h2).elim
          · rw [h1, g1, bad_one t h2 g2]
        · rcases h with ⟨⟨h1, h2, h3⟩, hn⟩ | ⟨⟨r, h1, h2⟩, hn⟩ <;> rcases h' with ⟨⟨g1, g2, g3⟩, gn⟩ | ⟨⟨r', g1, g2⟩, gn⟩
          · exact Or.inr ⟨hn, gn, t, h2, h3⟩
          · exact (bad_all t h2 h3 g2).elim
          · exact (bad_all (TQ_symm t) g2 g3 h2).elim
          · exact Or.inl ⟨hn, gn⟩
    · rw [if_neg w] at h h'
      exact ⟨h.1.trans h'.1.symm, h.2.1.trans h'.2.1.symm, Or.inl ⟨h.2.2, h'.2.2⟩⟩
  · rw [if_neg q] at h h'
    exact ⟨h.1.trans h'.1.symm, h.2.1.trans h'.2.1.symm, Or.inl ⟨h.2.2, h'.2.2⟩⟩
theorem tk_all {num : Nat → Int} {fr n : Nat} (hg : ∀ j, j < n → goP num fr j) (ha : allP num fr n) {g : Nat} (h : g < tG num fr n) : tA num fr + 5 * g + 5 ≤ n := by
  have e := tG_eq ha
  omega
theorem tkC_TQ {num num' : Nat → Int} {fr fr' n : Nat} (t : TQ num num' fr fr' n) (ha : allP num fr n) (clay : Nat → Nat) : tkC num fr (tW num fr * tH num fr) clay = tkC num' fr' (tW num' fr' * tH num' fr') clay := by
  obtain ⟨e1, e2, e3⟩ := TQ_1 t ha.1
  have hl : tA num fr < n := ha.2.1
  unfold tA at hl
  funext c
  unfold tkC
  rw [← e1, ← e2]
  by_cases q : c < tW num fr * tH num fr
  · rw [if_pos q, if_pos q, t (3 + c) (by omega)]
  · rw [if_neg q, if_neg q]
theorem sl_ground {wide high guns wide2 high2 cells2 guns2 guns3 wide3 high3 : Nat} {sil dug fc lc sil2 dug2 fc2 lc2 sil3 dug3 : Nat → Bool} {clay col row kC sC rC kM sM rM clay2 col2 row2 kC2 sC2 rC2 clay3 kM2 sM2 rM2 : Nat → Nat} {rds rds2 rds3 : Nat} {rdOf : Nat → Nat} {κ : Nat} {lane : Int} {len : Nat} {num shSz shLn shNum : Nat → Int} {k1 ln1 i1 n1 an an' f2 f2' flt : Int}
    (hG : GInv wide high guns sil dug fc lc clay col row kC sC rC kM sM rM rds rdOf) (hS : ShI κ lane len num shSz shLn shNum) (hκ : 0 ≤ k1 ∧ k1 ≤ 3 → k1.toNat = κ)
    (h : grR num i1.toNat k1 ln1 (barZ (shz lane len) lane ln1 i1 n1) (barF (shz lane len) lane ln1 i1 n1 flt) n1 an f2 (wide2 = wide ∧ high2 = high ∧ guns2 = guns ∧ sil2 = sil ∧ dug2 = dug ∧ rds2 = rds ∧ clay2 = clay ∧ kC2 = kC ∧ sC2 = sC ∧ rC2 = rC) (wide2 = tW num i1.toNat ∧ high2 = tH num i1.toNat ∧ guns2 = tG num i1.toNat n1.toNat ∧ sil2 = (fun _ => false) ∧ dug2 = (fun _ => false) ∧ rds2 = 0 ∧ clay2 = tkC num i1.toNat (tW num i1.toNat * tH num i1.toNat) clay ∧ kC2 = tkK num i1.toNat (tG num i1.toNat n1.toNat) kC ∧ sC2 = tkS num i1.toNat (tG num i1.toNat n1.toNat) sC ∧ rC2 = tkR num i1.toNat (tG num i1.toNat n1.toNat) rC))
    (hL : LandOk wide2 high2 cells2 guns2 sil2 dug2 fc2 lc2 clay2 col2 row2 kC2 sC2 rC2)
    (h' : grR shNum (60 * k1.toNat + i1.toNat) k1 ln1 (barZ (shSz k1.toNat) (shLn k1.toNat) ln1 i1 n1) (barF (shSz k1.toNat) (shLn k1.toNat) ln1 i1 n1 flt) n1 an' f2' (wide3 = wide ∧ high3 = high ∧ guns3 = guns ∧ sil3 = sil ∧ dug3 = dug ∧ rds3 = rds ∧ clay3 = clay ∧ kM2 = kM ∧ sM2 = sM ∧ rM2 = rM) (wide3 = tW shNum (60 * k1.toNat + i1.toNat) ∧ high3 = tH shNum (60 * k1.toNat + i1.toNat) ∧ guns3 = tG shNum (60 * k1.toNat + i1.toNat) n1.toNat ∧ sil3 = (fun _ => false) ∧ dug3 = (fun _ => false) ∧ rds3 = 0 ∧ clay3 = tkC shNum (60 * k1.toNat + i1.toNat) (tW shNum (60 * k1.toNat + i1.toNat) * tH shNum (60 * k1.toNat + i1.toNat)) clay ∧ kM2 = tkK shNum (60 * k1.toNat + i1.toNat) (tG shNum (60 * k1.toNat + i1.toNat) n1.toNat) kM ∧ sM2 = tkS shNum (60 * k1.toNat + i1.toNat) (tG shNum (60 * k1.toNat + i1.toNat) n1.toNat) sM ∧ rM2 = tkR shNum (60 * k1.toNat + i1.toNat) (tG shNum (60 * k1.toNat + i1.toNat) n1.toNat) rM)) :
    an = an' ∧ f2 = f2' ∧ (wide2 = wide3 ∧ high2 = high3 ∧ guns2 = guns3 ∧ sil2 = sil3 ∧ dug2 = dug3 ∧ rds2 = rds3 ∧ clay2 = clay3 ∧ cells2 = wide2 * high2) ∧ GInv wide2 high2 guns2 sil2 dug2 fc2 lc2 clay2 col2 row2 kC2 sC2 rC2 kM2 sM2 rM2 rds2 rdOf := by
  obtain ⟨r1, r2, r3⟩ := gr_two h h' (fun q => by
    have e := hκ q
    rw [e]
    obtain ⟨b1, b2, b3⟩ := ShI_bar hS (ln := ln1) (i := i1) (n := n1)
    exact ⟨b1, b2 flt, b3⟩)
  have hc := hL.1
  refine ⟨r1, r2, ?_⟩
  obtain ⟨gL, gM, ⟨a1, a2, a3⟩, g0, g8, g36, gx⟩ := hG
  rcases r3 with ⟨⟨e1, e2, e3, e4, e5, e6, e7, e8, e9, e10⟩, ⟨d1, d2, d3, d4, d5, d6, d7, d8, d9, d10⟩⟩ | ⟨⟨e1, e2, e3, e4, e5, e6, e7, e8, e9, e10⟩, ⟨d1, d2, d3, d4, d5, d6, d7, d8, d9, d10⟩, t, hg, ha⟩
  · refine ⟨⟨e1.trans d1.symm, e2.trans d2.symm, e3.trans d3.symm, e4.trans d4.symm, e5.trans d5.symm, e6.trans d6.symm, e7.trans d7.symm, hc⟩, ?_⟩
    rw [hc] at hL
    subst e1 e2 e3 e4 e5 e6 e7 e8 e9 e10 d8 d9 d10
    exact ⟨hL, gM, ⟨a1, a2, a3⟩, g0, g8, g36, gx⟩
  · obtain ⟨t1, t2, t3⟩ := TQ_1 t ha.1
    have tg : tG num i1.toNat n1.toNat = tG shNum (60 * k1.toNat + i1.toNat) n1.toNat := by unfold tG; rw [t3]
    have cl := tkC_TQ t ha clay
    refine ⟨⟨e1.trans (t1.trans d1.symm), e2.trans (t2.trans d2.symm), e3.trans (tg.trans d3.symm), e4.trans d4.symm, e5.trans d5.symm, e6.trans d6.symm, e7.trans (cl.trans d7.symm), hc⟩, ?_⟩
    have hh := headP_b (goP_head hg ha.1)
    have hin := tG_in hg ha
    have agK : AG guns2 kC2 kM2 := fun g hgg => by
      rw [e3] at hgg
      have le := tk_all hg ha hgg
      rw [e8, d8]
      unfold tkK
      rw [if_pos hgg, if_pos (by rw [← tg]; exact hgg), ← t3, ← t _ (by omega)]
    have agS : AG guns2 sC2 sM2 := fun g hgg => by
      rw [e3] at hgg
      have le := tk_all hg ha hgg
      rw [e9, d9]
      unfold tkS
      rw [if_pos hgg, if_pos (by rw [← tg]; exact hgg), ← t3, ← t1, ← t _ (by omega), ← t _ (by omega)]
    have agR : AG guns2 rC2 rM2 := fun g hgg => by
      rw [e3] at hgg
      have le := tk_all hg ha hgg
      rw [e10, d10]
      unfold tkR
      rw [if_pos hgg, if_pos (by rw [← tg]; exact hgg), ← t3, ← t _ (by omega)]
    have oM : ∀ (P : Nat → Prop) (F f : Nat → Nat), (∀ g, P (F g)) → (∀ g, g < guns2 → F g = f g) → ∀ f0 : Nat → Nat, (∀ g, P (f0 g)) → (∀ g, ¬ g < guns2 → f g = f0 g) → ∀ g, P (f g) := fun P F f hF hE f0 h0 hN g => by
      by_cases q : g < guns2
      · rw [← hE g q]; exact hF g
      · rw [hN g q]; exact h0 g
    obtain ⟨l1, l2, l3, l4, l5, l6, l7, l8, l9, l10, l11, l12, l13⟩ := hL
    have nk : ∀ g, ¬ g < guns2 → kM2 g = kM g := fun g q => by rw [d8]; unfold tkK; rw [if_neg (by rw [← tg, ← e3]; exact q)]
    have ns : ∀ g, ¬ g < guns2 → sM2 g = sM g := fun g q => by rw [d9]; unfold tkS; rw [if_neg (by rw [← tg, ← e3]; exact q)]
    have nr : ∀ g, ¬ g < guns2 → rM2 g = rM g := fun g q => by rw [d10]; unfold tkR; rw [if_neg (by rw [← tg, ← e3]; exact q)]
    have wh : 4 ≤ wide2 * high2 := by rw [e1, e2]; exact hh.2.2.2.1
    refine ⟨by rw [hc] at *; exact ⟨rfl, l2, l3, l4, l5, l6, l7, l8, l9, l10, l11, l12, l13⟩, ⟨l2, l3, by rw [← hc]; exact l4, by omega, by decide, l6, oM (fun x => x ≤ 2) kC2 kM2 l9 agK kM gM.2.2.2.2.2.2.1 nk, oM (fun x => x < 36) sC2 sM2 l10 agS sM gM.2.2.2.2.2.2.2.1 ns, oM (fun x => x ≤ 9) rC2 rM2 l11 agR rM gM.2.2.2.2.2.2.2.2.1 nr, fun g q => ?_⟩, ⟨agK, agS, agR⟩, ⟨fun q => by omega, fun q => by omega⟩, by rw [e6]; decide, g36, fun x hx => by rw [e6] at hx; exact absurd hx (Nat.not_lt_zero x)⟩
    have := l12 g q
    rw [← agS g q, ← hc]
    exact this
/-! trenches -/
theorem sl_trench {wide high guns : Nat} {sil dug fc lc : Nat → Bool} {clay col row kC sC rC kM sM rM : Nat → Nat} {rds : Nat} {rdOf : Nat → Nat} {κ : Nat} {lane : Int} {len : Nat} {num shSz shLn shNum : Nat → Int} {k1 ln1 i1 n1 what f1 f2 flt : Int}
    (hG : GInv wide high guns sil dug fc lc clay col row kC sC rC kM sM rM rds rdOf) (hS : ShI κ lane len num shSz shLn shNum) (hκ : 0 ≤ k1 ∧ k1 ≤ 3 → k1.toNat = κ)
    (h1 : f1 = trnF k1 ln1 n1 what (wide * high) (barZ (shz lane len) lane ln1 i1 n1) (barF (shz lane len) lane ln1 i1 n1 flt)) (h2 : f2 = trnF k1 ln1 n1 what guns (barZ (shSz k1.toNat) (shLn k1.toNat) ln1 i1 n1) (barF (shSz k1.toNat) (shLn k1.toNat) ln1 i1 n1 flt)) :
    trnZ k1 ln1 n1 what (wide * high) (barZ (shz lane len) lane ln1 i1 n1) (tgood num i1.toNat n1.toNat (wide * high)) (trA (fwZ (goC wide (wide * high) guns clay sC fc lc num i1.toNat) n1.toNat) (nigF clay dug num i1.toNat n1.toNat) (shtF (shotF wide high guns kC sC rC sil) num i1.toNat n1.toNat) (bitsF (hitF wide high guns kC sC rC sil (toldF num i1.toNat n1.toNat)) guns) (cntB (toldF num i1.toNat n1.toNat) 64) what) = trnZ k1 ln1 n1 what guns (barZ (shSz k1.toNat) (shLn k1.toNat) ln1 i1 n1) (tgood shNum (60 * k1.toNat + i1.toNat) n1.toNat (wide * high)) (trA (fwZ (goB wide (guns + 0) clay sM shNum (60 * k1.toNat + i1.toNat)) n1.toNat) (nigF clay dug shNum (60 * k1.toNat + i1.toNat) n1.toNat) (shtF (fun c => shotQ (mshotB wide (guns + 0) kM sM rM sil c)) shNum (60 * k1.toNat + i1.toNat) n1.toNat) (byF (mshotB wide (guns + 0) kM sM rM sil) shNum (60 * k1.toNat + i1.toNat) n1.toNat) (cntB (toldF shNum (60 * k1.toNat + i1.toNat) n1.toNat) 64) what) ∧ f1 = f2 := by
  obtain ⟨⟨-, h6, -, h36, h5, h9, -, -, -, -, -, b, -, -, hfc, hlc, -⟩, -, ⟨a1, a2, a3⟩, h0, -⟩ := hG
  by_cases q : 0 ≤ k1 ∧ k1 ≤ 3
  · rw [hκ q] at h2 ⊢
    obtain ⟨b1, b2, b3⟩ := ShI_bar hS (ln := ln1) (i := i1) (n := n1)
    rw [← b1, ← b2 flt] at h2
    rw [← b1]
    have ez : (wide * high = 0) = (guns = 0) := propext h0.symm
    constructor
    · unfold trnZ
      rw [if_pos q, if_pos q]
      by_cases w : (0 ≤ ln1 ∧ ln1 ≤ 2) ∧ (0 ≤ n1 ∧ n1 ≤ 40) ∧ (0 ≤ what ∧ what ≤ 4)
      · rw [if_pos w, if_pos w]
        by_cases z : guns = 0
        · rw [if_pos (h0.mp z), if_pos z]
        · rw [if_neg (fun x => z (h0.mpr x)), if_neg z]
          by_cases v : barZ (shz lane len) lane ln1 i1 n1 < 0
          · rw [if_pos v, if_pos v]
          · rw [if_neg v, if_neg v]
            have t := b3 v
            rw [tgood_eq t]
            by_cases y : tgood shNum (60 * κ + i1.toNat) n1.toNat (wide * high) = true
            · rw [if_pos y, if_pos y]
              have hp : 0 < wide := wide_pos (high := high) (c := 0) (Nat.pos_of_ne_zero (fun x => z (h0.mpr x)))
              have y0 := y
              rw [← tgood_eq t] at y0
              have e1 : fwZ (goC wide (wide * high) guns clay sC fc lc num i1.toNat) n1.toNat = fwZ (goB wide guns clay sM shNum (60 * κ + i1.toNat)) n1.toNat := fw_cong fun y hy => by
                rw [go_eq hp h36 h6 hfc hlc t y0 hy]
                unfold goB
                rw [stF_ag a2]
              have e2 : mshotB wide guns kC sC rC sil = mshotB wide guns kM sM rM sil := funext fun c => mshot_ag a1 a2 a3 c
              rw [e1, nig_eq t _ (Nat.le_refl _), sht_eq hp h5 b t y0, by_eq hp h36 b t y0, told_eq t (Nat.le_refl _), e2]
              rfl
            · rw [if_neg y, if_neg y]
      · rw [if_neg w, if_neg w]
    · rw [h1, h2]
      unfold trnF
      have e : (wide * high ≠ 0) = (guns ≠ 0) := by rw [Ne, Ne, ez]
      simp only [e]
  · have n1' : ∀ P : Prop, ¬ ((0 ≤ k1 ∧ k1 ≤ 3) ∧ P) := fun P z => q z.1
    constructor
    · unfold trnZ
      rw [if_neg q, if_neg q]
    · rw [h1, h2]
      unfold trnF
      rw [if_neg (n1' _), if_neg (n1' _)]
/-! sheets -/
theorem i_of {f : Nat → Int} (h : ∀ k, InR (f k)) : zF f = zF (fun j => (iI (f j)).toInt) := funext fun j => by
  unfold zF
  rw [iI_of]
theorem i_in (x : Int32) : -2147483648 ≤ x.toInt ∧ x.toInt < 2147483648 := by
  have h1 := x.le_toInt
  have h2 := x.toInt_lt
  exact ⟨h1, h2⟩
def nrm (f : Nat → Int) : Nat → Int := fun j => (iI (f j)).toInt
theorem nrm_z (f : Nat → Int) : zF f = zF (nrm f) := funext fun j => by
  unfold zF nrm
  rw [iI_of]
theorem nrm_in (f : Nat → Int) (k : Nat) : -2147483648 ≤ nrm f k ∧ nrm f k < 2147483648 := i_in _
theorem nrm_eq {f : Nat → Int} {k : Nat} {v : Int} (h : f k = v) (hv : InR v) : nrm f k = v := by
  unfold nrm
  rw [h]
  exact iI_toInt hv
section SH
variable {lanes : Nat → Int} {lens : Nat → Nat} {nums : Nat → Nat → Int} {shSz shLn shNum : Nat → Int} {κ : Nat}
theorem sh_up {lane : Int} {len : Nat} {num shSz2 shLn2 shNum2 : Nat → Int} (h : ∀ k, k < 4 → ShI k (lanes k) (lens k) (nums k) shSz shLn shNum) (hκ : κ < 4) (h1 : ShI κ lane len num shSz2 shLn2 shNum2) (h2 : ∀ k, k ≠ κ → shSz2 k = shSz k ∧ shLn2 k = shLn k) (h3 : ∀ j, (j < 60 * κ ∨ 60 * κ + 60 ≤ j) → shNum2 j = shNum j) : ∀ k, k < 4 → ShI k (up lanes κ lane k) (up lens κ len k) (up nums κ num k) shSz2 shLn2 shNum2 := fun k hk => by
  by_cases q : k = κ
  · subst q
    rw [up_s, up_s, up_s]
    exact h1
  · rw [up_n _ _ q, up_n _ _ q, up_n _ _ q]
    obtain ⟨a1, a2, a3, a4, a5⟩ := h k hk
    obtain ⟨e1, e2⟩ := h2 k q
    refine ⟨a1, a2, a3, by rw [e1]; exact a4, fun z => ?_⟩
    obtain ⟨b1, b2⟩ := a5 z
    refine ⟨by rw [e2]; exact b1, fun y hy => ?_⟩
    rw [b2 y hy]
    exact (h3 _ (by omega)).symm
theorem sh_id {A : Type} (f : Nat → A) (k : Nat) : up f k (f k) = f := up_id f k
theorem sl_sheet (hA : ShAll lanes lens nums shSz shLn shNum) (hκ : κ < 4) {k1 ln1 n1 lane2 f1 f2 : Int} {len2 : Nat} {num2 sz2 ln2 nm2 : Nat → Int} (hk : 0 ≤ k1 ∧ k1 ≤ 3 → k1.toNat = κ) (h1 : newC k1 ln1 n1 (lanes κ) (lens κ) (nums κ) lane2 len2 num2) (h2 : newR k1 ln1 n1 shSz shLn shNum sz2 ln2 nm2) (hf1 : f1 = (if (0 ≤ k1 ∧ k1 ≤ 3) ∧ (0 ≤ ln1 ∧ ln1 ≤ 2) ∧ n1 < 0 then 4 else 0)) (hf2 : f2 = (if (0 ≤ k1 ∧ k1 ≤ 3) ∧ (0 ≤ ln1 ∧ ln1 ≤ 2) ∧ n1 < 0 then 4 else 0)) : f1 = f2 ∧ ShAll (up lanes κ lane2) (up lens κ len2) (up nums κ num2) sz2 ln2 (nrm nm2) := by
  refine ⟨hf1.trans hf2.symm, ?_⟩
  obtain ⟨c1, c2⟩ := h1
  obtain ⟨d1, d2⟩ := h2
  obtain ⟨a, bz, bl, bn⟩ := hA
  obtain ⟨i1, i2, i3, i4, i5⟩ := a κ hκ
  by_cases q : newOk k1 ln1 n1
  · obtain ⟨e1, e2, e3⟩ := c1 q
    obtain ⟨g1, g2, g3, g4⟩ := d1 q
    obtain ⟨q1, q2, q3, q4⟩ := q
    rw [hk q1] at g1 g2 g3 g4
    rw [g1, g2, e1, e2, e3]
    refine ⟨sh_up a hκ ⟨by omega, by omega, fun y => ?_, ?_, fun z => ⟨up_s _ _ _, fun y hy => ?_⟩⟩ (fun k hkk => ⟨up_n _ _ hkk, up_n _ _ hkk⟩) (fun j hj => nrm_eq (g4 j hj) (bn j)), fun k => ?_, fun k => ?_, fun k => nrm_in nm2 k⟩
    · dsimp only
      split
      · omega
      · exact i3 y
    · rw [up_s, shz_y (by omega)]
      omega
    · rw [nrm_eq (g3 y hy) (by decide)]
      exact if_pos (by omega)
    · unfold up
      split
      · omega
      · exact bz k
    · unfold up
      split
      · omega
      · exact bl k
  · obtain ⟨e1, e2, e3⟩ := c2 q
    obtain ⟨g1, g2, g3⟩ := d2 q
    rw [g1, g2, g3, e1, e2, e3, up_id, up_id, up_id]
    have e : nrm shNum = shNum := funext fun j => nrm_eq rfl (bn j)
    rw [e]
    exact ⟨a, bz, bl, bn⟩
theorem sl_lose (hA : ShAll lanes lens nums shSz shLn shNum) (hκ : κ < 4) {k1 lane2 : Int} {len2 : Nat} {sz2 : Nat → Int} (hk : 0 ≤ k1 ∧ k1 ≤ 3 → k1.toNat = κ) (h1 : lane2 = (if 0 ≤ k1 ∧ k1 ≤ 3 then -1 else lanes κ)) (h2 : len2 = (if (0 ≤ k1 ∧ k1 ≤ 3) ∧ lanes κ ≠ -1 then 0 else lens κ)) (h3 : sz2 = (if 0 ≤ k1 ∧ k1 ≤ 3 then up shSz k1.toNat (-1) else shSz)) : aSh (fun _ => if lanes κ = -1 then 0 else 1) k1 = aSh (fun k => if shSz k < 0 then 0 else 1) k1 ∧ ShAll (up lanes κ lane2) (up lens κ len2) nums sz2 shLn shNum := by
  obtain ⟨a, bz, bl, bn⟩ := hA
  obtain ⟨i1, i2, i3, i4, i5⟩ := a κ hκ
  by_cases q : 0 ≤ k1 ∧ k1 ≤ 3
  · rw [if_pos q] at h1 h3
    rw [hk q] at h3
    refine ⟨?_, ?_⟩
    · unfold aSh
      rw [if_pos q, if_pos q, hk q]
      dsimp only
      rw [i4]
      by_cases w : lanes κ = -1
      · rw [if_pos w, shz_n w]
        rfl
      · rw [if_neg w, shz_y w, if_neg (by omega)]
    · rw [h1, h3]
      have hl : len2 ≤ 60 := by
        rw [h2]
        split <;> omega
      have e := sh_up (lane := -1) (len := len2) (num := nums κ) (shSz2 := up shSz κ (-1)) (shLn2 := shLn) (shNum2 := shNum) a hκ ⟨by decide, hl, i3, by rw [up_s, shz_n rfl], fun z => absurd rfl z⟩ (fun k hkk => ⟨up_n _ _ hkk, rfl⟩) (fun _ _ => rfl)
      rw [up_id] at e
      refine ⟨e, fun k => ?_, bl, bn⟩
      unfold up
      split
      · decide
      · exact bz k
  · rw [if_neg q] at h1 h3
    rw [if_neg (fun z => q z.1)] at h2
    refine ⟨?_, ?_⟩
    · unfold aSh
      rw [if_neg q, if_neg q]
    · rw [h1, h2, h3, up_id, up_id]
      exact ⟨a, bz, bl, bn⟩
theorem sl_put (hA : ShAll lanes lens nums shSz shLn shNum) (hκ : κ < 4) {k1 i1 v1 f1 f2 : Int} {num2 nm2 : Nat → Int} (hv : InR v1) (hk : 0 ≤ k1 ∧ k1 ≤ 3 → k1.toNat = κ) (h1 : num2 = (if (0 ≤ k1 ∧ k1 ≤ 3) ∧ noCellZ (shz (lanes κ) (lens κ)) i1 ≤ 0 then up (nums κ) i1.toNat (cutL (lanes κ) v1) else nums κ)) (hf1 : f1 = (if 0 ≤ k1 ∧ k1 ≤ 3 then noCellZ (shz (lanes κ) (lens κ)) i1 else 0)) (h2 : nm2 = (if (0 ≤ k1 ∧ k1 ≤ 3) ∧ noCellZ (shSz k1.toNat) i1 ≤ 0 then up shNum (60 * k1.toNat + i1.toNat) (cutL (shLn k1.toNat) v1) else shNum)) (hf2 : f2 = (if 0 ≤ k1 ∧ k1 ≤ 3 then noCellZ (shSz k1.toNat) i1 else 0)) : aSh (fun _ => aPut (shz (lanes κ) (lens κ)) i1) k1 = aSh (fun k => aPut (shSz k) i1) k1 ∧ f1 = f2 ∧ ShAll lanes lens (up nums κ num2) shSz shLn nm2 := by
  obtain ⟨a, bz, bl, bn⟩ := hA
  obtain ⟨i1', i2, i3, i4, i5⟩ := a κ hκ
  by_cases q : 0 ≤ k1 ∧ k1 ≤ 3
  · rw [if_pos q] at hf1 hf2
    rw [hk q, i4] at hf2
    rw [hk q, i4] at h2
    refine ⟨?_, hf1.trans hf2.symm, ?_⟩
    · unfold aSh
      rw [if_pos q, if_pos q, hk q]
      dsimp only
      rw [i4]
    · by_cases w : noCellZ (shz (lanes κ) (lens κ)) i1 ≤ 0
      · rw [if_pos ⟨q, w⟩] at h1 h2
        have c := noCellZ_ok w
        have hl : lanes κ ≠ -1 := fun z => by
          rw [shz_n z] at c
          omega
        rw [shz_y hl] at c
        obtain ⟨e1, e2⟩ := i5 hl
        rw [e1] at h2
        rw [h1, h2]
        have cu := cutL_in (lane := lanes κ) hv
        have e := sh_up (lane := lanes κ) (len := lens κ) (num := up (nums κ) i1.toNat (cutL (lanes κ) v1)) (shSz2 := shSz) (shLn2 := shLn) (shNum2 := up shNum (60 * κ + i1.toNat) (cutL (lanes κ) v1)) a hκ ⟨i1', i2, fun y => ?_, i4, fun z => ⟨e1, fun y hy => ?_⟩⟩ (fun k hkk => ⟨rfl, rfl⟩) (fun j hj => up_n _ _ (by omega))
        · rw [up_id, up_id] at e
          refine ⟨e, bz, bl, fun k => ?_⟩
          unfold up
          split
          · exact cu
          · exact bn k
        · unfold up
          split
          · exact cu
          · exact i3 y
        · by_cases z : y = i1.toNat
          · rw [z, up_s, up_s]
          · rw [up_n _ _ z, up_n _ _ (by omega)]
            exact e2 y hy
      · rw [if_neg (fun z => w z.2)] at h1 h2
        rw [h1, h2, up_id]
        exact ⟨a, bz, bl, bn⟩
  · rw [if_neg q] at hf1 hf2
    rw [if_neg (fun z => q z.1)] at h1 h2
    refine ⟨?_, hf1.trans hf2.symm, ?_⟩
    · unfold aSh
      rw [if_neg q, if_neg q]
    · rw [h1, h2, up_id]
      exact ⟨a, bz, bl, bn⟩
theorem sl_cell (hA : ShAll lanes lens nums shSz shLn shNum) (hκ : κ < 4) {k1 i1 ln1 f1 f2 : Int} (hk : 0 ≤ k1 ∧ k1 ≤ 3 → k1.toNat = κ) (hf1 : f1 = cellF (lanes κ) (lens κ) k1 i1 ln1) (hf2 : f2 = fCell shSz shLn k1 i1 ln1) : cellC (lanes κ) (lens κ) (nums κ) k1 i1 ln1 = aCell shSz shLn shNum k1 i1 ln1 ∧ f1 = f2 := by
  obtain ⟨i1', i2, i3, i4, i5⟩ := hA.1 κ hκ
  rw [hf1, hf2]
  unfold cellC aCell cellF fCell
  by_cases q : (0 ≤ k1 ∧ k1 ≤ 3) ∧ (0 ≤ ln1 ∧ ln1 ≤ 2)
  · rw [if_pos q, if_pos q, if_pos q, if_pos q, hk q.1, i4]
    by_cases w : lanes κ = -1
    · rw [shz_n w]
      have n1 : ∀ P : Prop, ¬ ((0 : Int) ≤ -1 ∧ P) := fun P z => absurd z.1 (by decide)
      have n2 : (0 : Int) < noCellZ (-1) i1 := by rw [← noCellZ_1 (by decide)]; decide
      rw [if_neg (n1 _), if_neg (n1 _), if_neg (n1 _), if_neg (n1 _), if_pos n2, if_pos n2]
      exact ⟨rfl, rfl⟩
    · obtain ⟨e1, e2⟩ := i5 w
      rw [shz_y w, e1]
      by_cases v : 0 ≤ ((lens κ : Nat) : Int) ∧ lanes κ ≠ ln1
      · simp only [if_pos v, and_self]
      · simp only [if_neg v]
        by_cases y : 0 < noCellZ ((lens κ : Nat) : Int) i1
        · simp only [if_pos y, and_self]
        · simp only [if_neg y]
          have c := noCellZ_ok (Int.not_lt.mp y)
          exact ⟨e2 _ (by omega), trivial⟩
  · rw [if_neg q, if_neg q, if_neg q, if_neg q]
    exact ⟨rfl, rfl⟩
theorem sl_copy (hA : ShAll lanes lens nums shSz shLn shNum) {κ' : Nat} (hκ : κ < 4) (hκ' : κ' < 4) {k1 i1 o1 j1 n1 f1 f2 : Int} {num2 nm2 : Nat → Int} (hk : (0 ≤ k1 ∧ k1 ≤ 3) ∧ (0 ≤ o1 ∧ o1 ≤ 3) → k1.toNat = κ ∧ o1.toNat = κ') (h1 : cpyC (nums κ) (nums κ') (cpzC (shz (lanes κ) (lens κ)) (lanes κ) (shz (lanes κ') (lens κ')) (lanes κ') k1 i1 o1 j1 n1) i1 j1 n1 num2) (hf1 : f1 = fCpy (cpzC (shz (lanes κ) (lens κ)) (lanes κ) (shz (lanes κ') (lens κ')) (lanes κ') k1 i1 o1 j1 n1)) (h2 : cpyR shNum (cpZ shSz shLn k1 i1 o1 j1 n1) k1 i1 o1 j1 n1 nm2) (hf2 : f2 = fCpy (cpZ shSz shLn k1 i1 o1 j1 n1)) : aCpy (cpzC (shz (lanes κ) (lens κ)) (lanes κ) (shz (lanes κ') (lens κ')) (lanes κ') k1 i1 o1 j1 n1) n1 = aCpy (cpZ shSz shLn k1 i1 o1 j1 n1) n1 ∧ f1 = f2 ∧ ShAll lanes lens (up nums κ' num2) shSz shLn nm2 := by
  obtain ⟨a, bz, bl, bn⟩ := hA
  obtain ⟨a1, a2, a3, a4, a5⟩ := a κ hκ
  obtain ⟨b1, b2, b3, b4, b5⟩ := a κ' hκ'
  have key : cpzC (shz (lanes κ) (lens κ)) (lanes κ) (shz (lanes κ') (lens κ')) (lanes κ') k1 i1 o1 j1 n1 = cpZ shSz shLn k1 i1 o1 j1 n1 := by
    unfold cpzC cpZ
    by_cases q : (0 ≤ k1 ∧ k1 ≤ 3) ∧ (0 ≤ o1 ∧ o1 ≤ 3)
    · obtain ⟨e1, e2⟩ := hk q
      rw [if_pos q, if_pos q, e1, e2, a4, b4]
      by_cases w : shz (lanes κ) (lens κ) < 0 ∨ shz (lanes κ') (lens κ') < 0
      · rw [if_pos w, if_pos w]
      · rw [if_neg w, if_neg w]
        have l1 : lanes κ ≠ -1 := fun z => w (Or.inl (by rw [shz_n z]; decide))
        have l2 : lanes κ' ≠ -1 := fun z => w (Or.inr (by rw [shz_n z]; decide))
        rw [(a5 l1).1, (b5 l2).1]
    · rw [if_neg q, if_neg q]
  rw [key] at h1 hf1 ⊢
  refine ⟨rfl, hf1.trans hf2.symm, ?_⟩
  unfold cpyC at h1
  unfold cpyR at h2
  by_cases z : cpZ shSz shLn k1 i1 o1 j1 n1 = 0
  · rw [if_pos z] at h1 h2
    rw [← key] at z
    unfold cpzC at z
    by_cases q : (0 ≤ k1 ∧ k1 ≤ 3) ∧ (0 ≤ o1 ∧ o1 ≤ 3)
    · obtain ⟨e1, e2⟩ := hk q
      rw [if_pos q] at z
      by_cases w : shz (lanes κ) (lens κ) < 0 ∨ shz (lanes κ') (lens κ') < 0
      · rw [if_pos w] at z
        exact absurd z (by decide)
      · rw [if_neg w] at z
        have l1 : lanes κ ≠ -1 := fun z => w (Or.inl (by rw [shz_n z]; decide))
        have l2 : lanes κ' ≠ -1 := fun z => w (Or.inr (by rw [shz_n z]; decide))
        rw [shz_y l1, shz_y l2] at z
        by_cases v : lanes κ ≠ lanes κ'
        · rw [if_pos v] at z
          exact absurd z (by decide)
        · rw [if_neg v] at z
          by_cases y : (i1 < 0 ∨ n1 < 0 ∨ i1 + n1 > ((lens κ : Nat) : Int)) ∨ (j1 < 0 ∨ n1 < 0 ∨ j1 + n1 > ((lens κ' : Nat) : Int))
          · rw [if_pos y] at z
            exact absurd z (by decide)
          · have y1 : 0 ≤ i1 ∧ 0 ≤ n1 ∧ i1 + n1 ≤ ((lens κ : Nat) : Int) ∧ 0 ≤ j1 ∧ j1 + n1 ≤ ((lens κ' : Nat) : Int) := by omega
            rw [e1, e2] at h2
            obtain ⟨f1', f2'⟩ := a5 l1
            obtain ⟨g1', g2'⟩ := b5 l2
            have nin : ∀ k, -2147483648 ≤ nm2 k ∧ nm2 k < 2147483648 := fun k => by
              rw [h2]
              unfold cpyF
              split
              · exact bn _
              · exact bn _
            have e := sh_up (lane := lanes κ') (len := lens κ') (num := num2) (shSz2 := shSz) (shLn2 := shLn) (shNum2 := nm2) a hκ' ⟨b1, b2, fun y => ?_, b4, fun _ => ⟨g1', fun y hy => ?_⟩⟩ (fun k hkk => ⟨rfl, rfl⟩) (fun j hj => ?_)
            · rw [up_id, up_id] at e
              exact ⟨e, bz, bl, nin⟩
            · rw [h1]
              unfold cpyZ
              split
              · exact a3 _
              · exact b3 _
            · rw [h1, h2]
              unfold cpyZ cpyF
              by_cases x : j1.toNat ≤ y ∧ y < j1.toNat + n1.toNat
              · rw [if_pos x, if_pos (by omega), f2' _ (by omega)]
                congr 1
                omega
              · rw [if_neg x, if_neg (by omega)]
                exact g2' y hy
            · rw [h2]
              unfold cpyF
              rw [if_neg (by omega)]
    · rw [if_neg q] at z
      exact absurd z (by decide)
  · rw [if_neg z] at h1 h2
    rw [h1, h2, up_id]
    exact ⟨a, bz, bl, bn⟩
end SH
