/-! what is shot, soil, next, dug: class and reference -/
def AG (n : Nat) (f g : Nat → Nat) : Prop := ∀ j, j < n → f j = g j
theorem stF_ag {n : Nat} {s1 s2 : Nat → Nat} (h : AG n s1 s2) : stF s1 n = stF s2 n := funext fun c => anyB_cong fun g hg => by rw [h g hg]
theorem msees_ag {wide n g c : Nat} {k1 s1 r1 k2 s2 r2 : Nat → Nat} {sg : Nat → Bool} (hk : AG n k1 k2) (hs : AG n s1 s2) (hr : AG n r1 r2) (hg : g < n) : mseesF wide k1 s1 r1 sg g c = mseesF wide k2 s2 r2 sg g c := by
  unfold mseesF
  rw [hk g hg, hs g hg, hr g hg]
theorem mshot_ag {wide n : Nat} {k1 s1 r1 k2 s2 r2 : Nat → Nat} {sil : Nat → Bool} (hk : AG n k1 k2) (hs : AG n s1 s2) (hr : AG n r1 r2) (c : Nat) : mshotB wide n k1 s1 r1 sil c = mshotB wide n k2 s2 r2 sil c := by
  unfold mshotB bitsF
  funext i
  exact anyB_cong fun g hg => by dsimp only; rw [stF_ag hs, msees_ag hk hs hr hg]
theorem mcov_ag {wide n : Nat} {k1 s1 r1 k2 s2 r2 : Nat → Nat} (hk : AG n k1 k2) (hs : AG n s1 s2) (hr : AG n r1 r2) {c : Nat} (hc : c < n) : mcovB wide n n k1 s1 r1 c = mcovB wide n n k2 s2 r2 c := by
  unfold mcovB bitsF
  funext i
  exact anyB_cong fun g hg => by dsimp only; rw [stF_ag hs, msees_ag hk hs hr hg, hs c hc]
theorem sees_eq {wide high guns : Nat} {kind stand reach : Nat → Nat} {sg : Nat → Bool} (h0 : 0 < wide) (hs : ∀ g, g < guns → stand g < wide * high) {g c : Nat} (hg : g < guns) (hc : c < wide * high) : seesG wide high kind stand reach sg g c = mseesF wide kind stand reach sg g c := look_seen h0 (hs g hg) hc
theorem hit_shot {wide high guns : Nat} {kind stand reach : Nat → Nat} {sil : Nat → Bool} (h0 : 0 < wide) (h36 : wide * high ≤ 36) (hs : ∀ g, g < guns → stand g < wide * high) {c : Nat} (hc : c < wide * high) : bitsF (hitF wide high guns kind stand reach sil (fun x9 => decide (x9 = c))) guns = mshotB wide guns kind stand reach sil c := by
  unfold mshotB bitsF
  funext i
  refine anyB_cong fun g hg => ?_
  congr 1
  unfold hitF
  congr 1
  rw [← sees_eq h0 hs hg hc, Bool.eq_iff_iff, anyB_iff]
  constructor
  · rintro ⟨k, hk, e⟩
    rw [Bool.and_eq_true] at e
    rw [← of_decide_eq_true e.2]
    exact e.1
  · intro e
    exact ⟨c, by omega, by rw [e]; simp⟩
theorem shotF_Q {wide high guns : Nat} {kind stand reach : Nat → Nat} {sil : Nat → Bool} (h0 : 0 < wide) (hg5 : guns ≤ 5) (hs : ∀ g, g < guns → stand g < wide * high) {c : Nat} (hc : c < wide * high) : shotF wide high guns kind stand reach sil c = shotQ (mshotB wide guns kind stand reach sil c) := by
  unfold shotF shotQ mshotB
  rw [Bool.eq_iff_iff, anyB_iff, anyB_iff]
  constructor
  · rintro ⟨g, hg, e⟩
    refine ⟨g, by omega, ?_⟩
    rw [bitsF_eq, decide_eq_true hg, Bool.true_and, ← sees_eq h0 hs hg hc]
    exact e
  · rintro ⟨g, -, e⟩
    rw [bitsF_eq, Bool.and_eq_true] at e
    have hg := of_decide_eq_true e.1
    refine ⟨g, hg, ?_⟩
    rw [sees_eq h0 hs hg hc]
    exact e.2
theorem soil_eq {cells guns : Nat} {clay stand : Nat → Nat} {c : Nat} (hc : c < cells) : soilF cells guns clay stand c = decide (0 < clay c ∧ stF stand guns c = false) := by
  unfold soilF
  rw [bitsF_eq, decide_eq_true hc, Bool.true_and]
  cases stF stand guns c <;> simp
theorem open_eq {wide high guns : Nat} {clay kind stand reach : Nat → Nat} {sil : Nat → Bool} (h0 : 0 < wide) (hg5 : guns ≤ 5) (hs : ∀ g, g < guns → stand g < wide * high) {c : Nat} (hc : c < wide * high) : openF wide high (wide * high) guns clay kind stand reach sil c = (decide (0 < clay c ∧ stF stand guns c = false) && !shotQ (mshotB wide guns kind stand reach sil c)) := by
  unfold openF
  rw [soil_eq hc, shotF_Q h0 hg5 hs hc]
theorem cov_eq {wide high guns : Nat} {kind stand reach : Nat → Nat} (h0 : 0 < wide) (hs : ∀ g, g < guns → stand g < wide * high) {k : Nat} (hk : k < guns) : bitsF (fun g => seesG wide high kind stand reach (stF stand guns) g (stand k)) guns = mcovB wide guns guns kind stand reach k := by
  unfold mcovB bitsF
  funext i
  exact anyB_cong fun g hg => by dsimp only; rw [sees_eq h0 hs hg (hs k hk)]
theorem seesL_eq {wide high guns : Nat} {kind stand reach : Nat → Nat} (h0 : 0 < wide) (hs : ∀ g, g < guns → stand g < wide * high) {k : Nat} (hk : k < guns) : lS (seesG wide high kind stand reach (stF stand guns) k) = lS (bitsF (fun c => mseesF wide kind stand reach (stF stand guns) k c) (wide * high)) := lS_cong fun i _ => by
  rw [bitsF_eq]
  by_cases q : i < wide * high
  · rw [decide_eq_true q, Bool.true_and]
    exact sees_eq h0 hs hk q
  · rw [decide_eq_false q, Bool.false_and]
    cases e : seesG wide high kind stand reach (stF stand guns) k i with
    | false => rfl
    | true => exact absurd (seenF_lt e) q
/-! next cells by bits -/
theorem nextF_iff {wide high : Nat} {fc lc p : Nat → Bool} (h0 : 0 < wide) (h36 : wide * high ≤ 36) (hw : wide ≤ 6) (hfc : ∀ i, fc i = decide (i < wide * high ∧ i % wide = 0)) (hlc : ∀ i, lc i = decide (i < wide * high ∧ i % wide + 1 = wide)) (hp : ∀ i, p i = true → i < wide * high) {i : Nat} (hi : i < wide * high) : nextF wide fc lc p i = true ↔ ∃ j, j < wide * high ∧ p j = true ∧ nxtB wide i j = true := by
  unfold nextF
  rw [Bool.or_eq_true, Bool.or_eq_true, Bool.or_eq_true, Bool.and_eq_true, Bool.and_eq_true, Bool.and_eq_true, Bool.and_eq_true, Bool.and_eq_true, Bool.and_eq_true, decide_eq_true_iff, decide_eq_true_iff, decide_eq_true_iff, decide_eq_true_iff]
  constructor
  · rintro (((⟨h1, h2, h3⟩ | ⟨h1, h2, h3⟩) | ⟨h1, h2⟩) | ⟨h1, h2⟩)
    · have hj := hp _ h2
      refine ⟨i - 1, hj, h2, ?_⟩
      rw [hlc, Bool.not_eq_true', decide_eq_false_iff_not] at h3
      obtain ⟨x, y, e, ex, ey, hx, hy⟩ := bes_eq h0 hj
      have hne : x + 1 < wide := by
        have : ¬ (x + 1 = wide) := fun q => h3 ⟨hj, by rw [ex]; exact q⟩
        omega
      have r := row_at (w := wide) (y := y) (x := x + 1) hne
      have ei : i = y * wide + (x + 1) := by omega
      unfold nxtB
      rw [ex, ey, ei, r.1, r.2]
      exact decide_eq_true (by rw [absd_ge (by omega), absd_ge (Int.le_refl _)]; omega)
    · have hj := hp _ h2
      refine ⟨i + 1, hj, h2, ?_⟩
      rw [hfc, Bool.not_eq_true', decide_eq_false_iff_not] at h3
      obtain ⟨x, y, e, ex, ey, hx, hy⟩ := bes_eq h0 hj
      have hne : 0 < x := by
        have : ¬ (x = 0) := fun q => h3 ⟨hj, by rw [ex]; exact q⟩
        omega
      have r := row_at (w := wide) (y := y) (x := x - 1) (by omega)
      have ei : i = y * wide + (x - 1) := by omega
      unfold nxtB
      rw [ex, ey, ei, r.1, r.2]
      exact decide_eq_true (by rw [absd_lt (by omega), absd_ge (Int.le_refl _)]; omega)
    · have hj := hp _ h2
      refine ⟨i - wide, hj, h2, ?_⟩
      obtain ⟨x, y, e, ex, ey, hx, hy⟩ := bes_eq h0 hj
      have r := row_at (w := wide) (y := y + 1) (x := x) hx
      have ei : i = (y + 1) * wide + x := by rw [Nat.add_mul, Nat.one_mul]; omega
      unfold nxtB
      rw [ex, ey, ei, r.1, r.2]
      exact decide_eq_true (by rw [absd_ge (Int.le_refl _), absd_ge (by omega)]; omega)
    · have hj := hp _ h2
      refine ⟨i + wide, hj, h2, ?_⟩
      obtain ⟨x, y, e, ex, ey, hx, hy⟩ := bes_eq h0 hi
      have r := row_at (w := wide) (y := y + 1) (x := x) hx
      have ei : i + wide = (y + 1) * wide + x := by rw [Nat.add_mul, Nat.one_mul]; omega
      unfold nxtB
      rw [ex, ey, ei, r.1, r.2]
      exact decide_eq_true (by rw [absd_ge (Int.le_refl _), absd_lt (by omega)]; omega)
  · rintro ⟨j, hj, hpj, hx⟩
    obtain ⟨s, hs, hb⟩ := nx_bes h0 hi hj hx
    obtain ⟨x, y, e, ex, ey, hx1, hy⟩ := bes_eq h0 hi
    unfold besZ at hb
    rw [ex, ey] at hb
    by_cases q0 : s = 0
    · rw [if_pos q0] at hb
      by_cases q : 0 < y
      · rw [if_pos q] at hb
        have : i - wide = j := by omega
        exact Or.inl (Or.inr ⟨by omega, by rw [this]; exact hpj⟩)
      · rw [if_neg q] at hb
        omega
    · rw [if_neg q0] at hb
      by_cases q1 : s = 1
      · rw [if_pos q1] at hb
        by_cases q : 0 < x
        · rw [if_pos q] at hb
          have ej : i - 1 = j := by omega
          refine Or.inl (Or.inl (Or.inl ⟨by omega, by rw [ej]; exact hpj, ?_⟩))
          have r := row_at (w := wide) (y := y) (x := x - 1) (by omega)
          have ei : i - 1 = y * wide + (x - 1) := by omega
          rw [hlc, Bool.not_eq_true', decide_eq_false_iff_not, ei, r.1]
          omega
        · rw [if_neg q] at hb
          omega
      · rw [if_neg q1] at hb
        by_cases q2 : s = 2
        · rw [if_pos q2] at hb
          by_cases q : x < wide - 1
          · rw [if_pos q] at hb
            have ej : i + 1 = j := by omega
            refine Or.inl (Or.inl (Or.inr ⟨by omega, by rw [ej]; exact hpj, ?_⟩))
            have r := row_at (w := wide) (y := y) (x := x + 1) (by omega)
            have ei : i + 1 = y * wide + (x + 1) := by omega
            rw [hfc, Bool.not_eq_true', decide_eq_false_iff_not, ei, r.1]
            omega
          · rw [if_neg q] at hb
            omega
        · rw [if_neg q2] at hb
          by_cases q : y < high - 1
          · rw [if_pos q] at hb
            have ej : i + wide = j := by omega
            exact Or.inr ⟨by omega, by rw [ej]; exact hpj⟩
          · rw [if_neg q] at hb
            omega
theorem dig_eq {wide high guns : Nat} {clay kind stand reach : Nat → Nat} {sil dug fc lc : Nat → Bool} (h0 : 0 < wide) (h36 : wide * high ≤ 36) (hw : wide ≤ 6) (hg5 : guns ≤ 5) (hs : ∀ g, g < guns → stand g < wide * high) (hfc : ∀ i, fc i = decide (i < wide * high ∧ i % wide = 0)) (hlc : ∀ i, lc i = decide (i < wide * high ∧ i % wide + 1 = wide)) (hd : ∀ i, dug i = true → i < wide * high) {c : Nat} (hc : c < wide * high) :
    (openF wide high (wide * high) guns clay kind stand reach sil c && (fc c || nextF wide fc lc dug c)) = digB (decide (0 < clay c ∧ stF stand guns c = false)) (shotQ (mshotB wide guns kind stand reach sil c)) (byDugB wide (wide * high) dug c) := by
  rw [open_eq h0 hg5 hs hc]
  unfold digB
  congr 1
  unfold byDugB
  rw [hfc]
  have e1 : decide (c < wide * high ∧ c % wide = 0) = decide (c % wide = 0) := decide_eq_decide.mpr ⟨fun q => q.2, fun q => ⟨hc, q⟩⟩
  rw [e1]
  congr 1
  rw [Bool.eq_iff_iff, nextF_iff h0 h36 hw hfc hlc hd hc, anyB_iff]
  constructor
  · rintro ⟨j, h1, h2, h3⟩
    exact ⟨j, h1, by rw [h2, h3]; rfl⟩
  · rintro ⟨j, h1, h2⟩
    rw [Bool.and_eq_true] at h2
    exact ⟨j, h1, h2.1, h2.2⟩
/-! trenches -/
def TQ (num num' : Nat → Int) (fr fr' n : Nat) : Prop := ∀ y, y < n → num (fr + y) = num' (fr' + y)
theorem tc_eq {num num' : Nat → Int} {fr fr' n y : Nat} (h : TQ num num' fr fr' n) (hy : y < n) : tcF num fr y = tcF num' fr' y := by
  unfold tcF
  rw [h y hy]
theorem tgood_eq {num num' : Nat → Int} {fr fr' n : Nat} (h : TQ num num' fr fr' n) (wh : Nat) : tgood num fr n wh = tgood num' fr' n wh := by
  unfold tgood
  rw [anyB_cong fun k hk => by rw [h k hk]]
theorem told_eq {num num' : Nat → Int} {fr fr' n m : Nat} (h : TQ num num' fr fr' n) (hm : m ≤ n) : toldF num fr m = toldF num' fr' m := by
  unfold toldF
  funext c
  exact anyB_cong fun y hy => by rw [tc_eq h (by omega)]
theorem nig_eq {clay : Nat → Nat} {dug : Nat → Bool} {num num' : Nat → Int} {fr fr' n : Nat} (h : TQ num num' fr fr' n) : ∀ m, m ≤ n → nigF clay dug num fr m = nigF clay dug num' fr' m
  | 0, _ => rfl
  | m + 1, hm => by rw [nigF, nigF, nig_eq h m (by omega), told_eq h (by omega), tc_eq h (by omega)]
theorem fw_cong {g1 g2 : Nat → Bool} : ∀ {n : Nat}, (∀ y, y < n → g1 y = g2 y) → fwZ g1 n = fwZ g2 n
  | 0, _ => rfl
  | n + 1, h => by rw [fwZ, fwZ, fw_cong (fun y hy => h y (by omega)), h n (by omega)]
theorem cnt_cong {f g : Nat → Bool} : ∀ {n : Nat}, (∀ y, y < n → f y = g y) → cntB f n = cntB g n
  | 0, _ => rfl
  | n + 1, h => by rw [cntB, cntB, cnt_cong (fun y hy => h y (by omega)), h n (by omega)]
theorem go_eq {wide high guns : Nat} {clay stand : Nat → Nat} {fc lc : Nat → Bool} {num num' : Nat → Int} {fr fr' n : Nat} (h0 : 0 < wide) (h36 : wide * high ≤ 36) (hw : wide ≤ 6) (hfc : ∀ i, fc i = decide (i < wide * high ∧ i % wide = 0)) (hlc : ∀ i, lc i = decide (i < wide * high ∧ i % wide + 1 = wide)) (h : TQ num num' fr fr' n) (hg : tgood num fr n (wide * high) = true) {y : Nat} (hy : y < n) : goC wide (wide * high) guns clay stand fc lc num fr y = goB wide guns clay stand num' fr' y := by
  have ht : ∀ y, y < n → tcF num fr y < wide * high := fun y hy => by
    have := tgood_at hg hy
    unfold tcF
    omega
  unfold goC goB
  rw [soil_eq (ht y hy), tc_eq h hy]
  congr 1
  by_cases q : y = 0
  · rw [if_pos q, if_pos q, hfc]
    have := ht y hy
    rw [tc_eq h hy] at this
    exact decide_eq_decide.mpr ⟨fun z => z.2, fun z => ⟨this, z⟩⟩
  · rw [if_neg q, if_neg q, tc_eq h (show y - 1 < n by omega)]
    have h1 := ht y hy
    have h2 := ht (y - 1) (by omega)
    rw [tc_eq h hy] at h1
    rw [tc_eq h (show y - 1 < n by omega)] at h2
    rw [Bool.eq_iff_iff, nextF_iff h0 h36 hw hfc hlc (fun i hi => by rw [of_decide_eq_true hi]; exact h2) h1]
    constructor
    · rintro ⟨j, -, h3, h4⟩
      rw [of_decide_eq_true h3, nxt_sym] at h4
      exact h4
    · intro h3
      exact ⟨_, h2, decide_eq_true rfl, by rw [nxt_sym]; exact h3⟩
theorem by_eq {wide high guns : Nat} {kind stand reach : Nat → Nat} {sil : Nat → Bool} {num num' : Nat → Int} {fr fr' n : Nat} (h0 : 0 < wide) (h36 : wide * high ≤ 36) (hs : ∀ g, g < guns → stand g < wide * high) (h : TQ num num' fr fr' n) (hg : tgood num fr n (wide * high) = true) : bitsF (hitF wide high guns kind stand reach sil (toldF num fr n)) guns = byF (mshotB wide guns kind stand reach sil) num' fr' n := by
  have ht : ∀ y, y < n → tcF num fr y < wide * high := fun y hy => by
    have := tgood_at hg hy
    unfold tcF
    omega
  funext i
  unfold byF
  rw [bitsF_eq, Bool.eq_iff_iff, Bool.and_eq_true, anyB_iff, decide_eq_true_iff]
  unfold hitF
  constructor
  · rintro ⟨h1, h2⟩
    rw [Bool.and_eq_true, anyB_iff] at h2
    obtain ⟨h2, k, hk, h3⟩ := h2
    rw [Bool.and_eq_true] at h3
    obtain ⟨y, hy, h4⟩ := (anyB_iff _ _).mp h3.2
    have ek := of_decide_eq_true h4
    refine ⟨y, hy, ?_⟩
    unfold mshotB
    rw [bitsF_eq, decide_eq_true h1, Bool.true_and, h2, Bool.true_and, ← tc_eq h hy, ← sees_eq h0 hs h1 (ht y hy), ← ek]
    exact h3.1
  · rintro ⟨y, hy, h1⟩
    unfold mshotB at h1
    rw [bitsF_eq, Bool.and_eq_true, Bool.and_eq_true, decide_eq_true_iff, ← tc_eq h hy] at h1
    obtain ⟨h1, h2, h3⟩ := h1
    have h4 := ht y hy
    rw [← sees_eq h0 hs h1 h4] at h3
    refine ⟨h1, ?_⟩
    rw [Bool.and_eq_true, anyB_iff]
    exact ⟨h2, tcF num fr y, by omega, by rw [Bool.and_eq_true]; exact ⟨h3, (anyB_iff _ _).mpr ⟨y, hy, decide_eq_true rfl⟩⟩⟩
theorem sht_eq {wide high guns : Nat} {kind stand reach : Nat → Nat} {sil : Nat → Bool} {num num' : Nat → Int} {fr fr' n : Nat} (h0 : 0 < wide) (hg5 : guns ≤ 5) (hs : ∀ g, g < guns → stand g < wide * high) (h : TQ num num' fr fr' n) (hg : tgood num fr n (wide * high) = true) : shtF (shotF wide high guns kind stand reach sil) num fr n = shtF (fun c => shotQ (mshotB wide guns kind stand reach sil c)) num' fr' n := by
  unfold shtF
  refine cnt_cong fun y hy => ?_
  have := tgood_at hg hy
  rw [← tc_eq h hy]
  exact shotF_Q h0 hg5 hs (by unfold tcF; omega)
