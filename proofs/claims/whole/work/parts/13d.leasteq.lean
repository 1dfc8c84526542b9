/-! breaches, days, posts, odds: class and reference -/
theorem slZ_cong {ok f g : Nat → Bool} : ∀ {n : Nat}, (∀ k, k < n → f k = g k) → slZ ok f n = slZ ok g n
  | 0, _ => rfl
  | n + 1, h => by rw [slZ, slZ, slZ_cong (fun k hk => h k (by omega)), h n (by omega)]
theorem ors_eq (sil : Nat → Bool) (g : Nat) : (fun x9 => (g).testBit x9 || (sil) x9) = (fun x9 => (sil) x9 || (fun x9 => (g).testBit x9) x9) := funext fun i => Bool.or_comm _ _
def LstZ (v : Int) (its : Nat → Int) (n : Nat) : Prop := (v = -9 ∧ ∀ c, c < n → its c < 0) ∨ (0 ≤ v ∧ (∃ c, c < n ∧ its c = v) ∧ ∀ c, c < n → 0 ≤ its c → v ≤ its c)
theorem LstZ_one {v w : Int} {its : Nat → Int} {n : Nat} (h : LstZ v its n) (k : LstZ w its n) : v = w := by
  rcases h with ⟨h1, h2⟩ | ⟨h1, ⟨c, c1, c2⟩, h3⟩
  · rcases k with ⟨k1, k2⟩ | ⟨k1, ⟨e, e1, e2⟩, k3⟩
    · omega
    · have := h2 e e1
      omega
  · rcases k with ⟨k1, k2⟩ | ⟨k1, ⟨e, e1, e2⟩, k3⟩
    · have := k2 c c1
      omega
    · have a := h3 e e1 (by omega)
      have b := k3 c c1 (by omega)
      omega
theorem brZ_lst (its : Nat → Int) : ∀ n, LstZ (brZ its n) its n
  | 0 => Or.inl ⟨rfl, fun c hc => absurd hc (Nat.not_lt_zero c)⟩
  | n + 1 => by
    have ih := brZ_lst its n
    rw [brZ]
    by_cases q : 0 ≤ its n ∧ (brZ its n < 0 ∨ its n < brZ its n)
    · rw [if_pos q]
      refine Or.inr ⟨q.1, ⟨n, by omega, rfl⟩, fun c hc hz => ?_⟩
      by_cases z : c = n
      · rw [z]; exact Int.le_refl _
      · rcases ih with ⟨i1, i2⟩ | ⟨i1, i2, i3⟩
        · have := i2 c (by omega)
          omega
        · have := i3 c (by omega) hz
          omega
    · rw [if_neg q]
      rcases ih with ⟨i1, i2⟩ | ⟨i1, ⟨c, c1, c2⟩, i3⟩
      · refine Or.inl ⟨i1, fun c hc => ?_⟩
        by_cases z : c = n
        · rw [z]; omega
        · exact i2 c (by omega)
      · refine Or.inr ⟨i1, ⟨c, by omega, c2⟩, fun e he hz => ?_⟩
        by_cases z : e = n
        · rw [z] at hz ⊢; omega
        · exact i3 e (by omega) hz
theorem brZ_cong {f g : Nat → Int} : ∀ {n : Nat}, (∀ k, k < n → f k = g k) → brZ f n = brZ g n
  | 0, _ => rfl
  | n + 1, h => by rw [brZ, brZ, brZ_cong (fun k hk => h k (by omega)), h n (by omega)]
theorem bnC_lst {wv : Nat → Int} {w h s : Nat} (h0 : 0 < w) (hs : s < w * h) (hw : ∀ u, -9 ≤ wv u ∧ wv u ≤ 2000) : ∀ k, k ≤ 4 → (bnC (fun c => snZ (wv c)) w h s k = 1073741824 ∧ ∀ i u : Nat, i < k → besZ w h s i = (u : Int) → wv u < 0) ∨ ((0 ≤ bnC (fun c => snZ (wv c)) w h s k ∧ bnC (fun c => snZ (wv c)) w h s k ≤ 2000) ∧ (∃ i u : Nat, i < k ∧ besZ w h s i = (u : Int) ∧ wv u = bnC (fun c => snZ (wv c)) w h s k) ∧ ∀ i u : Nat, i < k → besZ w h s i = (u : Int) → 0 ≤ wv u → bnC (fun c => snZ (wv c)) w h s k ≤ wv u)
  | 0, _ => Or.inl ⟨rfl, fun i u hi => absurd hi (Nat.not_lt_zero i)⟩
  | k + 1, hk4 => by
    have ih := bnC_lst h0 hs hw k (by omega)
    rw [bnC]
    by_cases q : besZ w h s k = -9
    · rw [if_pos q]
      rcases ih with ⟨i1, i2⟩ | ⟨i1, ⟨i, u, j1, j2, j3⟩, i3⟩
      · refine Or.inl ⟨i1, fun i u hi e => ?_⟩
        by_cases z : i = k
        · rw [z, q] at e; omega
        · exact i2 i u (by omega) e
      · refine Or.inr ⟨i1, ⟨i, u, by omega, j2, j3⟩, fun i u hi e hz => ?_⟩
        by_cases z : i = k
        · rw [z, q] at e; omega
        · exact i3 i u (by omega) e hz
    · rw [if_neg q]
      have hv := hw (besZ w h s k).toNat
      unfold minZ
      by_cases n : wv (besZ w h s k).toNat < 0
      · have e1 : snZ (wv (besZ w h s k).toNat) = 1073741824 := if_pos n
        rw [e1, if_neg (by rcases ih with ⟨i1, -⟩ | ⟨i1, -⟩ <;> omega)]
        rcases ih with ⟨i1, i2⟩ | ⟨i1, ⟨i, u, j1, j2, j3⟩, i3⟩
        · refine Or.inl ⟨i1, fun i u hi e => ?_⟩
          by_cases z : i = k
          · rw [z] at e; rw [e, Int.toNat_natCast] at n; exact n
          · exact i2 i u (by omega) e
        · refine Or.inr ⟨i1, ⟨i, u, by omega, j2, j3⟩, fun i u hi e hz => ?_⟩
          by_cases z : i = k
          · rw [z] at e; rw [e, Int.toNat_natCast] at n; omega
          · exact i3 i u (by omega) e hz
      · have e1 : snZ (wv (besZ w h s k).toNat) = wv (besZ w h s k).toNat := if_neg n
        by_cases neg : besZ w h s k < 0
        · have := bes_in h0 hs (show k < 4 by omega)
          omega
        · obtain ⟨un, hun⟩ := Int.eq_ofNat_of_zero_le (Int.not_lt.mp neg)
          rw [e1]
          rw [hun, Int.toNat_natCast] at n hv ⊢
          by_cases m : wv un < bnC (fun c => snZ (wv c)) w h s k
          · rw [if_pos m]
            refine Or.inr ⟨⟨by omega, hv.2⟩, ⟨k, un, by omega, hun, rfl⟩, fun i u hi e hz => ?_⟩
            by_cases z : i = k
            · rw [z, hun] at e
              have : un = u := by omega
              rw [this]; exact Int.le_refl _
            · rcases ih with ⟨i1, i2⟩ | ⟨i1, -, i3⟩
              · have := i2 i u (by omega) e
                omega
              · have := i3 i u (by omega) e hz
                omega
          · rw [if_neg m]
            rcases ih with ⟨i1, i2⟩ | ⟨i1, ⟨i, u, j1, j2, j3⟩, i3⟩
            · omega
            · refine Or.inr ⟨i1, ⟨i, u, by omega, j2, j3⟩, fun i u hi e hz => ?_⟩
              by_cases z : i = k
              · rw [z, hun] at e
                have : un = u := by omega
                rw [← this]; omega
              · exact i3 i u (by omega) e hz
theorem breach_eq {wv : Nat → Int} {w h s : Nat} (h0 : 0 < w) (hs : s < w * h) (hw : ∀ u, -9 ≤ wv u ∧ wv u ≤ 2000) : nvZ (bnC (fun c => snZ (wv c)) w h s 4) = brZ (fun c => if nxtB w c s = true then wv c else -9) (w * h) := by
  refine LstZ_one ?_ (brZ_lst _ _)
  unfold nvZ
  rcases bnC_lst h0 hs hw 4 (Nat.le_refl 4) with ⟨i1, i2⟩ | ⟨i1, ⟨i, u, j1, j2, j3⟩, i3⟩
  · rw [if_pos i1]
    refine Or.inl ⟨rfl, fun c hc => ?_⟩
    dsimp only
    by_cases q : nxtB w c s = true
    · rw [if_pos q]
      rw [nxt_sym] at q
      obtain ⟨t, t1, t2⟩ := nx_bes h0 hs hc q
      exact i2 t c t1 t2
    · rw [if_neg q]
      omega
  · rw [if_neg (by omega)]
    have hx := bes_nx h0 hs j1 j2
    refine Or.inr ⟨i1.1, ⟨u, hx.1, ?_⟩, fun c hc hz => ?_⟩
    · dsimp only
      rw [nxt_sym, if_pos hx.2]
      exact j3
    · dsimp only at hz ⊢
      by_cases q : nxtB w c s = true
      · rw [if_pos q] at hz ⊢
        rw [nxt_sym] at q
        obtain ⟨t, t1, t2⟩ := nx_bes h0 hs hc q
        exact i3 t c t1 t2 hz
      · rw [if_neg q] at hz
        omega
theorem day_eq {bn b : Nat → Int} (hb : ∀ g, 0 ≤ bn g ∧ bn g ≤ 1073741824) : ∀ n, (∀ g, g < n → b g = nvZ (bn g)) → dgC bn n = dyG b n ∧ ((brZ b n = -9 ∧ dmC bn n = 1073741824 ∧ dyG b n = -9) ∨ (0 ≤ brZ b n ∧ dmC bn n = brZ b n ∧ 0 ≤ dyG b n ∧ brZ b n < 1073741824))
  | 0, _ => ⟨rfl, Or.inl ⟨rfl, rfl, rfl⟩⟩
  | n + 1, h => by
    obtain ⟨i1, i2⟩ := day_eq hb n (fun g hg => h g (by omega))
    have e := h n (by omega)
    have hbn := hb n
    rw [dgC, dyG, brZ, dmC, i1]
    unfold nvZ at e
    by_cases q : bn n = 1073741824
    · rw [if_pos q] at e
      rw [if_neg (by rcases i2 with ⟨-, z, -⟩ | ⟨-, z, -, y⟩ <;> omega), if_neg (by omega), if_neg (by omega), if_neg (by rcases i2 with ⟨-, z, -⟩ | ⟨-, z, -, y⟩ <;> omega)]
      exact ⟨rfl, i2⟩
    · rw [if_neg q] at e
      rcases i2 with ⟨a1, a2, a3⟩ | ⟨a1, a2, a3, a4⟩
      · rw [if_pos (by omega), if_pos ⟨by omega, Or.inl (by omega)⟩, if_pos ⟨by omega, Or.inl (by omega)⟩, if_pos (by omega)]
        exact ⟨rfl, Or.inr ⟨by omega, e.symm, by omega, by omega⟩⟩
      · by_cases z : bn n < dmC bn n
        · rw [if_pos z, if_pos ⟨by omega, Or.inr (by omega)⟩, if_pos ⟨by omega, Or.inr (by omega)⟩, if_pos z]
          exact ⟨rfl, Or.inr ⟨by omega, e.symm, by omega, by omega⟩⟩
        · rw [if_neg z, if_neg (by omega), if_neg (by omega), if_neg z]
          exact ⟨rfl, Or.inr ⟨a1, a2, a3, a4⟩⟩
theorem dyC_eq {bn b : Nat → Int} {guns : Nat} {what : Int} (hb : ∀ g, 0 ≤ bn g ∧ bn g ≤ 1073741824) (h : ∀ g, g < guns → b g = nvZ (bn g)) : dyC what bn guns = if what = 0 then dyG b guns else brZ b guns := by
  obtain ⟨e, i⟩ := day_eq hb guns h
  unfold dyC
  rw [e]
  by_cases q : what = 0
  · rw [if_pos q, if_pos q]
  · rw [if_neg q, if_neg q]
    rcases i with ⟨a1, a2, a3⟩ | ⟨a1, a2, a3, a4⟩
    · rw [if_pos a3, a1]
    · rw [if_neg (by omega), a2]
theorem post_eq {wv itC : Nat → Int} {ok : Nat → Bool} {itR : Nat → Int} (hw : ∀ u, -9 ≤ wv u ∧ wv u ≤ 2000) (hC : ∀ p, itC p = snZ (wv p)) : ∀ n, (∀ p, p < n → itR p = if ok p = true then ntZ (wv p) else -9) → pbC itC ok n = psB itR n ∧ ((psM itR n = -9 ∧ pmC itC ok n = -1 ∧ psB itR n = -9) ∨ (psM itR n = 100000000 ∧ pmC itC ok n = 1073741824 ∧ 0 ≤ psB itR n) ∨ ((0 ≤ psM itR n ∧ psM itR n ≤ 2000) ∧ pmC itC ok n = psM itR n ∧ 0 ≤ psB itR n))
  | 0, _ => ⟨rfl, Or.inl ⟨rfl, rfl, rfl⟩⟩
  | n + 1, h => by
    obtain ⟨i1, i2⟩ := post_eq hw hC n (fun g hg => h g (by omega))
    have e := h n (by omega)
    have hn := hw n
    have hc := hC n
    have vals : ok n = true → (itR n = 100000000 ∧ itC n = 1073741824) ∨ ((0 ≤ itR n ∧ itR n ≤ 2000) ∧ itC n = itR n) := fun ho => by
      rw [if_pos ho] at e
      unfold ntZ at e
      unfold snZ at hc
      by_cases q : wv n < 0
      · rw [if_pos q] at e hc
        exact Or.inl ⟨e, hc⟩
      · rw [if_neg q] at e hc
        exact Or.inr ⟨by omega, by omega⟩
    have key : (ok n = true ∧ pmC itC ok n < itC n) ↔ psM itR n < itR n := by
      constructor
      · rintro ⟨ho, lt⟩
        have v := vals ho
        omega
      · intro lt
        have ho : ok n = true := Classical.byContradiction fun z => by
          rw [if_neg z] at e
          omega
        have v := vals ho
        exact ⟨ho, by omega⟩
    by_cases lt : psM itR n < itR n
    · have c := key.mpr lt
      have v := vals c.1
      rw [pbC, psB, pmC, psM, if_pos c, if_pos lt, if_pos c, if_pos lt]
      refine ⟨rfl, Or.inr ?_⟩
      rcases v with ⟨v1, v2⟩ | ⟨v1, v2⟩
      · exact Or.inl ⟨v1, v2, by omega⟩
      · exact Or.inr ⟨v1, v2, by omega⟩
    · have c := fun q => lt (key.mp q)
      rw [pbC, psB, pmC, psM, if_neg c, if_neg lt, if_neg c, if_neg lt]
      exact ⟨i1, i2⟩
theorem poC_eq {wv : Nat → Int} {ok : Nat → Bool} {itR : Nat → Int} {n : Nat} {what : Int} (hw : ∀ u, -9 ≤ wv u ∧ wv u ≤ 2000) (h : ∀ p, p < n → itR p = if ok p = true then ntZ (wv p) else -9) : (if 0 ≤ what ∧ what ≤ 1 then poC what (fun p => snZ (wv p)) ok n else -2) = psA what itR n := by
  obtain ⟨e, i⟩ := post_eq (itC := fun p => snZ (wv p)) hw (fun _ => rfl) n h
  unfold psA
  by_cases q : 0 ≤ what ∧ what ≤ 1
  · rw [if_pos q, if_pos q]
    unfold poC
    rw [e]
    by_cases q0 : what = 0
    · rw [if_pos q0, if_pos q0]
    · rw [if_neg q0, if_neg q0]
      rcases i with ⟨a1, a2, a3⟩ | ⟨a1, a2, a3⟩ | ⟨a1, a2, a3⟩
      · rw [if_pos (Or.inl a3), if_neg (by omega), a1]
      · rw [if_pos (Or.inr a2), if_pos a1]
      · rw [if_neg (by omega), if_neg (by omega), a2]
  · rw [if_neg q, if_neg q]
/-! odds -/
theorem hv_16 : ∀ u, u < 17 → ∀ d, d = 1 ∨ d = 2 ∨ d = 4 ∨ d = 8 ∨ d = 16 → u ≤ d → (hvU 4 u d).1 = u / Nat.gcd u d ∧ (hvU 4 u d).2 = d / Nat.gcd u d := by
  have h : ∀ u, u < 17 → ∀ d ∈ [1, 2, 4, 8, 16], u ≤ d → (hvU 4 u d).1 = u / Nat.gcd u d ∧ (hvU 4 u d).2 = d / Nat.gcd u d := by decide +kernel
  intro u hu d hd
  exact h u hu d (by rcases hd with rfl | rfl | rfl | rfl | rfl <;> simp)
theorem okS_16 : ∀ guns, guns < 5 → ∀ m, m < 16 → cntB (okS (fun i => m.testBit i)) (2 ^ guns) = 1 ∨ cntB (okS (fun i => m.testBit i)) (2 ^ guns) = 2 ∨ cntB (okS (fun i => m.testBit i)) (2 ^ guns) = 4 ∨ cntB (okS (fun i => m.testBit i)) (2 ^ guns) = 8 ∨ cntB (okS (fun i => m.testBit i)) (2 ^ guns) = 16 := by decide +kernel
theorem nS_lt (p : Nat → Bool) : ∀ n, nS p n < 2 ^ n
  | 0 => Nat.zero_lt_one
  | n + 1 => by
    have i := nS_lt p n
    rw [nS]
    refine Nat.or_lt_two_pow (by rw [Nat.pow_succ]; omega) ?_
    split
    · rw [Nat.pow_succ]
      have := Nat.two_pow_pos n
      omega
    · exact Nat.two_pow_pos _
theorem okS_pow {sil : Nat → Bool} {guns : Nat} (hg : guns ≤ 4) (hs : ∀ g, sil g = true → g < 4) : cntB (okS sil) (2 ^ guns) = 1 ∨ cntB (okS sil) (2 ^ guns) = 2 ∨ cntB (okS sil) (2 ^ guns) = 4 ∨ cntB (okS sil) (2 ^ guns) = 8 ∨ cntB (okS sil) (2 ^ guns) = 16 := by
  have e : sil = fun i => (nS sil 4).testBit i := funext fun i => by
    rw [nS_bit]
    cases q : sil i with
    | false => simp
    | true => rw [decide_eq_true (hs i q)]; rfl
  have lt : nS sil 4 < 16 := nS_lt sil 4
  have r := okS_16 guns (by omega) (nS sil 4) lt
  rw [← e] at r
  exact r
theorem cnt_le {f g : Nat → Bool} : ∀ {n : Nat}, (∀ k, k < n → f k = true → g k = true) → cntB f n ≤ cntB g n
  | 0, _ => Nat.le_refl _
  | n + 1, h => by
    have i := cnt_le (n := n) (fun k hk => h k (by omega))
    rw [cntB, cntB]
    by_cases q : f n = true
    · rw [if_pos q, if_pos (h n (by omega) q)]
      omega
    · rw [if_neg q]
      omega
theorem odds_eq {sil : Nat → Bool} {f : Nat → Bool} {guns : Nat} {which : Int} (hg : guns ≤ 4) (hs : ∀ g, sil g = true → g < 4) (hw : 0 ≤ which ∧ which ≤ 1) : (if which = 0 then (((hvU 4 (cntB (fun g => okS sil g && f g) (2 ^ guns)) (cntB (okS sil) (2 ^ guns))).1 : Nat) : Int) else (((hvU 4 (cntB (fun g => okS sil g && f g) (2 ^ guns)) (cntB (okS sil) (2 ^ guns))).2 : Nat) : Int)) = shZ (cntB (fun g => okS sil g && f g) (2 ^ guns)) (cntB (okS sil) (2 ^ guns)) which := by
  have p := okS_pow hg hs
  have le : cntB (fun g => okS sil g && f g) (2 ^ guns) ≤ cntB (okS sil) (2 ^ guns) := cnt_le fun k _ q => by
    rw [Bool.and_eq_true] at q
    exact q.1
  have r := hv_16 (cntB (fun g => okS sil g && f g) (2 ^ guns)) (by omega) _ p le
  rw [r.1, r.2]
  unfold shZ
  by_cases q : which = 0
  · rw [if_pos q, if_pos q, Int.natCast_ediv]
  · rw [if_neg q, if_neg q, Int.natCast_ediv]
