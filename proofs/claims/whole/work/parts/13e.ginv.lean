/-! the land of both, in one: what holds of it, call by call -/
theorem aOf_cong {n : Nat} {f g : Nat → Int} {x : Int} (h : ∀ k, k < n → f k = g k) : aOf n f x = aOf n g x := by
  unfold aOf
  by_cases q : 0 ≤ x ∧ x < (n : Int)
  · rw [if_pos q, if_pos q, h _ (by omega)]
  · rw [if_neg q, if_neg q]
theorem aOfS_cong {n : Nat} {f g : Nat → Nat → Bool} {x : Int} (h : ∀ k, k < n → iS (f k) = iS (g k)) : aOfS n f x = aOfS n g x := by
  unfold aOfS
  by_cases q : 0 ≤ x ∧ x < (n : Int)
  · rw [if_pos q, if_pos q, h _ (by omega)]
  · rw [if_neg q, if_neg q]
theorem aOfL_cong {n : Nat} {f g : Nat → Nat → Bool} {x : Int} (h : ∀ k, k < n → lS (f k) = lS (g k)) : aOfL n f x = aOfL n g x := by
  unfold aOfL
  by_cases q : 0 ≤ x ∧ x < (n : Int)
  · rw [if_pos q, if_pos q, h _ (by omega)]
  · rw [if_neg q, if_neg q]
theorem bitsF_cong {f g : Nat → Bool} {n : Nat} (h : ∀ k, k < n → f k = g k) : bitsF f n = bitsF g n := by
  unfold bitsF
  funext i
  exact anyB_cong fun k hk => by rw [h k hk]
theorem aSo_cong {n : Nat} {rdOf : Nat → Nat} {rdWas f g : Nat → Bool} (h : ∀ x, x < n → f (rdOf x) = g (rdOf x)) : aSo n rdOf rdWas f = aSo n rdOf rdWas g := by
  unfold aSo
  rw [anyB_cong fun x hx => by rw [h x hx]]
theorem up_ag {n k v : Nat} {f g : Nat → Nat} (h : AG n f g) : AG n (up f k v) (up g k v) := fun j hj => by
  unfold up
  by_cases q : j = k
  · rw [if_pos q, if_pos q]
  · rw [if_neg q, if_neg q]
    exact h j hj
theorem up_ag1 {n v : Nat} {f g : Nat → Nat} (h : AG n f g) : AG (n + 1) (up f n v) (up g n v) := fun j hj => by
  unfold up
  by_cases q : j = n
  · rw [if_pos q, if_pos q]
  · rw [if_neg q, if_neg q]
    exact h j (by omega)
theorem up_ag2 {n a b : Nat} {f g : Nat → Nat} (h : AG n f g) : AG n (up f n a) (up g n b) := fun j hj => by
  rw [up_n _ _ (by omega), up_n _ _ (by omega)]
  exact h j hj
theorem aSet_ag {n : Nat} {f g : Nat → Nat} {c v : Int} (h : AG n f g) : aSet n f c v = aSet n g c v := by
  unfold aSet
  by_cases q : 0 ≤ c ∧ c < (n : Int)
  · rw [if_pos q, if_pos q, h _ (by omega)]
  · rw [if_neg q, if_neg q]
theorem uSet_ag {n : Nat} {f g : Nat → Nat} {c v : Int} (h : AG n f g) : AG n (uSet n f c v) (uSet n g c v) := by
  unfold uSet
  by_cases q : 0 ≤ c ∧ c < (n : Int)
  · rw [if_pos q, if_pos q]
    by_cases w : 0 ≤ v ∧ v ≤ 9
    · rw [if_pos w, if_pos w]
      exact up_ag h
    · rw [if_neg w, if_neg w]
      exact h
  · rw [if_neg q, if_neg q]
    exact h
theorem uSet_le {n : Nat} {f : Nat → Nat} {c v : Int} (h : ∀ k, f k ≤ 9) : ∀ k, uSet n f c v k ≤ 9 := by
  unfold uSet
  by_cases q : 0 ≤ c ∧ c < (n : Int)
  · rw [if_pos q]
    by_cases w : 0 ≤ v ∧ v ≤ 9
    · rw [if_pos w]
      exact up_le f h (by omega)
    · rw [if_neg w]
      exact h
  · rw [if_neg q]
    exact h
theorem aHaul_ag {n m : Nat} {f g : Nat → Nat} {c v : Int} (h : AG n f g) : aHaul n m f c v = aHaul n m g c v := by
  unfold aHaul
  by_cases q : 0 ≤ c ∧ c < (n : Int)
  · rw [if_pos q, if_pos q, h _ (by omega)]
  · rw [if_neg q, if_neg q]
theorem uHaul_ag {n m : Nat} {f g : Nat → Nat} {c v : Int} (h : AG n f g) : AG n (uHaul n m f c v) (uHaul n m g c v) := by
  unfold uHaul
  by_cases q : 0 ≤ c ∧ c < (n : Int)
  · rw [if_pos q, if_pos q]
    by_cases w : 0 ≤ v ∧ v < (m : Int)
    · rw [if_pos w, if_pos w]
      exact up_ag h
    · rw [if_neg w, if_neg w]
      exact h
  · rw [if_neg q, if_neg q]
    exact h
theorem uHaul_in {n m : Nat} {f : Nat → Nat} {c v : Int} (P : Nat → Prop) (h : ∀ k, P (f k)) (hm : ∀ x, x < m → P x) : ∀ k, P (uHaul n m f c v k) := fun k => by
  unfold uHaul
  by_cases q : 0 ≤ c ∧ c < (n : Int)
  · rw [if_pos q]
    by_cases w : 0 ≤ v ∧ v < (m : Int)
    · rw [if_pos w]
      unfold up
      split
      · exact hm _ (by omega)
      · exact h k
    · rw [if_neg w]
      exact h k
  · rw [if_neg q]
    exact h k
theorem uHaul_lt {n m : Nat} {f : Nat → Nat} {c v : Int} (h : ∀ k, k < n → f k < m) : ∀ k, k < n → uHaul n m f c v k < m := fun k hk => by
  unfold uHaul
  by_cases q : 0 ≤ c ∧ c < (n : Int)
  · rw [if_pos q]
    by_cases w : 0 ≤ v ∧ v < (m : Int)
    · rw [if_pos w]
      unfold up
      split
      · omega
      · exact h k hk
    · rw [if_neg w]
      exact h k hk
  · rw [if_neg q]
    exact h k hk
def GInv (wide high guns : Nat) (sil dug fc lc : Nat → Bool) (clay col row kC sC rC kM sM rM : Nat → Nat) (rds : Nat) (rdOf : Nat → Nat) : Prop :=
  LandOk wide high (wide * high) guns sil dug fc lc clay col row kC sC rC ∧ ModOk wide high guns 0 clay kM sM rM ∧ (AG guns kC kM ∧ AG guns sC sM ∧ AG guns rC rM) ∧ (guns = 0 ↔ wide * high = 0) ∧ rds ≤ 8 ∧ (∀ x, rdOf x < 36) ∧ ∀ x, x < rds → rdOf x < wide * high
section GI
variable {wide high guns : Nat} {sil dug fc lc : Nat → Bool} {clay col row kC sC rC kM sM rM : Nat → Nat} {rds : Nat} {rdOf : Nat → Nat}
theorem wide_pos {c : Nat} (h : c < wide * high) : 0 < wide := Nat.pos_of_ne_zero fun q => by
  rw [q, Nat.zero_mul] at h
  exact absurd h (Nat.not_lt_zero c)
theorem gi_pos (hG : GInv wide high guns sil dug fc lc clay col row kC sC rC kM sM rM rds rdOf) {k : Nat} (h : k < guns) : 0 < wide := by
  refine wide_pos (high := high) (c := 0) (Nat.pos_of_ne_zero fun q => ?_)
  have := hG.2.2.2.1.mpr q
  omega
theorem gi_clay (hG : GInv wide high guns sil dug fc lc clay col row kC sC rC kM sM rM rds rdOf) {cl : Nat → Nat} (h : ∀ k, cl k ≤ 9) : GInv wide high guns sil dug fc lc cl col row kC sC rC kM sM rM rds rdOf := by
  obtain ⟨⟨l1, l2, l3, l4, l5, l6, l7⟩, ⟨m1, m2, m3, m4, m5, m6, m7⟩, hr⟩ := hG
  exact ⟨⟨l1, l2, l3, l4, l5, h, l7⟩, ⟨m1, m2, m3, m4, m5, h, m7⟩, hr⟩
theorem gi_reach (hG : GInv wide high guns sil dug fc lc clay col row kC sC rC kM sM rM rds rdOf) {r1 r2 : Nat → Nat} (h1 : ∀ k, r1 k ≤ 9) (h2 : ∀ k, r2 k ≤ 9) (h : AG guns r1 r2) : GInv wide high guns sil dug fc lc clay col row kC sC r1 kM sM r2 rds rdOf := by
  obtain ⟨⟨l1, l2, l3, l4, l5, l6, l7, l8, l9, l10, l11, l12⟩, ⟨m1, m2, m3, m4, m5, m6, m7, m8, m9, m10⟩, ⟨a1, a2, a3⟩, hr⟩ := hG
  exact ⟨⟨l1, l2, l3, l4, l5, l6, l7, l8, l9, l10, h1, l12⟩, ⟨m1, m2, m3, m4, m5, m6, m7, m8, h2, m10⟩, ⟨a1, a2, h⟩, hr⟩
theorem gi_kind (hG : GInv wide high guns sil dug fc lc clay col row kC sC rC kM sM rM rds rdOf) {r1 r2 : Nat → Nat} (h1 : ∀ k, r1 k ≤ 2) (h2 : ∀ k, r2 k ≤ 2) (h : AG guns r1 r2) : GInv wide high guns sil dug fc lc clay col row r1 sC rC r2 sM rM rds rdOf := by
  obtain ⟨⟨l1, l2, l3, l4, l5, l6, l7, l8, l9, l10, l11, l12⟩, ⟨m1, m2, m3, m4, m5, m6, m7, m8, m9, m10⟩, ⟨a1, a2, a3⟩, hr⟩ := hG
  exact ⟨⟨l1, l2, l3, l4, l5, l6, l7, l8, h1, l10, l11, l12⟩, ⟨m1, m2, m3, m4, m5, m6, h2, m8, m9, m10⟩, ⟨h, a2, a3⟩, hr⟩
theorem gi_stand (hG : GInv wide high guns sil dug fc lc clay col row kC sC rC kM sM rM rds rdOf) {r1 r2 : Nat → Nat} (h1 : ∀ k, r1 k < 36) (h2 : ∀ k, r2 k < 36) (h : AG guns r1 r2) (h3 : ∀ k, k < guns → r1 k < wide * high) : GInv wide high guns sil dug fc lc clay col row kC r1 rC kM r2 rM rds rdOf := by
  obtain ⟨⟨l1, l2, l3, l4, l5, l6, l7, l8, l9, l10, l11, l12, l13⟩, ⟨m1, m2, m3, m4, m5, m6, m7, m8, m9, m10⟩, ⟨a1, a2, a3⟩, hr⟩ := hG
  exact ⟨⟨l1, l2, l3, l4, l5, l6, l7, l8, l9, h1, l11, h3, l13⟩, ⟨m1, m2, m3, m4, m5, m6, m7, h2, m9, fun g hg => by rw [← h g hg]; exact h3 g hg⟩, ⟨a1, h, a3⟩, hr⟩
theorem gi_dug (hG : GInv wide high guns sil dug fc lc clay col row kC sC rC kM sM rM rds rdOf) {d : Nat → Bool} (h : ∀ i, d i = true → i < wide * high) : GInv wide high guns sil d fc lc clay col row kC sC rC kM sM rM rds rdOf := by
  obtain ⟨⟨l1, l2, l3, l4, l5, l6, l7, l8, l9, l10, l11, l12, l13, l14, l15, l16, l17, l18⟩, hr⟩ := hG
  exact ⟨⟨l1, l2, l3, l4, l5, l6, l7, l8, l9, l10, l11, l12, l13, l14, l15, l16, h, l18⟩, hr⟩
theorem gi_sil (hG : GInv wide high guns sil dug fc lc clay col row kC sC rC kM sM rM rds rdOf) {d : Nat → Bool} (h : ∀ g, d g = true → g < guns ∧ g < 4) : GInv wide high guns d dug fc lc clay col row kC sC rC kM sM rM rds rdOf := by
  obtain ⟨⟨l1, l2, l3, l4, l5, l6, l7, l8, l9, l10, l11, l12, l13, l14, l15, l16, l17, l18⟩, hr⟩ := hG
  exact ⟨⟨l1, l2, l3, l4, l5, l6, l7, l8, l9, l10, l11, l12, l13, l14, l15, l16, l17, h⟩, hr⟩
theorem gi_rds (hG : GInv wide high guns sil dug fc lc clay col row kC sC rC kM sM rM rds rdOf) {r : Nat} {o : Nat → Nat} (h : r ≤ 8) (h2 : ∀ x, o x < 36) (h3 : ∀ x, x < r → o x < wide * high) : GInv wide high guns sil dug fc lc clay col row kC sC rC kM sM rM r o :=
  ⟨hG.1, hG.2.1, hG.2.2.1, hG.2.2.2.1, h, h2, h3⟩
/-! 1: the ground -/
theorem sl_ofGun (hG : GInv wide high guns sil dug fc lc clay col row kC sC rC kM sM rM rds rdOf) {what g1 : Int} : aOf guns (oGun kC sC rC sil what) g1 = aOf guns (oGun kM sM rM sil what) g1 := by
  obtain ⟨-, -, ⟨a1, a2, a3⟩, -⟩ := hG
  exact aOf_cong fun k hk => by unfold oGun; rw [a1 k hk, a2 k hk, a3 k hk]
theorem sl_soak (hG : GInv wide high guns sil dug fc lc clay col row kC sC rC kM sM rM rds rdOf) {c v : Int} : GInv wide high guns sil dug fc lc (uSet (wide * high) clay c v) col row kC sC rC kM sM rM rds rdOf := gi_clay hG (uSet_le hG.1.2.2.2.2.2.1)
theorem sl_charge (hG : GInv wide high guns sil dug fc lc clay col row kC sC rC kM sM rM rds rdOf) {c v : Int} : aSet guns rC c v = aSet guns rM c v ∧ GInv wide high guns sil dug fc lc clay col row kC sC (uSet guns rC c v) kM sM (uSet guns rM c v) rds rdOf := by
  have ar := hG.2.2.1.2.2
  have b1 := hG.1.2.2.2.2.2.2.2.2.2.2.1
  have b2 := hG.2.1.2.2.2.2.2.2.2.2.1
  exact ⟨aSet_ag ar, gi_reach hG (uSet_le b1) (uSet_le b2) (uSet_ag ar)⟩
theorem sl_hush (hG : GInv wide high guns sil dug fc lc clay col row kC sC rC kM sM rM rds rdOf) {g : Int} {b : Bool} : GInv wide high guns (uHush guns sil g b) dug fc lc clay col row kC sC rC kM sM rM rds rdOf := by
  have hs := hG.1.2.2.2.2.2.2.2.2.2.2.2.2.2.2.2.2.2
  have h4 := hG.2.1.2.2.2.1
  refine gi_sil hG fun i hi => ?_
  unfold uHush at hi
  by_cases q : 0 ≤ g ∧ g < (guns : Int)
  · rw [if_pos q] at hi
    unfold up at hi
    by_cases w : i = g.toNat
    · omega
    · rw [if_neg w] at hi
      exact hs i hi
  · rw [if_neg q] at hi
    exact hs i hi
theorem sl_haul (hG : GInv wide high guns sil dug fc lc clay col row kC sC rC kM sM rM rds rdOf) {g c : Int} : aHaul guns (wide * high) sC g c = aHaul guns (wide * high) sM g c ∧ GInv wide high guns sil dug fc lc clay col row kC (uHaul guns (wide * high) sC g c) rC kM (uHaul guns (wide * high) sM g c) rM rds rdOf := by
  have as := hG.2.2.1.2.1
  have b1 := hG.1.2.2.2.2.2.2.2.2.2.1
  have b2 := hG.2.1.2.2.2.2.2.2.2.1
  have b3 := hG.1.2.2.2.2.2.2.2.2.2.2.2.1
  have h36 := hG.2.1.2.2.1
  exact ⟨aHaul_ag as, gi_stand hG (uHaul_in (fun x => x < 36) b1 (fun x hx => by omega)) (uHaul_in (fun x => x < 36) b2 (fun x hx => by omega)) (uHaul_ag as) (uHaul_lt b3)⟩
/-! 2: what is seen, dug -/
theorem sl_sees (hG : GInv wide high guns sil dug fc lc clay col row kC sC rC kM sM rM rds rdOf) {g1 : Int} : aOfL guns (seesG wide high kC sC rC (stF sC guns)) g1 = aOfL guns (fun k => bitsF (fun c => mseesF wide kM sM rM (stF sM (guns + 0)) k c) (wide * high)) g1 := by
  have hp := fun {k} => gi_pos hG (k := k)
  obtain ⟨⟨-, -, -, -, -, -, -, -, -, -, -, b, -⟩, -, ⟨a1, a2, a3⟩, -⟩ := hG
  refine aOfL_cong fun k hk => (seesL_eq (hp hk) b hk).trans (lS_cong fun i _ => ?_)
  rw [bitsF_eq, bitsF_eq, msees_ag a1 a2 a3 hk, stF_ag a2]
  rfl
theorem sl_shot (hG : GInv wide high guns sil dug fc lc clay col row kC sC rC kM sM rM rds rdOf) {c1 : Int} {u : Int32} (h : if 0 ≤ c1 ∧ c1 < ((wide * high : Nat) : Int) then u = iS (mshotB wide (guns + 0) kM sM rM sil c1.toNat) else u = iI (-1)) : aOfS (wide * high) (fun k => bitsF (hitF wide high guns kC sC rC sil (fun x9 => decide (x9 = k))) guns) c1 = u := by
  obtain ⟨⟨-, -, -, h36, -, -, -, -, -, -, -, b, -⟩, -, ⟨a1, a2, a3⟩, -⟩ := hG
  unfold aOfS
  by_cases q : 0 ≤ c1 ∧ c1 < ((wide * high : Nat) : Int)
  · rw [if_pos q] at h ⊢
    have hc : c1.toNat < wide * high := by omega
    rw [h]
    show iS (bitsF _ guns) = iS (mshotB wide guns kM sM rM sil c1.toNat)
    rw [hit_shot (wide_pos hc) h36 b hc, mshot_ag a1 a2 a3]
  · rw [if_neg q] at h ⊢
    exact h.symm
theorem sl_is (hG : GInv wide high guns sil dug fc lc clay col row kC sC rC kM sM rM rds rdOf) {c1 what : Int} : aOf (wide * high) (fun k => isZ (soilF (wide * high) guns clay sC k) (dug k) what) c1 = aOf (wide * high) (fun k => isZ (decide (0 < clay k ∧ stF sM (guns + 0) k = false)) (dug k) what) c1 := by
  obtain ⟨-, -, ⟨a1, a2, a3⟩, -⟩ := hG
  refine aOf_cong fun k hk => ?_
  try dsimp only
  rw [soil_eq hk, stF_ag a2]
  rfl
theorem sl_cover (hG : GInv wide high guns sil dug fc lc clay col row kC sC rC kM sM rM rds rdOf) {g1 : Int} : aOfS guns (fun k => bitsF (fun g => seesG wide high kC sC rC (stF sC guns) g (sC k)) guns) g1 = aOfS guns (mcovB wide (guns + 0) guns kM sM rM) g1 := by
  have hp := fun {k} => gi_pos hG (k := k)
  obtain ⟨⟨-, -, -, -, -, -, -, -, -, -, -, b, -⟩, -, ⟨a1, a2, a3⟩, -⟩ := hG
  refine aOfS_cong fun k hk => congrArg iS ?_
  exact (cov_eq (hp hk) b hk).trans (mcov_ag a1 a2 a3 hk)
theorem sl_bare (hG : GInv wide high guns sil dug fc lc clay col row kC sC rC kM sM rM rds rdOf) : (if wide * high = 0 then iI (-3) else iS (bitsF (fun k => !anyB (bitsF (fun g => seesG wide high kC sC rC (stF sC guns) g (sC k)) guns) 32) guns)) = if guns = 0 then iI (-3) else iS (bitsF (fun k => !anyB (mcovB wide (guns + 0) guns kM sM rM k) 32) guns) := by
  have hp := fun {k} => gi_pos hG (k := k)
  obtain ⟨⟨-, -, -, -, -, -, -, -, -, -, -, b, -⟩, -, ⟨a1, a2, a3⟩, h0, -⟩ := hG
  by_cases q : guns = 0
  · rw [if_pos (h0.mp q), if_pos q]
  · rw [if_neg (fun z => q (h0.mpr z)), if_neg q]
    refine congrArg iS (bitsF_cong fun k hk => ?_)
    rw [(cov_eq (hp hk) b hk).trans (mcov_ag a1 a2 a3 hk)]
    rfl
theorem sl_dig (hG : GInv wide high guns sil dug fc lc clay col row kC sC rC kM sM rM rds rdOf) {c : Nat} (hc : c < wide * high) : (openF wide high (wide * high) guns clay kC sC rC sil c && (fc c || nextF wide fc lc dug c)) = digB (decide (0 < clay c ∧ stF sM (guns + 0) c = false)) (shotQ (mshotB wide (guns + 0) kM sM rM sil c)) (byDugB wide (wide * high) dug c) := by
  obtain ⟨⟨-, h6, -, h36, h5, -, -, -, -, -, -, b, -, -, hfc, hlc, hd, -⟩, -, ⟨a1, a2, a3⟩, -⟩ := hG
  rw [dig_eq (wide_pos hc) h36 h6 h5 b hfc hlc hd hc, stF_ag a2, mshot_ag a1 a2 a3]
  rfl
theorem sl_digA (hG : GInv wide high guns sil dug fc lc clay col row kC sC rC kM sM rM rds rdOf) {c1 : Int} : aOf (wide * high) (fun k => if (openF wide high (wide * high) guns clay kC sC rC sil k && (fc k || nextF wide fc lc dug k)) = true then (if dug k = true then 0 else ((clay k : Nat) : Int)) else -3) c1 = aOf (wide * high) (fun k => if (digB (decide (0 < clay k ∧ stF sM (guns + 0) k = false)) (shotQ (mshotB wide (guns + 0) kM sM rM sil k)) (byDugB wide (wide * high) dug k)) = true then (if dug k = true then 0 else ((clay k : Nat) : Int)) else -3) c1 :=
  aOf_cong fun k hk => by (try dsimp only); rw [sl_dig hG hk]
theorem sl_digU (hG : GInv wide high guns sil dug fc lc clay col row kC sC rC kM sM rM rds rdOf) {c1 : Int} {d1 d2 : Nat → Bool} (h1 : d1 = (if (0 ≤ c1 ∧ c1 < ((wide * high : Nat) : Int)) ∧ (openF wide high (wide * high) guns clay kC sC rC sil c1.toNat && (fc c1.toNat || nextF wide fc lc dug c1.toNat)) = true then (fun x9 => dug x9 || decide (x9 = c1.toNat)) else dug)) (h2 : d2 = (if (0 ≤ c1 ∧ c1 < ((wide * high : Nat) : Int)) ∧ (digB (decide (0 < clay c1.toNat ∧ stF sM (guns + 0) c1.toNat = false)) (shotQ (mshotB wide (guns + 0) kM sM rM sil c1.toNat)) (byDugB wide (wide * high) dug c1.toNat)) = true then (fun x9 => dug x9 || decide (x9 = c1.toNat)) else dug)) : d1 = d2 ∧ GInv wide high guns sil d1 fc lc clay col row kC sC rC kM sM rM rds rdOf := by
  have hd := hG.1.2.2.2.2.2.2.2.2.2.2.2.2.2.2.2.2.1
  by_cases q : 0 ≤ c1 ∧ c1 < ((wide * high : Nat) : Int)
  · have hc : c1.toNat < wide * high := by omega
    rw [← sl_dig hG hc] at h2
    refine ⟨h1.trans h2.symm, gi_dug hG fun i hi => ?_⟩
    rw [h1] at hi
    split at hi
    · rw [Bool.or_eq_true] at hi
      rcases hi with hi | hi
      · exact hd i hi
      · rw [of_decide_eq_true hi]
        exact hc
    · exact hd i hi
  · rw [if_neg (fun z => q z.1)] at h1 h2
    rw [h1, h2]
    exact ⟨rfl, hG⟩
theorem sl_fill (hG : GInv wide high guns sil dug fc lc clay col row kC sC rC kM sM rM rds rdOf) {d1 d2 : Nat → Bool} (h1 : d1 = (if wide * high = 0 then dug else fun _ => false)) (h2 : d2 = (if guns = 0 then dug else fun _ => false)) : (if wide * high = 0 then -3 else ((cntB dug 64 : Nat) : Int)) = (if guns = 0 then -3 else ((cntB dug 64 : Nat) : Int)) ∧ d1 = d2 ∧ GInv wide high guns sil d1 fc lc clay col row kC sC rC kM sM rM rds rdOf := by
  have hd := hG.1.2.2.2.2.2.2.2.2.2.2.2.2.2.2.2.2.1
  have h0 := hG.2.2.2.1
  by_cases q : guns = 0
  · rw [if_pos (h0.mp q)] at h1 ⊢
    rw [if_pos q] at h2 ⊢
    rw [h1, h2]
    exact ⟨rfl, rfl, hG⟩
  · rw [if_neg (fun z => q (h0.mpr z))] at h1 ⊢
    rw [if_neg q] at h2 ⊢
    rw [h1, h2]
    exact ⟨rfl, rfl, gi_dug hG fun i hi => Bool.noConfusion hi⟩
theorem gi_d63 (hG : GInv wide high guns sil dug fc lc clay col row kC sC rC kM sM rM rds rdOf) : dug 63 = false := by
  have hd := hG.1.2.2.2.2.2.2.2.2.2.2.2.2.2.2.2.2.1 63
  have h36 := hG.2.1.2.2.1
  cases e : dug 63 with
  | false => rfl
  | true =>
    have := hd e
    omega
end GI
/-! 3: ways -/
theorem way_sap {wide high n : Nat} {clay kC sC rC kM sM rM : Nat → Nat} {sl dug : Nat → Bool} (h5 : n ≤ 5) (hs : ∀ g, g < n → sC g < wide * high) (a1 : AG n kC kM) (a2 : AG n sC sM) (a3 : AG n rC rM) {to : Nat} (hto : to < wide * high) (k : Int) :
    wayZ wide (wide * high) high (wgC (openF wide high (wide * high) n clay kC sC rC sl) (fun _ => false) dug clay) (dF (wide * high) to (nxtB wide) (wgC (openF wide high (wide * high) n clay kC sC rC sl) (fun _ => false) dug clay)) k = wayZ wide (wide * high) high (fun c => wgtF false (decide (0 < clay c ∧ stF sM n c = false)) (shotQ (mshotB wide n kM sM rM sl c)) (if dug c = true then 0 else clay c)) (dF (wide * high) to (nxtB wide) (fun c => wgtF false (decide (0 < clay c ∧ stF sM n c = false)) (shotQ (mshotB wide n kM sM rM sl c)) (if dug c = true then 0 else clay c))) k :=
  way_W (wide_pos hto) rfl hto (fun c hc => by rw [wg_sap (wide_pos hto) h5 hs hc, stF_ag a2, mshot_ag a1 a2 a3]) k
theorem way_rush {wide high n : Nat} {clay kC sC rC kM sM rM : Nat → Nat} {sl dug : Nat → Bool} (h5 : n ≤ 5) (hs : ∀ g, g < n → sC g < wide * high) (a1 : AG n kC kM) (a2 : AG n sC sM) (a3 : AG n rC rM) {to : Nat} (hto : to < wide * high) (k : Int) :
    wayZ wide (wide * high) high (wgC (soilF (wide * high) n clay sC) (shotF wide high n kC sC rC sl) dug clay) (dF (wide * high) to (nxtB wide) (wgC (soilF (wide * high) n clay sC) (shotF wide high n kC sC rC sl) dug clay)) k = wayZ wide (wide * high) high (fun c => wgtF true (decide (0 < clay c ∧ stF sM n c = false)) (shotQ (mshotB wide n kM sM rM sl c)) (if dug c = true then 0 else clay c)) (dF (wide * high) to (nxtB wide) (fun c => wgtF true (decide (0 < clay c ∧ stF sM n c = false)) (shotQ (mshotB wide n kM sM rM sl c)) (if dug c = true then 0 else clay c))) k :=
  way_W (wide_pos hto) rfl hto (fun c hc => by rw [wg_rush (wide_pos hto) h5 hs hc, stF_ag a2, mshot_ag a1 a2 a3]) k
section GI
variable {wide high guns : Nat} {sil dug fc lc : Nat → Bool} {clay col row kC sC rC kM sM rM : Nat → Nat} {rds : Nat} {rdOf : Nat → Nat}
theorem sl_sap (hG : GInv wide high guns sil dug fc lc clay col row kC sC rC kM sM rM rds rdOf) {c1 k1 : Int} : aOf (wide * high) (fun c => if -2 ≤ k1 ∧ k1 ≤ 35 then wayZ wide (wide * high) high (wgC (openF wide high (wide * high) guns clay kC sC rC sil) (fun _ => false) dug clay) (dF (wide * high) c (nxtB wide) (wgC (openF wide high (wide * high) guns clay kC sC rC sil) (fun _ => false) dug clay)) k1 else -2) c1 = aOf (wide * high) (fun c => if -2 ≤ k1 ∧ k1 ≤ 35 then wayZ wide (wide * high) high (fun c => wgtF false (decide (0 < clay c ∧ stF sM (guns + 0) c = false)) (shotQ (mshotB wide (guns + 0) kM sM rM sil c)) (if dug c = true then 0 else clay c)) (dF (wide * high) c (nxtB wide) (fun c => wgtF false (decide (0 < clay c ∧ stF sM (guns + 0) c = false)) (shotQ (mshotB wide (guns + 0) kM sM rM sil c)) (if dug c = true then 0 else clay c))) k1 else -2) c1 := by
  obtain ⟨⟨-, -, -, -, h5, -, -, -, -, -, -, b, -⟩, -, ⟨a1, a2, a3⟩, -⟩ := hG
  refine aOf_cong fun c hc => ?_
  try dsimp only
  rw [way_sap h5 b a1 a2 a3 hc k1]
  rfl
theorem sl_rush (hG : GInv wide high guns sil dug fc lc clay col row kC sC rC kM sM rM rds rdOf) {c1 k1 : Int} : aOf (wide * high) (fun c => if -3 ≤ k1 ∧ k1 ≤ 35 then wayZ wide (wide * high) high (wgC (soilF (wide * high) guns clay sC) (shotF wide high guns kC sC rC sil) dug clay) (dF (wide * high) c (nxtB wide) (wgC (soilF (wide * high) guns clay sC) (shotF wide high guns kC sC rC sil) dug clay)) k1 else -2) c1 = aOf (wide * high) (fun c => if -3 ≤ k1 ∧ k1 ≤ 35 then wayZ wide (wide * high) high (fun c => wgtF true (decide (0 < clay c ∧ stF sM (guns + 0) c = false)) (shotQ (mshotB wide (guns + 0) kM sM rM sil c)) (if dug c = true then 0 else clay c)) (dF (wide * high) c (nxtB wide) (fun c => wgtF true (decide (0 < clay c ∧ stF sM (guns + 0) c = false)) (shotQ (mshotB wide (guns + 0) kM sM rM sil c)) (if dug c = true then 0 else clay c))) k1 else -2) c1 := by
  obtain ⟨⟨-, -, -, -, h5, -, -, -, -, -, -, b, -⟩, -, ⟨a1, a2, a3⟩, -⟩ := hG
  refine aOf_cong fun c hc => ?_
  try dsimp only
  rw [way_rush h5 b a1 a2 a3 hc k1]
  rfl
theorem sl_has (hG : GInv wide high guns sil dug fc lc clay col row kC sC rC kM sM rM rds rdOf) {c : Nat} (hc : c < wide * high) (g : Nat) : rchF wide fc lc (openF wide high (wide * high) guns clay kC sC rC (fun x9 => (g).testBit x9 || (sil) x9)) (wide * high) c = decide (0 < wayZ wide (wide * high) high (fun c => wgtF false (decide (0 < clay c ∧ stF sM (guns + 0) c = false)) (shotQ (mshotB wide (guns + 0) kM sM rM (fun x9 => (sil) x9 || (fun x9 => (g).testBit x9) x9) c)) (if dug c = true then 0 else clay c)) (dF (wide * high) c (nxtB wide) (fun c => wgtF false (decide (0 < clay c ∧ stF sM (guns + 0) c = false)) (shotQ (mshotB wide (guns + 0) kM sM rM (fun x9 => (sil) x9 || (fun x9 => (g).testBit x9) x9) c)) (if dug c = true then 0 else clay c))) (-1)) := by
  obtain ⟨⟨-, h6, -, h36, h5, h9, -, -, -, -, -, b, -, -, hfc, hlc, -⟩, -, ⟨a1, a2, a3⟩, -⟩ := hG
  rw [rch_way (dug := dug) (clay := clay) (wide_pos hc) h36 h6 h9 hfc hlc (fun i hi => openF_lt hi) hc, way_sap h5 b a1 a2 a3 hc (-1), ors_eq sil g]
  rfl
theorem sl_silence (hG : GInv wide high guns sil dug fc lc clay col row kC sC rC kM sM rM rds rdOf) {c1 : Int} : aOf (wide * high) (fun c => slZ (okS sil) (fun g => rchF wide fc lc (openF wide high (wide * high) guns clay kC sC rC (fun x9 => (g).testBit x9 || (sil) x9)) (wide * high) c) (2 ^ guns)) c1 = aOf (wide * high) (fun c => slZ (okS sil) (fun g => decide (0 < wayZ wide (wide * high) high (fun c => wgtF false (decide (0 < clay c ∧ stF sM (guns + 0) c = false)) (shotQ (mshotB wide (guns + 0) kM sM rM (fun x9 => (sil) x9 || (fun x9 => (g).testBit x9) x9) c)) (if dug c = true then 0 else clay c)) (dF (wide * high) c (nxtB wide) (fun c => wgtF false (decide (0 < clay c ∧ stF sM (guns + 0) c = false)) (shotQ (mshotB wide (guns + 0) kM sM rM (fun x9 => (sil) x9 || (fun x9 => (g).testBit x9) x9) c)) (if dug c = true then 0 else clay c))) (-1))) (2 ^ guns)) c1 :=
  aOf_cong fun _ hc => slZ_cong fun g _ => sl_has hG hc g
theorem sl_odds (hG : GInv wide high guns sil dug fc lc clay col row kC sC rC kM sM rM rds rdOf) {c1 which : Int} : (if (0 ≤ c1 ∧ c1 < ((wide * high : Nat) : Int)) ∧ (0 ≤ which ∧ which ≤ 1) then (if which = 0 then (((hvU 4 (cntB (fun g => okS sil g && rchF wide fc lc (openF wide high (wide * high) guns clay kC sC rC (fun x9 => (g).testBit x9 || (sil) x9)) (wide * high) c1.toNat) (2 ^ guns)) (cntB (okS sil) (2 ^ guns))).1 : Nat) : Int) else (((hvU 4 (cntB (fun g => okS sil g && rchF wide fc lc (openF wide high (wide * high) guns clay kC sC rC (fun x9 => (g).testBit x9 || (sil) x9)) (wide * high) c1.toNat) (2 ^ guns)) (cntB (okS sil) (2 ^ guns))).2 : Nat) : Int)) else -9223372036854775808) = (if (0 ≤ c1 ∧ c1 < ((wide * high : Nat) : Int)) ∧ (0 ≤ which ∧ which ≤ 1) then shZ (cntB (fun g => okS sil g && decide (0 < wayZ wide (wide * high) high (fun c => wgtF false (decide (0 < clay c ∧ stF sM (guns + 0) c = false)) (shotQ (mshotB wide (guns + 0) kM sM rM (fun x9 => (sil) x9 || (fun x9 => (g).testBit x9) x9) c)) (if dug c = true then 0 else clay c)) (dF (wide * high) c1.toNat (nxtB wide) (fun c => wgtF false (decide (0 < clay c ∧ stF sM (guns + 0) c = false)) (shotQ (mshotB wide (guns + 0) kM sM rM (fun x9 => (sil) x9 || (fun x9 => (g).testBit x9) x9) c)) (if dug c = true then 0 else clay c))) (-1))) (2 ^ guns)) (cntB (okS sil) (2 ^ guns)) which else -9223372036854775808) := by
  by_cases q : (0 ≤ c1 ∧ c1 < ((wide * high : Nat) : Int)) ∧ (0 ≤ which ∧ which ≤ 1)
  · rw [if_pos q, if_pos q]
    have hc : c1.toNat < wide * high := by omega
    have hs := hG.1.2.2.2.2.2.2.2.2.2.2.2.2.2.2.2.2.2
    have h4 := hG.2.1.2.2.2.1
    refine (odds_eq (f := fun g => rchF wide fc lc (openF wide high (wide * high) guns clay kC sC rC (fun x9 => (g).testBit x9 || (sil) x9)) (wide * high) c1.toNat) h4 (fun g hg => (hs g hg).2) q.2).trans ?_
    have e := cntB_cong (n := 2 ^ guns) (f := fun g => okS sil g && rchF wide fc lc (openF wide high (wide * high) guns clay kC sC rC (fun x9 => (g).testBit x9 || (sil) x9)) (wide * high) c1.toNat) (fun g _ => congrArg (fun b => okS sil g && b) (sl_has hG hc g))
    rw [e]
  · rw [if_neg q, if_neg q]
theorem sl_brOf (hG : GInv wide high guns sil dug fc lc clay col row kC sC rC kM sM rM rds rdOf) {g : Nat} (hg : g < guns) : nvZ (bnC (fun c => snZ (wayZ wide (wide * high) high (wgC (openF wide high (wide * high) guns clay kC sC rC sil) (fun _ => false) dug clay) (dF (wide * high) c (nxtB wide) (wgC (openF wide high (wide * high) guns clay kC sC rC sil) (fun _ => false) dug clay)) (-2))) wide high (sC g) 4) = brZ (fun c => if nxtB wide c (sM g) = true then wayZ wide (wide * high) high (fun c => wgtF false (decide (0 < clay c ∧ stF sM (guns + 0) c = false)) (shotQ (mshotB wide (guns + 0) kM sM rM sil c)) (if dug c = true then 0 else clay c)) (dF (wide * high) c (nxtB wide) (fun c => wgtF false (decide (0 < clay c ∧ stF sM (guns + 0) c = false)) (shotQ (mshotB wide (guns + 0) kM sM rM sil c)) (if dug c = true then 0 else clay c))) (-2) else -9) (wide * high) := by
  have hp := gi_pos hG hg
  obtain ⟨⟨-, -, -, -, h5, -, -, -, -, -, -, b, -⟩, -, ⟨a1, a2, a3⟩, -⟩ := hG
  rw [breach_eq hp (b g hg) (wv := fun c => wayZ wide (wide * high) high (wgC (openF wide high (wide * high) guns clay kC sC rC sil) (fun _ => false) dug clay) (dF (wide * high) c (nxtB wide) (wgC (openF wide high (wide * high) guns clay kC sC rC sil) (fun _ => false) dug clay)) (-2)) (fun u => wayZ_2 _ _ _ _ _)]
  refine brZ_cong fun c hc => ?_
  try dsimp only
  rw [way_sap h5 b a1 a2 a3 hc (-2), a2 g hg]
  rfl
theorem sl_breach (hG : GInv wide high guns sil dug fc lc clay col row kC sC rC kM sM rM rds rdOf) {g1 : Int} : aOf guns (fun g => nvZ (bnC (fun c => snZ (wayZ wide (wide * high) high (wgC (openF wide high (wide * high) guns clay kC sC rC sil) (fun _ => false) dug clay) (dF (wide * high) c (nxtB wide) (wgC (openF wide high (wide * high) guns clay kC sC rC sil) (fun _ => false) dug clay)) (-2))) wide high (sC g) 4)) g1 = aOf guns (fun g => brZ (fun c => if nxtB wide c (sM g) = true then wayZ wide (wide * high) high (fun c => wgtF false (decide (0 < clay c ∧ stF sM (guns + 0) c = false)) (shotQ (mshotB wide (guns + 0) kM sM rM sil c)) (if dug c = true then 0 else clay c)) (dF (wide * high) c (nxtB wide) (fun c => wgtF false (decide (0 < clay c ∧ stF sM (guns + 0) c = false)) (shotQ (mshotB wide (guns + 0) kM sM rM sil c)) (if dug c = true then 0 else clay c))) (-2) else -9) (wide * high)) g1 :=
  aOf_cong fun _ hg => sl_brOf hG hg
theorem sl_day (hG : GInv wide high guns sil dug fc lc clay col row kC sC rC kM sM rM rds rdOf) {what : Int} : (if 0 ≤ what ∧ what ≤ 1 then (if wide * high = 0 then -3 else dyC what (fun g => bnC (fun c => snZ (wayZ wide (wide * high) high (wgC (openF wide high (wide * high) guns clay kC sC rC sil) (fun _ => false) dug clay) (dF (wide * high) c (nxtB wide) (wgC (openF wide high (wide * high) guns clay kC sC rC sil) (fun _ => false) dug clay)) (-2))) wide high (sC g) 4) guns) else -2) = (if 0 ≤ what ∧ what ≤ 1 then (if guns = 0 then -3 else if what = 0 then dyG (fun g => brZ (fun c => if nxtB wide c (sM g) = true then wayZ wide (wide * high) high (fun c => wgtF false (decide (0 < clay c ∧ stF sM (guns + 0) c = false)) (shotQ (mshotB wide (guns + 0) kM sM rM sil c)) (if dug c = true then 0 else clay c)) (dF (wide * high) c (nxtB wide) (fun c => wgtF false (decide (0 < clay c ∧ stF sM (guns + 0) c = false)) (shotQ (mshotB wide (guns + 0) kM sM rM sil c)) (if dug c = true then 0 else clay c))) (-2) else -9) (wide * high)) guns else brZ (fun g => brZ (fun c => if nxtB wide c (sM g) = true then wayZ wide (wide * high) high (fun c => wgtF false (decide (0 < clay c ∧ stF sM (guns + 0) c = false)) (shotQ (mshotB wide (guns + 0) kM sM rM sil c)) (if dug c = true then 0 else clay c)) (dF (wide * high) c (nxtB wide) (fun c => wgtF false (decide (0 < clay c ∧ stF sM (guns + 0) c = false)) (shotQ (mshotB wide (guns + 0) kM sM rM sil c)) (if dug c = true then 0 else clay c))) (-2) else -9) (wide * high)) guns) else -2) := by
  have h0 := hG.2.2.2.1
  by_cases w : 0 ≤ what ∧ what ≤ 1
  · rw [if_pos w, if_pos w]
    by_cases q : guns = 0
    · rw [if_pos (h0.mp q), if_pos q]
    · rw [if_neg (fun z => q (h0.mpr z)), if_neg q]
      exact dyC_eq (fun g => bnC_in (fun c => snZ_in (wayZ_2 _ _ _ _ _)) _ _ _ _) (fun g hg => (sl_brOf hG hg).symm)
  · rw [if_neg w, if_neg w]
theorem sl_post (hG : GInv wide high guns sil dug fc lc clay col row kC sC rC kM sM rM rds rdOf) {c1 what : Int} : aOf (wide * high) (fun c => if 0 ≤ what ∧ what ≤ 1 then poC what (fun p => snZ (wayZ wide (wide * high) high (wgC (openF wide high (wide * high) (guns + 1) clay (up kC guns 0) (up sC guns p) (up rC guns 2) sil) (fun _ => false) dug clay) (dF (wide * high) c (nxtB wide) (wgC (openF wide high (wide * high) (guns + 1) clay (up kC guns 0) (up sC guns p) (up rC guns 2) sil) (fun _ => false) dug clay)) (-2))) (fun p => cbpB wide high guns sC p c) (wide * high) else -2) c1 = aOf (wide * high) (fun c => psA what (fun p => if ((p ≠ c ∧ stF sM (guns + 0) p = false ∧ lookF wide p c 2 (stF sM (guns + 0)) = false)) then ntZ (wayZ wide (wide * high) high (fun c => wgtF false (decide (0 < clay c ∧ stF (up sM guns p) (guns + 1) c = false)) (shotQ (mshotB wide (guns + 1) (up kM guns 0) (up sM guns p) (up rM guns 2) sil c)) (if dug c = true then 0 else clay c)) (dF (wide * high) c (nxtB wide) (fun c => wgtF false (decide (0 < clay c ∧ stF (up sM guns p) (guns + 1) c = false)) (shotQ (mshotB wide (guns + 1) (up kM guns 0) (up sM guns p) (up rM guns 2) sil c)) (if dug c = true then 0 else clay c))) (-2)) else -9) (wide * high)) c1 := by
  obtain ⟨⟨-, -, -, -, -, -, -, -, -, -, -, b, -⟩, ⟨-, -, -, h4, -⟩, ⟨a1, a2, a3⟩, -⟩ := hG
  refine aOf_cong fun c hc => ?_
  try dsimp only
  refine poC_eq (wv := fun p => wayZ wide (wide * high) high (wgC (openF wide high (wide * high) (guns + 1) clay (up kC guns 0) (up sC guns p) (up rC guns 2) sil) (fun _ => false) dug clay) (dF (wide * high) c (nxtB wide) (wgC (openF wide high (wide * high) (guns + 1) clay (up kC guns 0) (up sC guns p) (up rC guns 2) sil) (fun _ => false) dug clay)) (-2)) (fun p => wayZ_2 _ _ _ _ _) (fun p hp => ?_)
  try dsimp only
  have hs : ∀ g, g < guns + 1 → up sC guns p g < wide * high := fun g hg => by
    unfold up
    split
    · exact hp
    · exact b g (by omega)
  rw [way_sap (by omega) hs (up_ag1 a1) (up_ag1 a2) (up_ag1 a3) hc (-2)]
  have e : (cbpB wide high guns sC p c = true) ↔ (p ≠ c ∧ stF sM (guns + 0) p = false ∧ lookF wide p c 2 (stF sM (guns + 0)) = false) := by
    unfold cbpB
    rw [look_seen (wide_pos hp) hp hc, stF_ag a2, Bool.and_eq_true, Bool.and_eq_true, decide_eq_true_iff, Bool.not_eq_true', Bool.not_eq_true']
    exact ⟨fun q => ⟨q.1.1, q.1.2, q.2⟩, fun q => ⟨⟨q.1, q.2.1⟩, q.2.2⟩⟩
  by_cases q : cbpB wide high guns sC p c = true
  · rw [if_pos q, if_pos (e.mp q)]
  · rw [if_neg q, if_neg (fun z => q (e.mpr z))]
theorem sl_postU (hG : GInv wide high guns sil dug fc lc clay col row kC sC rC kM sM rM rds rdOf) {a1 a2 a3 b1 b2 b3 : Nat} (ha : a1 ≤ 2 ∧ a2 < 36 ∧ a3 ≤ 9) (hb : b1 ≤ 2 ∧ b2 < 36 ∧ b3 ≤ 9) : GInv wide high guns sil dug fc lc clay col row (up kC guns a1) (up sC guns a2) (up rC guns a3) (up kM guns b1) (up sM guns b2) (up rM guns b3) rds rdOf := by
  have lt : ∀ {f : Nat → Nat} {v : Nat}, (∀ k, f k < 36) → v < 36 → ∀ k, up f guns v k < 36 := fun h hv k => by
    unfold up
    split
    · exact hv
    · exact h k
  have g1 := gi_kind hG (up_le kC hG.1.2.2.2.2.2.2.2.2.1 ha.1) (up_le kM hG.2.1.2.2.2.2.2.2.1 hb.1) (up_ag2 hG.2.2.1.1)
  have g2 := gi_reach g1 (up_le rC hG.1.2.2.2.2.2.2.2.2.2.2.1 ha.2.2) (up_le rM hG.2.1.2.2.2.2.2.2.2.2.1 hb.2.2) (up_ag2 hG.2.2.1.2.2)
  exact gi_stand g2 (lt hG.1.2.2.2.2.2.2.2.2.2.1 ha.2.1) (lt hG.2.1.2.2.2.2.2.2.2.1 hb.2.1) (up_ag2 hG.2.2.1.2.1) fun k hk => by
    rw [up_n _ _ (by omega)]
    exact hG.1.2.2.2.2.2.2.2.2.2.2.2.1 k hk
/-! 4: what was shot at -/
theorem sl_reading (hG : GInv wide high guns sil dug fc lc clay col row kC sC rC kM sM rM rds rdOf) {c1 : Int} {r : Nat} {o : Nat → Nat} (h1 : r = (if (0 ≤ c1 ∧ c1 < ((wide * high : Nat) : Int)) ∧ rds ≠ 8 then rds + 1 else rds)) (h2 : o = (if (0 ≤ c1 ∧ c1 < ((wide * high : Nat) : Int)) ∧ rds ≠ 8 then up rdOf rds c1.toNat else rdOf)) : GInv wide high guns sil dug fc lc clay col row kC sC rC kM sM rM r o := by
  obtain ⟨h8, h36, hx⟩ := hG.2.2.2.2
  have hm := hG.2.1.2.2.1
  by_cases q : (0 ≤ c1 ∧ c1 < ((wide * high : Nat) : Int)) ∧ rds ≠ 8
  · rw [if_pos q] at h1 h2
    rw [h1, h2]
    refine gi_rds hG (by omega) (fun x => ?_) (fun x hx2 => ?_)
    · unfold up
      split
      · omega
      · exact h36 x
    · unfold up
      split
      · omega
      · exact hx x (by omega)
  · rw [if_neg q] at h1 h2
    rw [h1, h2]
    exact hG
theorem sl_back (hG : GInv wide high guns sil dug fc lc clay col row kC sC rC kM sM rM rds rdOf) {k1 : Int} : GInv wide high guns sil dug fc lc clay col row kC sC rC kM sM rM (uBack rds k1) rdOf := by
  obtain ⟨h8, h36, hx⟩ := hG.2.2.2.2
  have le : uBack rds k1 ≤ rds := by
    unfold uBack
    split <;> omega
  exact gi_rds hG (by omega) h36 fun x hx2 => hx x (by omega)
theorem so_eq (hG : GInv wide high guns sil dug fc lc clay col row kC sC rC kM sM rM rds rdOf) {rdWas : Nat → Bool} {k2 s2 r2 k3 s3 r3 : Nat → Nat} (hs : ∀ g, g < guns → s2 g < wide * high) (a1 : AG guns k2 k3) (a2 : AG guns s2 s3) (a3 : AG guns r2 r3) : aSo rds rdOf rdWas (shotF wide high guns k2 s2 r2 sil) = okQ (guns + 0) wide k3 s3 r3 sil rds rdOf rdWas := by
  unfold okQ
  refine aSo_cong fun x hx => ?_
  have hc := hG.2.2.2.2.2.2 x hx
  rw [shotF_Q (wide_pos hc) hG.1.2.2.2.2.1 hs hc, mshot_ag a1 a2 a3]
  rfl
theorem sl_reaches (hG : GInv wide high guns sil dug fc lc clay col row kC sC rC kM sM rM rds rdOf) {rdWas : Nat → Bool} {g1 : Int} : aOfS guns (fun k => bitsF (fun v => aSo rds rdOf rdWas (shotF wide high guns kC sC (up rC k v) sil)) (10)) g1 = aOfS guns (fun k => bitsF (fun v => okQ (guns + 0) wide kM sM (up rM k v) sil rds rdOf rdWas) (10)) g1 :=
  aOfS_cong fun _ _ => congrArg iS (bitsF_cong fun _ _ => so_eq hG hG.1.2.2.2.2.2.2.2.2.2.2.2.1 hG.2.2.1.1 hG.2.2.1.2.1 (up_ag hG.2.2.1.2.2))
theorem sl_kinds (hG : GInv wide high guns sil dug fc lc clay col row kC sC rC kM sM rM rds rdOf) {rdWas : Nat → Bool} {g1 : Int} : aOfS guns (fun k => bitsF (fun v => aSo rds rdOf rdWas (shotF wide high guns (up kC k v) sC rC sil)) (3)) g1 = aOfS guns (fun k => bitsF (fun v => okQ (guns + 0) wide (up kM k v) sM rM sil rds rdOf rdWas) (3)) g1 :=
  aOfS_cong fun _ _ => congrArg iS (bitsF_cong fun _ _ => so_eq hG hG.1.2.2.2.2.2.2.2.2.2.2.2.1 (up_ag hG.2.2.1.1) hG.2.2.1.2.1 hG.2.2.1.2.2)
theorem sl_haunts (hG : GInv wide high guns sil dug fc lc clay col row kC sC rC kM sM rM rds rdOf) {rdWas : Nat → Bool} {g1 : Int} : aOfL guns (fun k => bitsF (fun v => aSo rds rdOf rdWas (shotF wide high guns kC (up sC k v) rC sil)) (wide * high)) g1 = aOfL guns (fun k => bitsF (fun v => okQ (guns + 0) wide kM (up sM k v) rM sil rds rdOf rdWas) (wide * high)) g1 :=
  aOfL_cong fun k _ => congrArg lS (bitsF_cong fun v hv => so_eq hG (fun g hg => by
    unfold up
    split
    · exact hv
    · exact hG.1.2.2.2.2.2.2.2.2.2.2.2.1 g hg) hG.2.2.1.1 (up_ag hG.2.2.1.2.1) hG.2.2.1.2.2)
/-! 5: parts -/
theorem sl_tell (hG : GInv wide high guns sil dug fc lc clay col row kC sC rC kM sM rM rds rdOf) {g1 trc t1 t2 : Int} (h1 : t1 = (if 0 ≤ g1 ∧ g1 < (guns : Int) then tTell kC trc g1.toNat else trc)) (h2 : t2 = (if 0 ≤ g1 ∧ g1 < (guns : Int) then tTell kM trc g1.toNat else trc)) : aOf guns (vTell kC rC) g1 = aOf guns (vTell kM rM) g1 ∧ t1 = t2 := by
  obtain ⟨-, -, ⟨a1, a2, a3⟩, -⟩ := hG
  refine ⟨aOf_cong fun k hk => by unfold vTell; rw [a1 k hk, a3 k hk], ?_⟩
  rw [h1, h2]
  by_cases q : 0 ≤ g1 ∧ g1 < (guns : Int)
  · rw [if_pos q, if_pos q]
    unfold tTell
    rw [a1 _ (by omega)]
  · rw [if_neg q, if_neg q]
theorem sl_fire (hG : GInv wide high guns sil dug fc lc clay col row kC sC rC kM sM rM rds rdOf) {g1 trc t1 t2 : Int} (h1 : t1 = (if 0 ≤ g1 ∧ g1 < (guns : Int) then tTrc trc (if kC g1.toNat = 2 then 5 else 4) else trc)) (h2 : t2 = (if 0 ≤ g1 ∧ g1 < (guns : Int) then tTrc trc (if kM g1.toNat = 2 then 5 else 4) else trc)) : aOf guns (fun k => if kC k = 2 then 90 else ((k : Nat) : Int)) g1 = aOf guns (fun k => if kM k = 2 then 90 else ((k : Nat) : Int)) g1 ∧ t1 = t2 := by
  obtain ⟨-, -, ⟨a1, a2, a3⟩, -⟩ := hG
  refine ⟨aOf_cong fun k hk => by (try dsimp only); rw [a1 k hk], ?_⟩
  rw [h1, h2]
  by_cases q : 0 ≤ g1 ∧ g1 < (guns : Int)
  · rw [if_pos q, if_pos q, a1 _ (by omega)]
  · rw [if_neg q, if_neg q]
theorem sl_as (hG : GInv wide high guns sil dug fc lc clay col row kC sC rC kM sM rM rds rdOf) {g1 k1 f1 f2 : Int} (h1 : f1 = (if (0 ≤ g1 ∧ g1 < (guns : Int)) ∧ (0 ≤ k1 ∧ k1 ≤ 2) ∧ ¬ k1 ≤ ((kC g1.toNat : Nat) : Int) then 2 else 0)) (h2 : f2 = (if (0 ≤ g1 ∧ g1 < (guns : Int)) ∧ (0 ≤ k1 ∧ k1 ≤ 2) ∧ ¬ k1 ≤ ((kM g1.toNat : Nat) : Int) then 2 else 0)) : aOf guns (fun k => if 0 ≤ k1 ∧ k1 ≤ 2 then (if k1 ≤ ((kC k : Nat) : Int) then 1 else -10 - 2) else -2) g1 = aOf guns (fun k => if 0 ≤ k1 ∧ k1 ≤ 2 then (if k1 ≤ ((kM k : Nat) : Int) then 1 else -10 - 2) else -2) g1 ∧ f1 = f2 := by
  obtain ⟨-, -, ⟨a1, a2, a3⟩, -⟩ := hG
  refine ⟨aOf_cong fun k hk => by (try dsimp only); rw [a1 k hk], ?_⟩
  rw [h1, h2]
  by_cases q : 0 ≤ g1 ∧ g1 < (guns : Int)
  · rw [a1 _ (by omega)]
  · rw [if_neg (fun z => q z.1), if_neg (fun z => q z.1)]
end GI
