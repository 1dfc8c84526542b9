/-! the way, cell by cell -/
def pthZ (wide n : Nat) (W d : Nat → Nat) (f : Nat) : Nat → Nat
  | 0 => f
  | j + 1 => (nsR (nsP wide W d (pthZ wide n W d f j)) n n).toNat
def wayZ (wide n high : Nat) (W d : Nat → Nat) (k : Int) : Int :=
  if fsZ d wide high < 0 then -9
  else if k < 0 then (if k = -1 then ((d (fsZ d wide high).toNat % 64 : Nat) : Int) else if k = -2 then ((d (fsZ d wide high).toNat % 128000 / 64 : Nat) : Int) else ((d (fsZ d wide high).toNat / 128000 : Nat) : Int))
  else if ((d (fsZ d wide high).toNat % 64 : Nat) : Int) ≤ k then -9
  else ((pthZ wide n W d (fsZ d wide high).toNat k.toNat : Nat) : Int)
theorem way_step {wide n to : Nat} {W W2 d : Nat → Nat} (hm : MRel n to (nxtB wide) W d) (h64 : ∀ c, W c < 100000000 → W c % 64 = 1) (hW2 : ∀ c, c < n → W2 c = W c) {c : Nat} (hc : c < n) (hf : d c < 100000000) (h2 : 2 ≤ d c % 64) : 0 ≤ nsR (nsP wide W2 d c) n n ∧ (nsR (nsP wide W2 d c) n n).toNat < n ∧ d (nsR (nsP wide W2 d c) n n).toNat < 100000000 ∧ d (nsR (nsP wide W2 d c) n n).toNat % 64 + 1 = d c % 64 := by
  obtain ⟨m1, m2, m3, m4, m5⟩ := hm
  have hw := m3 c hc
  have hw6 := h64 c (by omega)
  have hit : 0 ≤ nsR (nsP wide W2 d c) n n := by
    rcases m4 c hc hf with q | ⟨u, u1, u2, u3⟩
    · rw [q, m2] at h2
      rw [q] at hw6
      omega
    · have hr := m5 c u hc u1 u2 (by omega) (by omega)
      refine nsR_hit u1 ?_ n (Nat.le_refl _) (by omega)
      rw [nsP, u2, hW2 c hc, decide_eq_true (by omega)]
      rfl
  have hin := nsR_in (nsP wide W2 d c) n (by omega) n
  have hok := nsR_ok (Nat.le_refl _) hit
  rw [nsP, Bool.and_eq_true] at hok
  have he := of_decide_eq_true hok.2
  rw [hW2 c hc] at he
  refine ⟨hit, by omega, by omega, by omega⟩
theorem pth_all {wide n to : Nat} {W W2 d : Nat → Nat} (hm : MRel n to (nxtB wide) W d) (h64 : ∀ c, W c < 100000000 → W c % 64 = 1) (hW2 : ∀ c, c < n → W2 c = W c) {f : Nat} (hf : f < n) (hff : d f < 100000000) : ∀ j, j < d f % 64 → pthZ wide n W2 d f j < n ∧ d (pthZ wide n W2 d f j) < 100000000 ∧ d (pthZ wide n W2 d f j) % 64 + j = d f % 64
  | 0, _ => ⟨hf, hff, rfl⟩
  | j + 1, hj => by
    obtain ⟨i1, i2, i3⟩ := pth_all hm h64 hW2 hf hff j (by omega)
    obtain ⟨s1, s2, s3, s4⟩ := way_step hm h64 hW2 i1 i2 (by omega)
    refine ⟨s2, s3, ?_⟩
    show d (nsR _ n n).toNat % 64 + (j + 1) = _
    omega
theorem pth_cong {wide n to : Nat} {W W2 d e : Nat → Nat} (hm : MRel n to (nxtB wide) W d) (h64 : ∀ c, W c < 100000000 → W c % 64 = 1) (hW2 : ∀ c, c < n → W2 c = W c) (hd : ∀ c, c < n → d c = e c) {f : Nat} (hf : f < n) (hff : d f < 100000000) : ∀ j, j < d f % 64 → pthZ wide n W e f j = pthZ wide n W2 d f j
  | 0, _ => rfl
  | j + 1, hj => by
    have ih := pth_cong hm h64 hW2 hd hf hff j (by omega)
    obtain ⟨i1, i2, i3⟩ := pth_all hm h64 hW2 hf hff j (by omega)
    rw [pthZ, pthZ, ih, nsR_cong (q := nsP wide W2 d (pthZ wide n W2 d f j)) (by omega) (fun u hu => ?_)]
    rw [nsP, nsP, hW2 _ i1, hd u hu, hd _ i1]
theorem wayZ_cong {wide n to high : Nat} {W W2 d e : Nat → Nat} {k : Int} (h0 : 0 < wide) (hn : n = wide * high) (hm : MRel n to (nxtB wide) W d) (h64 : ∀ c, W c < 100000000 → W c % 64 = 1) (hW2 : ∀ c, c < n → W2 c = W c) (hd : ∀ c, c < n → d c = e c) (hfi : ∀ y, 0 ≤ fsZ d wide y → d (fsZ d wide y).toNat < 100000000) : wayZ wide n high W e k = wayZ wide n high W2 d k := by
  have e1 : high * wide = n := by rw [hn, Nat.mul_comm]
  have hfs : fsZ d wide high = fsZ e wide high := fsZ_cong h0 (fun c hc => hd c (by omega))
  have hin := fsZ_in d h0 high
  unfold wayZ
  rw [← hfs]
  by_cases q : fsZ d wide high < 0
  · rw [if_pos q, if_pos q]
  · have hfl : (fsZ d wide high).toNat < n := by omega
    rw [if_neg q, if_neg q, ← hd _ hfl]
    by_cases q2 : k < 0
    · rw [if_pos q2, if_pos q2]
    · rw [if_neg q2, if_neg q2]
      by_cases q3 : ((d (fsZ d wide high).toNat % 64 : Nat) : Int) ≤ k
      · rw [if_pos q3, if_pos q3]
      · rw [if_neg q3, if_neg q3, pth_cong hm h64 hW2 hd hfl (hfi high (by omega)) k.toNat (by omega)]
theorem fsZ_far (d : Nat → Nat) {wide : Nat} (h : 0 < wide) : ∀ y, 0 ≤ fsZ d wide y → d (fsZ d wide y).toNat < 100000000
  | 0, q => absurd q (by unfold fsZ; omega)
  | y + 1, q => by
    rw [fsZ] at q ⊢
    split
    · next z => exact z.1
    · next z =>
      rw [if_neg z] at q
      exact fsZ_far d h y q
theorem wgt_64 (mb soil hit : Bool) (n : Nat) (h : wgtF mb soil hit n < 100000000) : wgtF mb soil hit n % 64 = 1 := by
  unfold wgtF at h ⊢
  split at h
  · next q =>
    rw [if_pos q]
    split <;> omega
  · omega
theorem pth_lt {wide n : Nat} {W d : Nat → Nat} {f : Nat} (hf : f < n) : ∀ j, pthZ wide n W d f j < n
  | 0 => hf
  | j + 1 => by
    have h := nsR_in (nsP wide W d (pthZ wide n W d f j)) n (by omega) n
    rw [pthZ]
    omega
theorem wayZ_in {wide high n : Nat} {W d : Nat → Nat} (h0 : 0 < wide) (hn : n = wide * high) (h36 : n ≤ 36) (hd : ∀ k, d k ≤ 100000000) (k : Int) : -9 ≤ wayZ wide n high W d k ∧ wayZ wide n high W d k ≤ 100000000 := by
  have e1 : high * wide = n := by rw [hn, Nat.mul_comm]
  have hin := fsZ_in d h0 high
  have hf := hd (fsZ d wide high).toNat
  unfold wayZ
  by_cases q : fsZ d wide high < 0
  · rw [if_pos q]
    omega
  · have hp := pth_lt (wide := wide) (W := W) (d := d) (show (fsZ d wide high).toNat < n by omega) k.toNat
    rw [if_neg q]
    split
    · split
      · omega
      · split <;> omega
    · split <;> omega
def brZ (its : Nat → Int) : Nat → Int
  | 0 => -9
  | c + 1 => if 0 ≤ its c ∧ (brZ its c < 0 ∨ its c < brZ its c) then its c else brZ its c
theorem brZ_in {its : Nat → Int} (h : ∀ c, -9 ≤ its c ∧ its c ≤ 100000000) : ∀ c, -9 ≤ brZ its c ∧ brZ its c ≤ 100000000
  | 0 => by unfold brZ; omega
  | c + 1 => by
    have h1 := brZ_in h c
    have h2 := h c
    rw [brZ]
    split <;> omega
def dyG (b : Nat → Int) : Nat → Int
  | 0 => -9
  | g + 1 => if 0 ≤ b g ∧ (brZ b g < 0 ∨ b g < brZ b g) then ((g : Nat) : Int) else dyG b g
