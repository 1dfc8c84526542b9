/-! ways: the one function of least costs -/
def wgtF (mb soil hit : Bool) (n : Nat) : Nat := if soil = true ∧ (hit = false ∨ mb = true) then (if hit = true then 128000 else 0) + 64 * n + 1 else 100000000
def MRel (n to : Nat) (nx : Nat → Nat → Bool) (W d : Nat → Nat) : Prop :=
  (∀ c, c < n → d c ≤ 100000000) ∧ d to = W to ∧ (∀ c, c < n → W c ≤ d c) ∧ (∀ c, c < n → d c < 100000000 → c = to ∨ ∃ u, u < n ∧ nx c u = true ∧ d u + W c ≤ d c) ∧ ∀ c u, c < n → u < n → nx c u = true → d u < 100000000 → W c < 100000000 → d c ≤ W c + d u
theorem MRel_one {n to : Nat} {nx : Nat → Nat → Bool} {W d e : Nat → Nat} (hW : ∀ c, 1 ≤ W c) (hd : MRel n to nx W d) (he : MRel n to nx W e) : ∀ v, v < 100000000 → ∀ c, c < n → (d c ≤ v → e c = d c) ∧ (e c ≤ v → d c = e c) := by
  intro v
  induction v using Nat.strongRecOn with
  | ind v ih =>
    intro hv c hc
    have key : ∀ {d e : Nat → Nat}, MRel n to nx W d → MRel n to nx W e → (∀ u, u < n → d u < v → e u = d u) → d c ≤ v → e c ≤ d c := by
      intro d e hd he hi hcv
      obtain ⟨-, h2, h3, h4, -⟩ := hd
      obtain ⟨-, g2, -, -, g5⟩ := he
      rcases h4 c hc (by omega) with q | ⟨u, hu, hx, hs⟩
      · rw [q, h2, g2]
        exact Nat.le_refl _
      · have hw := hW c
        have e1 := hi u hu (by omega)
        have e2 := g5 c u hc hu hx (by omega) (by omega)
        omega
    have i1 : ∀ u, u < n → d u < v → e u = d u := fun u hu q => (ih (d u) q (by omega) u hu).1 (Nat.le_refl _)
    have i2 : ∀ u, u < n → e u < v → d u = e u := fun u hu q => (ih (e u) q (by omega) u hu).2 (Nat.le_refl _)
    constructor
    · intro q
      have a := key hd he i1 q
      have b := key he hd i2 (by omega)
      omega
    · intro q
      have a := key he hd i2 q
      have b := key hd he i1 (by omega)
      omega
theorem MRel_eq {n to : Nat} {nx : Nat → Nat → Bool} {W d e : Nat → Nat} (hW : ∀ c, 1 ≤ W c) (hd : MRel n to nx W d) (he : MRel n to nx W e) {c : Nat} (hc : c < n) : d c = e c := by
  have h1 := hd.1 c hc
  have h2 := he.1 c hc
  by_cases q : d c < 100000000
  · exact ((MRel_one hW hd he (d c) q c hc).1 (Nat.le_refl _)).symm
  · by_cases q2 : e c < 100000000
    · exact (MRel_one hW hd he (e c) q2 c hc).2 (Nat.le_refl _)
    · omega
noncomputable def dF (n to : Nat) (nx : Nat → Nat → Bool) (W : Nat → Nat) : Nat → Nat := fun c => Classical.epsilon (fun v => ∃ d, MRel n to nx W d ∧ d c = v)
theorem dF_eq {n to : Nat} {nx : Nat → Nat → Bool} {W d : Nat → Nat} (hW : ∀ c, 1 ≤ W c) (hd : MRel n to nx W d) {c : Nat} (hc : c < n) : d c = dF n to nx W c := by
  have h : ∃ v, ∃ d, MRel n to nx W d ∧ d c = v := ⟨_, d, hd, rfl⟩
  obtain ⟨e, he, hv⟩ := Classical.epsilon_spec h
  exact (MRel_eq hW hd he hc).trans hv
/-- the least of what is next -/
def lstF (wide : Nat) (d : Nat → Nat) (c : Nat) : Nat → Nat
  | 0 => 100000000
  | u + 1 => if nxtB wide c u = true ∧ d u < lstF wide d c u then d u else lstF wide d c u
theorem lstF_le (wide : Nat) (d : Nat → Nat) (c : Nat) : ∀ n, lstF wide d c n ≤ 100000000
  | 0 => Nat.le_refl _
  | n + 1 => by
    have h := lstF_le wide d c n
    rw [lstF]
    split <;> omega
theorem lstF_low {wide : Nat} {d : Nat → Nat} {c : Nat} : ∀ {n u : Nat}, u < n → nxtB wide c u = true → lstF wide d c n ≤ d u
  | 0, u, h, _ => absurd h (Nat.not_lt_zero _)
  | n + 1, u, h, hx => by
    rw [lstF]
    by_cases e : u = n
    · subst e
      split
      · exact Nat.le_refl _
      · next q => 
        rw [not_and] at q
        have := q hx
        omega
    · have h2 := lstF_low (d := d) (n := n) (u := u) (by omega) hx
      split <;> omega
theorem lstF_at {wide : Nat} {d : Nat → Nat} {c : Nat} : ∀ {n : Nat}, lstF wide d c n < 100000000 → ∃ u, u < n ∧ nxtB wide c u = true ∧ d u = lstF wide d c n
  | 0, h => absurd h (by unfold lstF; omega)
  | n + 1, h => by
    rw [lstF] at h ⊢
    split at h
    · next q =>
      rw [if_pos q]
      exact ⟨n, by omega, q.1, rfl⟩
    · next q =>
      rw [if_neg q]
      obtain ⟨u, h1, h2, h3⟩ := lstF_at h
      exact ⟨u, by omega, h2, h3⟩
/-- what the measuring keeps -/
def MInv (wide n to : Nat) (W d : Nat → Nat) : Prop := (∀ c, d c ≤ 100000000) ∧ d to = W to ∧ (∀ c, c < n → W c ≤ d c) ∧ ∀ c, c < n → d c < 100000000 → c = to ∨ ∃ u, u < n ∧ nxtB wide c u = true ∧ d u + W c ≤ d c
def MRlx (wide n : Nat) (W d : Nat → Nat) (m : Nat) : Prop := ∀ c, c < m → W c < 100000000 → lstF wide d c n < 100000000 → d c ≤ W c + lstF wide d c n
theorem MInv_step {wide n to : Nat} {W d : Nat → Nat} (hto : to < n) (h1 : ∀ c, 1 ≤ W c) (h : MInv wide n to W d) {c : Nat} (hc : c < n) (hl : lstF wide d c n < 100000000) (hs : W c + lstF wide d c n < d c) : MInv wide n to W (up d c (W c + lstF wide d c n)) := by
  obtain ⟨a1, a2, a3, a4⟩ := h
  have hct : c ≠ to := fun q => by rw [q] at hs; rw [a2] at hs; omega
  refine ⟨fun j => ?_, ?_, fun j hj => ?_, fun j hj hf => ?_⟩
  · unfold up
    split
    · have := a1 c; omega
    · exact a1 j
  · rw [up_n d _ (fun q => hct q.symm)]
    exact a2
  · unfold up
    split
    · next q => rw [q]; omega
    · exact a3 j hj
  · by_cases q : j = c
    · subst q
      obtain ⟨u, u1, u2, u3⟩ := lstF_at hl
      right
      have hw := h1 j
      have huj : u ≠ j := fun q => by rw [q] at u3; omega
      refine ⟨u, u1, u2, ?_⟩
      rw [up_n d _ huj, up_s, u3]
      omega
    · rw [up_n d _ q] at hf ⊢
      rcases a4 j hj hf with z | ⟨u, u1, u2, u3⟩
      · exact Or.inl z
      · right
        refine ⟨u, u1, u2, ?_⟩
        unfold up
        split
        · next q2 => rw [q2] at u3; omega
        · exact u3
theorem MRel_end {wide n to : Nat} {W d : Nat → Nat} (h : MInv wide n to W d) (hr : MRlx wide n W d n) : MRel n to (nxtB wide) W d := by
  obtain ⟨a1, a2, a3, a4⟩ := h
  refine ⟨fun c _ => a1 c, a2, a3, a4, fun c u hc hu hx hdu hw => ?_⟩
  have l1 := lstF_low (d := d) hu hx
  have := hr c hc hw (by omega)
  omega
def sumN (f : Nat → Nat) : Nat → Nat
  | 0 => 0
  | n + 1 => sumN f n + f n
theorem sumN_cong {f g : Nat → Nat} : ∀ {n : Nat}, (∀ k, k < n → f k = g k) → sumN f n = sumN g n
  | 0, _ => rfl
  | n + 1, h => by rw [sumN, sumN, sumN_cong (fun k hk => h k (by omega)), h n (by omega)]
theorem sumN_up {f : Nat → Nat} {c v : Nat} (hv : v < f c) : ∀ {n : Nat}, c < n → sumN (up f c v) n < sumN f n
  | 0, h => absurd h (Nat.not_lt_zero _)
  | n + 1, h => by
    rw [sumN, sumN]
    by_cases e : c = n
    · subst e
      rw [up_s, sumN_cong (g := f) (fun k hk => up_n f v (by omega))]
      omega
    · have := sumN_up hv (n := n) (by omega)
      rw [up_n f v (fun q => e q.symm)]
      omega
theorem wgt_a {mb soil hit : Bool} {m n : Nat} (hs : soil = true) (hh : hit = false) (hn : m = n) : 0 + 64 * m + 1 = wgtF mb soil hit n := by
  unfold wgtF
  rw [if_pos ⟨hs, Or.inl hh⟩, hh, if_neg (by decide), hn]
theorem wgt_b {mb soil hit : Bool} {m n : Nat} (hs : soil = true) (hh : hit = true) (hm : mb = true) (hn : m = n) : 128000 + 64 * m + 1 = wgtF mb soil hit n := by
  unfold wgtF
  rw [if_pos ⟨hs, Or.inr hm⟩, hh, if_pos rfl, hn]
theorem wgt_c {mb soil hit : Bool} {n : Nat} (hs : soil = false) : 100000000 = wgtF mb soil hit n := by
  unfold wgtF
  rw [if_neg (fun q => by rw [hs] at q; cases q.1)]
theorem wgt_d {mb soil hit : Bool} {n : Nat} (hh : hit = true) (hm : mb = false) : 100000000 = wgtF mb soil hit n := by
  unfold wgtF
  rw [if_neg (fun q => by rw [hh, hm] at q; rcases q.2 with z | z <;> cases z)]
theorem wgt_ge (mb soil hit : Bool) (n : Nat) : 1 ≤ wgtF mb soil hit n := by
  unfold wgtF
  split <;> omega
theorem wgt_le (mb soil hit : Bool) (n : Nat) (h : n ≤ 9) : wgtF mb soil hit n ≤ 100000000 := by
  unfold wgtF
  split
  · split <;> omega
  · omega
theorem MRlx_s {wide n : Nat} {W d : Nat → Nat} {m : Nat} (h : MRlx wide n W d m) (hn : W m < 100000000 → lstF wide d m n < 100000000 → d m ≤ W m + lstF wide d m n) : MRlx wide n W d (m + 1) := fun c hc => by
  by_cases q : c = m
  · rw [q]
    exact hn
  · exact h c (by omega)
