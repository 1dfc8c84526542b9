/-! what is put down, what is told -/
theorem pr_no {n c : Nat} {dug sh : Nat → Bool} {clay o : Nat → Nat} (hcl : ∀ k, clay k ≤ 9) (h : (∀ k, o k ≤ 1050881) ∧ ∀ j, j < c → o j = ownV dug sh clay j) (hs : sh c = false) : (∀ k, up o c ((if dug c then 0 else clay c) * 256 + 1) k ≤ 1050881) ∧ ∀ j, j < c + 1 → up o c ((if dug c then 0 else clay c) * 256 + 1) j = ownV dug sh clay j := by
  have hc := hcl c
  refine ⟨up_le o h.1 (by split <;> omega), fun j hj => ?_⟩
  by_cases q : j = c
  · rw [q, up_s, ownV, hs, if_neg (show ¬ (false = true) by decide), Nat.add_zero]
  · rw [up_n _ _ q]
    exact h.2 j (by omega)
theorem pr_yes {n c : Nat} {dug sh : Nat → Bool} {clay o : Nat → Nat} (hcl : ∀ k, clay k ≤ 9) (h : (∀ k, o k ≤ 1050881) ∧ ∀ j, j < c → o j = ownV dug sh clay j) (hs : sh c = true) {v : Nat} (hv : v = (if dug c then 0 else clay c) * 256 + 1 + 1048576) : (∀ k, up (up o c ((if dug c then 0 else clay c) * 256 + 1)) c v k ≤ 1050881) ∧ ∀ j, j < c + 1 → up (up o c ((if dug c then 0 else clay c) * 256 + 1)) c v j = ownV dug sh clay j := by
  have hc := hcl c
  refine ⟨up_le _ (up_le o h.1 (by split <;> omega)) (by rw [hv]; split <;> omega), fun j hj => ?_⟩
  by_cases q : j = c
  · rw [q, up_s, ownV, hs, hv, if_pos rfl]
  · rw [up_n _ _ q, up_n _ _ q]
    exact h.2 j (by omega)
theorem own_1 (dug sh : Nat → Bool) (clay : Nat → Nat) (c : Nat) : 1 ≤ ownV dug sh clay c := by unfold ownV; omega
def fsC (d : Nat → Nat) (w : Nat) : Nat → Int
  | 0 => -9
  | y + 1 => if d (y * w) < 1073741824 ∧ (fsC d w y < 0 ∨ d (y * w) < d (fsC d w y).toNat) then ((y * w : Nat) : Int) else fsC d w y
def lsC (d : Nat → Nat) (w y : Nat) : Nat := if fsC d w y < 0 then 1073741824 else d (fsC d w y).toNat
theorem fsC_far (d : Nat → Nat) (w : Nat) : ∀ y, 0 ≤ fsC d w y → d (fsC d w y).toNat < 1073741824
  | 0, q => absurd q (by unfold fsC; omega)
  | y + 1, q => by
    rw [fsC] at q ⊢
    split
    · next z => exact z.1
    · next z =>
      rw [if_neg z] at q
      exact fsC_far d w y q
theorem fsC_in (d : Nat → Nat) {w : Nat} (h : 0 < w) : ∀ y, fsC d w y = -9 ∨ (0 ≤ fsC d w y ∧ fsC d w y < ((y * w : Nat) : Int))
  | 0 => Or.inl rfl
  | y + 1 => by
    have ih := fsC_in d h y
    have e : (y + 1) * w = y * w + w := by rw [Nat.add_mul, Nat.one_mul]
    rw [fsC, e]
    split
    · right; omega
    · rcases ih with q | q
      · exact Or.inl q
      · right; omega
theorem fsC_yes {d : Nat → Nat} {w y : Nat} (h : d (y * w) < lsC d w y) : ((y * w : Nat) : Int) = fsC d w (y + 1) ∧ d (y * w) = lsC d w (y + 1) := by
  have e : fsC d w (y + 1) = ((y * w : Nat) : Int) := by
    rw [fsC]
    refine if_pos ?_
    unfold lsC at h
    split at h
    · next q => exact ⟨h, Or.inl q⟩
    · next q => exact ⟨Nat.lt_trans h (fsC_far d w y (by omega)), Or.inr h⟩
  refine ⟨e.symm, ?_⟩
  unfold lsC
  rw [e, if_neg (by omega), Int.toNat_natCast]
theorem fsC_no {d : Nat → Nat} {w y : Nat} (h : lsC d w y ≤ d (y * w)) : fsC d w y = fsC d w (y + 1) ∧ lsC d w y = lsC d w (y + 1) := by
  have e : fsC d w (y + 1) = fsC d w y := by
    rw [fsC]
    refine if_neg ?_
    unfold lsC at h
    split at h
    · next q => omega
    · next q => omega
  refine ⟨e.symm, ?_⟩
  unfold lsC
  rw [e]
theorem lsC_le (d : Nat → Nat) (w y : Nat) : lsC d w y ≤ 1073741824 := by
  unfold lsC
  split
  · exact Nat.le_refl _
  · have := fsC_far d w y (by omega)
    omega
/-- the next cell of the way -/
def stP (w h : Nat) (own d : Nat → Nat) (c s : Nat) : Bool := decide (besZ w h c s ≠ -9 ∧ ((d (besZ w h c s).toNat : Nat) : Int) = ((d c : Nat) : Int) - ((own c : Nat) : Int))
def stL (w h : Nat) (own d : Nat → Nat) (c : Nat) : Nat → Int
  | 0 => -9
  | k + 1 => if stL w h own d c k ≠ -9 then stL w h own d c k else if stP w h own d c k = true then besZ w h c k else -9
theorem stL_no {w h : Nat} {own d : Nat → Nat} {c k : Nat} (e : stL w h own d c k = -9) (q : stP w h own d c k = false) : stL w h own d c (k + 1) = -9 := by
  rw [stL, if_neg (by rw [e]; decide), if_neg (by rw [q]; decide)]
theorem stL_yes {w h : Nat} {own d : Nat → Nat} {c k : Nat} (e : stL w h own d c k = -9) (q : stP w h own d c k = true) : ∀ m, k < m → stL w h own d c m = besZ w h c k
  | 0, hm => absurd hm (Nat.not_lt_zero _)
  | m + 1, hm => by
    have hne : besZ w h c k ≠ -9 := (of_decide_eq_true q).1
    by_cases z : k = m
    · subst z
      rw [stL, if_neg (by rw [e]; decide), if_pos q]
    · have i := stL_yes e q m (by omega)
      rw [stL, i, if_pos hne]
theorem stL_at {w h : Nat} {own d : Nat → Nat} {c : Nat} : ∀ {m : Nat}, stL w h own d c m ≠ -9 → ∃ k, k < m ∧ stP w h own d c k = true ∧ stL w h own d c m = besZ w h c k ∧ stL w h own d c k = -9
  | 0, q => absurd rfl q
  | m + 1, q => by
    by_cases z : stL w h own d c m = -9
    · by_cases z2 : stP w h own d c m = true
      · exact ⟨m, by omega, z2, stL_yes z z2 (m + 1) (by omega), z⟩
      · exact absurd (stL_no z (by simpa using z2)) q
    · obtain ⟨k, k1, k2, k3, k4⟩ := stL_at z
      exact ⟨k, by omega, k2, stL_yes k4 k2 (m + 1) (by omega), k4⟩
theorem stL_in {w h : Nat} {own d : Nat → Nat} {c : Nat} (h0 : 0 < w) (hc : c < w * h) : stL w h own d c 4 = -9 ∨ (0 ≤ stL w h own d c 4 ∧ stL w h own d c 4 < ((w * h : Nat) : Int)) := by
  by_cases z : stL w h own d c 4 = -9
  · exact Or.inl z
  · obtain ⟨k, k1, k2, k3, -⟩ := stL_at z
    rw [k3]
    exact bes_in h0 hc k1
/-- the way, cell by cell -/
def pC (w h : Nat) (own d : Nat → Nat) (f : Nat) : Nat → Int
  | 0 => ((f : Nat) : Int)
  | k + 1 => if pC w h own d f k = -9 then -9 else stL w h own d (pC w h own d f k).toNat 4
def folR (w h n : Nat) (own d : Nat → Nat) (f len : Nat) (ce : Nat → Nat) : Prop :=
  len ≤ n ∧ 1 ≤ len ∧ (∀ j, j < len → ce j = (pC w h own d f j).toNat ∧ pC w h own d f j ≠ -9) ∧ (len = n ∨ pC w h own d f len = -9)
def toldZ (len cost : Nat) (ce : Nat → Nat) (k : Int) : Int := if len = 0 then -9 else if k = -3 then ((cost / 1048576 : Nat) : Int) else if k = -2 then ((cost % 1048576 / 256 : Nat) : Int) else if k = -1 then ((len : Nat) : Int) else if 0 ≤ k ∧ k < ((len : Nat) : Int) then ((ce k.toNat : Nat) : Int) else -9
theorem told_0 {len cost : Nat} {ce : Nat → Nat} {k : Int} (h : len = 0) : -9 = toldZ len cost ce k := (if_pos h).symm
theorem told_3 {len cost : Nat} {ce : Nat → Nat} {k : Int} (h : len ≠ 0) (h1 : k = -3) : ((cost / 1048576 : Nat) : Int) = toldZ len cost ce k := by
  unfold toldZ
  rw [if_neg h, if_pos h1]
theorem told_2 {len cost : Nat} {ce : Nat → Nat} {k : Int} (h : len ≠ 0) (h1 : k = -2) : ((cost % 1048576 / 256 : Nat) : Int) = toldZ len cost ce k := by
  unfold toldZ
  rw [if_neg h, if_neg (by omega), if_pos h1]
theorem told_1 {len cost : Nat} {ce : Nat → Nat} {k : Int} (h : len ≠ 0) (h1 : k = -1) : ((len : Nat) : Int) = toldZ len cost ce k := by
  unfold toldZ
  rw [if_neg h, if_neg (by omega), if_neg (by omega), if_pos h1]
theorem told_k {len cost : Nat} {ce : Nat → Nat} {k : Nat} (h : len ≠ 0) (h1 : k < len) : ((ce k : Nat) : Int) = toldZ len cost ce ((k : Nat) : Int) := by
  unfold toldZ
  rw [if_neg h, if_neg (by omega), if_neg (by omega), if_neg (by omega), if_pos (by omega), Int.toNat_natCast]
theorem told_n {len cost : Nat} {ce : Nat → Nat} {k : Int} (h : len ≠ 0) (h3 : k ≠ -3) (h2 : k ≠ -2) (h1 : k ≠ -1) (hk : ¬ (0 ≤ k ∧ k < ((len : Nat) : Int))) : -9 = toldZ len cost ce k := by
  unfold toldZ
  rw [if_neg h, if_neg h3, if_neg h2, if_neg h1, if_neg hk]
/-! costs of the class, costs of the reference -/
def cvN (x : Nat) : Nat := if x < 1073741824 then x / 1048576 * 128000 + x % 1048576 / 256 * 64 + x % 256 else 100000000
def wgC (op sh dug : Nat → Bool) (clay : Nat → Nat) (c : Nat) : Nat := if op c = true then (if sh c = true then 128000 else 0) + 64 * (if dug c = true then 0 else clay c) + 1 else 100000000
theorem wgC_1 (op sh dug : Nat → Bool) (clay : Nat → Nat) (c : Nat) : 1 ≤ wgC op sh dug clay c := by
  unfold wgC
  split <;> omega
theorem wgC_le {clay : Nat → Nat} (hcl : ∀ k, clay k ≤ 9) (op sh dug : Nat → Bool) (c : Nat) : wgC op sh dug clay c ≤ 100000000 := by
  have := hcl c
  unfold wgC
  split
  · split <;> split <;> omega
  · exact Nat.le_refl _
theorem wgC_64 (op sh dug : Nat → Bool) (clay : Nat → Nat) (c : Nat) (h : wgC op sh dug clay c < 100000000) : wgC op sh dug clay c % 64 = 1 := by
  unfold wgC at h ⊢
  split at h
  · next q =>
    rw [if_pos q]
    split <;> omega
  · omega
set_option maxRecDepth 100000 in
theorem cvN_t {x S N K : Nat} (e : x = S * 1048576 + N * 256 + K) (hS : S ≤ 40) (hN : N ≤ 400) (hK : K ≤ 40) : cvN x = S * 128000 + N * 64 + K ∧ x < 1073741824 := by
  have e1 : x / 1048576 = S := by omega
  have e2 : x % 1048576 = N * 256 + K := by omega
  have e3 : x % 256 = K := by omega
  have hx : x < 1073741824 := by omega
  unfold cvN
  rw [if_pos hx, e1, e2, e3]
  exact ⟨by omega, hx⟩
set_option maxRecDepth 100000 in
theorem own_t (dug sh : Nat → Bool) {clay : Nat → Nat} (hcl : ∀ k, clay k ≤ 9) (c : Nat) : ∃ s m, s ≤ 1 ∧ m ≤ 9 ∧ ownV dug sh clay c = s * 1048576 + m * 256 + 1 ∧ ∀ op : Nat → Bool, op c = true → wgC op sh dug clay c = s * 128000 + m * 64 + 1 := by
  have hc := hcl c
  refine ⟨if sh c = true then 1 else 0, if dug c = true then 0 else clay c, by split <;> omega, by split <;> omega, ?_, fun op ho => ?_⟩
  · unfold ownV
    by_cases q1 : sh c = true
    · rw [if_pos q1, if_pos q1]
      omega
    · rw [if_neg q1, if_neg q1]
      omega
  · unfold wgC
    rw [if_pos ho]
    by_cases q1 : sh c = true
    · rw [if_pos q1, if_pos q1]
      omega
    · rw [if_neg q1, if_neg q1]
      omega
/-- a cost in its three parts -/
def tri3 (x S N K : Nat) : Prop := x = S * 1048576 + N * 256 + K ∧ S ≤ K ∧ N ≤ 9 * K ∧ 1 ≤ K
set_option maxRecDepth 100000 in
theorem CRel_tri {n to : Nat} {nx : Nat → Nat → Bool} {op sh dug : Nat → Bool} {clay own d : Nat → Nat} (hcl : ∀ k, clay k ≤ 9) (hn : n ≤ 36) (how : ∀ c, c < n → own c = ownV dug sh clay c) (p : CRel n to nx op own d) : ∀ v c, c < n → d c = v → v < 1073741824 → ∃ S N K, tri3 (d c) S N K ∧ K ≤ rkC n d c + 1 := by
  intro v
  induction v using Nat.strongRecOn with
  | ind v ih =>
    intro c hc e hv
    obtain ⟨s, m, hs, hm, ho, -⟩ := own_t dug sh hcl c
    rw [← how c hc] at ho
    obtain ⟨a1, a2, a3⟩ := p.1.2 c hc (by omega)
    rcases a3 with q | ⟨u, u1, u2, u3⟩
    · subst q
      refine ⟨s, m, 1, ⟨by rw [p.1.1]; exact ho, by omega, by omega, Nat.le_refl _⟩, by omega⟩
    · obtain ⟨S, N, K, ⟨t1, t2, t3, t4⟩, t5⟩ := ih (d u) (by omega) u u1 rfl (by omega)
      have r := p.2 c u hc u1 u2 a1 (by omega)
      have k := rkC_step (d := d) (c := c) u1 (by omega)
      exact ⟨S + s, N + m, K + 1, ⟨by omega, by omega, by omega, by omega⟩, by omega⟩
set_option maxRecDepth 100000 in
theorem CRel_t {n to : Nat} {nx : Nat → Nat → Bool} {op sh dug : Nat → Bool} {clay own d : Nat → Nat} (hcl : ∀ k, clay k ≤ 9) (hn : n ≤ 36) (how : ∀ c, c < n → own c = ownV dug sh clay c) (p : CRel n to nx op own d) {c : Nat} (hc : c < n) (hf : d c < 1073741824) : ∃ S N K, d c = S * 1048576 + N * 256 + K ∧ S ≤ 36 ∧ N ≤ 324 ∧ K ≤ 36 ∧ 1 ≤ K ∧ cvN (d c) = S * 128000 + N * 64 + K := by
  obtain ⟨S, N, K, ⟨t1, t2, t3, t4⟩, t5⟩ := CRel_tri hcl hn how p (d c) c hc rfl hf
  have r := rkC_lt (d := d) hc
  refine ⟨S, N, K, t1, by omega, by omega, by omega, t4, ?_⟩
  exact (cvN_t t1 (by omega) (by omega) (by omega)).1
set_option maxRecDepth 100000 in
theorem tri_le {S N K S2 N2 K2 : Nat} (h : S * 1048576 + N * 256 + K ≤ S2 * 1048576 + N2 * 256 + K2) (hN : N ≤ 400) (hN2 : N2 ≤ 400) (hK : K ≤ 40) (hK2 : K2 ≤ 40) : S * 128000 + N * 64 + K ≤ S2 * 128000 + N2 * 64 + K2 := by
  have hS : S ≤ S2 := by omega
  by_cases q : S = S2
  · subst q
    have hNN : N ≤ N2 := by omega
    by_cases q2 : N = N2
    · subst q2
      have hKK : K ≤ K2 := by omega
      clear h
      omega
    · clear h
      omega
  · clear h
    omega
set_option maxRecDepth 100000 in
theorem tri_lt {S N K S2 N2 K2 : Nat} (h : S * 1048576 + N * 256 + K < S2 * 1048576 + N2 * 256 + K2) (hN : N ≤ 400) (hN2 : N2 ≤ 400) (hK : K ≤ 40) (hK2 : K2 ≤ 40) : S * 128000 + N * 64 + K < S2 * 128000 + N2 * 64 + K2 := by
  have hS : S ≤ S2 := by omega
  by_cases q : S = S2
  · subst q
    have hNN : N ≤ N2 := by omega
    by_cases q2 : N = N2
    · subst q2
      have hKK : K < K2 := by omega
      clear h
      omega
    · clear h
      omega
  · clear h
    omega
theorem mix1 (S N K s m M L : Nat) : s * M + m * L + 1 + (S * M + N * L + K) = (S + s) * M + (N + m) * L + (K + 1) := by
  rw [Nat.add_mul, Nat.add_mul]
  omega
theorem tri_add {S N K s m S2 N2 K2 : Nat} (h : S2 * 1048576 + N2 * 256 + K2 ≤ s * 1048576 + m * 256 + 1 + (S * 1048576 + N * 256 + K)) (hN : N ≤ 324) (hm : m ≤ 9) (hK : K ≤ 36) (hN2 : N2 ≤ 324) (hK2 : K2 ≤ 36) : S2 * 128000 + N2 * 64 + K2 ≤ s * 128000 + m * 64 + 1 + (S * 128000 + N * 64 + K) := by
  have a1 : N + m ≤ 400 := by clear h; omega
  have a2 : K + 1 ≤ 40 := by clear h; omega
  have a3 : N2 ≤ 400 := by clear h; omega
  have a4 : K2 ≤ 40 := by clear h; omega
  rw [mix1] at h ⊢
  exact tri_le h a3 a1 a4 a2
theorem tri_sum {S N K s m S2 N2 K2 : Nat} (hN : N ≤ 324) (hm : m ≤ 9) (hK : K ≤ 36) (hN2 : N2 ≤ 324) (hK2 : K2 ≤ 36) : (S * 1048576 + N * 256 + K + (s * 1048576 + m * 256 + 1) = S2 * 1048576 + N2 * 256 + K2) ↔ (s * 128000 + m * 64 + 1 + (S * 128000 + N * 64 + K) = S2 * 128000 + N2 * 64 + K2) := by
  have a1 : N + m ≤ 400 := by omega
  have a2 : K + 1 ≤ 40 := by omega
  have a3 : N2 ≤ 400 := by omega
  have a4 : K2 ≤ 40 := by omega
  rw [Nat.add_comm (S * 1048576 + N * 256 + K), mix1, mix1]
  constructor
  · intro h
    exact Nat.le_antisymm (tri_le (Nat.le_of_eq h) a1 a3 a2 a4) (tri_le (Nat.le_of_eq h.symm) a3 a1 a4 a2)
  · intro h
    rcases Nat.lt_trichotomy ((S + s) * 1048576 + (N + m) * 256 + (K + 1)) (S2 * 1048576 + N2 * 256 + K2) with q | q | q
    · exact absurd h (Nat.ne_of_lt (tri_lt q a1 a3 a2 a4))
    · exact q
    · exact absurd h.symm (Nat.ne_of_lt (tri_lt q a3 a1 a4 a2))
theorem tri_div {x y S N K : Nat} (hx : x = S * 1048576 + N * 256 + K) (hy : y = S * 128000 + N * 64 + K) (hN : N ≤ 324) (hK : K ≤ 36) : (x / 1048576 = S ∧ x % 1048576 / 256 = N) ∧ (y / 128000 = S ∧ y % 128000 / 64 = N ∧ y % 64 = K) := by
  refine ⟨?_, ?_⟩
  · clear hy
    subst hx
    omega
  · clear hx
    subst hy
    omega
set_option maxRecDepth 100000 in
theorem CRel_cv {n to : Nat} {nx : Nat → Nat → Bool} {op sh dug : Nat → Bool} {clay own d : Nat → Nat} (hcl : ∀ k, clay k ≤ 9) (hn : n ≤ 36) (hto : to < n) (hot : op to = true) (how : ∀ c, c < n → own c = ownV dug sh clay c) (hd : ∀ c, d c ≤ 1073741824) (p : CRel n to nx op own d) : MRel n to nx (wgC op sh dug clay) (fun c => cvN (d c)) := by
  have far : ∀ c, c < n → ¬ d c < 1073741824 → cvN (d c) = 100000000 := fun c _ q => if_neg q
  have fin : ∀ c, c < n → cvN (d c) < 100000000 → d c < 1073741824 := fun c hc q => Classical.byContradiction fun z => by rw [far c hc z] at q; omega
  have add : ∀ c u, c < n → u < n → op c = true → d u < 1073741824 → d c = own c + d u → cvN (d c) = wgC op sh dug clay c + cvN (d u) := fun c u hc hu ho hf e => by
    obtain ⟨s, m, hs, hm, h1, h2⟩ := own_t dug sh hcl c
    obtain ⟨S, N, K, t1, t2, t3, t4, t5, t6⟩ := CRel_t hcl hn how p hu hf
    rw [h2 op ho, t6]
    have e2 : d c = (S + s) * 1048576 + (N + m) * 256 + (K + 1) := by rw [e, how c hc, h1]; omega
    rw [(cvN_t e2 (by omega) (by omega) (by omega)).1]
    omega
  have own1 : ∀ c, c < n → op c = true → d c = own c → cvN (d c) = wgC op sh dug clay c := fun c hc ho e => by
    obtain ⟨s, m, hs, hm, h1, h2⟩ := own_t dug sh hcl c
    rw [h2 op ho]
    have e2 : d c = s * 1048576 + m * 256 + 1 := by rw [e, how c hc, h1]
    rw [(cvN_t e2 (by omega) (by omega) (by omega)).1]
  have wle : ∀ c, wgC op sh dug clay c ≤ 100000000 := fun c => by
    have := hcl c
    unfold wgC
    split
    · split <;> split <;> omega
    · exact Nat.le_refl _
  refine ⟨fun c hc => ?_, own1 to hto hot p.1.1, fun c hc => ?_, fun c hc hf => ?_, fun c u hc hu hx hf hw => ?_⟩
  · by_cases q : d c < 1073741824
    · obtain ⟨S, N, K, t1, t2, t3, t4, t5, t6⟩ := CRel_t hcl hn how p hc q
      show cvN (d c) ≤ _
      omega
    · exact Nat.le_of_eq (far c hc q)
  · show _ ≤ cvN (d c)
    by_cases q : d c < 1073741824
    · obtain ⟨a1, a2, a3⟩ := p.1.2 c hc q
      rcases a3 with z | ⟨u, u1, u2, u3⟩
      · subst z
        rw [own1 c hc a1 p.1.1]
        exact Nat.le_refl _
      · have r := p.2 c u hc u1 u2 a1 (by omega)
        rw [add c u hc u1 a1 (by omega) (by omega)]
        omega
    · rw [far c hc q]
      exact wle c
  · have q := fin c hc hf
    obtain ⟨a1, a2, a3⟩ := p.1.2 c hc q
    rcases a3 with z | ⟨u, u1, u2, u3⟩
    · exact Or.inl z
    · have r := p.2 c u hc u1 u2 a1 (by omega)
      refine Or.inr ⟨u, u1, u2, ?_⟩
      show cvN (d u) + _ ≤ cvN (d c)
      rw [add c u hc u1 a1 (by omega) (by omega)]
      omega
  · show cvN (d c) ≤ _ + cvN (d u)
    have q := fin u hu hf
    have ho : op c = true := Classical.byContradiction fun z => by
      unfold wgC at hw
      rw [if_neg z] at hw
      omega
    have r := p.2 c u hc hu hx ho q
    obtain ⟨s, m, hs, hm, h1, h2⟩ := own_t dug sh hcl c
    obtain ⟨S, N, K, t1, t2, t3, t4, t5, t6⟩ := CRel_t hcl hn how p hu q
    have hdc : d c < 1073741824 := by
      rw [how c hc, h1, t1] at r
      omega
    obtain ⟨S2, N2, K2, z1, z2, z3, z4, z5, z6⟩ := CRel_t hcl hn how p hc hdc
    rw [h2 op ho, t6, z6]
    rw [how c hc, h1, t1, z1] at r
    exact tri_add r t3 hm t4 z3 z4
set_option maxRecDepth 100000 in
/-- smaller of the one is smaller of the other -/
theorem cv_lt {n to : Nat} {nx : Nat → Nat → Bool} {op sh dug : Nat → Bool} {clay own d : Nat → Nat} (hcl : ∀ k, clay k ≤ 9) (hn : n ≤ 36) (how : ∀ c, c < n → own c = ownV dug sh clay c) (p : CRel n to nx op own d) {a b : Nat} (ha : a < n) (hb : b < n) (fa : d a < 1073741824) (fb : d b < 1073741824) : d a < d b ↔ cvN (d a) < cvN (d b) := by
  obtain ⟨S, N, K, t1, t2, t3, t4, t5, t6⟩ := CRel_t hcl hn how p ha fa
  obtain ⟨S2, N2, K2, z1, z2, z3, z4, z5, z6⟩ := CRel_t hcl hn how p hb fb
  constructor
  · intro h
    rw [t6, z6]
    exact tri_lt (by rw [← t1, ← z1]; exact h) (by omega) (by omega) (by omega) (by omega)
  · intro h
    apply Classical.byContradiction
    intro q
    have := tri_le (S := S2) (N := N2) (K := K2) (S2 := S) (N2 := N) (K2 := K) (by rw [← t1, ← z1]; omega) (by omega) (by omega) (by omega) (by omega)
    rw [t6, z6] at h
    omega
theorem cv_fin {n to : Nat} {nx : Nat → Nat → Bool} {op sh dug : Nat → Bool} {clay own d : Nat → Nat} (hcl : ∀ k, clay k ≤ 9) (hn : n ≤ 36) (how : ∀ c, c < n → own c = ownV dug sh clay c) (p : CRel n to nx op own d) {a : Nat} (ha : a < n) : d a < 1073741824 ↔ cvN (d a) < 100000000 := by
  constructor
  · intro q
    obtain ⟨S, N, K, t1, t2, t3, t4, t5, t6⟩ := CRel_t hcl hn how p ha q
    omega
  · intro q
    apply Classical.byContradiction
    intro z
    have : cvN (d a) = 100000000 := if_neg z
    omega
theorem fsC_cv {n to w : Nat} {nx : Nat → Nat → Bool} {op sh dug : Nat → Bool} {clay own d : Nat → Nat} (h0 : 0 < w) (hcl : ∀ k, clay k ≤ 9) (hn : n ≤ 36) (how : ∀ c, c < n → own c = ownV dug sh clay c) (p : CRel n to nx op own d) : ∀ y, y * w ≤ n → fsC d w y = fsZ (fun c => cvN (d c)) w y
  | 0, _ => rfl
  | y + 1, hy => by
    have e : (y + 1) * w = y * w + w := by rw [Nat.add_mul, Nat.one_mul]
    have ih := fsC_cv h0 hcl hn how p y (by omega)
    have hin := fsC_in d h0 y
    have hyn : y * w < n := by omega
    have ef := cv_fin hcl hn how p hyn
    rw [fsC, fsZ, ← ih]
    have key : (d (y * w) < 1073741824 ∧ (fsC d w y < 0 ∨ d (y * w) < d (fsC d w y).toNat)) ↔ (cvN (d (y * w)) < 100000000 ∧ (fsC d w y < 0 ∨ cvN (d (y * w)) < cvN (d (fsC d w y).toNat))) := by
      constructor
      · rintro ⟨a, b⟩
        refine ⟨ef.mp a, ?_⟩
        by_cases q : fsC d w y < 0
        · exact Or.inl q
        · exact Or.inr ((cv_lt hcl hn how p hyn (by omega) a (fsC_far d w y (by omega))).mp (b.resolve_left q))
      · rintro ⟨a, b⟩
        refine ⟨ef.mpr a, ?_⟩
        by_cases q : fsC d w y < 0
        · exact Or.inl q
        · exact Or.inr ((cv_lt hcl hn how p hyn (by omega) (ef.mpr a) (fsC_far d w y (by omega))).mpr (b.resolve_left q))
    by_cases z : d (y * w) < 1073741824 ∧ (fsC d w y < 0 ∨ d (y * w) < d (fsC d w y).toNat)
    · rw [if_pos z, if_pos (key.mp z)]
    · rw [if_neg z, if_neg (fun q => z (key.mpr q))]
theorem nsR_least {p : Nat → Bool} {n u : Nat} (hu : u < n) (hp : p u = true) (hl : ∀ v, v < u → p v = false) : ∀ k, k ≤ n → n - k ≤ u → nsR p n k = ((u : Nat) : Int)
  | 0, _, h => by omega
  | k + 1, hk, h => by
    rw [nsR]
    by_cases e : n - 1 - k = u
    · rw [e, if_pos hp]
    · rw [if_neg (by rw [hl _ (by omega)]; decide)]
      exact nsR_least hu hp hl k (by omega) (by omega)
theorem nsR_none {p : Nat → Bool} {n : Nat} (hl : ∀ v, v < n → p v = false) : ∀ k, k ≤ n → nsR p n k = -9
  | 0, _ => rfl
  | k + 1, hk => by
    rw [nsR, if_neg (by rw [hl _ (by omega)]; decide)]
    exact nsR_none hl k (by omega)
theorem bes_mono {w h c a b : Nat} (h0 : 0 < w) (ha : besZ w h c a ≠ -9) (hb : besZ w h c b ≠ -9) (hab : a < b) (hb4 : b < 4) : besZ w h c a < besZ w h c b := by
  have hm := Nat.mod_lt c h0
  unfold besZ at ha hb ⊢
  have ca : a = 0 ∨ a = 1 ∨ a = 2 := by omega
  have cb : b = 1 ∨ b = 2 ∨ b = 3 := by omega
  rcases ca with rfl | rfl | rfl <;> rcases cb with rfl | rfl | rfl <;> first | omega | (simp at ha hb ⊢; repeat' split at ha; repeat' split at hb; all_goals (repeat' split); all_goals omega)
set_option maxRecDepth 100000 in
theorem step_iff {n to w : Nat} {op sh dug : Nat → Bool} {clay own d : Nat → Nat} (hcl : ∀ k, clay k ≤ 9) (hn : n ≤ 36) (how : ∀ c, c < n → own c = ownV dug sh clay c) (p : CRel n to (nxtB w) op own d) {c u : Nat} (hc : c < n) (hu : u < n) (hf : d c < 1073741824) : d u + own c = d c ↔ wgC op sh dug clay c + cvN (d u) = cvN (d c) := by
  obtain ⟨a1, a2, a3⟩ := p.1.2 c hc hf
  obtain ⟨s, m, hs, hm, h1, h2⟩ := own_t dug sh hcl c
  obtain ⟨S2, N2, K2, z1, z2, z3, z4, z5, z6⟩ := CRel_t hcl hn how p hc hf
  rw [h2 op a1, how c hc, h1, z6, z1]
  constructor
  · intro e
    obtain ⟨S, N, K, t1, t2, t3, t4, t5, t6⟩ := CRel_t hcl hn how p hu (by omega)
    rw [t1] at e
    rw [t6]
    exact (tri_sum t3 hm t4 z3 z4).mp e
  · intro e
    have lt : cvN (d u) < 100000000 := by
      generalize cvN (d u) = X at e ⊢
      omega
    have fu : d u < 1073741824 := (cv_fin hcl hn how p hu).mpr lt
    obtain ⟨S, N, K, t1, t2, t3, t4, t5, t6⟩ := CRel_t hcl hn how p hu fu
    rw [t6] at e
    rw [t1]
    exact (tri_sum t3 hm t4 z3 z4).mpr e
theorem stL_cv {n to w h : Nat} {op sh dug : Nat → Bool} {clay own d : Nat → Nat} (h0 : 0 < w) (hwh : n = w * h) (hcl : ∀ k, clay k ≤ 9) (hn : n ≤ 36) (how : ∀ c, c < n → own c = ownV dug sh clay c) (p : CRel n to (nxtB w) op own d) {c : Nat} (hc : c < n) (hf : d c < 1073741824) : stL w h own d c 4 = nsR (nsP w (wgC op sh dug clay) (fun c => cvN (d c)) c) n n := by
  have hc' : c < w * h := by rw [← hwh]; exact hc
  have hP : ∀ u s, s < 4 → besZ w h c s = ((u : Nat) : Int) → (stP w h own d c s = true ↔ nsP w (wgC op sh dug clay) (fun c => cvN (d c)) c u = true) := fun u s hs e => by
    have hx := bes_nx h0 hc' hs e
    have i := step_iff hcl hn how p hc (by rw [hwh]; exact hx.1) hf
    unfold stP nsP
    rw [hx.2, Bool.true_and, decide_eq_true_iff, decide_eq_true_iff, ← i, e, Int.toNat_natCast]
    constructor
    · rintro ⟨-, q⟩
      omega
    · intro q
      exact ⟨by omega, by omega⟩
  by_cases z : stL w h own d c 4 = -9
  · rw [z]
    symm
    refine nsR_none (fun u hu => ?_) n (Nat.le_refl _)
    cases e : nsP w (wgC op sh dug clay) (fun c => cvN (d c)) c u with
    | false => rfl
    | true =>
      exfalso
      have hx : nxtB w c u = true := by
        unfold nsP at e
        rw [Bool.and_eq_true] at e
        exact e.1
      obtain ⟨s, s1, s2⟩ := nx_bes h0 hc' (by rw [← hwh]; exact hu) hx
      have hs := (hP u s s1 s2).mpr e
      have all : ∀ k, k ≤ 4 → stL w h own d c k = -9 := fun k hk => Classical.byContradiction fun y => by
        obtain ⟨j, j1, j2, j3, j4⟩ := stL_at y
        have := stL_yes j4 j2 4 (by omega)
        rw [z] at this
        exact (of_decide_eq_true j2).1 this.symm
      have := stL_yes (all s (by omega)) hs 4 s1
      rw [z, s2] at this
      omega
  · obtain ⟨s, s1, s2, s3, s4⟩ := stL_at z
    rcases bes_cases h0 hc' s1 with q | ⟨u, q, q1, q2⟩
    · exact absurd q (of_decide_eq_true s2).1
    · rw [s3, q]
      symm
      refine nsR_least (by rw [hwh]; exact q1) ((hP u s s1 q).mp s2) (fun v hv => ?_) n (Nat.le_refl _) (by omega)
      cases e : nsP w (wgC op sh dug clay) (fun c => cvN (d c)) c v with
      | false => rfl
      | true =>
        exfalso
        have hx : nxtB w c v = true := by
          unfold nsP at e
          rw [Bool.and_eq_true] at e
          exact e.1
        obtain ⟨t, t1, t2⟩ := nx_bes h0 hc' (by omega) hx
        have ht := (hP v t t1 t2).mpr e
        have hts : t < s := by
          apply Classical.byContradiction
          intro y
          by_cases y2 : t = s
          · subst y2
            rw [q] at t2
            omega
          · have := bes_mono (b := t) h0 (by rw [q]; omega) (by rw [t2]; omega) (show s < t by omega) t1
            rw [q, t2] at this
            omega
        have pre : ∀ k, k ≤ s → stL w h own d c k = -9 := fun k hk => Classical.byContradiction fun y => by
          obtain ⟨j, j1, j2, j3, j4⟩ := stL_at y
          have := stL_yes j4 j2 s (by omega)
          rw [s4] at this
          exact (of_decide_eq_true j2).1 this.symm
        have := stL_yes (pre t (by omega)) ht s hts
        rw [s4] at this
        exact (of_decide_eq_true ht).1 this.symm
theorem find_no {n w h to : Nat} {op sh dug : Nat → Bool} {clay : Nat → Nat} (h0 : 0 < w) (hwh : n = w * h) (hcl : ∀ k, clay k ≤ 9) (hto : to < n) (ho : op to = false) (k : Int) : wayZ w n h (wgC op sh dug clay) (dF n to (nxtB w) (wgC op sh dug clay)) k = -9 := by
  have hW : wgC op sh dug clay to = 100000000 := by
    unfold wgC
    rw [if_neg (by rw [ho]; decide)]
  have hm : MRel n to (nxtB w) (wgC op sh dug clay) (fun _ => 100000000) := ⟨fun _ _ => Nat.le_refl _, hW.symm, fun c _ => wgC_le hcl op sh dug c, fun c _ q => absurd q (Nat.lt_irrefl _), fun c u _ _ _ q => absurd q (Nat.lt_irrefl _)⟩
  have e : ∀ c, c < n → (100000000 : Nat) = dF n to (nxtB w) (wgC op sh dug clay) c := fun c hc => dF_eq (wgC_1 op sh dug clay) hm hc
  have f : ∀ y, y * w ≤ n → fsZ (dF n to (nxtB w) (wgC op sh dug clay)) w y = -9 := by
    intro y
    induction y with
    | zero => exact fun _ => rfl
    | succ y ih =>
      intro hy
      have e1 : (y + 1) * w = y * w + w := by rw [Nat.add_mul, Nat.one_mul]
      rw [fsZ, ih (by omega), if_neg]
      rintro ⟨q, -⟩
      rw [← e _ (by omega)] at q
      exact absurd q (Nat.lt_irrefl _)
  unfold wayZ
  rw [f h (by rw [hwh, Nat.mul_comm]; exact Nat.le_refl _), if_pos (by decide)]
theorem find_all {n w h to : Nat} {op sh dug : Nat → Bool} {clay own d : Nat → Nat} (h0 : 0 < w) (hwh : n = w * h) (hcl : ∀ k, clay k ≤ 9) (hn : n ≤ 36) (hto : to < n) (hot : op to = true) (how : ∀ c, c < n → own c = ownV dug sh clay c) (hd : ∀ c, d c ≤ 1073741824) (p : CRel n to (nxtB w) op own d) (k : Int) : wayZ w n h (wgC op sh dug clay) (dF n to (nxtB w) (wgC op sh dug clay)) k = wayZ w n h (wgC op sh dug clay) (fun c => cvN (d c)) k := by
  have hm := CRel_cv hcl hn hto hot how hd p
  exact wayZ_cong h0 hwh hm (wgC_64 op sh dug clay) (fun _ _ => rfl) (fun c hc => dF_eq (wgC_1 op sh dug clay) hm hc) (fsZ_far _ h0)
theorem find_non {n w h to : Nat} {op sh dug : Nat → Bool} {clay own d : Nat → Nat} (h0 : 0 < w) (hwh : n = w * h) (hcl : ∀ k, clay k ≤ 9) (hn : n ≤ 36) (hto : to < n) (hot : op to = true) (how : ∀ c, c < n → own c = ownV dug sh clay c) (hd : ∀ c, d c ≤ 1073741824) (p : CRel n to (nxtB w) op own d) (hf : fsC d w h = -9) (k : Int) : wayZ w n h (wgC op sh dug clay) (dF n to (nxtB w) (wgC op sh dug clay)) k = -9 := by
  rw [find_all h0 hwh hcl hn hto hot how hd p, wayZ, ← fsC_cv h0 hcl hn how p h (by rw [hwh, Nat.mul_comm]; exact Nat.le_refl _), hf, if_pos (by decide)]
set_option maxRecDepth 100000 in
theorem pC_pth {n w h to f : Nat} {op sh dug : Nat → Bool} {clay own d : Nat → Nat} (h0 : 0 < w) (hwh : n = w * h) (hcl : ∀ k, clay k ≤ 9) (hn : n ≤ 36) (hto : to < n) (hot : op to = true) (how : ∀ c, c < n → own c = ownV dug sh clay c) (hd : ∀ c, d c ≤ 1073741824) (p : CRel n to (nxtB w) op own d) (hf : f < n) (hff : d f < 1073741824) : (∀ j, j < cvN (d f) % 64 → pC w h own d f j = ((pthZ w n (wgC op sh dug clay) (fun c => cvN (d c)) f j : Nat) : Int)) ∧ pC w h own d f (cvN (d f) % 64) = -9 := by
  have hm := CRel_cv hcl hn hto hot how hd p
  have h64 := wgC_64 op sh dug clay
  have hfc : cvN (d f) < 100000000 := (cv_fin hcl hn how p hf).mp hff
  have all := pth_all hm h64 (fun _ _ => rfl) hf hfc
  have st : ∀ j, j < cvN (d f) % 64 → stL w h own d (pthZ w n (wgC op sh dug clay) (fun c => cvN (d c)) f j) 4 = nsR (nsP w (wgC op sh dug clay) (fun c => cvN (d c)) (pthZ w n (wgC op sh dug clay) (fun c => cvN (d c)) f j)) n n := fun j hj => by
    obtain ⟨i1, i2, i3⟩ := all j hj
    exact stL_cv h0 hwh hcl hn how p i1 ((cv_fin hcl hn how p i1).mpr i2)
  have first : ∀ j, j < cvN (d f) % 64 → pC w h own d f j = ((pthZ w n (wgC op sh dug clay) (fun c => cvN (d c)) f j : Nat) : Int) := by
    intro j
    induction j with
    | zero => exact fun _ => rfl
    | succ j ih =>
      intro hj
      have i := ih (by omega)
      obtain ⟨i1, i2, i3⟩ := all j (by omega)
      obtain ⟨s1, s2, s3, s4⟩ := way_step hm h64 (fun _ _ => rfl) i1 i2 (by have : cvN (d f) % 64 = _ := i3.symm; omega)
      rw [pC, i, if_neg (by omega), Int.toNat_natCast, st j (by omega), pthZ]
      exact (Int.toNat_of_nonneg s1).symm
  refine ⟨first, ?_⟩
  obtain ⟨S, N, K, t1, t2, t3, t4, t5, t6⟩ := CRel_t hcl hn how p hf hff
  have hK : cvN (d f) % 64 = K := (tri_div t1 t6 t3 t4).2.2.2
  obtain ⟨j, hj⟩ : ∃ j, K = j + 1 := ⟨K - 1, by omega⟩
  rw [hK, hj]
  have i := first j (by omega)
  obtain ⟨i1, i2, i3⟩ := all j (by omega)
  rw [pC, i, if_neg (by omega), Int.toNat_natCast, st j (by omega)]
  refine nsR_none (fun u hu => ?_) n (Nat.le_refl _)
  cases e : nsP w (wgC op sh dug clay) (fun c => cvN (d c)) (pthZ w n (wgC op sh dug clay) (fun c => cvN (d c)) f j) u with
  | false => rfl
  | true =>
    exfalso
    unfold nsP at e
    rw [Bool.and_eq_true] at e
    have e2 : wgC op sh dug clay (pthZ w n (wgC op sh dug clay) (fun c => cvN (d c)) f j) + cvN (d u) = cvN (d (pthZ w n (wgC op sh dug clay) (fun c => cvN (d c)) f j)) := of_decide_eq_true e.2
    have i2' : cvN (d (pthZ w n (wgC op sh dug clay) (fun c => cvN (d c)) f j)) < 100000000 := i2
    have i3' : cvN (d (pthZ w n (wgC op sh dug clay) (fun c => cvN (d c)) f j)) % 64 + j = cvN (d f) % 64 := i3
    generalize pthZ w n (wgC op sh dug clay) (fun c => cvN (d c)) f j = P at e2 i2' i3'
    have g : wgC op sh dug clay P % 64 = 1 := h64 P (Nat.lt_of_le_of_lt (by rw [← e2]; exact Nat.le_add_right _ _) i2')
    rw [hK, hj] at i3'
    by_cases z : d u < 1073741824
    · obtain ⟨S2, N2, K2, z1, z2, z3, z4, z5, z6⟩ := CRel_t hcl hn how p hu z
      have g2 : cvN (d u) % 64 = K2 := (tri_div z1 z6 z3 z4).2.2.2
      generalize cvN (d u) = X at e2 g2
      generalize cvN (d P) = Y at e2 i3'
      generalize wgC op sh dug clay P = Z at e2 g
      clear t1 t2 t3 t6 z1 z2 z3 z6
      omega
    · have g2 : cvN (d u) = 100000000 := if_neg z
      rw [g2] at e2
      rw [← e2] at i2'
      exact absurd (Nat.lt_of_le_of_lt (Nat.le_add_left _ _) i2') (Nat.lt_irrefl _)
set_option maxRecDepth 100000 in
theorem find_yes {n w h to f len : Nat} {op sh dug : Nat → Bool} {clay own d ce : Nat → Nat} (h0 : 0 < w) (hwh : n = w * h) (hcl : ∀ k, clay k ≤ 9) (hn : n ≤ 36) (hto : to < n) (hot : op to = true) (how : ∀ c, c < n → own c = ownV dug sh clay c) (hd : ∀ c, d c ≤ 1073741824) (p : CRel n to (nxtB w) op own d) (hf : fsC d w h = ((f : Nat) : Int)) (q : folR w h n own d f len ce) (k : Int) (hk : -3 ≤ k) : toldZ len (d f) ce k = wayZ w n h (wgC op sh dug clay) (dF n to (nxtB w) (wgC op sh dug clay)) k := by
  have hwn : h * w = n := by rw [hwh, Nat.mul_comm]
  have hin := fsC_in d h0 h
  have hfn : f < n := by rw [hf, hwn] at hin; omega
  have hff : d f < 1073741824 := by
    have := fsC_far d w h (by omega)
    rw [hf, Int.toNat_natCast] at this
    exact this
  obtain ⟨c1, c2⟩ := pC_pth h0 hwh hcl hn hto hot how hd p hfn hff
  obtain ⟨S, N, K, t1, t2, t3, t4, t5, t6⟩ := CRel_t hcl hn how p hfn hff
  have td := tri_div t1 t6 t3 t4
  have hK : cvN (d f) % 64 = K := td.2.2.2
  obtain ⟨q1, q2, q3, q4⟩ := q
  have rk := rkC_lt (d := d) hfn
  have hKn : K ≤ n := by
    obtain ⟨S2, N2, K2, ⟨z1, z2, z3, z4⟩, z5⟩ := CRel_tri hcl hn how p (d f) f hfn rfl hff
    omega
  have hlen : len = K := by
    rw [hK] at c1 c2
    by_cases a : len < K
    · have := c1 len a
      rcases q4 with z | z
      · omega
      · rw [z] at this
        omega
    · by_cases b : K < len
      · exact absurd c2 (q3 K b).2
      · omega
  rw [find_all h0 hwh hcl hn hto hot how hd p, wayZ, ← fsC_cv h0 hcl hn how p h (by omega), hf, if_neg (by omega), Int.toNat_natCast]
  show _ = if k < 0 then (if k = -1 then ((cvN (d f) % 64 : Nat) : Int) else if k = -2 then ((cvN (d f) % 128000 / 64 : Nat) : Int) else ((cvN (d f) / 128000 : Nat) : Int)) else if ((cvN (d f) % 64 : Nat) : Int) ≤ k then -9 else ((pthZ w n (wgC op sh dug clay) (fun c => cvN (d c)) f k.toNat : Nat) : Int)
  rw [hK]
  by_cases k0 : k < 0
  · rw [if_pos k0]
    by_cases k1 : k = -1
    · rw [if_pos k1, ← told_1 (by omega) k1, hlen]
    · rw [if_neg k1]
      by_cases k2 : k = -2
      · rw [if_pos k2, ← told_2 (by omega) k2, td.1.2, td.2.2.1]
      · rw [if_neg k2, ← told_3 (by omega) (by omega), td.1.1, td.2.1]
  · rw [if_neg k0]
    obtain ⟨j, hj⟩ := Int.eq_ofNat_of_zero_le (Int.not_lt.mp k0)
    subst hj
    by_cases k1 : ((K : Nat) : Int) ≤ ((j : Nat) : Int)
    · rw [if_pos k1, ← told_n (by omega) (by omega) (by omega) (by omega) (by omega)]
    · rw [if_neg k1, ← told_k (by omega) (by omega), Int.toNat_natCast]
      have := c1 j (by omega)
      rw [(q3 j (by omega)).1, this, Int.toNat_natCast]
