/-! the class's ways: what is next -/
theorem nxt_sym (w a b : Nat) : nxtB w a b = nxtB w b a := by
  unfold nxtB absd
  congr 1
  apply propext
  constructor
  · intro h
    revert h
    repeat' split
    all_goals omega
  · intro h
    revert h
    repeat' split
    all_goals omega
theorem bes_eq {w h c : Nat} (h0 : 0 < w) (hc : c < w * h) : ∃ x y : Nat, c = y * w + x ∧ c % w = x ∧ c / w = y ∧ x < w ∧ y < h := by
  refine ⟨c % w, c / w, ?_, rfl, rfl, Nat.mod_lt _ h0, div_in hc⟩
  have := Nat.div_add_mod c w
  rw [Nat.mul_comm] at this
  exact this.symm
theorem mul_lt_rows {w h y x : Nat} (hy : y < h) (hx : x < w) : y * w + x < w * h := by
  have : (y + 1) * w ≤ h * w := Nat.mul_le_mul_right w hy
  rw [Nat.add_mul, Nat.one_mul, Nat.mul_comm h] at this
  omega
/-- the four sides of a cell: each is no cell, or the one above, left, right, below -/
theorem bes_cases {w h c s : Nat} (h0 : 0 < w) (hc : c < w * h) (hs : s < 4) : besZ w h c s = -9 ∨ ∃ u : Nat, besZ w h c s = (u : Int) ∧ u < w * h ∧ nxtB w c u = true := by
  obtain ⟨x, y, e, ex, ey, hx, hy⟩ := bes_eq h0 hc
  have key : ∀ x2 y2 : Nat, x2 < w → y2 < h → absd ((x : Nat) : Int) ((x2 : Nat) : Int) + absd ((y : Nat) : Int) ((y2 : Nat) : Int) = 1 → (y2 * w + x2 < w * h ∧ nxtB w c (y2 * w + x2) = true) := by
    intro x2 y2 k1 k2 k3
    have r := row_at (w := w) (y := y2) (x := x2) k1
    refine ⟨mul_lt_rows k2 k1, ?_⟩
    unfold nxtB
    rw [ex, ey, r.1, r.2]
    exact decide_eq_true k3
  unfold besZ
  rw [ex, ey]
  by_cases q0 : s = 0
  · rw [if_pos q0]
    by_cases p : 0 < y
    · rw [if_pos p]
      right
      obtain ⟨z, rfl⟩ : ∃ z, y = z + 1 := ⟨y - 1, by omega⟩
      have k := key x z hx (by omega) (by rw [absd_ge (Int.le_refl _), absd_ge (by omega)]; omega)
      refine ⟨z * w + x, ?_, k⟩
      rw [Nat.add_mul, Nat.one_mul] at e
      omega
    · rw [if_neg p]
      exact Or.inl rfl
  · rw [if_neg q0]
    by_cases q1 : s = 1
    · rw [if_pos q1]
      by_cases p : 0 < x
      · rw [if_pos p]
        right
        have k := key (x - 1) y (by omega) hy (by rw [absd_ge (by omega), absd_ge (Int.le_refl _)]; omega)
        exact ⟨y * w + (x - 1), by omega, k⟩
      · rw [if_neg p]
        exact Or.inl rfl
    · rw [if_neg q1]
      by_cases q2 : s = 2
      · rw [if_pos q2]
        by_cases p : x < w - 1
        · rw [if_pos p]
          right
          have k := key (x + 1) y (by omega) hy (by rw [absd_lt (by omega), absd_ge (Int.le_refl _)]; omega)
          exact ⟨y * w + (x + 1), by omega, k⟩
        · rw [if_neg p]
          exact Or.inl rfl
      · rw [if_neg q2]
        by_cases p : y < h - 1
        · rw [if_pos p]
          right
          have k := key x (y + 1) hx (by omega) (by rw [absd_ge (Int.le_refl _), absd_lt (by omega)]; omega)
          refine ⟨(y + 1) * w + x, ?_, k⟩
          rw [Nat.add_mul, Nat.one_mul]
          omega
        · rw [if_neg p]
          exact Or.inl rfl
theorem bes_in {w h c s : Nat} (h0 : 0 < w) (hc : c < w * h) (hs : s < 4) : besZ w h c s = -9 ∨ (0 ≤ besZ w h c s ∧ besZ w h c s < ((w * h : Nat) : Int)) := by
  rcases bes_cases h0 hc hs with q | ⟨u, q, k, -⟩
  · exact Or.inl q
  · right
    rw [q]
    omega
theorem bes_nx {w h c s u : Nat} (h0 : 0 < w) (hc : c < w * h) (hs : s < 4) (e : besZ w h c s = (u : Int)) : u < w * h ∧ nxtB w c u = true := by
  rcases bes_cases h0 hc hs with q | ⟨v, q, k⟩
  · rw [q] at e
    omega
  · rw [q] at e
    have : v = u := by omega
    rw [← this]
    exact k
/-- what is next is a side -/
theorem nx_bes {w h c u : Nat} (h0 : 0 < w) (hc : c < w * h) (hu : u < w * h) (hx : nxtB w c u = true) : ∃ s, s < 4 ∧ besZ w h c s = (u : Int) := by
  obtain ⟨x, y, e, ex, ey, kx, ky⟩ := bes_eq h0 hc
  obtain ⟨x2, y2, e2, ex2, ey2, kx2, ky2⟩ := bes_eq h0 hu
  unfold nxtB at hx
  rw [ex, ey, ex2, ey2] at hx
  have hx2 := of_decide_eq_true hx
  have a1 := absd_in ((x : Nat) : Int) ((x2 : Nat) : Int)
  have a2 := absd_in ((y : Nat) : Int) ((y2 : Nat) : Int)
  have cs : (x2 = x ∧ y = y2 + 1) ∨ (x = x2 + 1 ∧ y2 = y) ∨ (x2 = x + 1 ∧ y2 = y) ∨ (x2 = x ∧ y2 = y + 1) := by omega
  rcases cs with ⟨q1, q2⟩ | ⟨q1, q2⟩ | ⟨q1, q2⟩ | ⟨q1, q2⟩
  · refine ⟨0, by omega, ?_⟩
    unfold besZ
    rw [ex, ey, if_pos rfl, if_pos (by omega)]
    rw [q2, Nat.add_mul, Nat.one_mul] at e
    omega
  · refine ⟨1, by omega, ?_⟩
    unfold besZ
    rw [ex, ey, if_neg (by decide), if_pos rfl, if_pos (by omega)]
    rw [q2] at e2
    omega
  · refine ⟨2, by omega, ?_⟩
    unfold besZ
    rw [ex, ey, if_neg (by decide), if_neg (by decide), if_pos rfl, if_pos (by omega)]
    rw [q2] at e2
    omega
  · refine ⟨3, by omega, ?_⟩
    unfold besZ
    rw [ex, ey, if_neg (by decide), if_neg (by decide), if_neg (by decide), if_pos (by omega)]
    rw [q2, Nat.add_mul, Nat.one_mul] at e2
    omega
/-! own costs, spreading -/
def ownV (dug sh : Nat → Bool) (clay : Nat → Nat) (c : Nat) : Nat := (if dug c then 0 else clay c) * 256 + 1 + (if sh c = true then 1048576 else 0)
def SInv (n to : Nat) (nx : Nat → Nat → Bool) (op : Nat → Bool) (own d : Nat → Nat) : Prop :=
  d to = own to ∧ ∀ c, c < n → d c < 1073741824 → op c = true ∧ own c ≤ d c ∧ (c = to ∨ ∃ u, u < n ∧ nx c u = true ∧ d u + own c ≤ d c)
theorem SInv_step {n to : Nat} {nx : Nat → Nat → Bool} {op : Nat → Bool} {own d : Nat → Nat} (h : SInv n to nx op own d) {c u : Nat} (hc : c < n) (hx : nx u c = true) (ho : op u = true) (hl : d c + own u < d u) : SInv n to nx op own (up d u (d c + own u)) := by
  obtain ⟨h1, h2⟩ := h
  have hut : u ≠ to := fun q => by rw [q, h1] at hl; omega
  refine ⟨by rw [up_n d _ (fun q => hut q.symm)]; exact h1, fun j hj hf => ?_⟩
  by_cases q : j = u
  · subst q
    rw [up_s] at hf ⊢
    refine ⟨ho, by omega, Or.inr ⟨c, hc, hx, ?_⟩⟩
    by_cases q2 : c = j
    · subst q2
      omega
    · rw [up_n d _ q2]
      exact Nat.le_refl _
  · rw [up_n d _ q] at hf ⊢
    obtain ⟨a1, a2, a3⟩ := h2 j hj hf
    refine ⟨a1, a2, ?_⟩
    rcases a3 with z | ⟨v, v1, v2, v3⟩
    · exact Or.inl z
    · refine Or.inr ⟨v, v1, v2, ?_⟩
      unfold up
      split
      · next z => rw [z] at v3; omega
      · exact v3
/-- one round of spreading, up to side s of cell c -/
def SOp (n w h : Nat) (op : Nat → Bool) (own : Nat → Nat) (F : Nat → Bool) (d e : Nat → Nat) (B : Nat → Bool) (c s : Nat) : Prop :=
  (∀ x, e x ≤ d x) ∧ (∀ a u, a < c → u < n → F a = true → nxtB w a u = true → op u = true → e u ≤ d a + own u) ∧ (∀ i u : Nat, i < s → F c = true → besZ w h c i = (u : Int) → op u = true → e u ≤ d c + own u) ∧ (∀ x, e x ≠ d x → B x = true) ∧ (∀ x, B x = true → x < n) ∧ (∀ to, SInv n to (nxtB w) op own d → SInv n to (nxtB w) op own e)
theorem SOp_0 {n w h : Nat} {op : Nat → Bool} {own : Nat → Nat} {F : Nat → Bool} {d : Nat → Nat} : SOp n w h op own F d d (fun _ => false) 0 0 :=
  ⟨fun x => Nat.le_refl _, fun a u q => absurd q (Nat.not_lt_zero a), fun i u q => absurd q (Nat.not_lt_zero i), fun x q => absurd rfl q, fun x q => Bool.noConfusion q, fun to q => q⟩
theorem SOp_no {n w h : Nat} {op : Nat → Bool} {own : Nat → Nat} {F : Nat → Bool} {d e : Nat → Nat} {B : Nat → Bool} {c s : Nat} (p : SOp n w h op own F d e B c s) (hno : ∀ u : Nat, besZ w h c s = (u : Int) → op u = true → e u ≤ e c + own u) : SOp n w h op own F d e B c (s + 1) := by
  obtain ⟨p1, p2, p3, p4, p5, p6⟩ := p
  refine ⟨p1, p2, fun i u hi hF hb ho => ?_, p4, p5, p6⟩
  by_cases q : i = s
  · subst q
    have := hno u hb ho
    have := p1 c
    omega
  · exact p3 i u (by omega) hF hb ho
theorem SOp_yes {n w h : Nat} {op : Nat → Bool} {own : Nat → Nat} {F : Nat → Bool} {d e : Nat → Nat} {B : Nat → Bool} {c s u : Nat} (h0 : 0 < w) (hn : n = w * h) (hc : c < n) (hs : s < 4) (p : SOp n w h op own F d e B c s) (hb : besZ w h c s = (u : Int)) (ho : op u = true) (hl : e c + own u < e u) : SOp n w h op own F d (up e u (e c + own u)) (fun x9 => B x9 || (fun x9 => decide (x9 = u)) x9) c (s + 1) := by
  obtain ⟨p1, p2, p3, p4, p5, p6⟩ := p
  have hx := bes_nx h0 (by rw [← hn]; exact hc) hs hb
  have le : ∀ x, up e u (e c + own u) x ≤ e x := fun x => by
    unfold up
    split
    · next q => rw [q]; omega
    · exact Nat.le_refl _
  refine ⟨fun x => Nat.le_trans (le x) (p1 x), fun a v a1 a2 a3 a4 a5 => Nat.le_trans (le v) (p2 a v a1 a2 a3 a4 a5), fun i v hi hF hb2 ho2 => ?_, fun x hx2 => ?_, fun x hx2 => ?_, fun to hS => ?_⟩
  · by_cases q : i = s
    · subst q
      have : v = u := by rw [hb] at hb2; omega
      subst this
      rw [up_s]
      have := p1 c
      omega
    · exact Nat.le_trans (le v) (p3 i v (by omega) hF hb2 ho2)
  · by_cases q : x = u
    · show (B x || decide (x = u)) = true
      rw [decide_eq_true q, Bool.or_true]
    · rw [up_n e _ q] at hx2
      show (B x || decide (x = u)) = true
      rw [p4 x hx2, Bool.true_or]
  · have hx3 : (B x || decide (x = u)) = true := hx2
    rw [Bool.or_eq_true] at hx3
    rcases hx3 with q | q
    · exact p5 x q
    · rw [of_decide_eq_true q, hn]
      exact hx.1
  · exact SInv_step (p6 to hS) hc (by rw [nxt_sym]; exact hx.2) ho hl
theorem SOp_next {n w h : Nat} {op : Nat → Bool} {own : Nat → Nat} {F : Nat → Bool} {d e : Nat → Nat} {B : Nat → Bool} {c s : Nat} (h0 : 0 < w) (hn : n = w * h) (hc : c < n) (p : SOp n w h op own F d e B c s) (hs : F c = false ∨ 4 ≤ s) : SOp n w h op own F d e B (c + 1) 0 := by
  obtain ⟨p1, p2, p3, p4, p5, p6⟩ := p
  refine ⟨p1, fun a u a1 a2 a3 a4 a5 => ?_, fun i u q => absurd q (Nat.not_lt_zero i), p4, p5, p6⟩
  by_cases q : a = c
  · subst q
    rcases hs with z | z
    · rw [z] at a3
      cases a3
    · obtain ⟨i, i1, i2⟩ := nx_bes h0 (by rw [← hn]; exact hc) (by rw [← hn]; exact a2) a4
      exact p3 i u (by omega) a3 i2 a5
  · exact p2 a u (by omega) a2 a3 a4 a5
/-- paths of at most t + 1 cells -/
def PCs (n to : Nat) (nx : Nat → Nat → Bool) (op : Nat → Bool) (own : Nat → Nat) : Nat → Nat → Nat → Prop
  | 0, c, v => c = to ∧ own to ≤ v
  | t + 1, c, v => PCs n to nx op own t c v ∨ (op c = true ∧ ∃ u w, u < n ∧ nx c u = true ∧ PCs n to nx op own t u w ∧ own c + w ≤ v)
theorem PCs_mono {n to : Nat} {nx : Nat → Nat → Bool} {op : Nat → Bool} {own : Nat → Nat} {t c v : Nat} (h : PCs n to nx op own t c v) : ∀ k, PCs n to nx op own (t + k) c v
  | 0 => h
  | k + 1 => Or.inl (PCs_mono h k)
theorem cntB_lt {f g : Nat → Bool} {x : Nat} : ∀ {n : Nat}, (∀ k, k < n → f k = true → g k = true) → x < n → g x = true → f x = false → cntB f n + 1 ≤ cntB g n
  | 0, _, h, _, _ => absurd h (Nat.not_lt_zero _)
  | n + 1, hs, hx, hg, hf => by
    have sub : ∀ m, m ≤ n → cntB f m ≤ cntB g m := by
      intro m
      induction m with
      | zero => exact fun _ => Nat.le_refl _
      | succ m ih =>
        intro hm
        have i := ih (by omega)
        rw [cntB, cntB]
        by_cases q : f m = true
        · rw [if_pos q, if_pos (hs m (by omega) q)]
          omega
        · rw [if_neg q]
          omega
    rw [cntB, cntB]
    by_cases q : x = n
    · subst q
      rw [hf, hg]
      have := sub x (Nat.le_refl _)
      simp
      omega
    · have i := cntB_lt (n := n) (fun k hk => hs k (by omega)) (by omega) hg hf
      by_cases q2 : f n = true
      · rw [if_pos q2, if_pos (hs n (by omega) q2)]
        omega
      · rw [if_neg q2]
        omega
theorem cntB_all : ∀ n, cntB (fun _ => true) n = n
  | 0 => rfl
  | n + 1 => by rw [cntB, cntB_all n, if_pos rfl]
def rkC (n : Nat) (d : Nat → Nat) (c : Nat) : Nat := cntB (fun v => decide (d v < d c)) n
theorem rkC_lt {n : Nat} {d : Nat → Nat} {c : Nat} (hc : c < n) : rkC n d c + 1 ≤ n := by
  have := cntB_lt (f := fun v => decide (d v < d c)) (g := fun _ => true) (x := c) (n := n) (fun _ _ _ => rfl) hc rfl (decide_eq_false (Nat.lt_irrefl _))
  rw [cntB_all] at this
  exact this
theorem rkC_step {n : Nat} {d : Nat → Nat} {u c : Nat} (hu : u < n) (h : d u < d c) : rkC n d u + 1 ≤ rkC n d c :=
  cntB_lt (f := fun v => decide (d v < d u)) (g := fun v => decide (d v < d c)) (x := u) (fun k _ q => decide_eq_true (Nat.lt_trans (of_decide_eq_true q) h)) hu (decide_eq_true h) (decide_eq_false (Nat.lt_irrefl _))
/-- what the spreading keeps from round to round -/
def SRd (n to : Nat) (nx : Nat → Nat → Bool) (op : Nat → Bool) (own d : Nat → Nat) (F : Nat → Bool) (t : Nat) : Prop :=
  SInv n to nx op own d ∧ (∀ c u, c < n → u < n → F c = false → nx c u = true → op u = true → d u ≤ d c + own u) ∧ (∀ c v, c < n → PCs n to nx op own t c v → d c ≤ v) ∧ ∀ x, F x = true → x < n
theorem SRd_0 {n to : Nat} {nx : Nat → Nat → Bool} {op : Nat → Bool} {own d : Nat → Nat} (ht : to < n) (ho : op to = true) (h1 : d to = own to) (h2 : ∀ c, c < n → c ≠ to → d c = 1073741824) (hd : ∀ c, d c ≤ 1073741824) : SRd n to nx op own d (fun x => decide (x = to)) 0 := by
  refine ⟨⟨h1, fun c hc hf => ?_⟩, fun c u hc hu hF hx hou => ?_, fun c v hc q => ?_, fun x q => by rw [of_decide_eq_true q]; exact ht⟩
  · by_cases q : c = to
    · subst q
      exact ⟨ho, by omega, Or.inl rfl⟩
    · have := h2 c hc q
      omega
  · have := h2 c hc (of_decide_eq_false hF)
    have := hd u
    omega
  · obtain ⟨q1, q2⟩ := q
    rw [q1, h1]
    exact q2
theorem SRd_s {n w h to : Nat} {op : Nat → Bool} {own d e : Nat → Nat} {F B : Nat → Bool} {t : Nat} (p : SRd n to (nxtB w) op own d F t) (q : SOp n w h op own F d e B n 0) : SRd n to (nxtB w) op own e B (t + 1) := by
  obtain ⟨p1, p2, p3, p4⟩ := p
  obtain ⟨q1, q2, -, q4, q5, q6⟩ := q
  refine ⟨q6 to p1, fun c u hc hu hB hx ho => ?_, fun c v hc hp => ?_, q5⟩
  · have ec : e c = d c := Classical.byContradiction fun z => by rw [q4 c z] at hB; cases hB
    rw [ec]
    by_cases z : F c = true
    · exact q2 c u hc hu z hx ho
    · exact Nat.le_trans (q1 u) (p2 c u hc hu (by simpa using z) hx ho)
  · rcases hp with hp | ⟨ho, u, z, hu, hx, hp, hv⟩
    · exact Nat.le_trans (q1 c) (p3 c v hc hp)
    · have du := p3 u z hu hp
      have hx' : nxtB w u c = true := by rw [nxt_sym]; exact hx
      by_cases z2 : F u = true
      · have := q2 u c hu hc z2 hx' ho
        omega
      · have := p2 u c hu hc (by simpa using z2) hx' ho
        have := q1 c
        omega
/-- the end: nothing can be had for less -/
def CRel (n to : Nat) (nx : Nat → Nat → Bool) (op : Nat → Bool) (own d : Nat → Nat) : Prop :=
  SInv n to nx op own d ∧ ∀ c u, c < n → u < n → nx c u = true → op c = true → d u < 1073741824 → d c ≤ own c + d u
theorem CRel_none {n w to : Nat} {op : Nat → Bool} {own d : Nat → Nat} {F : Nat → Bool} {t : Nat} (p : SRd n to (nxtB w) op own d F t) (hF : ∀ c, c < n → F c = false) : CRel n to (nxtB w) op own d :=
  ⟨p.1, fun c u hc hu hx ho _ => by
    have := p.2.1 u c hu hc (hF u hu) (by rw [nxt_sym]; exact hx) ho
    omega⟩
theorem PCs_sup {n to : Nat} {nx : Nat → Nat → Bool} {op : Nat → Bool} {own d : Nat → Nat} (h1 : ∀ c, c < n → 1 ≤ own c) (p : SInv n to nx op own d) : ∀ v, ∀ c, c < n → d c = v → v < 1073741824 → PCs n to nx op own (rkC n d c) c (d c) := by
  intro v
  induction v using Nat.strongRecOn with
  | ind v ih =>
    intro c hc e hv
    obtain ⟨a1, a2, a3⟩ := p.2 c hc (by omega)
    rcases a3 with q | ⟨u, u1, u2, u3⟩
    · subst q
      have : PCs n c nx op own 0 c (d c) := ⟨rfl, a2⟩
      have r := PCs_mono this (rkC n d c)
      rw [Nat.zero_add] at r
      exact r
    · have o1 := h1 c hc
      have r := ih (d u) (by omega) u u1 rfl (by omega)
      have k := rkC_step (d := d) (c := c) u1 (by omega)
      have s1 : PCs n to nx op own (rkC n d u + 1) c (d c) := Or.inr ⟨a1, u, d u, u1, u2, r, by omega⟩
      have s2 := PCs_mono s1 (rkC n d c - (rkC n d u + 1))
      rw [show rkC n d u + 1 + (rkC n d c - (rkC n d u + 1)) = rkC n d c from by omega] at s2
      exact s2
theorem CRel_all {n w to : Nat} {op : Nat → Bool} {own d : Nat → Nat} {F : Nat → Bool} (h1 : ∀ c, c < n → 1 ≤ own c) (p : SRd n to (nxtB w) op own d F n) : CRel n to (nxtB w) op own d :=
  ⟨p.1, fun c u hc hu hx ho hf => by
    have r := PCs_sup h1 p.1 (d u) u hu rfl hf
    have k := rkC_lt (d := d) hu
    have s1 : PCs n to (nxtB w) op own (rkC n d u + 1) c (own c + d u) := Or.inr ⟨ho, u, d u, hu, hx, r, Nat.le_refl _⟩
    have s2 := PCs_mono s1 (n - (rkC n d u + 1))
    rw [show rkC n d u + 1 + (n - (rkC n d u + 1)) = n from by omega] at s2
    exact p.2.2.1 c _ hc s2⟩
