/-! ways: class and reference -/
theorem MRel_ex {wide n to : Nat} {W : Nat → Nat} (hto : to < n) (h1 : ∀ c, 1 ≤ W c) (hl : ∀ c, W c ≤ 100000000) : ∃ d, MRel n to (nxtB wide) W d := by
  have key : ∀ s, ∀ d : Nat → Nat, sumN d n = s → MInv wide n to W d → ∃ d2, MInv wide n to W d2 ∧ MRlx wide n W d2 n := by
    intro s
    induction s using Nat.strongRecOn with
    | ind s ih =>
      intro d hd hi
      by_cases q : MRlx wide n W d n
      · exact ⟨d, hi, q⟩
      · have : ∃ c, c < n ∧ W c < 100000000 ∧ lstF wide d c n < 100000000 ∧ W c + lstF wide d c n < d c := by
          apply Classical.byContradiction
          intro z
          refine q fun c hc hw hlt => ?_
          apply Classical.byContradiction
          intro y
          exact z ⟨c, hc, hw, hlt, by omega⟩
        obtain ⟨c, hc, hw, hlt, hs⟩ := this
        have st := MInv_step hto h1 hi hc hlt hs
        have lt := sumN_up (f := d) hs hc
        exact ih _ (by rw [← hd]; exact lt) _ rfl st
  have start : MInv wide n to W (up (fun _ => 100000000) to (W to)) := by
    refine ⟨fun c => ?_, up_s _ _ _, fun c hc => ?_, fun c hc hf => ?_⟩
    · unfold up
      split
      · exact hl to
      · exact Nat.le_refl _
    · unfold up
      split
      · next z => rw [z]; exact Nat.le_refl _
      · exact hl c
    · by_cases z : c = to
      · exact Or.inl z
      · rw [up_n _ _ z] at hf
        exact absurd hf (Nat.lt_irrefl _)
  obtain ⟨d, hd1, hd2⟩ := key _ _ rfl start
  exact ⟨d, MRel_end hd1 hd2⟩
theorem MRel_cong {n to : Nat} {nx : Nat → Nat → Bool} {W W2 d : Nat → Nat} (hto : to < n) (h : ∀ c, c < n → W c = W2 c) (hm : MRel n to nx W d) : MRel n to nx W2 d := by
  obtain ⟨a1, a2, a3, a4, a5⟩ := hm
  exact ⟨a1, by rw [a2, h to hto], fun c hc => by rw [← h c hc]; exact a3 c hc, fun c hc hf => by rw [← h c hc]; exact a4 c hc hf, fun c u hc hu hx hd hw => by rw [← h c hc] at hw ⊢; exact a5 c u hc hu hx hd hw⟩
theorem dF_cong {n to : Nat} {nx : Nat → Nat → Bool} {W W2 : Nat → Nat} (hto : to < n) (h : ∀ c, c < n → W c = W2 c) : dF n to nx W = dF n to nx W2 := by
  have e : ∀ d, MRel n to nx W d ↔ MRel n to nx W2 d := fun d => ⟨MRel_cong hto h, MRel_cong hto (fun c hc => (h c hc).symm)⟩
  unfold dF
  simp only [e]
theorem pth_W {wide n : Nat} {W W2 d : Nat → Nat} (h : ∀ c, c < n → W c = W2 c) {f : Nat} (hf : f < n) : ∀ j, pthZ wide n W d f j = pthZ wide n W2 d f j
  | 0 => rfl
  | j + 1 => by
    have i := pth_W (wide := wide) (d := d) h hf j
    have l := pth_lt (wide := wide) (W := W2) (d := d) hf j
    rw [pthZ, pthZ, i, nsR_cong (q := nsP wide W2 d (pthZ wide n W2 d f j)) (by omega) (fun u hu => by rw [nsP, nsP, h _ l])]
theorem wayZ_W {wide n high : Nat} {W W2 d : Nat → Nat} (h0 : 0 < wide) (hn : n = wide * high) (h : ∀ c, c < n → W c = W2 c) (k : Int) : wayZ wide n high W d k = wayZ wide n high W2 d k := by
  have hin := fsZ_in d h0 high
  have e1 : high * wide = n := by rw [hn, Nat.mul_comm]
  unfold wayZ
  by_cases q : fsZ d wide high < 0
  · rw [if_pos q, if_pos q]
  · rw [if_neg q, if_neg q, pth_W h (by omega)]
theorem way_W {wide n high to : Nat} {W W2 : Nat → Nat} (h0 : 0 < wide) (hn : n = wide * high) (hto : to < n) (h : ∀ c, c < n → W c = W2 c) (k : Int) : wayZ wide n high W (dF n to (nxtB wide) W) k = wayZ wide n high W2 (dF n to (nxtB wide) W2) k := by
  rw [dF_cong hto h, wayZ_W h0 hn h]
theorem wg_sap {wide high guns : Nat} {clay kind stand reach : Nat → Nat} {sil dug : Nat → Bool} (h0 : 0 < wide) (hg5 : guns ≤ 5) (hs : ∀ g, g < guns → stand g < wide * high) {c : Nat} (hc : c < wide * high) : wgC (openF wide high (wide * high) guns clay kind stand reach sil) (fun _ => false) dug clay c = wgtF false (decide (0 < clay c ∧ stF stand guns c = false)) (shotQ (mshotB wide guns kind stand reach sil c)) (if dug c = true then 0 else clay c) := by
  unfold wgC wgtF
  rw [open_eq h0 hg5 hs hc]
  cases decide (0 < clay c ∧ stF stand guns c = false) <;> cases shotQ (mshotB wide guns kind stand reach sil c) <;> simp
theorem wg_rush {wide high guns : Nat} {clay kind stand reach : Nat → Nat} {sil dug : Nat → Bool} (h0 : 0 < wide) (hg5 : guns ≤ 5) (hs : ∀ g, g < guns → stand g < wide * high) {c : Nat} (hc : c < wide * high) : wgC (soilF (wide * high) guns clay stand) (shotF wide high guns kind stand reach sil) dug clay c = wgtF true (decide (0 < clay c ∧ stF stand guns c = false)) (shotQ (mshotB wide guns kind stand reach sil c)) (if dug c = true then 0 else clay c) := by
  unfold wgC wgtF
  rw [soil_eq hc, shotF_Q h0 hg5 hs hc]
  cases decide (0 < clay c ∧ stF stand guns c = false) <;> cases shotQ (mshotB wide guns kind stand reach sil c) <;> simp
/-! a sap exists: cells reached from the west -/
theorem rch_mono {wide : Nat} {fc lc op : Nat → Bool} {t i : Nat} (h : rchF wide fc lc op t i = true) : ∀ k, rchF wide fc lc op (t + k) i = true
  | 0 => h
  | k + 1 => by
    show (rchF wide fc lc op (t + k) i || _) = true
    rw [rch_mono h k, Bool.true_or]
theorem fsZ_pos {d : Nat → Nat} {wide : Nat} : ∀ {h y : Nat}, y < h → d (y * wide) < 100000000 → 0 ≤ fsZ d wide h
  | 0, y, hy, _ => absurd hy (Nat.not_lt_zero _)
  | h + 1, y, hy, hd => by
    rw [fsZ]
    split
    · omega
    · next z =>
      by_cases q : y = h
      · subst q
        by_cases w : fsZ d wide y < 0
        · exact absurd ⟨hd, Or.inl w⟩ z
        · omega
      · exact fsZ_pos (h := h) (by omega) hd
theorem fsZ_at {d : Nat → Nat} {wide : Nat} : ∀ {h : Nat}, 0 ≤ fsZ d wide h → ∃ y, y < h ∧ fsZ d wide h = ((y * wide : Nat) : Int)
  | 0, q => absurd q (by unfold fsZ; omega)
  | h + 1, q => by
    rw [fsZ] at q ⊢
    by_cases z : d (h * wide) < 100000000 ∧ (fsZ d wide h < 0 ∨ d (h * wide) < d (fsZ d wide h).toNat)
    · rw [if_pos z]
      exact ⟨h, by omega, rfl⟩
    · rw [if_neg z] at q ⊢
      obtain ⟨y, y1, y2⟩ := fsZ_at q
      exact ⟨y, by omega, y2⟩
theorem MRel_bd {n to : Nat} {nx : Nat → Nat → Bool} {W d : Nat → Nat} (hn : n ≤ 36) (hto : to < n) (h64 : ∀ c, W c < 100000000 → W c % 64 = 1) (hb : ∀ c, W c < 100000000 → W c ≤ 577) (h1 : ∀ c, 1 ≤ W c) (hm : MRel n to nx W d) : ∀ v c, c < n → d c = v → v < 100000000 → d c ≤ (rkC n d c + 1) * 577 ∧ ∃ K, 1 ≤ K ∧ K ≤ rkC n d c + 1 ∧ d c % 64 = K := by
  obtain ⟨a1, a2, a3, a4, a5⟩ := hm
  intro v
  induction v using Nat.strongRecOn with
  | ind v ih =>
    intro c hc e hv
    have w1 := a3 c hc
    have wf : W c < 100000000 := by omega
    have w64 := h64 c wf
    have wb := hb c wf
    have w0 := h1 c
    rcases a4 c hc (by omega) with q | ⟨u, u1, u2, u3⟩
    · subst q
      rw [a2]
      have : 577 ≤ (rkC n d c + 1) * 577 := by
        rw [Nat.add_mul]
        omega
      exact ⟨by omega, 1, Nat.le_refl _, by omega, w64⟩
    · obtain ⟨i1, K, k1, k2, k3⟩ := ih (d u) (by omega) u u1 rfl (by omega)
      have r := a5 c u hc u1 u2 (by omega) wf
      have rk := rkC_step (d := d) (c := c) u1 (by omega)
      have rl := rkC_lt (d := d) hc
      have ee : d c = W c + d u := by omega
      refine ⟨?_, K + 1, by omega, by omega, by rw [ee]; omega⟩
      have m1 : (rkC n d u + 1 + 1) * 577 ≤ (rkC n d c + 1) * 577 := Nat.mul_le_mul_right _ (by omega)
      rw [Nat.add_mul (rkC n d u + 1)] at m1
      omega
theorem rch_way {wide high to : Nat} {fc lc op dug : Nat → Bool} {clay : Nat → Nat} (h0 : 0 < wide) (h36 : wide * high ≤ 36) (hw : wide ≤ 6) (hcl : ∀ k, clay k ≤ 9) (hfc : ∀ i, fc i = decide (i < wide * high ∧ i % wide = 0)) (hlc : ∀ i, lc i = decide (i < wide * high ∧ i % wide + 1 = wide)) (hop : ∀ i, op i = true → i < wide * high) (hto : to < wide * high) :
    rchF wide fc lc op (wide * high) to = decide (0 < wayZ wide (wide * high) high (wgC op (fun _ => false) dug clay) (dF (wide * high) to (nxtB wide) (wgC op (fun _ => false) dug clay)) (-1)) := by
  obtain ⟨W, hWd⟩ : ∃ W, W = wgC op (fun _ => false) dug clay := ⟨_, rfl⟩
  have h64 : ∀ c, W c < 100000000 → W c % 64 = 1 := by rw [hWd]; exact wgC_64 op _ dug clay
  have h1 : ∀ c, 1 ≤ W c := by rw [hWd]; exact wgC_1 op _ dug clay
  have hl : ∀ c, W c ≤ 100000000 := by rw [hWd]; exact wgC_le hcl op _ dug
  have hWy : ∀ c, op c = true → W c ≤ 577 := fun c ho => by
    rw [hWd, wgC, if_pos ho, if_neg (by decide)]
    have := hcl c
    split <;> omega
  have hWn : ∀ c, W c < 100000000 → op c = true := fun c q => Classical.byContradiction fun z => by
    rw [hWd, wgC, if_neg z] at q
    exact absurd q (Nat.lt_irrefl _)
  have hb : ∀ c, W c < 100000000 → W c ≤ 577 := fun c q => hWy c (hWn c q)
  obtain ⟨d, hm⟩ := MRel_ex (wide := wide) hto h1 hl
  rw [← hWd, wayZ_cong h0 rfl hm h64 (fun _ _ => rfl) (fun c hc => dF_eq h1 hm hc) (fsZ_far d h0)]
  have bd := MRel_bd h36 hto h64 hb h1 hm
  have sub : ∀ t i, rchF wide fc lc op t i = true → i < wide * high := fun t i h => hop i (rchF_sub h)
  have hA : ∀ t i, rchF wide fc lc op t i = true → d i < 100000000 → ∃ y, y < high ∧ d (y * wide) < 100000000 := by
    intro t
    induction t with
    | zero =>
      intro i h hd
      have hi := sub 0 i h
      rw [rchF, Bool.and_eq_true, hfc] at h
      have e := (of_decide_eq_true h.2).2
      refine ⟨i / wide, div_in hi, ?_⟩
      have := Nat.div_add_mod i wide
      rw [e, Nat.add_zero, Nat.mul_comm] at this
      rw [this]
      exact hd
    | succ t ih =>
      intro i h hd
      have hi := sub (t + 1) i h
      rw [rchF, Bool.or_eq_true, Bool.and_eq_true] at h
      rcases h with h | ⟨h, -⟩
      · exact ih i h hd
      · obtain ⟨j, j1, j2, j3⟩ := (nextF_iff h0 h36 hw hfc hlc (sub t) hi).mp h
        have wj := hWy j (rchF_sub j2)
        have r := hm.2.2.2.2 j i j1 hi (by rw [nxt_sym]; exact j3) hd (by omega)
        have b := (bd (d i) i hi rfl hd).1
        have rl := rkC_lt (d := d) hi
        have m1 : (rkC (wide * high) d i + 1) * 577 ≤ 36 * 577 := Nat.mul_le_mul_right _ (by omega)
        exact ih j j2 (by omega)
  have hB : ∀ v i, i < wide * high → d i = v → v < 100000000 → ∀ t, rchF wide fc lc op t i = true → rchF wide fc lc op (t + rkC (wide * high) d i) to = true := by
    intro v
    induction v using Nat.strongRecOn with
    | ind v ih =>
      intro i hi e hv t ht
      rcases hm.2.2.2.1 i hi (by omega) with q | ⟨u, u1, u2, u3⟩
      · subst q
        exact rch_mono ht _
      · have wi := h1 i
        have wu := hm.2.2.1 u u1
        have ou := hWn u (by omega)
        have st : rchF wide fc lc op (t + 1) u = true := by
          show (rchF wide fc lc op t u || (nextF wide fc lc (rchF wide fc lc op t) u && op u)) = true
          rw [(nextF_iff h0 h36 hw hfc hlc (sub t) u1).mpr ⟨i, hi, ht, by rw [nxt_sym]; exact u2⟩, ou, Bool.true_and, Bool.or_true]
        have r := ih (d u) (by omega) u u1 rfl (by omega) (t + 1) st
        have rk := rkC_step (d := d) (c := i) u1 (by omega)
        have m := rch_mono r (rkC (wide * high) d i - (rkC (wide * high) d u + 1))
        rw [show t + 1 + rkC (wide * high) d u + (rkC (wide * high) d i - (rkC (wide * high) d u + 1)) = t + rkC (wide * high) d i from by omega] at m
        exact m
  rw [Bool.eq_iff_iff, decide_eq_true_iff]
  unfold wayZ
  constructor
  · intro h
    have oc := rchF_sub h
    have dc : d to < 100000000 := by
      rw [hm.2.1]
      have := hWy to oc
      omega
    obtain ⟨y, y1, y2⟩ := hA _ _ h dc
    have fp := fsZ_pos (wide := wide) y1 y2
    have fin := fsZ_in d h0 high
    have hf : (fsZ d wide high).toNat < wide * high := by rw [Nat.mul_comm wide]; omega
    obtain ⟨K, k1, -, k3⟩ := (bd _ _ hf rfl (fsZ_far d h0 high fp)).2
    rw [if_neg (by omega), if_pos (by decide), if_pos rfl, k3]
    omega
  · intro h
    have fp : 0 ≤ fsZ d wide high := Classical.byContradiction fun z => by
      rw [if_pos (by omega)] at h
      omega
    obtain ⟨y, y1, y2⟩ := fsZ_at fp
    have fl := fsZ_far d h0 high fp
    have ey : (fsZ d wide high).toNat = y * wide := by rw [y2]; rfl
    rw [ey] at fl
    have yl : y * wide < wide * high := by
      have := mul_lt_rows (w := wide) (h := high) (y := y) (x := 0) y1 h0
      exact this
    have wf := hm.2.2.1 (y * wide) yl
    have st : rchF wide fc lc op 0 (y * wide) = true := by
      show (op (y * wide) && fc (y * wide)) = true
      rw [hWn (y * wide) (by omega), hfc, decide_eq_true ⟨yl, Nat.mul_mod_left y wide⟩]
      rfl
    have r := hB _ _ yl rfl fl 0 st
    have rl := rkC_lt (d := d) yl
    have m := rch_mono r (wide * high - rkC (wide * high) d (y * wide))
    rw [show 0 + rkC (wide * high) d (y * wide) + (wide * high - rkC (wide * high) d (y * wide)) = wide * high from by omega] at m
    exact m
