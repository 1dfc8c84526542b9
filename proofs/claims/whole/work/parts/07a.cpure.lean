/-! the class: rows and words that were wanting -/
section RD
variable {p : Program} {l : Launch} {e : Env} {R : Room} {s : State} {m : MethodId} {args : Array Value} {below : List Frame} {meth : Method} {c : Code} {H : Heap} {locs : List Loc} {cells slots : Nat} {Q : State → Prop} {cc : ByteArray} {pc : Nat} {ls : Array Slot} {rest : List Value}
variable {D : va_G} {tys : List (ClassId × FieldType)} {ws : va_W} {A : Nat → Prop} {H0 : Heap} {a : Nat}
theorem r_aret {S : Type} {post : Option Nat → S → Prop} {w1 : S → va_W} {v : Option Nat} {cn : String} (hx : p.tables.exec = Jvm.exec) (hb : c.code = cc) (hlocks : meth.locks = false) (hP : va_P D vwCl ws H) (hD : va_D A ws) (hS : va_S A s.heap H locs) (is : List Nat) (u : S) (hs : is.filterMap (fun i => ws[i]?) = w1 u) (hs2 : is.map (fun i => ws[i]?) = (w1 u).map some) (hn : va_nd is = true) (hr : meth.sig.returnType = some (.object cn)) (hq : post v u) (hd : decode cc pc = .ok (.areturn, 1)) : W p l e R s m args below meth c H locs cells slots (MQ below (va_Qq post (fun u t => va_P D vwCl (w1 u) t.heap ∧ va_D A (w1 u)) A) args s cells slots A) (F0 m pc ls [va_rf v]) :=
  W.aret hx hb hr (Or.inl ⟨_, rfl⟩) (by cases v with | none => exact Or.inl rfl | some q => exact Or.inr ⟨_, rfl⟩) (fun t ht hW => ⟨⟨v, u, rfl, hq, by rw [ht]; exact hP.sub is hs, hD.sub is hn hs2⟩, hS.F ht⟩) hS.2.2 hd hlocks
def cpyZ (f g : Nat → Int) (sp dp n : Nat) : Nat → Int := fun k => if dp ≤ k ∧ k < dp + n then f (sp + (k - dp)) else g k
theorem cpyZ_eq (f g : Nat → Int) (sp dp n : Nat) : va_cpy (zF f) (zF g) sp dp n = zF (cpyZ f g sp dp n) := by
  funext k
  unfold va_cpy zF cpyZ
  split <;> rfl
theorem iI_nn {n : Nat} (h : n < 1000000) : ¬ iI ((n : Nat) : Int) < 0 := fun q => by
  have := (iI_lt (a := (n : Int)) (b := 0) ⟨by omega, by omega⟩ ⟨by omega, by omega⟩).mp q
  omega
theorem r_copyz (hx : p.tables.exec = Jvm.exec) (hb : c.code = cc) (hml : c.maxLocals = ls.size) {own : String} {index : Nat} (hown : s.vm.findClass own = some m.cls) (hlink : (Cond.methodLink own index arraycopyName).before args s = true) (hnat : (Cond.native arraycopyName).before args s = true) (hstat : (Cond.static arraycopyName).before args s = true) (hini : (Cond.initialized "java/lang/System").before args s = true)
    (hK : va_K D vwCl tys s) (hP : va_P D vwCl ws H) (hD : va_D A ws) (hS : va_S A H0 H locs) (q0 q1 t0 t1 : Nat) {a0 : Nat} {c0 c1 : ClassId} {n0 n1 : Nat} {f g : Nat → Int} (ha0 : ws[q0]? = some (a0, .inl (c0, n0, .inl (zF f)))) (ha1 : ws[q1]? = some (a, .inl (c1, n1, .inl (zF g)))) (ht0 : tys[t0]? = some (c0, .int)) (ht1 : tys[t1]? = some (c1, .int)) (hprim : refKind .int = false)
    {sp dp n : Nat} (b1 : sp < 1000000) (b2 : dp < 1000000) (b3 : n < 1000000) (h4 : sp + n ≤ n0) (h5 : dp + n ≤ n1)
    (hframes : 1 ≤ R.frames) (hlocals : (rest.map fun v => v.category).sum + (nativeFrameWords "java/lang/System" "arraycopy" 5 + 11) ≤ R.locals) (hdg : decode cc pc = .ok (.invokestatic index, 3))
    (kk : ∀ (H1 : Heap) (locs1 : List Loc), va_P D vwCl (ws.set q1 (a, .inl (c1, n1, .inl (zF (cpyZ f g sp dp n))))) H1 → va_D A (ws.set q1 (a, .inl (c1, n1, .inl (zF (cpyZ f g sp dp n))))) → va_S A H0 H1 locs1 → W p l e R s m args below meth c H1 locs1 cells slots Q (F0 m (pc + 3) ls rest)) : W p l e R s m args below meth c H locs cells slots Q (F0 m pc ls (.int (iI ((n : Nat) : Int)) :: .int (iI ((dp : Nat) : Int)) :: .ref a :: .int (iI ((sp : Nat) : Int)) :: .ref a0 :: rest)) := by
  have e1 : (iI ((sp : Nat) : Int)).toNatClampNeg = sp := iI_cl rfl b1
  have e2 : (iI ((dp : Nat) : Int)).toNatClampNeg = dp := iI_cl rfl b2
  have e3 : (iI ((n : Nat) : Int)).toNatClampNeg = n := iI_cl rfl b3
  refine va_copyi hx hb hml hown hlink hnat hstat hini hK hP hD hS q0 q1 t0 t1 ha0 ha1 ht0 ht1 hprim (iI_nn b1) (iI_nn b2) (iI_nn b3) (by rw [e1, e3]; exact h4) (by rw [e2, e3]; exact h5) (fun i _ => rfl) hframes hlocals hdg (fun H1 locs1 hP1 hD1 hS1 => ?_)
  rw [e1, e2, e3, cpyZ_eq] at hP1 hD1
  exact kk H1 locs1 hP1 hD1 hS1
end RD
def minZ (x y : Int) : Int := if y < x then y else x
theorem min_iI {x y : Int} (hx : InR x) (hy : InR y) : (if iI y < iI x then iI y else iI x) = iI (minZ x y) := by
  unfold minZ
  by_cases h : y < x
  · rw [if_pos ((iI_lt hy hx).mpr h), if_pos h]
  · rw [if_neg (fun q => h ((iI_lt hy hx).mp q)), if_neg h]
/-! trenches of the class -/
def goC (wide cells guns : Nat) (clay stand : Nat → Nat) (fc lc : Nat → Bool) (num : Nat → Int) (fr x : Nat) : Bool := soilF cells guns clay stand (tcF num fr x) && (if x = 0 then fc (tcF num fr x) else nextF wide fc lc (fun i => decide (i = tcF num fr (x - 1))) (tcF num fr x))
def begC (wide : Nat) (fc lc : Nat → Bool) (num : Nat → Int) (fr x : Nat) : Nat → Bool := if x = 0 then fc else nextF wide fc lc (fun i => decide (i = tcF num fr (x - 1)))
theorem goC_beg (wide cells guns : Nat) (clay stand : Nat → Nat) (fc lc : Nat → Bool) (num : Nat → Int) (fr x : Nat) : goC wide cells guns clay stand fc lc num fr x = (soilF cells guns clay stand (tcF num fr x) && begC wide fc lc num fr x (tcF num fr x)) := by
  unfold goC begC
  split <;> rfl
theorem fwZ_hit {go : Nat → Bool} {k n : Nat} (h : fwZ go k = -9) (hk : go k = false) (hn : k < n) : fwZ go n = ((k : Nat) : Int) := by
  have e : fwZ go (k + 1) = ((k : Nat) : Int) := by
    rw [fwZ, if_pos (by omega), if_neg (by rw [hk]; decide)]
  rw [fwZ_stay (x := k + 1) (by rw [e]; omega) n (by omega), e]
theorem fwZ_go {go : Nat → Bool} {k : Nat} (h : fwZ go k = -9) (hk : go k = true) : fwZ go (k + 1) = -9 := by
  rw [fwZ, if_pos (by omega), if_pos hk]
theorem tgood_s {num : Nat → Int} {fr n wh : Nat} (h : tgood num fr n wh = true) (h2 : 0 ≤ num (fr + n) ∧ num (fr + n) < (wh : Int)) : tgood num fr (n + 1) wh = true := by
  unfold tgood at h ⊢
  rw [anyB, decide_eq_true h2]
  simp at h ⊢
  exact h
theorem tgood_no {num : Nat → Int} {fr n wh k : Nat} (hk : k < n) (h2 : ¬ (0 ≤ num (fr + k) ∧ num (fr + k) < (wh : Int))) : tgood num fr n wh = false := by
  unfold tgood
  rw [(anyB_iff _ _).mpr ⟨k, hk, by rw [decide_eq_false h2]; rfl⟩]
  rfl
theorem tgood_at {num : Nat → Int} {fr n wh k : Nat} (h : tgood num fr n wh = true) (hk : k < n) : 0 ≤ num (fr + k) ∧ num (fr + k) < (wh : Int) := by
  by_cases q : 0 ≤ num (fr + k) ∧ num (fr + k) < (wh : Int)
  · exact q
  · rw [tgood_no hk q] at h
    cases h
/-! rows of cells -/
theorem row_at {w y x : Nat} (hx : x < w) : (y * w + x) % w = x ∧ (y * w + x) / w = y := by
  have h0 : 0 < w := by omega
  rw [Nat.add_comm, Nat.add_mul_mod_self_right, Nat.add_mul_div_right _ _ h0, Nat.mod_eq_of_lt hx, Nat.div_eq_of_lt hx, Nat.zero_add]
  exact ⟨rfl, rfl⟩
theorem row_of {w y i : Nat} (h1 : y * w ≤ i) (h2 : i < y * w + w) : i % w = i - y * w ∧ i / w = y := by
  have := row_at (w := w) (y := y) (x := i - y * w) (by omega)
  rw [show y * w + (i - y * w) = i from by omega] at this
  exact this
theorem mul_66 {y w : Nat} (hy : y ≤ 5) (hw : w ≤ 6) : y * w ≤ 30 := Nat.mul_le_mul hy hw
/-- the left edge, row by row -/
def lfF (w C : Nat) : Nat → Bool := fun i => decide (i < C ∧ i % w = 0)
def rtF (w C : Nat) : Nat → Bool := fun i => decide (i < C ∧ i % w + 1 = w)
theorem lf_s {w y : Nat} (hw : 0 < w) : (fun x9 => (lfF w (y * w)) x9 || (fun x9 => decide (x9 = y * w)) x9) = lfF w ((y + 1) * w) := by
  funext i
  show (decide (i < y * w ∧ i % w = 0) || decide (i = y * w)) = decide (i < (y + 1) * w ∧ i % w = 0)
  have e : (y + 1) * w = y * w + w := by rw [Nat.add_mul, Nat.one_mul]
  rw [Bool.eq_iff_iff, Bool.or_eq_true, decide_eq_true_eq, decide_eq_true_eq, decide_eq_true_eq, e]
  constructor
  · rintro (h | h)
    · exact ⟨by omega, h.2⟩
    · subst h
      exact ⟨by omega, Nat.mul_mod_left y w⟩
  · rintro ⟨h1, h2⟩
    by_cases q : i < y * w
    · exact Or.inl ⟨q, h2⟩
    · right
      have := row_of (w := w) (y := y) (i := i) (by omega) h1
      omega
theorem lf_0 (w : Nat) : (fun _ => false) = lfF w (0 * w) := by
  funext i
  show false = decide (i < 0 * w ∧ i % w = 0)
  rw [Nat.zero_mul, decide_eq_false (fun q => absurd q.1 (Nat.not_lt_zero i))]
theorem rt_0 (w : Nat) : (fun _ => false) = rtF w (0 * w) := by
  funext i
  show false = decide (i < 0 * w ∧ i % w + 1 = w)
  rw [Nat.zero_mul, decide_eq_false (fun q => absurd q.1 (Nat.not_lt_zero i))]
theorem rt_s {w y : Nat} (hw : 0 < w) : (fun x9 => (rtF w (y * w)) x9 || (fun x9 => decide (x9 = (y + 1) * w - 1)) x9) = rtF w ((y + 1) * w) := by
  funext i
  show (decide (i < y * w ∧ i % w + 1 = w) || decide (i = (y + 1) * w - 1)) = decide (i < (y + 1) * w ∧ i % w + 1 = w)
  have e : (y + 1) * w = y * w + w := by rw [Nat.add_mul, Nat.one_mul]
  rw [Bool.eq_iff_iff, Bool.or_eq_true, decide_eq_true_eq, decide_eq_true_eq, decide_eq_true_eq, e]
  constructor
  · rintro (h | h)
    · exact ⟨by omega, h.2⟩
    · have := row_of (w := w) (y := y) (i := i) (by omega) (by omega)
      omega
  · rintro ⟨h1, h2⟩
    by_cases q : i < y * w
    · exact Or.inl ⟨q, h2⟩
    · right
      have := row_of (w := w) (y := y) (i := i) (by omega) h1
      omega
theorem take_ok {num : Nat → Int} {fr n : Nat} {clay kind stand reach col row : Nat → Nat} (hg : ∀ j, j < n → goP num fr j) (h : allP num fr n) (hcl : ∀ k, clay k ≤ 9) (hki : ∀ k, kind k ≤ 2) (hst : ∀ k, stand k < 36) (hre : ∀ k, reach k ≤ 9) (q0 : ∀ k, col k ≤ 6) (q1 : ∀ k, row k ≤ 6) (q2 : ∀ k, k < tW num fr * tH num fr → col k = k % tW num fr ∧ row k = k / tW num fr) :
    LandOk (tW num fr) (tH num fr) (tW num fr * tH num fr) (tG num fr n) (fun _ => false) (fun _ => false) (lfF (tW num fr) (tW num fr * tH num fr)) (rtF (tW num fr) (tW num fr * tH num fr)) (tkC num fr (tW num fr * tH num fr) clay) col row (tkK num fr (tG num fr n) kind) (tkS num fr (tG num fr n) stand) (tkR num fr (tG num fr n) reach) := by
  have hb := headP_b (goP_head hg h.1)
  have hG := tG_in hg h
  have hn := tG_eq h
  have gun : ∀ g, g < tG num fr n → tkS num fr (tG num fr n) stand g < tW num fr * tH num fr := fun g hgl => by
    have k := goP_gun hg h.1 (g := g) (by omega)
    unfold tkS
    rw [if_pos hgl]
    have a1 : (num (fr + (tA num fr + 5 * g + 2)) - 48).toNat < tW num fr := by omega
    have a2 : (num (fr + (tA num fr + 5 * g + 3)) - 48).toNat < tH num fr := by omega
    have a3 : ((num (fr + (tA num fr + 5 * g + 3)) - 48).toNat + 1) * tW num fr ≤ tH num fr * tW num fr := Nat.mul_le_mul_right _ a2
    rw [Nat.add_mul, Nat.one_mul, Nat.mul_comm (tH num fr)] at a3
    omega
  refine ⟨rfl, hb.1.2, hb.2.1.2, hb.2.2.1, by omega, fun k => ?_, q0, q1, fun k => ?_, fun k => ?_, fun k => ?_, gun, fun k hk => (q2 k hk).1, fun k hk => (q2 k hk).2, fun i => rfl, fun i => rfl, fun i hi => Bool.noConfusion hi, fun i hi => Bool.noConfusion hi⟩
  · unfold tkC
    split
    · next hk =>
      have := (hg (3 + k) (by have := h.2.1; unfold tA at this; omega)).2.2.1 ⟨by omega, by unfold tA; omega⟩
      omega
    · exact hcl k
  · unfold tkK
    split
    · next hk =>
      have k1 := kindZ_in (goP_gun hg h.1 (g := k) (by omega)).1
      omega
    · exact hki k
  · by_cases hk : k < tG num fr n
    · have := gun k hk
      omega
    · unfold tkS
      rw [if_neg hk]
      exact hst k
  · unfold tkR
    split
    · next hk =>
      have k1 := goP_gun hg h.1 (g := k) (by omega)
      omega
    · exact hre k
def cbpB (wide high guns : Nat) (stand : Nat → Nat) (p c : Nat) : Bool := decide (p ≠ c) && !stF stand guns p && !seenF wide high p 2 (stF stand guns) c
theorem cbp_1 {wide high guns : Nat} {stand : Nat → Nat} {p c : Nat} (h : p = c) : cbpB wide high guns stand p c = false := by
  unfold cbpB
  rw [decide_eq_false (fun q => q h)]
  rfl
theorem cbp_2 {wide high guns : Nat} {stand : Nat → Nat} {p c : Nat} (h : stF stand guns p = true) : cbpB wide high guns stand p c = false := by
  unfold cbpB
  rw [h]
  simp
theorem cbp_3 {wide high guns : Nat} {stand : Nat → Nat} {p c : Nat} (h : seenF wide high p 2 (stF stand guns) c = true) : cbpB wide high guns stand p c = false := by
  unfold cbpB
  rw [h]
  simp
theorem cbp_4 {wide high guns : Nat} {stand : Nat → Nat} {p c : Nat} (h : p ≠ c) (h2 : stF stand guns p = false) (h3 : seenF wide high p 2 (stF stand guns) c = false) : cbpB wide high guns stand p c = true := by
  unfold cbpB
  rw [h2, h3, decide_eq_true h]
  rfl
/-! a text, as the class reads it -/
def goT (j : Nat) (c : Int) (w h : Nat) : Prop :=
  (j = 0 → c = 112) ∧ (1 ≤ j ∧ j < 3 → 50 ≤ c ∧ c ≤ 54) ∧ (3 ≤ j ∧ j < 3 + w * h → 48 ≤ c ∧ c ≤ 57) ∧
  (3 ≤ j ∧ 3 + w * h ≤ j → j < 3 + w * h + 20 ∧ gunP ((j - (3 + w * h)) % 5) c w h)
theorem goT_P {num : Nat → Int} {fr j w h : Nat} (hw : j < 3 ∨ (w = tW num fr ∧ h = tH num fr)) : goT j (num (fr + j)) w h ↔ goP num fr j := by
  by_cases q : j < 3
  · constructor
    · rintro ⟨h1, h2, -, -⟩
      exact ⟨fun e => by subst e; exact h1 rfl, h2, fun e => by omega, fun e => by omega⟩
    · rintro ⟨h1, h2, -, -⟩
      exact ⟨fun e => by subst e; exact h1 rfl, h2, fun e => by omega, fun e => by omega⟩
  · obtain ⟨e1, e2⟩ := hw.resolve_left q
    subst e1 e2
    constructor
    · rintro ⟨h1, h2, h3, h4⟩
      exact ⟨fun e => by omega, h2, h3, h4⟩
    · rintro ⟨h1, h2, h3, h4⟩
      exact ⟨fun e => by omega, h2, h3, h4⟩
theorem go_0 {j : Nat} {c : Int} {w h : Nat} {b : Bool} (hj : j = 0) (hb : b = true ↔ c = 112) : b = true ↔ goT j c w h := by
  rw [hb]
  exact ⟨fun q => ⟨fun _ => q, fun e => by omega, fun e => by omega, fun e => by omega⟩, fun q => q.1 hj⟩
theorem go_1 {j : Nat} {c : Int} {w h : Nat} {b : Bool} (hj : 1 ≤ j ∧ j < 3) (hb : b = true ↔ 50 ≤ c ∧ c ≤ 54) : b = true ↔ goT j c w h := by
  rw [hb]
  exact ⟨fun q => ⟨fun e => by omega, fun _ => q, fun e => by omega, fun e => by omega⟩, fun q => q.2.1 hj⟩
theorem go_2 {j : Nat} {c : Int} {w h : Nat} {b : Bool} (hj : 3 ≤ j) (h2 : j < 3 + w * h) (hb : b = true ↔ 48 ≤ c ∧ c ≤ 57) : b = true ↔ goT j c w h := by
  rw [hb]
  exact ⟨fun q => ⟨fun e => by omega, fun e => by omega, fun _ => q, fun e => by omega⟩, fun q => q.2.2.1 ⟨hj, h2⟩⟩
theorem go_3 {j : Nat} {c : Int} {w h : Nat} (hj : 3 ≤ j) (h2 : 3 + w * h + 20 ≤ j) : false = true ↔ goT j c w h :=
  ⟨fun e => Bool.noConfusion e, fun q => by have := (q.2.2.2 ⟨hj, by omega⟩).1; omega⟩
theorem go_4 {j : Nat} {c : Int} {w h : Nat} {b : Bool} (k : Nat) (hj : 3 ≤ j) (h2 : 3 + w * h ≤ j) (h3 : j < 3 + w * h + 20) (hk : (j - (3 + w * h)) % 5 = k) (hb : b = true ↔ gunP k c w h) : b = true ↔ goT j c w h := by
  rw [hb]
  exact ⟨fun q => ⟨fun e => by omega, fun e => by omega, fun e => by omega, fun _ => ⟨h3, by rw [hk]; exact q⟩⟩, fun q => by have := (q.2.2.2 ⟨hj, h2⟩).2; rw [hk] at this; exact this⟩
theorem dig_9 {c : Int} (h : InR c) : decide (0 ≤ figV c ∧ figV c ≤ 9) = true ↔ 48 ≤ c ∧ c ≤ 57 := by
  rw [decide_eq_true_iff, (figV_dig h (lo := 0) (hi := 9) (by decide) (by decide)).1]
  constructor <;> (intro q; omega)
theorem dig_m {c : Int} {m : Nat} (h : InR c) (hm : m ≤ 10) : decide (0 ≤ figV c ∧ figV c ≤ ((m : Nat) : Int) - ((1 : Nat) : Int)) = true ↔ 48 ≤ c ∧ c - 48 < (m : Int) := by
  rw [decide_eq_true_iff, (figV_dig h (lo := 0) (hi := ((m : Nat) : Int) - ((1 : Nat) : Int)) (by decide) (by omega)).1]
  constructor <;> (intro q; omega)
def ffR (num : Nat → Int) (fr n : Nat) (z : Int) : Prop := (z = -9 ∧ allP num fr n ∧ ∀ j, j < n → goP num fr j) ∨ (0 ≤ z ∧ badP num fr n 0 z.toNat)
theorem ff_bad {num : Nat → Int} {fr n p : Nat} (hp : p < n) (ha : ∀ j, j < p → goP num fr j) (hb : ¬ goP num fr p) : ffR num fr n ((p : Nat) : Int) :=
  Or.inr ⟨Int.natCast_nonneg p, by rw [Int.toNat_natCast]; exact ⟨by omega, fun j _ hj => ha j hj, fun _ => hb, fun e => by omega⟩⟩
theorem ff_end {num : Nat → Int} {fr n : Nat} (ha : ∀ j, j < n → goP num fr j) (hb : ¬ allP num fr n) : ffR num fr n ((n : Nat) : Int) :=
  Or.inr ⟨Int.natCast_nonneg n, by rw [Int.toNat_natCast]; exact ⟨Nat.le_refl _, fun j _ hj => ha j hj, fun e => absurd e (Nat.lt_irrefl _), fun _ => hb⟩⟩
