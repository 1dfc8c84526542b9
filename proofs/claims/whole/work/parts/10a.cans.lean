/-! what the class's ways answer -/
section RE
variable {p : Program} {l : Launch} {e : Env} {R : Room} {s : State} {m : MethodId} {args : Array Value} {below : List Frame} {meth : Method} {c : Code} {H : Heap} {locs : List Loc} {cells slots : Nat} {Q : State → Prop} {cc : ByteArray} {pc : Nat} {ls : Array Slot} {rest : List Value}
theorem iS_natOr {a b : Nat} (ha : a < 2147483648) (hb : b < 2147483648) : iI ((a : Nat) : Int) ||| iI ((b : Nat) : Int) = iI ((a ||| b : Nat) : Int) := by
  have h : a ||| b < 2147483648 := Nat.or_lt_two_pow (n := 31) ha hb
  rw [iI_set ha, iI_set hb, iS_or, iI_set h]
  exact iS_cong fun i _ => (Nat.testBit_or a b i).symm
theorem r_iorN (hx : p.tables.exec = Jvm.exec) (hb : c.code = cc) {a b : Nat} (hd : decode cc pc = .ok (.ior, 1)) (h1 : a < 2147483648) (h2 : b < 2147483648) (k : W p l e R s m args below meth c H locs cells slots Q (F0 m (pc + 1) ls (.int (iI ((a ||| b : Nat) : Int)) :: rest))) : W p l e R s m args below meth c H locs cells slots Q (F0 m pc ls (.int (iI ((b : Nat) : Int)) :: .int (iI ((a : Nat) : Int)) :: rest)) :=
  lv_ior hx hb hd (r_eqi (iS_natOr h1 h2) k)
end RE
theorem openF_lt {wide high cells guns : Nat} {clay kind stand reach : Nat → Nat} {hush : Nat → Bool} {i : Nat} (h : openF wide high cells guns clay kind stand reach hush i = true) : i < cells := by
  unfold openF soilF at h
  rw [bitsF_eq, Bool.and_eq_true, Bool.and_eq_true, Bool.and_eq_true] at h
  exact of_decide_eq_true h.1.1.1
theorem wayZ_2 (wide n high : Nat) (W d : Nat → Nat) : -9 ≤ wayZ wide n high W d (-2) ∧ wayZ wide n high W d (-2) ≤ 2000 := by
  unfold wayZ
  by_cases h : fsZ d wide high < 0
  · rw [if_pos h]
    omega
  · rw [if_neg h, if_pos (by decide), if_neg (by decide), if_pos (by decide)]
    generalize d (fsZ d wide high).toNat = x
    omega
def snZ (w : Int) : Int := if w < 0 then 1073741824 else w
theorem snZ_in {w : Int} (h : -9 ≤ w ∧ w ≤ 2000) : 0 ≤ snZ w ∧ snZ w ≤ 1073741824 := by
  unfold snZ
  split <;> omega
theorem snZ_0 {len cost : Nat} {ce : Nat → Nat} {w : Int} (h : toldZ len cost ce (-2) = w) (h0 : len = 0) : (1073741824 : Int) = snZ w := by
  rw [← h, ← told_0 h0]
  rfl
theorem snZ_1 {len cost : Nat} {ce : Nat → Nat} {w : Int} (h : toldZ len cost ce (-2) = w) (h0 : len ≠ 0) : toldZ len cost ce (-2) = snZ w := by
  rw [← h, ← told_2 h0 rfl]
  exact (if_neg (by omega)).symm
/-- the least over the sides of a cell -/
def bnC (f : Nat → Int) (w h c : Nat) : Nat → Int
  | 0 => 1073741824
  | k + 1 => if besZ w h c k = -9 then bnC f w h c k else minZ (bnC f w h c k) (f (besZ w h c k).toNat)
theorem bnC_in {f : Nat → Int} (hf : ∀ c, 0 ≤ f c ∧ f c ≤ 1073741824) (w h c : Nat) : ∀ k, 0 ≤ bnC f w h c k ∧ bnC f w h c k ≤ 1073741824
  | 0 => by unfold bnC; omega
  | k + 1 => by
    have i := bnC_in hf w h c k
    have j := hf (besZ w h c k).toNat
    rw [bnC]
    split
    · exact i
    · unfold minZ
      split <;> omega
def nvZ (z : Int) : Int := if z = 1073741824 then -9 else z
/-- the least over the guns, and its gun -/
def dmC (b : Nat → Int) : Nat → Int
  | 0 => 1073741824
  | g + 1 => if b g < dmC b g then b g else dmC b g
def dgC (b : Nat → Int) : Nat → Int
  | 0 => -9
  | g + 1 => if b g < dmC b g then ((g : Nat) : Int) else dgC b g
theorem dmC_in {b : Nat → Int} (hb : ∀ g, 0 ≤ b g ∧ b g ≤ 1073741824) : ∀ g, 0 ≤ dmC b g ∧ dmC b g ≤ 1073741824
  | 0 => by unfold dmC; omega
  | g + 1 => by
    have i := dmC_in hb g
    have j := hb g
    rw [dmC]
    split <;> omega
theorem dgC_in (b : Nat → Int) : ∀ g, dgC b g = -9 ∨ (0 ≤ dgC b g ∧ dgC b g < (g : Int))
  | 0 => Or.inl rfl
  | g + 1 => by
    have i := dgC_in b g
    rw [dgC]
    split
    · right; omega
    · rcases i with i | i
      · exact Or.inl i
      · right; omega
def dyC (what : Int) (b : Nat → Int) (guns : Nat) : Int := if what = 0 then dgC b guns else if dgC b guns = -9 then -9 else dmC b guns
/-- where one more gun does most -/
def pmC (its : Nat → Int) (ok : Nat → Bool) : Nat → Int
  | 0 => -1
  | p + 1 => if ok p = true ∧ pmC its ok p < its p then its p else pmC its ok p
def pbC (its : Nat → Int) (ok : Nat → Bool) : Nat → Int
  | 0 => -9
  | p + 1 => if ok p = true ∧ pmC its ok p < its p then ((p : Nat) : Int) else pbC its ok p
theorem pmC_in {its : Nat → Int} (hb : ∀ p, 0 ≤ its p ∧ its p ≤ 1073741824) (ok : Nat → Bool) : ∀ p, -1 ≤ pmC its ok p ∧ pmC its ok p ≤ 1073741824
  | 0 => by unfold pmC; omega
  | p + 1 => by
    have i := pmC_in hb ok p
    have j := hb p
    rw [pmC]
    split <;> omega
theorem pbC_in (its : Nat → Int) (ok : Nat → Bool) : ∀ p, pbC its ok p = -9 ∨ (0 ≤ pbC its ok p ∧ pbC its ok p < (p : Int))
  | 0 => Or.inl rfl
  | p + 1 => by
    have i := pbC_in its ok p
    rw [pbC]
    split
    · right; omega
    · rcases i with i | i
      · exact Or.inl i
      · right; omega
theorem pC_stay {its : Nat → Int} (hb : ∀ p, 0 ≤ its p ∧ its p ≤ 1073741824) {ok : Nat → Bool} {p : Nat} (h : pmC its ok p = 1073741824) : ∀ n, p ≤ n → pmC its ok n = pmC its ok p ∧ pbC its ok n = pbC its ok p
  | 0, hn => by rw [show p = 0 from by omega]; exact ⟨rfl, rfl⟩
  | n + 1, hn => by
    by_cases q : p = n + 1
    · rw [q]; exact ⟨rfl, rfl⟩
    · obtain ⟨i1, i2⟩ := pC_stay hb h n (by omega)
      have j := hb n
      rw [pmC, pbC, i1, i2, if_neg (by rw [h]; omega), if_neg (by rw [h]; omega)]
      exact ⟨rfl, rfl⟩
def poC (what : Int) (its : Nat → Int) (ok : Nat → Bool) (n : Nat) : Int := if what = 0 then pbC its ok n else if pbC its ok n = -9 ∨ pmC its ok n = 1073741824 then -9 else pmC its ok n
/-- halves, while both are even -/
def hvU : Nat → Nat → Nat → Nat × Nat
  | 0, u, d => (u, d)
  | t + 1, u, d => if (u ||| d) % 2 = 0 then hvU t (u / 2) (d / 2) else (u, d)
theorem hvU_y {t u d : Nat} (h : (u ||| d) % 2 = 0) : hvU (t + 1) u d = hvU t (u / 2) (d / 2) := if_pos h
theorem hvU_n {t u d : Nat} (h : ¬ (u ||| d) % 2 = 0) : hvU (t + 1) u d = (u, d) := if_neg h
theorem up_up2 {α : Type} (f : Nat → α) (k : Nat) (a b : α) : up (up f k a) k b = up f k b := by
  funext j
  unfold up
  split <;> rfl
