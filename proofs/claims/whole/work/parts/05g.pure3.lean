/-! bits counted; next cells; sets of what may be -/
theorem lS_and1 (p : Nat → Bool) : lS p &&& 1 = lI (bz (p 0)) := l_ext fun i hi => by
  have e : (1 : Int64).toBitVec = 1#64 := rfl
  have e2 : ∀ b : Bool, ∀ j, j < 64 → (lI (bz b)).toBitVec.getLsbD j = (decide (j = 0) && b) := by decide +kernel
  rw [e2 _ _ hi, Int64.toBitVec_and, BitVec.getLsbD_and, e, BitVec.getLsbD_one]
  by_cases h : i = 0
  · subst h
    rw [lS_bit]
    simp
  · simp [h]
section RJ
variable {p : Program} {l : Launch} {e : Env} {R : Room} {s : State} {m : MethodId} {args : Array Value} {below : List Frame} {meth : Method} {c : Code} {H : Heap} {locs : List Loc} {cells slots : Nat} {Q : State → Prop} {cc : ByteArray} {pc : Nat} {ls : Array Slot} {rest : List Value}
theorem r_land1 (hx : p.tables.exec = Jvm.exec) (hb : c.code = cc) {f : Nat → Bool} (hd : decode cc pc = .ok (.land, 1)) (k : W p l e R s m args below meth c H locs cells slots Q (F0 m (pc + 1) ls (.long (lI (bz (f 0))) :: rest))) : W p l e R s m args below meth c H locs cells slots Q (F0 m pc ls (.long (lI 1) :: .long (lS f) :: rest)) :=
  lv_land hx hb hd (r_eql (lS_and1 f) k)
end RJ
theorem cntB_t {f : Nat → Bool} {n : Nat} (h : f n = true) : cntB f n + 1 = cntB f (n + 1) := by
  rw [cntB, if_pos h]
theorem cntB_f {f : Nat → Bool} {n : Nat} (h : f n = false) : cntB f n + 0 = cntB f (n + 1) := by
  rw [cntB, if_neg (by rw [h]; decide)]
theorem cntB_stop {f : Nat → Bool} {n : Nat} (h : ∀ k, n ≤ k → k < 64 → f k = false) : ∀ m, n ≤ m → m ≤ 64 → cntB f m = cntB f n
  | 0, hm, _ => by
    have e : n = 0 := by omega
    rw [e]
  | m + 1, hm, h64 => by
    by_cases e : n = m + 1
    · rw [e]
    · rw [← cntB_f (h m (by omega) (by omega)), cntB_stop h m (by omega) (by omega), Nat.add_zero]
def nxtB (wide a b : Nat) : Bool := decide (absd (((a % wide : Nat) : Int)) (((b % wide : Nat) : Int)) + absd (((a / wide : Nat) : Int)) (((b / wide : Nat) : Int)) = 1)
def byDugB (wide n : Nat) (dug : Nat → Bool) (c : Nat) : Bool := decide (c % wide = 0) || anyB (fun d => dug d && nxtB wide c d) n
theorem byDug_s (wide g : Nat) (dug : Nat → Bool) (c : Nat) : byDugB wide (g + 1) dug c = (byDugB wide g dug c || (dug g && nxtB wide c g)) := by
  unfold byDugB
  rw [anyB, Bool.or_assoc]
def digB (soil shot by_ : Bool) : Bool := soil && !shot && by_
theorem up_up {α : Type} (f : Nat → α) (k : Nat) (v w : α) : up (up f k v) k w = up f k w := by
  funext j
  unfold up
  split <;> rfl
theorem up_id {α : Type} (f : Nat → α) (k : Nat) : up f k (f k) = f := by
  funext j
  unfold up
  split
  · next h => rw [h]
  · rfl
theorem ModOk.reach {wide high guns ext : Nat} {clay kind stand reach : Nat → Nat} (h : ModOk wide high guns ext clay kind stand reach) {k v : Nat} (hv : v ≤ 9) : ModOk wide high guns ext clay kind stand (up reach k v) := by
  obtain ⟨h1, h2, h3, h4, h5, h6, h7, h8, h9, h10⟩ := h
  exact ⟨h1, h2, h3, h4, h5, h6, h7, h8, up_le reach h9 hv, h10⟩
theorem ModOk.kind {wide high guns ext : Nat} {clay kind stand reach : Nat → Nat} (h : ModOk wide high guns ext clay kind stand reach) {k v : Nat} (hv : v ≤ 2) : ModOk wide high guns ext clay (up kind k v) stand reach := by
  obtain ⟨h1, h2, h3, h4, h5, h6, h7, h8, h9, h10⟩ := h
  exact ⟨h1, h2, h3, h4, h5, h6, up_le kind h7 hv, h8, h9, h10⟩
theorem ModOk.stand {wide high guns ext : Nat} {clay kind stand reach : Nat → Nat} (h : ModOk wide high guns ext clay kind stand reach) {k v : Nat} (hv : v < wide * high) : ModOk wide high guns ext clay kind (up stand k v) reach := by
  obtain ⟨h1, h2, h3, h4, h5, h6, h7, h8, h9, h10⟩ := h
  refine ⟨h1, h2, h3, h4, h5, h6, h7, fun j => ?_, h9, fun g hg => ?_⟩
  · unfold up
    split
    · omega
    · exact h8 j
  · unfold up
    split
    · exact hv
    · exact h10 g hg
def okQ (n wide : Nat) (kind stand reach : Nat → Nat) (sil : Nat → Bool) (rds : Nat) (rdOf : Nat → Nat) (rdWas : Nat → Bool) : Bool := aSo rds rdOf rdWas (fun c => shotQ (mshotB wide n kind stand reach sil c))
def aMany (guns wide high dn rds : Nat) (what : Int) : Int := if what = 0 then ((guns : Nat) : Int) else if what = 1 then ((wide : Nat) : Int) else if what = 2 then ((high : Nat) : Int) else if what = 3 then ((dn : Nat) : Int) else if what = 4 then ((rds : Nat) : Int) else -2
def isZ (soil dug : Bool) (what : Int) : Int := if 0 ≤ what ∧ what ≤ 1 then (if what = 0 then bz soil else bz dug) else -2
def bitsI (pp f : Nat → Bool) (j : Nat) : Prop := ∀ i, i < 64 → f i = (decide (i + j < 64) && pp (i + j))
theorem bits_init (pp : Nat → Bool) : bitsI pp pp 0 := fun i hi => by simp [hi]
theorem bits_step {pp f : Nat → Bool} {j : Nat} (h : bitsI pp f j) : bitsI pp (fun x9 => decide (x9 + 1 < 64) && f (x9 + 1)) (j + 1) := fun i hi => by
  show (decide (i + 1 < 64) && f (i + 1)) = _
  by_cases q : i + 1 < 64
  · rw [decide_eq_true q, Bool.true_and, h _ q, show i + 1 + j = i + (j + 1) from by omega]
  · rw [decide_eq_false q, decide_eq_false (show ¬ i + (j + 1) < 64 by omega)]
    rfl
theorem bits_msb {pp f : Nat → Bool} {j : Nat} (h : bitsI pp f j) (h1 : pp 63 = false) : f 63 = false := by
  rw [h 63 (by omega)]
  by_cases q : j = 0
  · subst q
    rw [h1, Bool.and_false]
  · rw [decide_eq_false (by omega)]
    rfl
theorem bits_0 {pp f : Nat → Bool} {j : Nat} (h : bitsI pp f j) (hj : j < 64) : f 0 = pp j := by
  rw [h 0 (by omega), Nat.zero_add, decide_eq_true hj, Bool.true_and]
theorem bits_end {pp f : Nat → Bool} {j : Nat} (h : bitsI pp f j) (hj : j ≤ 64) (hz : ∀ i, i < 64 → f i = false) : cntB pp j = cntB pp 64 := by
  refine (cntB_stop (fun k h1 h2 => ?_) 64 hj (Nat.le_refl _)).symm
  have q := hz (k - j) (by omega)
  rw [h _ (by omega), show k - j + j = k from by omega, decide_eq_true h2, Bool.true_and] at q
  exact q
theorem bits_go {pp f : Nat → Bool} {j : Nat} (h : bitsI pp f j) (he : ∃ i, i < 64 ∧ f i = true) : j < 64 := by
  obtain ⟨i, hi, q⟩ := he
  rw [h i hi, Bool.and_eq_true] at q
  have := of_decide_eq_true q.1
  omega
