/-! rows over integers and sets -/
section RI
variable {p : Program} {l : Launch} {e : Env} {R : Room} {s : State} {m : MethodId} {args : Array Value} {below : List Frame} {meth : Method} {c : Code} {H : Heap} {locs : List Loc} {cells slots : Nat} {Q : State → Prop} {cc : ByteArray} {pc : Nat} {ls : Array Slot} {rest : List Value}

theorem r_eqi {x y : Int32} (h : x = y) (k : W p l e R s m args below meth c H locs cells slots Q (F0 m pc ls (.int y :: rest))) : W p l e R s m args below meth c H locs cells slots Q (F0 m pc ls (.int x :: rest)) := by
  rw [h]
  exact k
theorem r_eql {x y : Int64} (h : x = y) (k : W p l e R s m args below meth c H locs cells slots Q (F0 m pc ls (.long y :: rest))) : W p l e R s m args below meth c H locs cells slots Q (F0 m pc ls (.long x :: rest)) := by
  rw [h]
  exact k
theorem r_iadd (hx : p.tables.exec = Jvm.exec) (hb : c.code = cc) {a b z : Int} (hd : decode cc pc = .ok (.iadd, 1)) (h : a + b = z) (k : W p l e R s m args below meth c H locs cells slots Q (F0 m (pc + 1) ls (.int (iI z) :: rest))) : W p l e R s m args below meth c H locs cells slots Q (F0 m pc ls (.int (iI b) :: .int (iI a) :: rest)) :=
  lv_iadd hx hb hd (r_eqi ((iI_add a b).trans (congrArg iI h)) k)
theorem r_isub (hx : p.tables.exec = Jvm.exec) (hb : c.code = cc) {a b z : Int} (hd : decode cc pc = .ok (.isub, 1)) (h : a - b = z) (k : W p l e R s m args below meth c H locs cells slots Q (F0 m (pc + 1) ls (.int (iI z) :: rest))) : W p l e R s m args below meth c H locs cells slots Q (F0 m pc ls (.int (iI b) :: .int (iI a) :: rest)) :=
  lv_isub hx hb hd (r_eqi ((iI_sub a b).trans (congrArg iI h)) k)
theorem r_imul (hx : p.tables.exec = Jvm.exec) (hb : c.code = cc) {a b z : Int} (hd : decode cc pc = .ok (.imul, 1)) (h : a * b = z) (k : W p l e R s m args below meth c H locs cells slots Q (F0 m (pc + 1) ls (.int (iI z) :: rest))) : W p l e R s m args below meth c H locs cells slots Q (F0 m pc ls (.int (iI b) :: .int (iI a) :: rest)) :=
  lv_imul hx hb hd (r_eqi ((iI_mul a b).trans (congrArg iI h)) k)
theorem r_idiv (hx : p.tables.exec = Jvm.exec) (hb : c.code = cc) {a b z : Int} (hd : decode cc pc = .ok (.idiv, 1)) (ha : InR a) (h0 : 0 ≤ a) (hb2 : InR b) (h1 : 0 < b) (h : a / b = z) (k : W p l e R s m args below meth c H locs cells slots Q (F0 m (pc + 1) ls (.int (iI z) :: rest))) : W p l e R s m args below meth c H locs cells slots Q (F0 m pc ls (.int (iI b) :: .int (iI a) :: rest)) :=
  lv_idiv hx hb hd (iI_ne0 hb2 (by omega)) (r_eqi ((iI_tdiv ha h0 hb2 h1).trans (congrArg iI h)) k)
theorem r_irem (hx : p.tables.exec = Jvm.exec) (hb : c.code = cc) {a b z : Int} (hd : decode cc pc = .ok (.irem, 1)) (ha : InR a) (h0 : 0 ≤ a) (hb2 : InR b) (h1 : 0 < b) (h : a % b = z) (k : W p l e R s m args below meth c H locs cells slots Q (F0 m (pc + 1) ls (.int (iI z) :: rest))) : W p l e R s m args below meth c H locs cells slots Q (F0 m pc ls (.int (iI b) :: .int (iI a) :: rest)) :=
  lv_irem hx hb hd (iI_ne0 hb2 (by omega)) (r_eqi ((iI_tmod ha h0 hb2 h1).trans (congrArg iI h)) k)
theorem r_if_lt (hx : p.tables.exec = Jvm.exec) (hb : c.code = cc) {a : Int} {off : Int} {tgt : Nat} (hd : decode cc pc = .ok (.ifCond .lt off, 3)) (ht : (pc : Int) + off = (tgt : Int)) (ha : InR a) (kt : a < 0 → W p l e R s m args below meth c H locs cells slots Q (F0 m tgt ls rest)) (kf : 0 ≤ a → W p l e R s m args below meth c H locs cells slots Q (F0 m (pc + 3) ls rest)) : W p l e R s m args below meth c H locs cells slots Q (F0 m pc ls (.int (iI a) :: rest)) := by
  have z0 : InR 0 := ⟨by omega, by omega⟩
  exact lv_if_lt hx hb hd ht (fun q => kt ((iI_lt ha z0).mp q)) (fun q => kf (Int.not_lt.mp (fun z => q ((iI_lt ha z0).mpr z))))
theorem r_icmp_lt (hx : p.tables.exec = Jvm.exec) (hb : c.code = cc) {a b : Int} {off : Int} {tgt : Nat} (hd : decode cc pc = .ok (.if_icmp .lt off, 3)) (ht : (pc : Int) + off = (tgt : Int)) (ha : InR a) (hb2 : InR b) (kt : a < b → W p l e R s m args below meth c H locs cells slots Q (F0 m tgt ls rest)) (kf : b ≤ a → W p l e R s m args below meth c H locs cells slots Q (F0 m (pc + 3) ls rest)) : W p l e R s m args below meth c H locs cells slots Q (F0 m pc ls (.int (iI b) :: .int (iI a) :: rest)) :=
  lv_icmp_lt hx hb hd ht (fun q => kt ((iI_lt ha hb2).mp q)) (fun q => kf (Int.not_lt.mp (fun z => q ((iI_lt ha hb2).mpr z))))
theorem r_if_ge (hx : p.tables.exec = Jvm.exec) (hb : c.code = cc) {a : Int} {off : Int} {tgt : Nat} (hd : decode cc pc = .ok (.ifCond .ge off, 3)) (ht : (pc : Int) + off = (tgt : Int)) (ha : InR a) (kt : 0 ≤ a → W p l e R s m args below meth c H locs cells slots Q (F0 m tgt ls rest)) (kf : a < 0 → W p l e R s m args below meth c H locs cells slots Q (F0 m (pc + 3) ls rest)) : W p l e R s m args below meth c H locs cells slots Q (F0 m pc ls (.int (iI a) :: rest)) := by
  have z0 : InR 0 := ⟨by omega, by omega⟩
  exact lv_if_ge hx hb hd ht (fun q => kt ((iI_le z0 ha).mp q)) (fun q => kf (Int.not_le.mp (fun z => q ((iI_le z0 ha).mpr z))))
theorem r_icmp_ge (hx : p.tables.exec = Jvm.exec) (hb : c.code = cc) {a b : Int} {off : Int} {tgt : Nat} (hd : decode cc pc = .ok (.if_icmp .ge off, 3)) (ht : (pc : Int) + off = (tgt : Int)) (ha : InR a) (hb2 : InR b) (kt : b ≤ a → W p l e R s m args below meth c H locs cells slots Q (F0 m tgt ls rest)) (kf : a < b → W p l e R s m args below meth c H locs cells slots Q (F0 m (pc + 3) ls rest)) : W p l e R s m args below meth c H locs cells slots Q (F0 m pc ls (.int (iI b) :: .int (iI a) :: rest)) :=
  lv_icmp_ge hx hb hd ht (fun q => kt ((iI_le hb2 ha).mp q)) (fun q => kf (Int.not_le.mp (fun z => q ((iI_le hb2 ha).mpr z))))
theorem r_if_gt (hx : p.tables.exec = Jvm.exec) (hb : c.code = cc) {a : Int} {off : Int} {tgt : Nat} (hd : decode cc pc = .ok (.ifCond .gt off, 3)) (ht : (pc : Int) + off = (tgt : Int)) (ha : InR a) (kt : 0 < a → W p l e R s m args below meth c H locs cells slots Q (F0 m tgt ls rest)) (kf : a ≤ 0 → W p l e R s m args below meth c H locs cells slots Q (F0 m (pc + 3) ls rest)) : W p l e R s m args below meth c H locs cells slots Q (F0 m pc ls (.int (iI a) :: rest)) := by
  have z0 : InR 0 := ⟨by omega, by omega⟩
  exact lv_if_gt hx hb hd ht (fun q => kt ((iI_lt z0 ha).mp q)) (fun q => kf (Int.not_lt.mp (fun z => q ((iI_lt z0 ha).mpr z))))
theorem r_icmp_gt (hx : p.tables.exec = Jvm.exec) (hb : c.code = cc) {a b : Int} {off : Int} {tgt : Nat} (hd : decode cc pc = .ok (.if_icmp .gt off, 3)) (ht : (pc : Int) + off = (tgt : Int)) (ha : InR a) (hb2 : InR b) (kt : b < a → W p l e R s m args below meth c H locs cells slots Q (F0 m tgt ls rest)) (kf : a ≤ b → W p l e R s m args below meth c H locs cells slots Q (F0 m (pc + 3) ls rest)) : W p l e R s m args below meth c H locs cells slots Q (F0 m pc ls (.int (iI b) :: .int (iI a) :: rest)) :=
  lv_icmp_gt hx hb hd ht (fun q => kt ((iI_lt hb2 ha).mp q)) (fun q => kf (Int.not_lt.mp (fun z => q ((iI_lt hb2 ha).mpr z))))
theorem r_if_le (hx : p.tables.exec = Jvm.exec) (hb : c.code = cc) {a : Int} {off : Int} {tgt : Nat} (hd : decode cc pc = .ok (.ifCond .le off, 3)) (ht : (pc : Int) + off = (tgt : Int)) (ha : InR a) (kt : a ≤ 0 → W p l e R s m args below meth c H locs cells slots Q (F0 m tgt ls rest)) (kf : 0 < a → W p l e R s m args below meth c H locs cells slots Q (F0 m (pc + 3) ls rest)) : W p l e R s m args below meth c H locs cells slots Q (F0 m pc ls (.int (iI a) :: rest)) := by
  have z0 : InR 0 := ⟨by omega, by omega⟩
  exact lv_if_le hx hb hd ht (fun q => kt ((iI_le ha z0).mp q)) (fun q => kf (Int.not_le.mp (fun z => q ((iI_le ha z0).mpr z))))
theorem r_icmp_le (hx : p.tables.exec = Jvm.exec) (hb : c.code = cc) {a b : Int} {off : Int} {tgt : Nat} (hd : decode cc pc = .ok (.if_icmp .le off, 3)) (ht : (pc : Int) + off = (tgt : Int)) (ha : InR a) (hb2 : InR b) (kt : a ≤ b → W p l e R s m args below meth c H locs cells slots Q (F0 m tgt ls rest)) (kf : b < a → W p l e R s m args below meth c H locs cells slots Q (F0 m (pc + 3) ls rest)) : W p l e R s m args below meth c H locs cells slots Q (F0 m pc ls (.int (iI b) :: .int (iI a) :: rest)) :=
  lv_icmp_le hx hb hd ht (fun q => kt ((iI_le ha hb2).mp q)) (fun q => kf (Int.not_le.mp (fun z => q ((iI_le ha hb2).mpr z))))
theorem r_if_eq (hx : p.tables.exec = Jvm.exec) (hb : c.code = cc) {a : Int} {off : Int} {tgt : Nat} (hd : decode cc pc = .ok (.ifCond .eq off, 3)) (ht : (pc : Int) + off = (tgt : Int)) (ha : InR a) (kt : a = 0 → W p l e R s m args below meth c H locs cells slots Q (F0 m tgt ls rest)) (kf : a ≠ 0 → W p l e R s m args below meth c H locs cells slots Q (F0 m (pc + 3) ls rest)) : W p l e R s m args below meth c H locs cells slots Q (F0 m pc ls (.int (iI a) :: rest)) := by
  have z0 : InR 0 := ⟨by omega, by omega⟩
  exact lv_if_eq hx hb hd ht (fun q => kt ((iI_eq ha z0).mp q)) (fun q => kf (id (fun z => q ((iI_eq ha z0).mpr z))))
theorem r_icmp_eq (hx : p.tables.exec = Jvm.exec) (hb : c.code = cc) {a b : Int} {off : Int} {tgt : Nat} (hd : decode cc pc = .ok (.if_icmp .eq off, 3)) (ht : (pc : Int) + off = (tgt : Int)) (ha : InR a) (hb2 : InR b) (kt : a = b → W p l e R s m args below meth c H locs cells slots Q (F0 m tgt ls rest)) (kf : a ≠ b → W p l e R s m args below meth c H locs cells slots Q (F0 m (pc + 3) ls rest)) : W p l e R s m args below meth c H locs cells slots Q (F0 m pc ls (.int (iI b) :: .int (iI a) :: rest)) :=
  lv_icmp_eq hx hb hd ht (fun q => kt ((iI_eq ha hb2).mp q)) (fun q => kf (id (fun z => q ((iI_eq ha hb2).mpr z))))
theorem r_if_ne (hx : p.tables.exec = Jvm.exec) (hb : c.code = cc) {a : Int} {off : Int} {tgt : Nat} (hd : decode cc pc = .ok (.ifCond .ne off, 3)) (ht : (pc : Int) + off = (tgt : Int)) (ha : InR a) (kt : a ≠ 0 → W p l e R s m args below meth c H locs cells slots Q (F0 m tgt ls rest)) (kf : a = 0 → W p l e R s m args below meth c H locs cells slots Q (F0 m (pc + 3) ls rest)) : W p l e R s m args below meth c H locs cells slots Q (F0 m pc ls (.int (iI a) :: rest)) := by
  have z0 : InR 0 := ⟨by omega, by omega⟩
  exact lv_if_ne hx hb hd ht (fun q => kt (fun z => q ((iI_eq ha z0).mpr z))) (fun q => kf ((iI_eq ha z0).mp q))
theorem r_icmp_ne (hx : p.tables.exec = Jvm.exec) (hb : c.code = cc) {a b : Int} {off : Int} {tgt : Nat} (hd : decode cc pc = .ok (.if_icmp .ne off, 3)) (ht : (pc : Int) + off = (tgt : Int)) (ha : InR a) (hb2 : InR b) (kt : a ≠ b → W p l e R s m args below meth c H locs cells slots Q (F0 m tgt ls rest)) (kf : a = b → W p l e R s m args below meth c H locs cells slots Q (F0 m (pc + 3) ls rest)) : W p l e R s m args below meth c H locs cells slots Q (F0 m pc ls (.int (iI b) :: .int (iI a) :: rest)) :=
  lv_icmp_ne hx hb hd ht (fun q => kt (fun z => q ((iI_eq ha hb2).mpr z))) (fun q => kf ((iI_eq ha hb2).mp q))
theorem r_if_eq_b (hx : p.tables.exec = Jvm.exec) (hb : c.code = cc) {b : Bool} {off : Int} {tgt : Nat} (hd : decode cc pc = .ok (.ifCond .eq off, 3)) (ht : (pc : Int) + off = (tgt : Int)) (kt : b = false → W p l e R s m args below meth c H locs cells slots Q (F0 m tgt ls rest)) (kf : b = true → W p l e R s m args below meth c H locs cells slots Q (F0 m (pc + 3) ls rest)) : W p l e R s m args below meth c H locs cells slots Q (F0 m pc ls (.int (iI (bz b)) :: rest)) :=
  lv_if_eq hx hb hd ht (fun q => kt ((bz_ne b).mp q)) (fun q => kf (by cases b with | false => exact absurd rfl q | true => rfl))
theorem r_if_eq_d (hx : p.tables.exec = Jvm.exec) (hb : c.code = cc) {P : Prop} {dP : Decidable P} {off : Int} {tgt : Nat} (hd : decode cc pc = .ok (.ifCond .eq off, 3)) (ht : (pc : Int) + off = (tgt : Int)) (kt : ¬ P → W p l e R s m args below meth c H locs cells slots Q (F0 m tgt ls rest)) (kf : P → W p l e R s m args below meth c H locs cells slots Q (F0 m (pc + 3) ls rest)) : W p l e R s m args below meth c H locs cells slots Q (F0 m pc ls (.int (iI (bz (decide P))) :: rest)) :=
  r_if_eq_b hx hb hd ht (fun q => kt (of_decide_eq_false q)) (fun q => kf (of_decide_eq_true q))
theorem r_icmp_eq_b (hx : p.tables.exec = Jvm.exec) (hb : c.code = cc) {b1 b2 : Bool} {off : Int} {tgt : Nat} (hd : decode cc pc = .ok (.if_icmp .eq off, 3)) (ht : (pc : Int) + off = (tgt : Int)) (kt : b1 = b2 → W p l e R s m args below meth c H locs cells slots Q (F0 m tgt ls rest)) (kf : b1 ≠ b2 → W p l e R s m args below meth c H locs cells slots Q (F0 m (pc + 3) ls rest)) : W p l e R s m args below meth c H locs cells slots Q (F0 m pc ls (.int (iI (bz b2)) :: .int (iI (bz b1)) :: rest)) := by
  have i1 : ∀ b : Bool, InR (bz b) := fun b => by cases b <;> decide
  exact r_icmp_eq hx hb hd ht (i1 b1) (i1 b2) (fun q => kt (by revert q; cases b1 <;> cases b2 <;> decide)) (fun q => kf (by revert q; cases b1 <;> cases b2 <;> decide))
theorem r_if_eq_S (hx : p.tables.exec = Jvm.exec) (hb : c.code = cc) {g : Nat → Bool} {off : Int} {tgt : Nat} (hd : decode cc pc = .ok (.ifCond .eq off, 3)) (ht : (pc : Int) + off = (tgt : Int)) (kt : (∀ i, i < 32 → g i = false) → W p l e R s m args below meth c H locs cells slots Q (F0 m tgt ls rest)) (kf : (∃ i, i < 32 ∧ g i = true) → W p l e R s m args below meth c H locs cells slots Q (F0 m (pc + 3) ls rest)) : W p l e R s m args below meth c H locs cells slots Q (F0 m pc ls (.int (iS g) :: rest)) :=
  lv_if_eq hx hb hd ht (fun q => kt ((iS_e0 g).mp q)) (fun q => kf (by refine Classical.byContradiction fun z => q ((iS_e0 g).mpr fun i hi => ?_); cases w : g i with | false => rfl | true => exact absurd ⟨i, hi, w⟩ z))
theorem r_if_ne_b (hx : p.tables.exec = Jvm.exec) (hb : c.code = cc) {b : Bool} {off : Int} {tgt : Nat} (hd : decode cc pc = .ok (.ifCond .ne off, 3)) (ht : (pc : Int) + off = (tgt : Int)) (kt : b = true → W p l e R s m args below meth c H locs cells slots Q (F0 m tgt ls rest)) (kf : b = false → W p l e R s m args below meth c H locs cells slots Q (F0 m (pc + 3) ls rest)) : W p l e R s m args below meth c H locs cells slots Q (F0 m pc ls (.int (iI (bz b)) :: rest)) :=
  lv_if_ne hx hb hd ht (fun q => kt (by cases b with | false => exact absurd rfl q | true => rfl)) (fun q => kf ((bz_ne b).mp q))
theorem r_if_ne_d (hx : p.tables.exec = Jvm.exec) (hb : c.code = cc) {P : Prop} {dP : Decidable P} {off : Int} {tgt : Nat} (hd : decode cc pc = .ok (.ifCond .ne off, 3)) (ht : (pc : Int) + off = (tgt : Int)) (kt : P → W p l e R s m args below meth c H locs cells slots Q (F0 m tgt ls rest)) (kf : ¬ P → W p l e R s m args below meth c H locs cells slots Q (F0 m (pc + 3) ls rest)) : W p l e R s m args below meth c H locs cells slots Q (F0 m pc ls (.int (iI (bz (decide P))) :: rest)) :=
  r_if_ne_b hx hb hd ht (fun q => kt (of_decide_eq_true q)) (fun q => kf (of_decide_eq_false q))
theorem r_icmp_ne_b (hx : p.tables.exec = Jvm.exec) (hb : c.code = cc) {b1 b2 : Bool} {off : Int} {tgt : Nat} (hd : decode cc pc = .ok (.if_icmp .ne off, 3)) (ht : (pc : Int) + off = (tgt : Int)) (kt : b1 ≠ b2 → W p l e R s m args below meth c H locs cells slots Q (F0 m tgt ls rest)) (kf : b1 = b2 → W p l e R s m args below meth c H locs cells slots Q (F0 m (pc + 3) ls rest)) : W p l e R s m args below meth c H locs cells slots Q (F0 m pc ls (.int (iI (bz b2)) :: .int (iI (bz b1)) :: rest)) := by
  have i1 : ∀ b : Bool, InR (bz b) := fun b => by cases b <;> decide
  exact r_icmp_ne hx hb hd ht (i1 b1) (i1 b2) (fun q => kt (by revert q; cases b1 <;> cases b2 <;> decide)) (fun q => kf (by revert q; cases b1 <;> cases b2 <;> decide))
theorem r_if_ne_S (hx : p.tables.exec = Jvm.exec) (hb : c.code = cc) {g : Nat → Bool} {off : Int} {tgt : Nat} (hd : decode cc pc = .ok (.ifCond .ne off, 3)) (ht : (pc : Int) + off = (tgt : Int)) (kt : (∃ i, i < 32 ∧ g i = true) → W p l e R s m args below meth c H locs cells slots Q (F0 m tgt ls rest)) (kf : (∀ i, i < 32 → g i = false) → W p l e R s m args below meth c H locs cells slots Q (F0 m (pc + 3) ls rest)) : W p l e R s m args below meth c H locs cells slots Q (F0 m pc ls (.int (iS g) :: rest)) :=
  lv_if_ne hx hb hd ht (fun q => kt (by refine Classical.byContradiction fun z => q ((iS_e0 g).mpr fun i hi => ?_); cases w : g i with | false => rfl | true => exact absurd ⟨i, hi, w⟩ z)) (fun q => kf ((iS_e0 g).mp q))
theorem r_i2l (hx : p.tables.exec = Jvm.exec) (hb : c.code = cc) {a : Int} (hd : decode cc pc = .ok (.i2l, 1)) (ha : InR a) (k : W p l e R s m args below meth c H locs cells slots Q (F0 m (pc + 1) ls (.long (lI a) :: rest))) : W p l e R s m args below meth c H locs cells slots Q (F0 m pc ls (.int (iI a) :: rest)) :=
  lv_i2l hx hb hd (iI_toL ha) k
theorem r_ladd (hx : p.tables.exec = Jvm.exec) (hb : c.code = cc) {a b z : Int} (hd : decode cc pc = .ok (.ladd, 1)) (h : a + b = z) (k : W p l e R s m args below meth c H locs cells slots Q (F0 m (pc + 1) ls (.long (lI z) :: rest))) : W p l e R s m args below meth c H locs cells slots Q (F0 m pc ls (.long (lI b) :: .long (lI a) :: rest)) :=
  lv_ladd hx hb hd (r_eql ((lI_add a b).trans (congrArg lI h)) k)
theorem r_lsub (hx : p.tables.exec = Jvm.exec) (hb : c.code = cc) {a b z : Int} (hd : decode cc pc = .ok (.lsub, 1)) (h : a - b = z) (k : W p l e R s m args below meth c H locs cells slots Q (F0 m (pc + 1) ls (.long (lI z) :: rest))) : W p l e R s m args below meth c H locs cells slots Q (F0 m pc ls (.long (lI b) :: .long (lI a) :: rest)) :=
  lv_lsub hx hb hd (r_eql ((lI_sub a b).trans (congrArg lI h)) k)
theorem r_ldiv (hx : p.tables.exec = Jvm.exec) (hb : c.code = cc) {a b z : Int} (hd : decode cc pc = .ok (.ldiv, 1)) (ha : InL a) (h0 : 0 ≤ a) (hb2 : InL b) (h1 : 0 < b) (h : a / b = z) (k : W p l e R s m args below meth c H locs cells slots Q (F0 m (pc + 1) ls (.long (lI z) :: rest))) : W p l e R s m args below meth c H locs cells slots Q (F0 m pc ls (.long (lI b) :: .long (lI a) :: rest)) :=
  lv_ldiv hx hb hd (lI_ne0 hb2 (by omega)) (r_eql ((lI_tdiv ha h0 hb2 h1).trans (congrArg lI h)) k)
theorem r_lrem (hx : p.tables.exec = Jvm.exec) (hb : c.code = cc) {a b z : Int} (hd : decode cc pc = .ok (.lrem, 1)) (ha : InL a) (h0 : 0 ≤ a) (hb2 : InL b) (h1 : 0 < b) (h : a % b = z) (k : W p l e R s m args below meth c H locs cells slots Q (F0 m (pc + 1) ls (.long (lI z) :: rest))) : W p l e R s m args below meth c H locs cells slots Q (F0 m pc ls (.long (lI b) :: .long (lI a) :: rest)) :=
  lv_lrem hx hb hd (lI_ne0 hb2 (by omega)) (r_eql ((lI_tmod ha h0 hb2 h1).trans (congrArg lI h)) k)
def cmpZ (a b : Int) : Int := if b < a then 1 else if a = b then 0 else -1
theorem cmpZ_in (a b : Int) : InR (cmpZ a b) := by
  unfold cmpZ
  split
  · decide
  · split <;> decide
theorem cmpZ_lg {a b : Int} (ha : InL a) (hb : InL b) : lg_cmp (lI a) (lI b) = iI (cmpZ a b) := by
  unfold lg_cmp cmpZ
  by_cases h : b < a
  · rw [if_pos h, if_pos (show lI a > lI b from (lI_lt hb ha).mpr h)]
    rfl
  · rw [if_neg h, if_neg (show ¬ lI a > lI b from fun q => h ((lI_lt hb ha).mp q))]
    by_cases h2 : a = b
    · rw [if_pos h2, if_pos (by rw [h2])]
      rfl
    · rw [if_neg h2, if_neg (fun q => h2 ((lI_eq ha hb).mp q))]
      rfl
theorem r_lcmp (hx : p.tables.exec = Jvm.exec) (hb : c.code = cc) {a b : Int} (hd : decode cc pc = .ok (.lcmp, 1)) (ha : InL a) (hb2 : InL b) (k : W p l e R s m args below meth c H locs cells slots Q (F0 m (pc + 1) ls (.int (iI (cmpZ a b)) :: rest))) : W p l e R s m args below meth c H locs cells slots Q (F0 m pc ls (.long (lI b) :: .long (lI a) :: rest)) :=
  W.lcmp hx hb hd (r_eqi (cmpZ_lg ha hb2) k)
theorem r_lc_lt (hx : p.tables.exec = Jvm.exec) (hb : c.code = cc) {a b : Int} {off : Int} {tgt : Nat} (hd : decode cc pc = .ok (.ifCond .lt off, 3)) (ht : (pc : Int) + off = (tgt : Int)) (kt : a < b → W p l e R s m args below meth c H locs cells slots Q (F0 m tgt ls rest)) (kf : b ≤ a → W p l e R s m args below meth c H locs cells slots Q (F0 m (pc + 3) ls rest)) : W p l e R s m args below meth c H locs cells slots Q (F0 m pc ls (.int (iI (cmpZ a b)) :: rest)) :=
  r_if_lt hx hb hd ht (cmpZ_in a b) (fun q => kt (by unfold cmpZ at q; split at q <;> (try split at q) <;> omega)) (fun q => kf (by unfold cmpZ at q; split at q <;> (try split at q) <;> omega))
theorem r_lc_ge (hx : p.tables.exec = Jvm.exec) (hb : c.code = cc) {a b : Int} {off : Int} {tgt : Nat} (hd : decode cc pc = .ok (.ifCond .ge off, 3)) (ht : (pc : Int) + off = (tgt : Int)) (kt : b ≤ a → W p l e R s m args below meth c H locs cells slots Q (F0 m tgt ls rest)) (kf : a < b → W p l e R s m args below meth c H locs cells slots Q (F0 m (pc + 3) ls rest)) : W p l e R s m args below meth c H locs cells slots Q (F0 m pc ls (.int (iI (cmpZ a b)) :: rest)) :=
  r_if_ge hx hb hd ht (cmpZ_in a b) (fun q => kt (by unfold cmpZ at q; split at q <;> (try split at q) <;> omega)) (fun q => kf (by unfold cmpZ at q; split at q <;> (try split at q) <;> omega))
theorem r_lc_gt (hx : p.tables.exec = Jvm.exec) (hb : c.code = cc) {a b : Int} {off : Int} {tgt : Nat} (hd : decode cc pc = .ok (.ifCond .gt off, 3)) (ht : (pc : Int) + off = (tgt : Int)) (kt : b < a → W p l e R s m args below meth c H locs cells slots Q (F0 m tgt ls rest)) (kf : a ≤ b → W p l e R s m args below meth c H locs cells slots Q (F0 m (pc + 3) ls rest)) : W p l e R s m args below meth c H locs cells slots Q (F0 m pc ls (.int (iI (cmpZ a b)) :: rest)) :=
  r_if_gt hx hb hd ht (cmpZ_in a b) (fun q => kt (by unfold cmpZ at q; split at q <;> (try split at q) <;> omega)) (fun q => kf (by unfold cmpZ at q; split at q <;> (try split at q) <;> omega))
theorem r_lc_le (hx : p.tables.exec = Jvm.exec) (hb : c.code = cc) {a b : Int} {off : Int} {tgt : Nat} (hd : decode cc pc = .ok (.ifCond .le off, 3)) (ht : (pc : Int) + off = (tgt : Int)) (kt : a ≤ b → W p l e R s m args below meth c H locs cells slots Q (F0 m tgt ls rest)) (kf : b < a → W p l e R s m args below meth c H locs cells slots Q (F0 m (pc + 3) ls rest)) : W p l e R s m args below meth c H locs cells slots Q (F0 m pc ls (.int (iI (cmpZ a b)) :: rest)) :=
  r_if_le hx hb hd ht (cmpZ_in a b) (fun q => kt (by unfold cmpZ at q; split at q <;> (try split at q) <;> omega)) (fun q => kf (by unfold cmpZ at q; split at q <;> (try split at q) <;> omega))
theorem r_lc_eq (hx : p.tables.exec = Jvm.exec) (hb : c.code = cc) {a b : Int} {off : Int} {tgt : Nat} (hd : decode cc pc = .ok (.ifCond .eq off, 3)) (ht : (pc : Int) + off = (tgt : Int)) (kt : a = b → W p l e R s m args below meth c H locs cells slots Q (F0 m tgt ls rest)) (kf : a ≠ b → W p l e R s m args below meth c H locs cells slots Q (F0 m (pc + 3) ls rest)) : W p l e R s m args below meth c H locs cells slots Q (F0 m pc ls (.int (iI (cmpZ a b)) :: rest)) :=
  r_if_eq hx hb hd ht (cmpZ_in a b) (fun q => kt (by unfold cmpZ at q; split at q <;> (try split at q) <;> omega)) (fun q => kf (by unfold cmpZ at q; split at q <;> (try split at q) <;> omega))
theorem r_lc_ne (hx : p.tables.exec = Jvm.exec) (hb : c.code = cc) {a b : Int} {off : Int} {tgt : Nat} (hd : decode cc pc = .ok (.ifCond .ne off, 3)) (ht : (pc : Int) + off = (tgt : Int)) (kt : a ≠ b → W p l e R s m args below meth c H locs cells slots Q (F0 m tgt ls rest)) (kf : a = b → W p l e R s m args below meth c H locs cells slots Q (F0 m (pc + 3) ls rest)) : W p l e R s m args below meth c H locs cells slots Q (F0 m pc ls (.int (iI (cmpZ a b)) :: rest)) :=
  r_if_ne hx hb hd ht (cmpZ_in a b) (fun q => kt (by unfold cmpZ at q; split at q <;> (try split at q) <;> omega)) (fun q => kf (by unfold cmpZ at q; split at q <;> (try split at q) <;> omega))
theorem r_lor (hx : p.tables.exec = Jvm.exec) (hb : c.code = cc) {f g : Nat → Bool} (hd : decode cc pc = .ok (.lor, 1)) (k : W p l e R s m args below meth c H locs cells slots Q (F0 m (pc + 1) ls (.long (lS (fun i => f i || g i)) :: rest))) : W p l e R s m args below meth c H locs cells slots Q (F0 m pc ls (.long (lS g) :: .long (lS f) :: rest)) :=
  lv_lor hx hb hd (r_eql (lS_or f g) k)
theorem r_land (hx : p.tables.exec = Jvm.exec) (hb : c.code = cc) {f g : Nat → Bool} (hd : decode cc pc = .ok (.land, 1)) (k : W p l e R s m args below meth c H locs cells slots Q (F0 m (pc + 1) ls (.long (lS (fun i => f i && g i)) :: rest))) : W p l e R s m args below meth c H locs cells slots Q (F0 m pc ls (.long (lS g) :: .long (lS f) :: rest)) :=
  lv_land hx hb hd (r_eql (lS_and f g) k)
theorem r_lnot (hx : p.tables.exec = Jvm.exec) (hb : c.code = cc) {f : Nat → Bool} (hd : decode cc pc = .ok (.lxor, 1)) (k : W p l e R s m args below meth c H locs cells slots Q (F0 m (pc + 1) ls (.long (lS (fun i => !f i)) :: rest))) : W p l e R s m args below meth c H locs cells slots Q (F0 m pc ls (.long (-1) :: .long (lS f) :: rest)) :=
  lv_lxor hx hb hd (r_eql (lS_not f) k)
theorem r_l1shl (hx : p.tables.exec = Jvm.exec) (hb : c.code = cc) {z : Int} (n : Nat) (hd : decode cc pc = .ok (.lshl, 1)) (hz : z = ↑n) (hn : n < 64) (k : W p l e R s m args below meth c H locs cells slots Q (F0 m (pc + 1) ls (.long (lS (fun i => decide (i = n))) :: rest))) : W p l e R s m args below meth c H locs cells slots Q (F0 m pc ls (.int (iI z) :: .long (lI 1) :: rest)) := by
  subst hz
  exact lv_lshl hx hb hd (lS_one hn) k
theorem r_lshlS (hx : p.tables.exec = Jvm.exec) (hb : c.code = cc) {z : Int} {f : Nat → Bool} (n : Nat) (hd : decode cc pc = .ok (.lshl, 1)) (hz : z = ↑n) (hn : n < 64) (k : W p l e R s m args below meth c H locs cells slots Q (F0 m (pc + 1) ls (.long (lS (fun i => decide (n ≤ i) && f (i - n))) :: rest))) : W p l e R s m args below meth c H locs cells slots Q (F0 m pc ls (.int (iI z) :: .long (lS f) :: rest)) := by
  subst hz
  exact lv_lshl hx hb hd (lS_shl f hn) k
theorem r_lshrS (hx : p.tables.exec = Jvm.exec) (hb : c.code = cc) {z : Int} {f : Nat → Bool} (n : Nat) (hd : decode cc pc = .ok (.lshr, 1)) (hz : z = ↑n) (hn : n < 64) (h63 : f 63 = false) (k : W p l e R s m args below meth c H locs cells slots Q (F0 m (pc + 1) ls (.long (lS (fun i => decide (i + n < 64) && f (i + n))) :: rest))) : W p l e R s m args below meth c H locs cells slots Q (F0 m pc ls (.int (iI z) :: .long (lS f) :: rest)) := by
  subst hz
  exact lv_lshr hx hb hd (lS_shr f hn h63) k
theorem r_lget (hx : p.tables.exec = Jvm.exec) (hb : c.code = cc) {z : Int} {f : Nat → Bool} (n : Nat) (hd : decode cc pc = .ok (.lshr, 1)) (hd1 : decode cc (pc + 1) = .ok (.lconst 1, 1)) (hd2 : decode cc (pc + 1 + 1) = .ok (.land, 1)) (hz : z = ↑n) (hn : n < 64) (k : W p l e R s m args below meth c H locs cells slots Q (F0 m (pc + 3) ls (.long (lI (bz (f n))) :: rest))) : W p l e R s m args below meth c H locs cells slots Q (F0 m pc ls (.int (iI z) :: .long (lS f) :: rest)) := by
  subst hz
  exact lv_lshr hx hb hd rfl (lv_lconst hx hb hd1 rfl (lv_land hx hb hd2 (r_eql (lS_get f hn) k)))
theorem r_iget (hx : p.tables.exec = Jvm.exec) (hb : c.code = cc) {z : Int} {f : Nat → Bool} (n : Nat) (hd : decode cc pc = .ok (.ishr, 1)) (hd1 : decode cc (pc + 1) = .ok (.iconst 1, 1)) (hd2 : decode cc (pc + 1 + 1) = .ok (.iand, 1)) (hz : z = ↑n) (hn : n < 32) (k : W p l e R s m args below meth c H locs cells slots Q (F0 m (pc + 3) ls (.int (iI (bz (f n))) :: rest))) : W p l e R s m args below meth c H locs cells slots Q (F0 m pc ls (.int (iI z) :: .int (iS f) :: rest)) := by
  subst hz
  exact lv_ishr hx hb hd (lv_iconst (v := 1) hx hb hd1 rfl (lv_iand hx hb hd2 (r_eqi (iS_get f hn) k)))
theorem lgS_e (f : Nat → Bool) : lg_cmp (lS f) (lI 0) = 0 ↔ lS f = 0 := by
  unfold lg_cmp
  have e : lI 0 = 0 := rfl
  rw [e]
  by_cases h1 : lS f > 0
  · rw [if_pos h1]
    constructor
    · intro q; exact absurd q (by decide)
    · intro q; rw [q] at h1; exact absurd h1 (by decide)
  · rw [if_neg h1]
    by_cases h2 : lS f = 0
    · rw [if_pos h2]; exact ⟨fun _ => h2, fun _ => rfl⟩
    · rw [if_neg h2]; exact ⟨fun q => absurd q (by decide), fun q => absurd q h2⟩
theorem lgS_le (f : Nat → Bool) (h63 : f 63 = false) : lg_cmp (lS f) (lI 0) ≤ 0 ↔ lS f = 0 := by
  have e : lI 0 = 0 := rfl
  have hm : (lS f).toBitVec.msb = false := by rw [BitVec.msb_eq_getLsbD_last, lS_bit]; simp [h63]
  have hp : 0 ≤ (lS f).toInt := by
    show 0 ≤ (lS f).toBitVec.toInt
    rw [BitVec.toInt_eq_toNat_of_msb hm]
    omega
  unfold lg_cmp
  rw [e]
  by_cases h1 : lS f > 0
  · rw [if_pos h1]
    constructor
    · intro q; exact absurd q (by decide)
    · intro q; rw [q] at h1; exact absurd h1 (by decide)
  · rw [if_neg h1]
    have h2 : lS f = 0 := by
      rw [← Int64.toInt_inj]
      have h3 : ¬ (0 : Int64).toInt < (lS f).toInt := fun q => h1 (Int64.lt_iff_toInt_lt.mpr q)
      have h4 : (0 : Int64).toInt = 0 := rfl
      omega
    rw [if_pos h2]
    exact ⟨fun _ => h2, fun _ => by decide⟩
theorem r_lS_ifeq (hx : p.tables.exec = Jvm.exec) (hb : c.code = cc) {f : Nat → Bool} {off : Int} {tgt : Nat} (hd : decode cc pc = .ok (.lcmp, 1)) (hd1 : decode cc (pc + 1) = .ok (.ifCond .eq off, 3)) (ht : ((pc + 1 : Nat) : Int) + off = (tgt : Int)) (kt : (∀ i, i < 64 → f i = false) → W p l e R s m args below meth c H locs cells slots Q (F0 m tgt ls rest)) (kf : (∃ i, i < 64 ∧ f i = true) → W p l e R s m args below meth c H locs cells slots Q (F0 m (pc + 4) ls rest)) : W p l e R s m args below meth c H locs cells slots Q (F0 m pc ls (.long (lI 0) :: .long (lS f) :: rest)) :=
  W.lcmp hx hb hd (lv_if_eq hx hb hd1 ht (fun q => kt ((lS_e0 f).mp ((lgS_e f).mp q))) (fun q0 => kf (by have q : ¬ lS f = 0 := fun z => q0 ((lgS_e f).mpr z); exact (by refine Classical.byContradiction fun z => q ((lS_e0 f).mpr fun i hi => ?_); cases w : f i with | false => rfl | true => exact absurd ⟨i, hi, w⟩ z))))
theorem r_lS_ifne (hx : p.tables.exec = Jvm.exec) (hb : c.code = cc) {f : Nat → Bool} {off : Int} {tgt : Nat} (hd : decode cc pc = .ok (.lcmp, 1)) (hd1 : decode cc (pc + 1) = .ok (.ifCond .ne off, 3)) (ht : ((pc + 1 : Nat) : Int) + off = (tgt : Int)) (kt : (∃ i, i < 64 ∧ f i = true) → W p l e R s m args below meth c H locs cells slots Q (F0 m tgt ls rest)) (kf : (∀ i, i < 64 → f i = false) → W p l e R s m args below meth c H locs cells slots Q (F0 m (pc + 4) ls rest)) : W p l e R s m args below meth c H locs cells slots Q (F0 m pc ls (.long (lI 0) :: .long (lS f) :: rest)) :=
  W.lcmp hx hb hd (lv_if_ne hx hb hd1 ht (fun q0 => kt (by have q : ¬ lS f = 0 := fun z => q0 ((lgS_e f).mpr z); exact (by refine Classical.byContradiction fun z => q ((lS_e0 f).mpr fun i hi => ?_); cases w : f i with | false => rfl | true => exact absurd ⟨i, hi, w⟩ z))) (fun q => kf ((lS_e0 f).mp ((lgS_e f).mp q))))
theorem r_lS_ifle (hx : p.tables.exec = Jvm.exec) (hb : c.code = cc) {f : Nat → Bool} {off : Int} {tgt : Nat} (hd : decode cc pc = .ok (.lcmp, 1)) (hd1 : decode cc (pc + 1) = .ok (.ifCond .le off, 3)) (ht : ((pc + 1 : Nat) : Int) + off = (tgt : Int)) (h63 : f 63 = false) (kt : (∀ i, i < 64 → f i = false) → W p l e R s m args below meth c H locs cells slots Q (F0 m tgt ls rest)) (kf : (∃ i, i < 64 ∧ f i = true) → W p l e R s m args below meth c H locs cells slots Q (F0 m (pc + 4) ls rest)) : W p l e R s m args below meth c H locs cells slots Q (F0 m pc ls (.long (lI 0) :: .long (lS f) :: rest)) :=
  W.lcmp hx hb hd (lv_if_le hx hb hd1 ht (fun q => kt ((lS_e0 f).mp ((lgS_le f h63).mp q))) (fun q0 => kf (by have q : ¬ lS f = 0 := fun z => q0 ((lgS_le f h63).mpr z); exact (by refine Classical.byContradiction fun z => q ((lS_e0 f).mpr fun i hi => ?_); cases w : f i with | false => rfl | true => exact absurd ⟨i, hi, w⟩ z))))
theorem r_ior_S (hx : p.tables.exec = Jvm.exec) (hb : c.code = cc) {f g : Nat → Bool} (hd : decode cc pc = .ok (.ior, 1)) (k : W p l e R s m args below meth c H locs cells slots Q (F0 m (pc + 1) ls (.int (iS (fun i => f i || g i)) :: rest))) : W p l e R s m args below meth c H locs cells slots Q (F0 m pc ls (.int (iS g) :: .int (iS f) :: rest)) :=
  lv_ior hx hb hd (r_eqi (iS_or f g) k)
theorem r_iand_S (hx : p.tables.exec = Jvm.exec) (hb : c.code = cc) {f g : Nat → Bool} (hd : decode cc pc = .ok (.iand, 1)) (k : W p l e R s m args below meth c H locs cells slots Q (F0 m (pc + 1) ls (.int (iS (fun i => f i && g i)) :: rest))) : W p l e R s m args below meth c H locs cells slots Q (F0 m pc ls (.int (iS g) :: .int (iS f) :: rest)) :=
  lv_iand hx hb hd (r_eqi (iS_and f g) k)
theorem r_inot (hx : p.tables.exec = Jvm.exec) (hb : c.code = cc) {f : Nat → Bool} (hd : decode cc pc = .ok (.ixor, 1)) (k : W p l e R s m args below meth c H locs cells slots Q (F0 m (pc + 1) ls (.int (iS (fun i => !f i)) :: rest))) : W p l e R s m args below meth c H locs cells slots Q (F0 m pc ls (.int (iI (-1)) :: .int (iS f) :: rest)) :=
  lv_ixor hx hb hd (r_eqi (iS_not f) k)
theorem r_i1shl (hx : p.tables.exec = Jvm.exec) (hb : c.code = cc) {z : Int} (n : Nat) (hd : decode cc pc = .ok (.ishl, 1)) (hz : z = ↑n) (hn : n < 32) (k : W p l e R s m args below meth c H locs cells slots Q (F0 m (pc + 1) ls (.int (iS (fun i => decide (i = n))) :: rest))) : W p l e R s m args below meth c H locs cells slots Q (F0 m pc ls (.int (iI z) :: .int (iI 1) :: rest)) := by
  subst hz
  exact lv_ishl hx hb hd (r_eqi (iS_one hn) k)
theorem iI_pow : ∀ n : Nat, n < 31 → (1 : Int32) <<< (iI ↑n &&& 31) = iI ↑(2 ^ n) := by decide +kernel
theorem r_i1shlN (hx : p.tables.exec = Jvm.exec) (hb : c.code = cc) {z : Int} (n : Nat) (hd : decode cc pc = .ok (.ishl, 1)) (hz : z = ↑n) (hn : n < 31) (k : W p l e R s m args below meth c H locs cells slots Q (F0 m (pc + 1) ls (.int (iI ↑(2 ^ n)) :: rest))) : W p l e R s m args below meth c H locs cells slots Q (F0 m pc ls (.int (iI z) :: .int (iI 1) :: rest)) := by
  subst hz
  exact lv_ishl hx hb hd (r_eqi (iI_pow n hn) k)
theorem r_iand_N (hx : p.tables.exec = Jvm.exec) (hb : c.code = cc) {z : Int} {g : Nat → Bool} (n : Nat) (hd : decode cc pc = .ok (.iand, 1)) (hz : z = ↑n) (hn : n < 2147483648) (k : W p l e R s m args below meth c H locs cells slots Q (F0 m (pc + 1) ls (.int (iS (fun i => n.testBit i && g i)) :: rest))) : W p l e R s m args below meth c H locs cells slots Q (F0 m pc ls (.int (iS g) :: .int (iI z) :: rest)) := by
  subst hz
  refine lv_iand hx hb hd (r_eqi ?_ k)
  rw [iI_set hn, iS_and]
theorem r_ior_N (hx : p.tables.exec = Jvm.exec) (hb : c.code = cc) {z : Int} {g : Nat → Bool} (n : Nat) (hd : decode cc pc = .ok (.ior, 1)) (hz : z = ↑n) (hn : n < 2147483648) (k : W p l e R s m args below meth c H locs cells slots Q (F0 m (pc + 1) ls (.int (iS (fun i => n.testBit i || g i)) :: rest))) : W p l e R s m args below meth c H locs cells slots Q (F0 m pc ls (.int (iS g) :: .int (iI z) :: rest)) := by
  subst hz
  refine lv_ior hx hb hd (r_eqi ?_ k)
  rw [iI_set hn, iS_or]
theorem r_tableOut (hx : p.tables.exec = Jvm.exec) (hb : c.code = cc) {dflt lo hi : Int} {offs : Array Int} {len : Nat} {a : Int} {tgt : Nat} (hd : decode cc pc = .ok (.tableswitch dflt lo hi offs, len)) (ha : InR a) (h : a < lo ∨ hi < a) (ht : (pc : Int) + dflt = (tgt : Int)) (k : W p l e R s m args below meth c H locs cells slots Q (F0 m tgt ls rest)) : W p l e R s m args below meth c H locs cells slots Q (F0 m pc ls (.int (iI a) :: rest)) :=
  lv_tableOut hx hb hd (by rw [iI_toInt ha]; exact h) ht k
theorem r_tableIn (hx : p.tables.exec = Jvm.exec) (hb : c.code = cc) {dflt lo hi : Int} {offs : Array Int} {len : Nat} {a : Int} {off : Int} {tgt : Nat} (hd : decode cc pc = .ok (.tableswitch dflt lo hi offs, len)) (ha : InR a) (h1 : ¬ a < lo) (h2 : ¬ hi < a) (ho : offs[(a - lo).toNat]? = some off) (ht : (pc : Int) + off = (tgt : Int)) (k : W p l e R s m args below meth c H locs cells slots Q (F0 m tgt ls rest)) : W p l e R s m args below meth c H locs cells slots Q (F0 m pc ls (.int (iI a) :: rest)) :=
  lv_tableIn hx hb hd (by rw [iI_toInt ha]; exact h1) (by rw [iI_toInt ha]; exact h2) (by rw [iI_toInt ha]; exact ho) ht k
theorem r_lookup (hx : p.tables.exec = Jvm.exec) (hb : c.code = cc) {dflt : Int} {ps : Array (Int × Int)} {len : Nat} {a : Int} {off : Int} {tgt : Nat} (hd : decode cc pc = .ok (.lookupswitch dflt ps, len)) (hp : (ps.toList.zip (ps.toList.drop 1)).all (fun (a, next) => a.1 < next.1) = true) (ha : InR a) (ho : Op.lookupswitch.offset ps.toList dflt a = off) (ht : (pc : Int) + off = (tgt : Int)) (k : W p l e R s m args below meth c H locs cells slots Q (F0 m tgt ls rest)) : W p l e R s m args below meth c H locs cells slots Q (F0 m pc ls (.int (iI a) :: rest)) :=
  lv_lookup hx hb hd hp (by rw [iI_toInt ha]; exact ho) ht k
variable {D : va_G} {cl : List vw_C} {tys : List (ClassId × FieldType)} {ws : va_W} {A : Nat → Prop} {H0 : Heap} {a : Nat}
theorem r_ald_i_n (hx : p.tables.exec = Jvm.exec) (hb : c.code = cc) (hK : va_K D cl tys s) (hP : va_P D cl ws H) (q0 t0 : Nat) {cA : ClassId} {n : Nat} {f : Nat → Nat} (i : Nat) (ha : ws[q0]? = some (a, .inl (cA, n, .inl (nF f)))) (ht : tys[t0]? = some (cA, .int)) {z : Int} (hz : z = ↑i) (hi : i < n) (hn : n ≤ 1000) (hd : decode cc pc = .ok (.iaload, 1)) (k : W p l e R s m args below meth c H locs cells slots Q (F0 m (pc + 1) ls (.int (iI ↑(f i)) :: rest))) : W p l e R s m args below meth c H locs cells slots Q (F0 m pc ls (.int (iI z) :: .ref a :: rest)) := by
  have e : (iI z).toNatClampNeg = i := iI_cl hz (by omega)
  refine va_iald hx hb hK hP q0 t0 ha ht (iI_in ⟨by omega, by omega⟩ (by omega)) hd ?_
  rw [e]
  exact k
theorem r_ald_i_z (hx : p.tables.exec = Jvm.exec) (hb : c.code = cc) (hK : va_K D cl tys s) (hP : va_P D cl ws H) (q0 t0 : Nat) {cA : ClassId} {n : Nat} {f : Nat → Int} (i : Nat) (ha : ws[q0]? = some (a, .inl (cA, n, .inl (zF f)))) (ht : tys[t0]? = some (cA, .int)) {z : Int} (hz : z = ↑i) (hi : i < n) (hn : n ≤ 1000) (hd : decode cc pc = .ok (.iaload, 1)) (k : W p l e R s m args below meth c H locs cells slots Q (F0 m (pc + 1) ls (.int (iI (f i)) :: rest))) : W p l e R s m args below meth c H locs cells slots Q (F0 m pc ls (.int (iI z) :: .ref a :: rest)) := by
  have e : (iI z).toNatClampNeg = i := iI_cl hz (by omega)
  refine va_iald hx hb hK hP q0 t0 ha ht (iI_in ⟨by omega, by omega⟩ (by omega)) hd ?_
  rw [e]
  exact k
theorem r_ald_z_b (hx : p.tables.exec = Jvm.exec) (hb : c.code = cc) (hK : va_K D cl tys s) (hP : va_P D cl ws H) (q0 t0 : Nat) {cA : ClassId} {n : Nat} {f : Nat → Bool} (i : Nat) (ha : ws[q0]? = some (a, .inl (cA, n, .inl (bF f)))) (ht : tys[t0]? = some (cA, .boolean)) {z : Int} (hz : z = ↑i) (hi : i < n) (hn : n ≤ 1000) (hd : decode cc pc = .ok (.baload, 1)) (k : W p l e R s m args below meth c H locs cells slots Q (F0 m (pc + 1) ls (.int (iI (bz (f i))) :: rest))) : W p l e R s m args below meth c H locs cells slots Q (F0 m pc ls (.int (iI z) :: .ref a :: rest)) := by
  have e : (iI z).toNatClampNeg = i := iI_cl hz (by omega)
  refine va_zald hx hb hK hP q0 t0 ha ht (iI_in ⟨by omega, by omega⟩ (by omega)) hd ?_
  rw [e]
  exact k
theorem r_ast_i_n (hx : p.tables.exec = Jvm.exec) (hb : c.code = cc) (hK : va_K D cl tys s) (hP : va_P D cl ws H) (hD : va_D A ws) (hS : va_S A H0 H locs) (q0 t0 : Nat) {cA : ClassId} {n : Nat} {f : Nat → Nat} (i : Nat) {v : Nat} (ha : ws[q0]? = some (a, .inl (cA, n, .inl (nF f)))) (ht : tys[t0]? = some (cA, .int)) {z : Int} (hz : z = ↑i) (hi : i < n) (hn : n ≤ 1000) (hd : decode cc pc = .ok (.iastore, 1)) (k : ∀ (H1 : Heap) (locs1 : List Loc), va_P D cl (ws.set q0 (a, .inl (cA, n, .inl (nF (up f i v))))) H1 → va_D A (ws.set q0 (a, .inl (cA, n, .inl (nF (up f i v))))) → va_S A H0 H1 locs1 → W p l e R s m args below meth c H1 locs1 cells slots Q (F0 m (pc + 1) ls rest)) : W p l e R s m args below meth c H locs cells slots Q (F0 m pc ls (.int (iI ↑v) :: .int (iI z) :: .ref a :: rest)) := by
  have e : (iI z).toNatClampNeg = i := iI_cl hz (by omega)
  refine va_iast hx hb hK hP hD hS q0 t0 ha ht (iI_in ⟨by omega, by omega⟩ (by omega)) hd (fun H1 locs1 h1 h2 h3 => ?_)
  rw [e] at h1 h2
  rw [nF_up] at h1 h2
  exact k H1 locs1 h1 h2 h3
theorem r_ast_i_z (hx : p.tables.exec = Jvm.exec) (hb : c.code = cc) (hK : va_K D cl tys s) (hP : va_P D cl ws H) (hD : va_D A ws) (hS : va_S A H0 H locs) (q0 t0 : Nat) {cA : ClassId} {n : Nat} {f : Nat → Int} (i : Nat) {v : Int} (ha : ws[q0]? = some (a, .inl (cA, n, .inl (zF f)))) (ht : tys[t0]? = some (cA, .int)) {z : Int} (hz : z = ↑i) (hi : i < n) (hn : n ≤ 1000) (hd : decode cc pc = .ok (.iastore, 1)) (k : ∀ (H1 : Heap) (locs1 : List Loc), va_P D cl (ws.set q0 (a, .inl (cA, n, .inl (zF (up f i v))))) H1 → va_D A (ws.set q0 (a, .inl (cA, n, .inl (zF (up f i v))))) → va_S A H0 H1 locs1 → W p l e R s m args below meth c H1 locs1 cells slots Q (F0 m (pc + 1) ls rest)) : W p l e R s m args below meth c H locs cells slots Q (F0 m pc ls (.int (iI v) :: .int (iI z) :: .ref a :: rest)) := by
  have e : (iI z).toNatClampNeg = i := iI_cl hz (by omega)
  refine va_iast hx hb hK hP hD hS q0 t0 ha ht (iI_in ⟨by omega, by omega⟩ (by omega)) hd (fun H1 locs1 h1 h2 h3 => ?_)
  rw [e] at h1 h2
  rw [zF_up] at h1 h2
  exact k H1 locs1 h1 h2 h3
theorem r_ast_z_b (hx : p.tables.exec = Jvm.exec) (hb : c.code = cc) (hK : va_K D cl tys s) (hP : va_P D cl ws H) (hD : va_D A ws) (hS : va_S A H0 H locs) (q0 t0 : Nat) {cA : ClassId} {n : Nat} {f : Nat → Bool} (i : Nat) {v : Bool} (ha : ws[q0]? = some (a, .inl (cA, n, .inl (bF f)))) (ht : tys[t0]? = some (cA, .boolean)) {z : Int} (hz : z = ↑i) (hi : i < n) (hn : n ≤ 1000) (hd : decode cc pc = .ok (.bastore, 1)) (k : ∀ (H1 : Heap) (locs1 : List Loc), va_P D cl (ws.set q0 (a, .inl (cA, n, .inl (bF (up f i v))))) H1 → va_D A (ws.set q0 (a, .inl (cA, n, .inl (bF (up f i v))))) → va_S A H0 H1 locs1 → W p l e R s m args below meth c H1 locs1 cells slots Q (F0 m (pc + 1) ls rest)) : W p l e R s m args below meth c H locs cells slots Q (F0 m pc ls (.int (iI (bz v)) :: .int (iI z) :: .ref a :: rest)) := by
  have e : (iI z).toNatClampNeg = i := iI_cl hz (by omega)
  refine va_zast hx hb hK hP hD hS q0 t0 ha ht (iI_in ⟨by omega, by omega⟩ (by omega)) hd (fun H1 locs1 h1 h2 h3 => ?_)
  rw [e] at h1 h2
  rw [bz_vnar] at h1 h2
  rw [bF_up] at h1 h2
  exact k H1 locs1 h1 h2 h3
end RI
