/-! constructors: new rows of a known class -/
section RN
variable {p : Program} {l : Launch} {e : Env} {R : Room} {s : State} {m : MethodId} {args : Array Value} {below : List Frame} {meth : Method} {c : Code} {H : Heap} {locs : List Loc} {cells slots : Nat} {Q : State → Prop} {cc : ByteArray} {pc : Nat} {ls : Array Slot} {rest : List Value}
variable {D : va_G} {ws : va_W} {A : Nat → Prop} {H0 : Heap} {cI cZ cS : ClassId}
theorem tyL_int {cA : ClassId} (h : va_K D vwCl (tyL cI cZ cS ++ [(cA, .int)]) s) : cA = cI := by
  have h1 : s.vm.findClass ("[" ++ FieldType.int.toString) = some cI := (h.2 0 (cI, .int) rfl).2
  have h2 : s.vm.findClass ("[" ++ FieldType.int.toString) = some cA := (h.2 3 (cA, .int) rfl).2
  rw [h1] at h2
  exact (Option.some.inj h2).symm
theorem tyL_boo {cA : ClassId} (h : va_K D vwCl (tyL cI cZ cS ++ [(cA, .boolean)]) s) : cA = cZ := by
  have h1 : s.vm.findClass ("[" ++ FieldType.boolean.toString) = some cZ := (h.2 1 (cZ, .boolean) rfl).2
  have h2 : s.vm.findClass ("[" ++ FieldType.boolean.toString) = some cA := (h.2 3 (cA, .boolean) rfl).2
  rw [h1] at h2
  exact (Option.some.inj h2).symm
theorem tyL_obj {cA : ClassId} (h : va_K D vwCl (tyL cI cZ cS ++ [(cA, .object RX1)]) s) : cA = cS := by
  obtain ⟨k1, o1, -, -, -, h1⟩ := (h.2 2 (cS, .object RX1) rfl).2
  obtain ⟨k2, o2, -, -, -, h2⟩ := (h.2 3 (cA, .object RX1) rfl).2
  rw [h1] at h2
  exact (Option.some.inj h2).symm
theorem r_newz {n : Nat} (hx : p.tables.exec = Jvm.exec) (hb : c.code = cc) (harr : (Cond.arrayClass .int).before args s = true) (hK : va_K D vwCl (tyL cI cZ cS) s) (hP : va_P D vwCl ws H) (hD : va_D A ws) (hS : va_S A H0 H locs) (hA : ∀ q, H0.size ≤ q → A q) (hn : n < 1000000) (hcells : cells + 1 ≤ R.cells) (hslots : slots + n ≤ R.slots) (hdg : decode cc pc = .ok (.newarray .int, 2))
    (kk : ∀ (q : Nat) (H1 : Heap), va_P D vwCl (ws ++ [(q, .inl (cI, n, .inl (zF (fun _ => 0))))]) H1 → va_D A (ws ++ [(q, .inl (cI, n, .inl (zF (fun _ => 0))))]) → va_S A H0 H1 locs → W p l e R s m args below meth c H1 locs (cells + 1) (slots + n) Q (F0 m (pc + 2) ls (.ref q :: rest))) : W p l e R s m args below meth c H locs cells slots Q (F0 m pc ls (.int (iI ((n : Nat) : Int)) :: rest)) := by
  refine va_newa (atype := .int) (a0 := (n, .inl (zF (fun _ => 0)))) hx hb harr rfl hK hP hD hS hA (fun cA => rfl) (iI_nn hn) (iI_cl rfl hn) (by show n * 4 ≤ 536870912; omega) hcells hslots hdg (fun q cA H1 hK1 hP1 hD1 hS1 => ?_)
  have e := tyL_int hK1
  subst e
  exact kk q H1 hP1 hD1 hS1
theorem r_newn {n : Nat} (hx : p.tables.exec = Jvm.exec) (hb : c.code = cc) (harr : (Cond.arrayClass .int).before args s = true) (hK : va_K D vwCl (tyL cI cZ cS) s) (hP : va_P D vwCl ws H) (hD : va_D A ws) (hS : va_S A H0 H locs) (hA : ∀ q, H0.size ≤ q → A q) (hn : n < 1000000) (hcells : cells + 1 ≤ R.cells) (hslots : slots + n ≤ R.slots) (hdg : decode cc pc = .ok (.newarray .int, 2))
    (kk : ∀ (q : Nat) (H1 : Heap), va_P D vwCl (ws ++ [(q, .inl (cI, n, .inl (nF (fun _ => 0))))]) H1 → va_D A (ws ++ [(q, .inl (cI, n, .inl (nF (fun _ => 0))))]) → va_S A H0 H1 locs → W p l e R s m args below meth c H1 locs (cells + 1) (slots + n) Q (F0 m (pc + 2) ls (.ref q :: rest))) : W p l e R s m args below meth c H locs cells slots Q (F0 m pc ls (.int (iI ((n : Nat) : Int)) :: rest)) :=
  r_newz hx hb harr hK hP hD hS hA hn hcells hslots hdg kk
theorem r_newb {n : Nat} (hx : p.tables.exec = Jvm.exec) (hb : c.code = cc) (harr : (Cond.arrayClass .boolean).before args s = true) (hK : va_K D vwCl (tyL cI cZ cS) s) (hP : va_P D vwCl ws H) (hD : va_D A ws) (hS : va_S A H0 H locs) (hA : ∀ q, H0.size ≤ q → A q) (hn : n < 1000000) (hcells : cells + 1 ≤ R.cells) (hslots : slots + n ≤ R.slots) (hdg : decode cc pc = .ok (.newarray .boolean, 2))
    (kk : ∀ (q : Nat) (H1 : Heap), va_P D vwCl (ws ++ [(q, .inl (cZ, n, .inl (bF (fun _ => false))))]) H1 → va_D A (ws ++ [(q, .inl (cZ, n, .inl (bF (fun _ => false))))]) → va_S A H0 H1 locs → W p l e R s m args below meth c H1 locs (cells + 1) (slots + n) Q (F0 m (pc + 2) ls (.ref q :: rest))) : W p l e R s m args below meth c H locs cells slots Q (F0 m pc ls (.int (iI ((n : Nat) : Int)) :: rest)) := by
  refine va_newa (atype := .boolean) (a0 := (n, .inl (bF (fun _ => false)))) hx hb harr rfl hK hP hD hS hA (fun cA => rfl) (iI_nn hn) (iI_cl rfl hn) (by show n * 1 ≤ 536870912; omega) hcells hslots hdg (fun q cA H1 hK1 hP1 hD1 hS1 => ?_)
  have e := tyL_boo hK1
  subst e
  exact kk q H1 hP1 hD1 hS1
theorem r_newq {n index : Nat} {own : String} (hx : p.tables.exec = Jvm.exec) (hb : c.code = cc) (hown : s.vm.findClass own = some m.cls) (hcl : (Cond.classLink own index RX1).before args s = true) (hO : va_AO RX1 s) (hK : va_K D vwCl (tyL cI cZ cS) s) (hP : va_P D vwCl ws H) (hD : va_D A ws) (hS : va_S A H0 H locs) (hA : ∀ q, H0.size ≤ q → A q) (hn : n < 1000000) (hcells : cells + 1 ≤ R.cells) (hslots : slots + n ≤ R.slots) (hdg : decode cc pc = .ok (.anewarray index, 3))
    (kk : ∀ (q : Nat) (H1 : Heap), va_P D vwCl (ws ++ [(q, .inl (cS, n, .inr (.inr (.inr (.inr (fun _ => none))))))]) H1 → va_D A (ws ++ [(q, .inl (cS, n, .inr (.inr (.inr (.inr (fun _ => none))))))]) → va_S A H0 H1 locs → W p l e R s m args below meth c H1 locs (cells + 1) (slots + n) Q (F0 m (pc + 3) ls (.ref q :: rest))) : W p l e R s m args below meth c H locs cells slots Q (F0 m pc ls (.int (iI ((n : Nat) : Int)) :: rest)) := by
  refine va_newq hx hb hown hcl hO hK hP hD hS hA (iI_nn hn) (iI_cl rfl hn) (by show n * 4 ≤ 536870912; omega) hcells hslots hdg (fun q cA H1 hK1 hP1 hD1 hS1 => ?_)
  have e := tyL_obj hK1
  subst e
  exact kk q H1 hP1 hD1 hS1
end RN
/-- the private constructors, linked; the class of rows of sheets -/
def nlI (U : State) : Prop := va_Nw (.methodLinkNest RX4 19 yX0_init RX4) U ∧ va_Nw (.methodLinkNest RX4 26 yX3_init RX4) U ∧ va_Nw (.methodLinkNest RX4 49 yX1_init RX4) U ∧ va_AO RX1 U
theorem nlI.warm {s U : State} (hW : s.WarmedH U.vm) (h : nlI s) : nlI U := ⟨va_Nw.warmM hW h.1, va_Nw.warmM hW h.2.1, va_Nw.warmM hW h.2.2.1, h.2.2.2.moved hW.alike⟩
theorem nlI.same {u U : State} (hv : u.vm = U.vm) (h : nlI u) : nlI U := ⟨va_Nw.same rfl hv h.1, va_Nw.same rfl hv h.2.1, va_Nw.same rfl hv h.2.2.1, va_AO.moved (by rw [hv]; exact Vm.Alike.refl U.vm) h.2.2.2⟩
abbrev preA (D : va_G) (tys : List (ClassId × FieldType)) (ws : va_W) (sz : Nat) (U : State) : Prop := U.heap.size = sz ∧ va_P D vwCl ws U.heap ∧ va_K D vwCl tys U ∧ va_D (fun _ => True) ws ∧ nlK U ∧ nlI U
theorem blindA {av : List Value} {D : va_G} {tys : List (ClassId × FieldType)} {ws : va_W} {sz : Nat} : FrameBlind (va_Pc av (preA D tys ws sz)) := fun a U g mk q => by
  obtain ⟨q0, q1, qP, qK, qD, qN, qO⟩ := q
  exact ⟨q0, q1, qP, va_K.moved (u := U) (U := U.calling g mk a) (Vm.Alike.refl U.vm) qK, qD, nlK.same rfl qN, nlI.same rfl qO⟩
theorem r_preSA {D : va_G} {tys : List (ClassId × FieldType)} {ws wc : va_W} {A : Nat → Prop} {s : State} {H : Heap} (hN : nlK s) (hO : nlI s) (hK : va_K D vwCl tys s) (hP : va_P D vwCl ws H) (hD : va_D A ws) (isC : List Nat) (hC1 : isC.filterMap (fun i => ws[i]?) = wc) (hC : isC.map (fun i => ws[i]?) = wc.map some) (hn : va_nd isC = true) (As : List Value) : PreS s H (va_Pc As (preA D tys wc H.size)) As :=
  ⟨blindA, fun U hU hW => ⟨rfl, by rw [hU], by rw [hU]; exact hP.sub isC hC1, va_K.moved hW.alike hK, (hD.sub isC hn hC).weaken (fun _ _ _ _ => trivial), hN.warm hW, hO.warm hW⟩⟩
