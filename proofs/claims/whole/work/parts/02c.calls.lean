/-! calls, returns, loops, over worlds -/
abbrev tyL (cI cZ cS : ClassId) : List (ClassId × FieldType) := [(cI, .int), (cZ, .boolean), (cS, .object RX1)]
/-- the calls of private static methods of a nest mate, linked -/
def nlK (U : State) : Prop := va_Nw (.methodLinkNest RX0 96 yX4_isIn RX4) U ∧ va_Nw (.methodLinkNest RX2 21 yX4_isWithin RX4) U ∧ va_Nw (.methodLinkNest RX3 28 yX4_isIn RX4) U
theorem nlK.warm {s U : State} (hW : s.WarmedH U.vm) (h : nlK s) : nlK U := ⟨va_Nw.warmM hW h.1, va_Nw.warmM hW h.2.1, va_Nw.warmM hW h.2.2⟩
theorem nlK.same {u U : State} (hv : u.vm = U.vm) (h : nlK u) : nlK U := ⟨va_Nw.same rfl hv h.1, va_Nw.same rfl hv h.2.1, va_Nw.same rfl hv h.2.2⟩
abbrev preW (D : va_G) (tys : List (ClassId × FieldType)) (ws : va_W) (sz : Nat) (U : State) : Prop := U.heap.size = sz ∧ va_P D vwCl ws U.heap ∧ va_K D vwCl tys U ∧ va_D (fun _ => True) ws ∧ nlK U
def acr (j : Nat) : Int := [-1, 0, 1, -1, 1, -1, 0, 1].getD j 0
def dwn (j : Nat) : Int := [-1, -1, -1, 0, 0, 1, 1, 1].getD j 0
theorem acr_in (j : Nat) : -1 ≤ acr j ∧ acr j ≤ 1 := by
  have h : ∀ j, j < 8 → -1 ≤ acr j ∧ acr j ≤ 1 := by decide +kernel
  by_cases hj : j < 8
  · exact h j hj
  · unfold acr
    rw [List.getD_eq_getElem?_getD, List.getElem?_eq_none (by simp; omega)]
    decide
theorem dwn_in (j : Nat) : -1 ≤ dwn j ∧ dwn j ≤ 1 := by
  have h : ∀ j, j < 8 → -1 ≤ dwn j ∧ dwn j ≤ 1 := by decide +kernel
  by_cases hj : j < 8
  · exact h j hj
  · unfold dwn
    rw [List.getD_eq_getElem?_getD, List.getElem?_eq_none (by simp; omega)]
    decide
/-- the two static rows of ClayFort$Land -/
def stK (A : Nat → Prop) (U : State) (H : Heap) : Prop := ∃ tA tD : Nat, va_Z RX0 "ACROSS" "[I" (.ref tA) A U H ∧ va_T .int tA 8 (fun j => .int (iI (acr j))) A U H ∧ va_Z RX0 "DOWN" "[I" (.ref tD) A U H ∧ va_T .int tD 8 (fun j => .int (iI (dwn j))) A U H
theorem stK.moved {A : Nat → Prop} {u U : State} {H : Heap} (hvm : u.vm.Alike U.vm) (h : stK A u H) : stK A U H := by
  obtain ⟨tA, tD, h1, h2, h3, h4⟩ := h
  exact ⟨tA, tD, h1.moved hvm, h2.moved hvm, h3.moved hvm, h4.moved hvm⟩
theorem stK.kept {A : Nat → Prop} {U : State} {H H1 : Heap} (h : stK A U H) (hq : ∀ a : Nat, a < H.size → ¬ A a → H1[a]? = H[a]?) : stK A U H1 := by
  obtain ⟨tA, tD, h1, h2, h3, h4⟩ := h
  exact ⟨tA, tD, h1.kept hq, h2.kept hq, h3.kept hq, h4.kept hq⟩
theorem stK.narrow {A B : Nat → Prop} {U : State} {H : Heap} (h : stK A U H) (hAB : ∀ q, B q → A q) : stK B U H := by
  obtain ⟨tA, tD, h1, h2, h3, h4⟩ := h
  exact ⟨tA, tD, h1.narrow hAB, h2.narrow hAB, h3.narrow hAB, h4.narrow hAB⟩
abbrev preT (D : va_G) (tys : List (ClassId × FieldType)) (ws : va_W) (sz : Nat) (U : State) : Prop := U.heap.size = sz ∧ va_P D vwCl ws U.heap ∧ va_K D vwCl tys U ∧ va_D (fun _ => True) ws ∧ nlK U ∧ stK (va_A ws sz) U U.heap
theorem blindW {av : List Value} {D : va_G} {tys : List (ClassId × FieldType)} {ws : va_W} {sz : Nat} : FrameBlind (va_Pc av (preW D tys ws sz)) := fun a U g mk q => by
  obtain ⟨q0, q1, qP, qK, qD, qN⟩ := q
  exact ⟨q0, q1, qP, va_K.moved (u := U) (U := U.calling g mk a) (Vm.Alike.refl U.vm) qK, qD, nlK.same rfl qN⟩
theorem blindT {av : List Value} {D : va_G} {tys : List (ClassId × FieldType)} {ws : va_W} {sz : Nat} : FrameBlind (va_Pc av (preT D tys ws sz)) := fun a U g mk q => by
  obtain ⟨q0, q1, qP, qK, qD, qN, qS⟩ := q
  exact ⟨q0, q1, qP, va_K.moved (u := U) (U := U.calling g mk a) (Vm.Alike.refl U.vm) qK, qD, nlK.same rfl qN, stK.moved (u := U) (U := U.calling g mk a) (Vm.Alike.refl U.vm) qS⟩
section RC
variable {p : Program} {l : Launch} {e : Env} {R : Room} {s : State} {m : MethodId} {args : Array Value} {below : List Frame} {meth : Method} {c : Code} {H : Heap} {locs : List Loc} {cells slots : Nat} {Q : State → Prop} {cc : ByteArray} {pc : Nat} {ls : Array Slot} {rest st0 : List Value}
variable {D : va_G} {tys : List (ClassId × FieldType)} {ws wc wr : va_W} {A : Nat → Prop} {H0 : Heap} {a : Array Value} {b : Nat}
theorem r_preS (hN : nlK s) (hK : va_K D vwCl tys s) (hP : va_P D vwCl ws H) (hD : va_D A ws) (isC : List Nat) (hC1 : isC.filterMap (fun i => ws[i]?) = wc) (hC : isC.map (fun i => ws[i]?) = wc.map some) (hn : va_nd isC = true) (As : List Value) : PreS s H (va_Pc As (preW D tys wc H.size)) As :=
  ⟨blindW, fun U hU hW => ⟨rfl, by rw [hU], by rw [hU]; exact hP.sub isC hC1, va_K.moved hW.alike hK, (hD.sub isC hn hC).weaken (fun _ _ _ _ => trivial), hN.warm hW⟩⟩
theorem r_preV (hN : nlK s) (hK : va_K D vwCl tys s) (hP : va_P D vwCl ws H) (hD : va_D A ws) (isC : List Nat) (hC1 : isC.filterMap (fun i => ws[i]?) = wc) (hC : isC.map (fun i => ws[i]?) = wc.map some) (hn : va_nd isC = true) {q : vw_C} {ci : Nat} {fs : List Value} (q0 : Nat) (he : ws[q0]? = some (b, .inr (ci, fs))) (hc : vwCl[ci]? = some q) (As : List Value) : PreV s H q.1 b (va_Pc (.ref b :: As) (preW D tys wc H.size)) As :=
  ⟨blindW, va_recv hK hP hc he, fun U hU hW => ⟨rfl, by rw [hU], by rw [hU]; exact hP.sub isC hC1, va_K.moved hW.alike hK, (hD.sub isC hn hC).weaken (fun _ _ _ _ => trivial), hN.warm hW⟩⟩
theorem r_stGo {A B : Nat → Prop} (hT : stK A s s.heap) (hS : va_S A s.heap H locs) (hB : ∀ q, B q → A q) {U : State} (hU : U.heap = H) (hvm : s.vm.Alike U.vm) : stK B U U.heap := by
  rw [hU]
  exact ((hT.kept hS.2.1).moved hvm).narrow hB
theorem r_preVT (hN : nlK s) (hK : va_K D vwCl tys s) (hP : va_P D vwCl ws H) (hD : va_D A ws) (hS : va_S A s.heap H locs) (hA : ∀ q, s.heap.size ≤ q → A q) (hT : stK A s s.heap) (isC : List Nat) (hC1 : isC.filterMap (fun i => ws[i]?) = wc) (hC : isC.map (fun i => ws[i]?) = wc.map some) (hn : va_nd isC = true) {q : vw_C} {ci : Nat} {fs : List Value} (q0 : Nat) (he : ws[q0]? = some (b, .inr (ci, fs))) (hc : vwCl[ci]? = some q) (As : List Value) : PreV s H q.1 b (va_Pc (.ref b :: As) (preT D tys wc H.size)) As :=
  ⟨blindT, va_recv hK hP hc he, fun U hU hW => ⟨rfl, by rw [hU], by rw [hU]; exact hP.sub isC hC1, va_K.moved hW.alike hK, (hD.sub isC hn hC).weaken (fun _ _ _ _ => trivial), hN.warm hW, r_stGo hT hS (va_free hD hS hA isC hC) hU hW.alike⟩⟩
theorem r_calli {S : Type} {post : Int32 → S → Prop} {w1 : S → va_W} {mc ms : Nat} (hr : va_Run p l e R s m args below meth c H locs cells slots mc ms (F0 m pc ls st0) rest (va_Qi post (fun u t => va_P D vwCl (w1 u) t.heap ∧ va_D (va_A wc H.size) (w1 u)) (va_A wc H.size) a) (va_A wc H.size)) (hP : va_P D vwCl ws H) (hD : va_D A ws) (hS : va_S A H0 H locs) (hA : ∀ q, H0.size ≤ q → A q) (isC isR : List Nat) (hC : isC.map (fun i => ws[i]?) = wc.map some) (hR : isR.map (fun i => ws[i]?) = wr.map some) (hn : va_nd isR = true) (hdis : ∀ i ∈ isR, i ∉ isC) (kk : ∀ (r : Int32) (u : S) (H1 : Heap) (locs1 : List Loc), post r u → va_P D vwCl (wr ++ w1 u) H1 → va_D A (wr ++ w1 u) → va_S A H0 H1 locs1 → W p l e R s m args below meth c H1 locs1 (cells + mc) (slots + ms) Q (F0 m (pc + 3) ls (.int r :: rest))) : W p l e R s m args below meth c H locs cells slots Q (F0 m pc ls st0) := by
  have hF := va_free hD hS hA isC hC
  refine va_calli hr hS (fun q _ h => hF q h) hF (fun r u t H1 locs1 ht hvm hw hB hz hk hS1 => ?_)
  obtain ⟨hP1, hD1⟩ := hB
  rw [ht] at hP1
  obtain ⟨h1, h2⟩ := va_join hP hD isC isR hC hR hn hdis hk hF hP1 hD1
  exact kk r u H1 locs1 hw h1 h2 hS1
theorem r_calll {S : Type} {post : Int64 → S → Prop} {w1 : S → va_W} {mc ms : Nat} (hr : va_Run p l e R s m args below meth c H locs cells slots mc ms (F0 m pc ls st0) rest (va_Ql post (fun u t => va_P D vwCl (w1 u) t.heap ∧ va_D (va_A wc H.size) (w1 u)) (va_A wc H.size) a) (va_A wc H.size)) (hP : va_P D vwCl ws H) (hD : va_D A ws) (hS : va_S A H0 H locs) (hA : ∀ q, H0.size ≤ q → A q) (isC isR : List Nat) (hC : isC.map (fun i => ws[i]?) = wc.map some) (hR : isR.map (fun i => ws[i]?) = wr.map some) (hn : va_nd isR = true) (hdis : ∀ i ∈ isR, i ∉ isC) (kk : ∀ (r : Int64) (u : S) (H1 : Heap) (locs1 : List Loc), post r u → va_P D vwCl (wr ++ w1 u) H1 → va_D A (wr ++ w1 u) → va_S A H0 H1 locs1 → W p l e R s m args below meth c H1 locs1 (cells + mc) (slots + ms) Q (F0 m (pc + 3) ls (.long r :: rest))) : W p l e R s m args below meth c H locs cells slots Q (F0 m pc ls st0) := by
  have hF := va_free hD hS hA isC hC
  refine va_calll hr hS (fun q _ h => hF q h) hF (fun r u t H1 locs1 ht hvm hw hB hz hk hS1 => ?_)
  obtain ⟨hP1, hD1⟩ := hB
  rw [ht] at hP1
  obtain ⟨h1, h2⟩ := va_join hP hD isC isR hC hR hn hdis hk hF hP1 hD1
  exact kk r u H1 locs1 hw h1 h2 hS1
theorem r_callv {S : Type} {post : S → Prop} {w1 : S → va_W} {mc ms : Nat} (hr : va_Run p l e R s m args below meth c H locs cells slots mc ms (F0 m pc ls st0) rest (va_Qv post (fun u t => va_P D vwCl (w1 u) t.heap ∧ va_D (va_A wc H.size) (w1 u)) (va_A wc H.size) a) (va_A wc H.size)) (hP : va_P D vwCl ws H) (hD : va_D A ws) (hS : va_S A H0 H locs) (hA : ∀ q, H0.size ≤ q → A q) (isC isR : List Nat) (hC : isC.map (fun i => ws[i]?) = wc.map some) (hR : isR.map (fun i => ws[i]?) = wr.map some) (hn : va_nd isR = true) (hdis : ∀ i ∈ isR, i ∉ isC) (kk : ∀ (u : S) (H1 : Heap) (locs1 : List Loc), post u → va_P D vwCl (wr ++ w1 u) H1 → va_D A (wr ++ w1 u) → va_S A H0 H1 locs1 → W p l e R s m args below meth c H1 locs1 (cells + mc) (slots + ms) Q (F0 m (pc + 3) ls (rest))) : W p l e R s m args below meth c H locs cells slots Q (F0 m pc ls st0) := by
  have hF := va_free hD hS hA isC hC
  refine va_callv hr hS (fun q _ h => hF q h) hF (fun u t H1 locs1 ht hvm hw hB hz hk hS1 => ?_)
  obtain ⟨hP1, hD1⟩ := hB
  rw [ht] at hP1
  obtain ⟨h1, h2⟩ := va_join hP hD isC isR hC hR hn hdis hk hF hP1 hD1
  exact kk u H1 locs1 hw h1 h2 hS1
theorem r_callq {S : Type} {post : Option Nat → S → Prop} {w1 : S → va_W} {mc ms : Nat} (hr : va_Run p l e R s m args below meth c H locs cells slots mc ms (F0 m pc ls st0) rest (va_Qq post (fun u t => va_P D vwCl (w1 u) t.heap ∧ va_D (va_A wc H.size) (w1 u)) (va_A wc H.size) a) (va_A wc H.size)) (hP : va_P D vwCl ws H) (hD : va_D A ws) (hS : va_S A H0 H locs) (hA : ∀ q, H0.size ≤ q → A q) (isC isR : List Nat) (hC : isC.map (fun i => ws[i]?) = wc.map some) (hR : isR.map (fun i => ws[i]?) = wr.map some) (hn : va_nd isR = true) (hdis : ∀ i ∈ isR, i ∉ isC) (kk : ∀ (r : Option Nat) (u : S) (H1 : Heap) (locs1 : List Loc), post r u → va_P D vwCl (wr ++ w1 u) H1 → va_D A (wr ++ w1 u) → va_S A H0 H1 locs1 → W p l e R s m args below meth c H1 locs1 (cells + mc) (slots + ms) Q (F0 m (pc + 3) ls (va_rf r :: rest))) : W p l e R s m args below meth c H locs cells slots Q (F0 m pc ls st0) := by
  have hF := va_free hD hS hA isC hC
  refine va_callq hr hS (fun q _ h => hF q h) hF (fun r u t H1 locs1 ht hvm hw hB hz hk hS1 => ?_)
  obtain ⟨hP1, hD1⟩ := hB
  rw [ht] at hP1
  obtain ⟨h1, h2⟩ := va_join hP hD isC isR hC hR hn hdis hk hF hP1 hD1
  exact kk r u H1 locs1 hw h1 h2 hS1
theorem r_iret {S : Type} {post : Int32 → S → Prop} {w1 : S → va_W} {v : Int32} (hx : p.tables.exec = Jvm.exec) (hb : c.code = cc) (hlocks : meth.locks = false) (hP : va_P D vwCl ws H) (hD : va_D A ws) (hS : va_S A s.heap H locs) (is : List Nat) (u : S) (hs : is.filterMap (fun i => ws[i]?) = w1 u) (hs2 : is.map (fun i => ws[i]?) = (w1 u).map some) (hn : va_nd is = true) (hr : meth.sig.returnType = some .int) (hq : post v u) (hd : decode cc pc = .ok (.ireturn, 1)) : W p l e R s m args below meth c H locs cells slots (MQ below (va_Qi post (fun u t => va_P D vwCl (w1 u) t.heap ∧ va_D A (w1 u)) A) args s cells slots A) (F0 m pc ls [.int v]) :=
  W.iret hx hb hr (fun t ht hW => ⟨⟨v, u, rfl, hq, by rw [ht]; exact hP.sub is hs, hD.sub is hn hs2⟩, hS.F ht⟩) hS.2.2 hd hlocks
theorem r_zret {S : Type} {post : Int32 → S → Prop} {w1 : S → va_W} {v : Int32} (hx : p.tables.exec = Jvm.exec) (hb : c.code = cc) (hlocks : meth.locks = false) (hP : va_P D vwCl ws H) (hD : va_D A ws) (hS : va_S A s.heap H locs) (is : List Nat) (u : S) (hs : is.filterMap (fun i => ws[i]?) = w1 u) (hs2 : is.map (fun i => ws[i]?) = (w1 u).map some) (hn : va_nd is = true) (hr : meth.sig.returnType = some .boolean) (hna : narrow .boolean (.int v) = .int v) (hq : post v u) (hd : decode cc pc = .ok (.ireturn, 1)) : W p l e R s m args below meth c H locs cells slots (MQ below (va_Qi post (fun u t => va_P D vwCl (w1 u) t.heap ∧ va_D A (w1 u)) A) args s cells slots A) (F0 m pc ls [.int v]) :=
  W.zret hx hb hr hna (fun t ht hW => ⟨⟨v, u, rfl, hq, by rw [ht]; exact hP.sub is hs, hD.sub is hn hs2⟩, hS.F ht⟩) hS.2.2 hd hlocks
theorem r_lret {S : Type} {post : Int64 → S → Prop} {w1 : S → va_W} {v : Int64} (hx : p.tables.exec = Jvm.exec) (hb : c.code = cc) (hlocks : meth.locks = false) (hP : va_P D vwCl ws H) (hD : va_D A ws) (hS : va_S A s.heap H locs) (is : List Nat) (u : S) (hs : is.filterMap (fun i => ws[i]?) = w1 u) (hs2 : is.map (fun i => ws[i]?) = (w1 u).map some) (hn : va_nd is = true) (hr : meth.sig.returnType = some .long) (hq : post v u) (hd : decode cc pc = .ok (.lreturn, 1)) : W p l e R s m args below meth c H locs cells slots (MQ below (va_Ql post (fun u t => va_P D vwCl (w1 u) t.heap ∧ va_D A (w1 u)) A) args s cells slots A) (F0 m pc ls [.long v]) :=
  W.lret hx hb hr (fun t ht hW => ⟨⟨v, u, rfl, hq, by rw [ht]; exact hP.sub is hs, hD.sub is hn hs2⟩, hS.F ht⟩) hS.2.2 hd hlocks
theorem r_vret {S : Type} {post : S → Prop} {w1 : S → va_W} (hx : p.tables.exec = Jvm.exec) (hb : c.code = cc) (hlocks : meth.locks = false) (hP : va_P D vwCl ws H) (hD : va_D A ws) (hS : va_S A s.heap H locs) (is : List Nat) (u : S) (hs : is.filterMap (fun i => ws[i]?) = w1 u) (hs2 : is.map (fun i => ws[i]?) = (w1 u).map some) (hn : va_nd is = true) (hr : meth.sig.returnType = none) (hq : post u) (hd : decode cc pc = .ok (.return_, 1)) : W p l e R s m args below meth c H locs cells slots (MQ below (va_Qv post (fun u t => va_P D vwCl (w1 u) t.heap ∧ va_D A (w1 u)) A) args s cells slots A) (F0 m pc ls []) :=
  W.vret hx hb hr (fun t ht hW => ⟨⟨u, rfl, hq, by rw [ht]; exact hP.sub is hs, hD.sub is hn hs2⟩, hS.F ht⟩) hS.2.2 hd hlocks
theorem r_loop {st : List Value} (J : Nat → Array Slot → Heap → List Loc → Prop) (hbody : ∀ n, (∀ ls H locs, J n ls H locs → W p l e R s m args below meth c H locs cells slots Q (F0 m pc ls st)) → ∀ ls H locs, J (n + 1) ls H locs → W p l e R s m args below meth c H locs cells slots Q (F0 m pc ls st)) (h0 : ∀ ls H locs, ¬ J 0 ls H locs) (n : Nat) (h : J n ls H locs) : W p l e R s m args below meth c H locs cells slots Q (F0 m pc ls st) := by
  have key : ∀ n ls H locs, J n ls H locs → W p l e R s m args below meth c H locs cells slots Q (F0 m pc ls st) := by
    intro n
    induction n with
    | zero => exact fun ls H locs q => absurd q (h0 ls H locs)
    | succ n ih => exact hbody n ih
  exact key n ls H locs h
theorem r_cut {g : JFrame} (pc2 : Nat) (J : Array Slot → List Value → Heap → List Loc → Prop) (h1 : (∀ ls st H locs, J ls st H locs → W p l e R s m args below meth c H locs cells slots Q (F0 m pc2 ls st)) → W p l e R s m args below meth c H locs cells slots Q g) (h2 : ∀ ls st H locs, J ls st H locs → W p l e R s m args below meth c H locs cells slots Q (F0 m pc2 ls st)) : W p l e R s m args below meth c H locs cells slots Q g := h1 h2
theorem r_w0 {g : JFrame} (k : W p l e R s m args below meth c H locs 0 0 Q g) : W p l e R s m args below meth c H locs (0 + 0) (0 + 0) Q g := k
end RC
