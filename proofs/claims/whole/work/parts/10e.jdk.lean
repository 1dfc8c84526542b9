set_option maxHeartbeats 4000000 in
set_option maxRecDepth 100000 in
theorem c_J6_bitCount_0f7a4 (l : Launch) (dC : Nat → ClassId) (dI : Nat → Nat → Nat) (cI cZ cS : ClassId) (sz : Nat) (n9 : Nat) (h1 : n9 < 16) : Met l yJ6_bitCount_0f7a4 wsJ6_bitCount_0f7a4 ({ frames := 0, cells := 0, slots := 0, locals := 0 }) (va_Pc [.int (iI (((n9 : Nat) : Int)))] (preW (dC, dI) (tyL cI cZ cS) [] sz)) (va_Qi (fun (r : Int32) (u : Unit) => r = (iI (((popN n9 : Nat) : Int)))) (fun (u : Unit) t => va_P (dC, dI) vwCl [] t.heap ∧ va_D (va_A [] sz) []) (va_A [] sz)) 0 0 (va_A [] sz) := by
  refine Met.ofW (cc := cJ6_bitCount_0f7a4) (maxL := 1) (ret := (some .int)) (by decide) rfl ?_
  intro p e s m args below meth c s₁ B hml hv
  obtain ⟨rfl, hsz, hP, hK, hD0, hN⟩ := hv
  have hx := B.exec
  have hb := B.bytes
  have hr := B.returns
  have hts := atoms_spec (ws := wsJ6_bitCount_0f7a4) B.pre
  have hown : s.vm.findClass RJ6 = some m.cls := findClass_of_methodNamed B.named
  have hlocks := B.notSynchronized
  subst hsz
  have hD := hD0.self (sz := s.heap.size)
  generalize hAe : va_A [] s.heap.size = A at hD ⊢
  have hA : ∀ q : Nat, s.heap.size ≤ q → A q := fun q h => by rw [← hAe]; exact Or.inr h
  have hS : va_S A s.heap s.heap [] := va_S.rf
  have hP : va_P (dC, dI) vwCl [] s.heap := hP
  have hC0 : CallFix p m c cJ6_bitCount_0f7a4 1 s [.int (iI (((n9 : Nat) : Int)))].toArray wsJ6_bitCount_0f7a4 RJ6 := ⟨hx, hb, hml, hown, hts⟩
  have hl := lv_entry [.int (iI (((n9 : Nat) : Int)))] (n := 1) (Nat.le_of_ble_eq_true rfl)
  rw [lg_entry_eq]
  generalize (lg_sl [.int (iI (((n9 : Nat) : Int)))] ++ List.replicate (1 - (lg_sl [.int (iI (((n9 : Nat) : Int)))]).length) Slot.unset).toArray = ls at hl ⊢
  have hl : lv_has ls 1 [(0, .int (iI (((n9 : Nat) : Int))))] := hl
  refine lv_iload_n hx hb dJ6_bitCount_0f7a4_0 rfl (lv_at hl 0 rfl) ?_
  refine lv_iload_n hx hb dJ6_bitCount_0f7a4_1 rfl (lv_at hl 0 rfl) ?_
  refine lv_iconst (v := 1) hx hb dJ6_bitCount_0f7a4_2 rfl ?_
  refine lv_iushr hx hb dJ6_bitCount_0f7a4_3 rfl ?_
  refine lv_ldcw (v := 1431655765) hx hb hown (hts (.constant RJ6 265 (1431655765)) (List.mem_of_getElem? (i := 1) rfl)) dJ6_bitCount_0f7a4_4 ?_
  refine lv_iand hx hb dJ6_bitCount_0f7a4_7 ?_
  refine lv_isub hx hb dJ6_bitCount_0f7a4_8 ?_
  refine r_eqi (show _ = (bcA (iI ((n9 : Nat) : Int))) from rfl) ?_
  refine lv_istore_n (lv' := [(0, .int (bcA (iI ((n9 : Nat) : Int))))]) hx hb dJ6_bitCount_0f7a4_9 rfl hl (by decide) rfl (fun ls hl => ?_)
  refine lv_iload_n hx hb dJ6_bitCount_0f7a4_10 rfl (lv_at hl 0 rfl) ?_
  refine lv_ldcw (v := 858993459) hx hb hown (hts (.constant RJ6 266 (858993459)) (List.mem_of_getElem? (i := 2) rfl)) dJ6_bitCount_0f7a4_11 ?_
  refine lv_iand hx hb dJ6_bitCount_0f7a4_14 ?_
  refine lv_iload_n hx hb dJ6_bitCount_0f7a4_15 rfl (lv_at hl 0 rfl) ?_
  refine lv_iconst (v := 2) hx hb dJ6_bitCount_0f7a4_16 rfl ?_
  refine lv_iushr hx hb dJ6_bitCount_0f7a4_17 rfl ?_
  refine lv_ldcw (v := 858993459) hx hb hown (hts (.constant RJ6 266 (858993459)) (List.mem_of_getElem? (i := 2) rfl)) dJ6_bitCount_0f7a4_18 ?_
  refine lv_iand hx hb dJ6_bitCount_0f7a4_21 ?_
  refine lv_iadd hx hb dJ6_bitCount_0f7a4_22 ?_
  refine r_eqi (show _ = (bcB (bcA (iI ((n9 : Nat) : Int)))) from rfl) ?_
  refine lv_istore_n (lv' := [(0, .int (bcB (bcA (iI ((n9 : Nat) : Int)))))]) hx hb dJ6_bitCount_0f7a4_23 rfl hl (by decide) rfl (fun ls hl => ?_)
  refine lv_iload_n hx hb dJ6_bitCount_0f7a4_24 rfl (lv_at hl 0 rfl) ?_
  refine lv_iload_n hx hb dJ6_bitCount_0f7a4_25 rfl (lv_at hl 0 rfl) ?_
  refine lv_iconst (v := 4) hx hb dJ6_bitCount_0f7a4_26 rfl ?_
  refine lv_iushr hx hb dJ6_bitCount_0f7a4_27 rfl ?_
  refine lv_iadd hx hb dJ6_bitCount_0f7a4_28 ?_
  refine lv_ldcw (v := 252645135) hx hb hown (hts (.constant RJ6 267 (252645135)) (List.mem_of_getElem? (i := 3) rfl)) dJ6_bitCount_0f7a4_29 ?_
  refine lv_iand hx hb dJ6_bitCount_0f7a4_32 ?_
  refine r_eqi (show _ = (bcC (bcB (bcA (iI ((n9 : Nat) : Int))))) from rfl) ?_
  refine lv_istore_n (lv' := [(0, .int (bcC (bcB (bcA (iI ((n9 : Nat) : Int))))))]) hx hb dJ6_bitCount_0f7a4_33 rfl hl (by decide) rfl (fun ls hl => ?_)
  refine lv_iload_n hx hb dJ6_bitCount_0f7a4_34 rfl (lv_at hl 0 rfl) ?_
  refine lv_iload_n hx hb dJ6_bitCount_0f7a4_35 rfl (lv_at hl 0 rfl) ?_
  refine lv_bipush (v := 8) hx hb dJ6_bitCount_0f7a4_36 (by decide +kernel) ?_
  refine lv_iushr hx hb dJ6_bitCount_0f7a4_38 rfl ?_
  refine lv_iadd hx hb dJ6_bitCount_0f7a4_39 ?_
  refine r_eqi (show _ = (bcD (bcC (bcB (bcA (iI ((n9 : Nat) : Int)))))) from rfl) ?_
  refine lv_istore_n (lv' := [(0, .int (bcD (bcC (bcB (bcA (iI ((n9 : Nat) : Int)))))))]) hx hb dJ6_bitCount_0f7a4_40 rfl hl (by decide) rfl (fun ls hl => ?_)
  refine lv_iload_n hx hb dJ6_bitCount_0f7a4_41 rfl (lv_at hl 0 rfl) ?_
  refine lv_iload_n hx hb dJ6_bitCount_0f7a4_42 rfl (lv_at hl 0 rfl) ?_
  refine lv_bipush (v := 16) hx hb dJ6_bitCount_0f7a4_43 (by decide +kernel) ?_
  refine lv_iushr hx hb dJ6_bitCount_0f7a4_45 rfl ?_
  refine lv_iadd hx hb dJ6_bitCount_0f7a4_46 ?_
  refine r_eqi (show _ = (bcE (bcD (bcC (bcB (bcA (iI ((n9 : Nat) : Int))))))) from rfl) ?_
  refine lv_istore_n (lv' := [(0, .int (bcE (bcD (bcC (bcB (bcA (iI ((n9 : Nat) : Int))))))))]) hx hb dJ6_bitCount_0f7a4_47 rfl hl (by decide) rfl (fun ls hl => ?_)
  refine lv_iload_n hx hb dJ6_bitCount_0f7a4_48 rfl (lv_at hl 0 rfl) ?_
  refine lv_bipush (v := 63) hx hb dJ6_bitCount_0f7a4_49 (by decide +kernel) ?_
  refine lv_iand hx hb dJ6_bitCount_0f7a4_51 ?_
  refine r_eqi (bc_16 n9 h1) ?_
  refine r_iret hx hb hlocks hP hD hS [] () rfl rfl (by decide) hr ?_ dJ6_bitCount_0f7a4_52
  exact rfl
set_option maxHeartbeats 4000000 in
set_option maxRecDepth 100000 in
theorem c_J13_bitCount_95d88 (l : Launch) (dC : Nat → ClassId) (dI : Nat → Nat → Nat) (cI cZ cS : ClassId) (sz : Nat) (st : Nat → Bool) : Met l yJ13_bitCount_95d88 wsJ13_bitCount_95d88 ({ frames := 0, cells := 0, slots := 0, locals := 0 }) (va_Pc [.long (lS (st))] (preW (dC, dI) (tyL cI cZ cS) [] sz)) (va_Qi (fun (r : Int32) (u : Unit) => r = (iI (((cntB st 64 : Nat) : Int)))) (fun (u : Unit) t => va_P (dC, dI) vwCl [] t.heap ∧ va_D (va_A [] sz) []) (va_A [] sz)) 0 0 (va_A [] sz) := by
  refine Met.ofW (cc := cJ13_bitCount_95d88) (maxL := 2) (ret := (some .int)) (by decide) rfl ?_
  intro p e s m args below meth c s₁ B hml hv
  obtain ⟨rfl, hsz, hP, hK, hD0, hN⟩ := hv
  have hx := B.exec
  have hb := B.bytes
  have hr := B.returns
  have hts := atoms_spec (ws := wsJ13_bitCount_95d88) B.pre
  have hown : s.vm.findClass RJ13 = some m.cls := findClass_of_methodNamed B.named
  have hlocks := B.notSynchronized
  subst hsz
  have hD := hD0.self (sz := s.heap.size)
  generalize hAe : va_A [] s.heap.size = A at hD ⊢
  have hA : ∀ q : Nat, s.heap.size ≤ q → A q := fun q h => by rw [← hAe]; exact Or.inr h
  have hS : va_S A s.heap s.heap [] := va_S.rf
  have hP : va_P (dC, dI) vwCl [] s.heap := hP
  have hC0 : CallFix p m c cJ13_bitCount_95d88 2 s [.long (lS (st))].toArray wsJ13_bitCount_95d88 RJ13 := ⟨hx, hb, hml, hown, hts⟩
  have hl := lv_entry [.long (lS (st))] (n := 2) (Nat.le_of_ble_eq_true rfl)
  rw [lg_entry_eq]
  generalize (lg_sl [.long (lS (st))] ++ List.replicate (2 - (lg_sl [.long (lS (st))]).length) Slot.unset).toArray = ls at hl ⊢
  have hl : lv_has ls 2 [(0, .long (lS (st)))] := hl
  obtain ⟨n0, hn0⟩ : ∃ n : Nat, n = dgS 1 (bN st) 64 := ⟨_, rfl⟩
  have e0 : lS st = LN n0 := by rw [hn0, ← nS_dg st 64 (Nat.le_refl _)]; rfl
  rw [e0] at hl
  obtain ⟨x2, x3, x4, x5, x6, e2, e3, e4, e5, e6, e7, l6⟩ := swar st
  have hs1 := (s1_eq st).2
  rw [← hn0] at e2 hs1
  have l0 : n0 < 2 ^ 64 := by rw [hn0]; exact dgS_lt (w := 1) (fun j => by have := bN_1 st j; omega) 64
  obtain ⟨x1, e1⟩ : ∃ x : Nat, x = s1 n0 := ⟨_, rfl⟩
  rw [← e1] at e2
  have l1 : x1 < 2 ^ 64 := by rw [e1]; exact Nat.lt_of_le_of_lt (Nat.sub_le _ _) l0
  have l2 : x2 < 2 ^ 64 := by rw [← e2]; exact Nat.lt_of_le_of_lt (Nat.add_le_add Nat.and_le_right Nat.and_le_right) (by decide +kernel)
  have l5 : x5 < 2 ^ 64 := Nat.lt_of_le_of_lt (by rw [← e6]; exact Nat.le_add_right _ _) l6
  have l4 : x4 < 2 ^ 64 := Nat.lt_of_le_of_lt (by rw [← e5]; exact Nat.le_add_right _ _) l5
  have l3 : x3 < 2 ^ 64 := Nat.lt_of_le_of_lt (by rw [← e4]; exact Nat.le_add_right _ _) l4
  refine lv_lload_n hx hb dJ13_bitCount_95d88_0 rfl (lv_at hl 0 rfl) ?_
  refine lv_lload_n hx hb dJ13_bitCount_95d88_1 rfl (lv_at hl 0 rfl) ?_
  refine lv_iconst (v := 1) hx hb dJ13_bitCount_95d88_2 rfl ?_
  refine lv_lushr hx hb dJ13_bitCount_95d88_3 (LN_shr (k := 1) l0 (by decide +kernel)) ?_
  refine lv_ldc2 (v := 6148914691236517205) hx hb hown (hts (.constantLong RJ13 314 (6148914691236517205)) (List.mem_of_getElem? (i := 1) rfl)) dJ13_bitCount_95d88_4 ?_
  refine r_eql (show (6148914691236517205 : Int64) = LN m1B from by decide +kernel) ?_
  refine lv_land hx hb dJ13_bitCount_95d88_7 ?_
  refine r_eql (LN_and _ _) ?_
  refine lv_lsub hx hb dJ13_bitCount_95d88_8 ?_
  refine r_eql (LN_sub hs1) ?_
  refine r_eql (congrArg LN (e1.symm)) ?_
  refine lv_lstore_n (lv' := [(0, .long (LN x1))]) hx hb dJ13_bitCount_95d88_9 rfl hl (by decide) rfl (fun ls hl => ?_)
  refine lv_lload_n hx hb dJ13_bitCount_95d88_10 rfl (lv_at hl 0 rfl) ?_
  refine lv_ldc2 (v := 3689348814741910323) hx hb hown (hts (.constantLong RJ13 316 (3689348814741910323)) (List.mem_of_getElem? (i := 2) rfl)) dJ13_bitCount_95d88_11 ?_
  refine r_eql (show (3689348814741910323 : Int64) = LN m2B from by decide +kernel) ?_
  refine lv_land hx hb dJ13_bitCount_95d88_14 ?_
  refine r_eql (LN_and _ _) ?_
  refine lv_lload_n hx hb dJ13_bitCount_95d88_15 rfl (lv_at hl 0 rfl) ?_
  refine lv_iconst (v := 2) hx hb dJ13_bitCount_95d88_16 rfl ?_
  refine lv_lushr hx hb dJ13_bitCount_95d88_17 (LN_shr (k := 2) l1 (by decide +kernel)) ?_
  refine lv_ldc2 (v := 3689348814741910323) hx hb hown (hts (.constantLong RJ13 316 (3689348814741910323)) (List.mem_of_getElem? (i := 2) rfl)) dJ13_bitCount_95d88_18 ?_
  refine r_eql (show (3689348814741910323 : Int64) = LN m2B from by decide +kernel) ?_
  refine lv_land hx hb dJ13_bitCount_95d88_21 ?_
  refine r_eql (LN_and _ _) ?_
  refine lv_ladd hx hb dJ13_bitCount_95d88_22 ?_
  refine r_eql (LN_add _ _) ?_
  refine r_eql (congrArg LN (e2)) ?_
  refine lv_lstore_n (lv' := [(0, .long (LN x2))]) hx hb dJ13_bitCount_95d88_23 rfl hl (by decide) rfl (fun ls hl => ?_)
  refine lv_lload_n hx hb dJ13_bitCount_95d88_24 rfl (lv_at hl 0 rfl) ?_
  refine lv_lload_n hx hb dJ13_bitCount_95d88_25 rfl (lv_at hl 0 rfl) ?_
  refine lv_iconst (v := 4) hx hb dJ13_bitCount_95d88_26 rfl ?_
  refine lv_lushr hx hb dJ13_bitCount_95d88_27 (LN_shr (k := 4) l2 (by decide +kernel)) ?_
  refine lv_ladd hx hb dJ13_bitCount_95d88_28 ?_
  refine r_eql (LN_add _ _) ?_
  refine lv_ldc2 (v := 1085102592571150095) hx hb hown (hts (.constantLong RJ13 318 (1085102592571150095)) (List.mem_of_getElem? (i := 3) rfl)) dJ13_bitCount_95d88_29 ?_
  refine r_eql (show (1085102592571150095 : Int64) = LN m4B from by decide +kernel) ?_
  refine lv_land hx hb dJ13_bitCount_95d88_32 ?_
  refine r_eql (LN_and _ _) ?_
  refine r_eql (congrArg LN (e3)) ?_
  refine lv_lstore_n (lv' := [(0, .long (LN x3))]) hx hb dJ13_bitCount_95d88_33 rfl hl (by decide) rfl (fun ls hl => ?_)
  refine lv_lload_n hx hb dJ13_bitCount_95d88_34 rfl (lv_at hl 0 rfl) ?_
  refine lv_lload_n hx hb dJ13_bitCount_95d88_35 rfl (lv_at hl 0 rfl) ?_
  refine lv_bipush (v := 8) hx hb dJ13_bitCount_95d88_36 (by decide +kernel) ?_
  refine lv_lushr hx hb dJ13_bitCount_95d88_38 (LN_shr (k := 8) l3 (by decide +kernel)) ?_
  refine lv_ladd hx hb dJ13_bitCount_95d88_39 ?_
  refine r_eql (LN_add _ _) ?_
  refine r_eql (congrArg LN (e4)) ?_
  refine lv_lstore_n (lv' := [(0, .long (LN x4))]) hx hb dJ13_bitCount_95d88_40 rfl hl (by decide) rfl (fun ls hl => ?_)
  refine lv_lload_n hx hb dJ13_bitCount_95d88_41 rfl (lv_at hl 0 rfl) ?_
  refine lv_lload_n hx hb dJ13_bitCount_95d88_42 rfl (lv_at hl 0 rfl) ?_
  refine lv_bipush (v := 16) hx hb dJ13_bitCount_95d88_43 (by decide +kernel) ?_
  refine lv_lushr hx hb dJ13_bitCount_95d88_45 (LN_shr (k := 16) l4 (by decide +kernel)) ?_
  refine lv_ladd hx hb dJ13_bitCount_95d88_46 ?_
  refine r_eql (LN_add _ _) ?_
  refine r_eql (congrArg LN (e5)) ?_
  refine lv_lstore_n (lv' := [(0, .long (LN x5))]) hx hb dJ13_bitCount_95d88_47 rfl hl (by decide) rfl (fun ls hl => ?_)
  refine lv_lload_n hx hb dJ13_bitCount_95d88_48 rfl (lv_at hl 0 rfl) ?_
  refine lv_lload_n hx hb dJ13_bitCount_95d88_49 rfl (lv_at hl 0 rfl) ?_
  refine lv_bipush (v := 32) hx hb dJ13_bitCount_95d88_50 (by decide +kernel) ?_
  refine lv_lushr hx hb dJ13_bitCount_95d88_52 (LN_shr (k := 32) l5 (by decide +kernel)) ?_
  refine lv_ladd hx hb dJ13_bitCount_95d88_53 ?_
  refine r_eql (LN_add _ _) ?_
  refine r_eql (congrArg LN (e6)) ?_
  refine lv_lstore_n (lv' := [(0, .long (LN x6))]) hx hb dJ13_bitCount_95d88_54 rfl hl (by decide) rfl (fun ls hl => ?_)
  refine lv_lload_n hx hb dJ13_bitCount_95d88_55 rfl (lv_at hl 0 rfl) ?_
  refine lv_l2i hx hb dJ13_bitCount_95d88_56 rfl ?_
  refine lv_bipush (v := 127) hx hb dJ13_bitCount_95d88_57 (by decide +kernel) ?_
  refine lv_iand hx hb dJ13_bitCount_95d88_59 ?_
  refine r_eqi ((LN_low x6).trans (congrArg (fun k : Nat => iI ((k : Nat) : Int)) e7)) ?_
  refine r_iret hx hb hlocks hP hD hS [] () rfl rfl (by decide) hr ?_ dJ13_bitCount_95d88_60
  exact rfl
