set_option maxHeartbeats 4000000 in
set_option maxRecDepth 100000 in
theorem c_X1_isNothing (l : Launch) (dC : Nat → ClassId) (dI : Nat → Nat → Nat) (cI cZ cS : ClassId) (sz : Nat) (hS0 : Nat) (aN : Nat) (lane : Int) (len : Nat) (num : Nat → Int) (hla : -1 ≤ lane ∧ lane ≤ 2) (hle : len ≤ 60) : Met l yX1_isNothing wsX1_isNothing ({ frames := 0, cells := 0, slots := 0, locals := 0 }) (va_Pc [.ref hS0] (preW (dC, dI) (tyL cI cZ cS) [(hS0, .inr (1, [.ref aN, .int (iI (lane)), .int (iI (((len : Nat) : Int)))])), (aN, .inl (cI, 60, .inl (zF (num))))] sz)) (va_Qi (fun (r : Int32) (u : Unit) => r = (iI (bz (decide (lane = -1))))) (fun (u : Unit) t => va_P (dC, dI) vwCl [(hS0, .inr (1, [.ref aN, .int (iI (lane)), .int (iI (((len : Nat) : Int)))])), (aN, .inl (cI, 60, .inl (zF (num))))] t.heap ∧ va_D (va_A [(hS0, .inr (1, [.ref aN, .int (iI (lane)), .int (iI (((len : Nat) : Int)))])), (aN, .inl (cI, 60, .inl (zF (num))))] sz) [(hS0, .inr (1, [.ref aN, .int (iI (lane)), .int (iI (((len : Nat) : Int)))])), (aN, .inl (cI, 60, .inl (zF (num))))]) (va_A [(hS0, .inr (1, [.ref aN, .int (iI (lane)), .int (iI (((len : Nat) : Int)))])), (aN, .inl (cI, 60, .inl (zF (num))))] sz)) 0 0 (va_A [(hS0, .inr (1, [.ref aN, .int (iI (lane)), .int (iI (((len : Nat) : Int)))])), (aN, .inl (cI, 60, .inl (zF (num))))] sz) := by
  refine Met.ofW (cc := cX1_isNothing) (maxL := 1) (ret := (some .boolean)) (by decide) rfl ?_
  intro p e s m args below meth c s₁ B hml hv
  obtain ⟨rfl, hsz, hP, hK, hD0, hN⟩ := hv
  have hx := B.exec
  have hb := B.bytes
  have hr := B.returns
  have hts := atoms_spec (ws := wsX1_isNothing) B.pre
  have hown : s.vm.findClass RX1 = some m.cls := findClass_of_methodNamed B.named
  have hlocks := B.notSynchronized
  subst hsz
  have hD := hD0.self (sz := s.heap.size)
  generalize hAe : va_A [(hS0, .inr (1, [.ref aN, .int (iI (lane)), .int (iI (((len : Nat) : Int)))])), (aN, .inl (cI, 60, .inl (zF (num))))] s.heap.size = A at hD ⊢
  have hA : ∀ q : Nat, s.heap.size ≤ q → A q := fun q h => by rw [← hAe]; exact Or.inr h
  have hS : va_S A s.heap s.heap [] := va_S.rf
  have hP : va_P (dC, dI) vwCl [(hS0, .inr (1, [.ref aN, .int (iI (lane)), .int (iI (((len : Nat) : Int)))])), (aN, .inl (cI, 60, .inl (zF (num))))] s.heap := hP
  have hC0 : CallFix p m c cX1_isNothing 1 s [.ref hS0].toArray wsX1_isNothing RX1 := ⟨hx, hb, hml, hown, hts⟩
  have hl := lv_entry [.ref hS0] (n := 1) (Nat.le_of_ble_eq_true rfl)
  rw [lg_entry_eq]
  generalize (lg_sl [.ref hS0] ++ List.replicate (1 - (lg_sl [.ref hS0]).length) Slot.unset).toArray = ls at hl ⊢
  have hl : lv_has ls 1 [(0, .ref hS0)] := hl
  refine lv_aload_n hx hb dX1_isNothing_0 rfl (lv_at hl 0 rfl) ?_
  refine va_get (D := (dC, dI)) (ci := 1) (v := .int (iI (lane))) (C := RX1) (T := TX1) (N := 3) hx hb hts (fun _ h9 => List.mem_cons_of_mem _ (List.mem_append_right _ h9)) hown hK hP 0 rfl rfl 1 (by decide) (hts (.fieldLink RX1 15 "ClayFort$Sheet" "lane" "I") (List.mem_of_getElem? (i := 1) rfl)) (fun _ h9 => h9) rfl dX1_isNothing_1 ?_
  refine lv_iconst (v := (iI ((-1)))) hx hb dX1_isNothing_4 rfl ?_
  refine r_icmp_ne (tgt := 12) hx hb dX1_isNothing_5 (by decide) ⟨by omega, by omega⟩ ⟨by omega, by omega⟩ (fun c_5 => ?_) (fun c_5 => ?_)
  · refine lv_iconst (v := (iI (((0 : Nat) : Int)))) hx hb dX1_isNothing_12 rfl ?_
    refine r_zret hx hb hlocks hP hD hS [0, 1] () rfl rfl (by decide) hr nar_0 ?_ dX1_isNothing_13
    first | exact bd_t (by omega) | exact bd_f (by omega)
  · refine lv_iconst (v := (iI (((1 : Nat) : Int)))) hx hb dX1_isNothing_8 rfl ?_
    refine lv_goto (tgt := 13) hx hb dX1_isNothing_9 (by decide) ?_
    refine r_zret hx hb hlocks hP hD hS [0, 1] () rfl rfl (by decide) hr nar_1 ?_ dX1_isNothing_13
    first | exact bd_t (by omega) | exact bd_f (by omega)
set_option maxHeartbeats 4000000 in
set_option maxRecDepth 100000 in
theorem c_X1_isOfOther (l : Launch) (dC : Nat → ClassId) (dI : Nat → Nat → Nat) (cI cZ cS : ClassId) (sz : Nat) (hS0 : Nat) (aN : Nat) (lane : Int) (len : Nat) (num : Nat → Int) (asked : Int) (hla : -1 ≤ lane ∧ lane ≤ 2) (hle : len ≤ 60) (h1 : InR asked) : Met l yX1_isOfOther wsX1_isOfOther ({ frames := 0, cells := 0, slots := 0, locals := 0 }) (va_Pc [.ref hS0, .int (iI (asked))] (preW (dC, dI) (tyL cI cZ cS) [(hS0, .inr (1, [.ref aN, .int (iI (lane)), .int (iI (((len : Nat) : Int)))])), (aN, .inl (cI, 60, .inl (zF (num))))] sz)) (va_Qi (fun (r : Int32) (u : Unit) => r = (iI (bz (decide (lane ≠ -1 ∧ lane ≠ asked))))) (fun (u : Unit) t => va_P (dC, dI) vwCl [(hS0, .inr (1, [.ref aN, .int (iI (lane)), .int (iI (((len : Nat) : Int)))])), (aN, .inl (cI, 60, .inl (zF (num))))] t.heap ∧ va_D (va_A [(hS0, .inr (1, [.ref aN, .int (iI (lane)), .int (iI (((len : Nat) : Int)))])), (aN, .inl (cI, 60, .inl (zF (num))))] sz) [(hS0, .inr (1, [.ref aN, .int (iI (lane)), .int (iI (((len : Nat) : Int)))])), (aN, .inl (cI, 60, .inl (zF (num))))]) (va_A [(hS0, .inr (1, [.ref aN, .int (iI (lane)), .int (iI (((len : Nat) : Int)))])), (aN, .inl (cI, 60, .inl (zF (num))))] sz)) 0 0 (va_A [(hS0, .inr (1, [.ref aN, .int (iI (lane)), .int (iI (((len : Nat) : Int)))])), (aN, .inl (cI, 60, .inl (zF (num))))] sz) := by
  refine Met.ofW (cc := cX1_isOfOther) (maxL := 2) (ret := (some .boolean)) (by decide) rfl ?_
  intro p e s m args below meth c s₁ B hml hv
  obtain ⟨rfl, hsz, hP, hK, hD0, hN⟩ := hv
  have hx := B.exec
  have hb := B.bytes
  have hr := B.returns
  have hts := atoms_spec (ws := wsX1_isOfOther) B.pre
  have hown : s.vm.findClass RX1 = some m.cls := findClass_of_methodNamed B.named
  have hlocks := B.notSynchronized
  subst hsz
  have hD := hD0.self (sz := s.heap.size)
  generalize hAe : va_A [(hS0, .inr (1, [.ref aN, .int (iI (lane)), .int (iI (((len : Nat) : Int)))])), (aN, .inl (cI, 60, .inl (zF (num))))] s.heap.size = A at hD ⊢
  have hA : ∀ q : Nat, s.heap.size ≤ q → A q := fun q h => by rw [← hAe]; exact Or.inr h
  have hS : va_S A s.heap s.heap [] := va_S.rf
  have hP : va_P (dC, dI) vwCl [(hS0, .inr (1, [.ref aN, .int (iI (lane)), .int (iI (((len : Nat) : Int)))])), (aN, .inl (cI, 60, .inl (zF (num))))] s.heap := hP
  have hC0 : CallFix p m c cX1_isOfOther 2 s [.ref hS0, .int (iI (asked))].toArray wsX1_isOfOther RX1 := ⟨hx, hb, hml, hown, hts⟩
  have hl := lv_entry [.ref hS0, .int (iI (asked))] (n := 2) (Nat.le_of_ble_eq_true rfl)
  rw [lg_entry_eq]
  generalize (lg_sl [.ref hS0, .int (iI (asked))] ++ List.replicate (2 - (lg_sl [.ref hS0, .int (iI (asked))]).length) Slot.unset).toArray = ls at hl ⊢
  have hl : lv_has ls 2 [(0, .ref hS0), (1, .int (iI (asked)))] := hl
  refine lv_aload_n hx hb dX1_isOfOther_0 rfl (lv_at hl 0 rfl) ?_
  refine va_get (D := (dC, dI)) (ci := 1) (v := .int (iI (lane))) (C := RX1) (T := TX1) (N := 3) hx hb hts (fun _ h9 => List.mem_cons_of_mem _ (List.mem_append_right _ h9)) hown hK hP 0 rfl rfl 1 (by decide) (hts (.fieldLink RX1 15 "ClayFort$Sheet" "lane" "I") (List.mem_of_getElem? (i := 1) rfl)) (fun _ h9 => h9) rfl dX1_isOfOther_1 ?_
  refine lv_iconst (v := (iI ((-1)))) hx hb dX1_isOfOther_4 rfl ?_
  refine r_icmp_eq (tgt := 20) hx hb dX1_isOfOther_5 (by decide) ⟨by omega, by omega⟩ ⟨by omega, by omega⟩ (fun c_5 => ?_) (fun c_5 => ?_)
  · refine lv_iconst (v := (iI (((0 : Nat) : Int)))) hx hb dX1_isOfOther_20 rfl ?_
    refine r_zret hx hb hlocks hP hD hS [0, 1] () rfl rfl (by decide) hr nar_0 ?_ dX1_isOfOther_21
    first | exact bd_t ⟨by omega, by omega⟩ | exact bd_f (by omega)
  · refine lv_aload_n hx hb dX1_isOfOther_8 rfl (lv_at hl 0 rfl) ?_
    refine va_get (D := (dC, dI)) (ci := 1) (v := .int (iI (lane))) (C := RX1) (T := TX1) (N := 3) hx hb hts (fun _ h9 => List.mem_cons_of_mem _ (List.mem_append_right _ h9)) hown hK hP 0 rfl rfl 1 (by decide) (hts (.fieldLink RX1 15 "ClayFort$Sheet" "lane" "I") (List.mem_of_getElem? (i := 1) rfl)) (fun _ h9 => h9) rfl dX1_isOfOther_9 ?_
    refine lv_iload_n hx hb dX1_isOfOther_12 rfl (lv_at hl 1 rfl) ?_
    refine r_icmp_eq (tgt := 20) hx hb dX1_isOfOther_13 (by decide) ⟨by omega, by omega⟩ ⟨by omega, by omega⟩ (fun c_13 => ?_) (fun c_13 => ?_)
    · refine lv_iconst (v := (iI (((0 : Nat) : Int)))) hx hb dX1_isOfOther_20 rfl ?_
      refine r_zret hx hb hlocks hP hD hS [0, 1] () rfl rfl (by decide) hr nar_0 ?_ dX1_isOfOther_21
      first | exact bd_t ⟨by omega, by omega⟩ | exact bd_f (by omega)
    · refine lv_iconst (v := (iI (((1 : Nat) : Int)))) hx hb dX1_isOfOther_16 rfl ?_
      refine lv_goto (tgt := 21) hx hb dX1_isOfOther_17 (by decide) ?_
      refine r_zret hx hb hlocks hP hD hS [0, 1] () rfl rfl (by decide) hr nar_1 ?_ dX1_isOfOther_21
      first | exact bd_t ⟨by omega, by omega⟩ | exact bd_f (by omega)
set_option maxHeartbeats 4000000 in
set_option maxRecDepth 100000 in
theorem c_X1_holds (l : Launch) (dC : Nat → ClassId) (dI : Nat → Nat → Nat) (cI cZ cS : ClassId) (sz : Nat) (hS0 : Nat) (aN : Nat) (lane : Int) (len : Nat) (num : Nat → Int) (i : Int) (n1 : Int) (hla : -1 ≤ lane ∧ lane ≤ 2) (hle : len ≤ 60) (h1 : InR i) (h2 : InR n1) : Met l yX1_holds wsX1_holds ({ frames := 0, cells := 0, slots := 0, locals := 0 }) (va_Pc [.ref hS0, .int (iI (i)), .int (iI (n1))] (preW (dC, dI) (tyL cI cZ cS) [(hS0, .inr (1, [.ref aN, .int (iI (lane)), .int (iI (((len : Nat) : Int)))])), (aN, .inl (cI, 60, .inl (zF (num))))] sz)) (va_Qi (fun (r : Int32) (u : Unit) => r = (iI (bz (decide (0 ≤ i ∧ 0 ≤ n1 ∧ i ≤ (len : Int) ∧ n1 ≤ (len : Int) - i))))) (fun (u : Unit) t => va_P (dC, dI) vwCl [(hS0, .inr (1, [.ref aN, .int (iI (lane)), .int (iI (((len : Nat) : Int)))])), (aN, .inl (cI, 60, .inl (zF (num))))] t.heap ∧ va_D (va_A [(hS0, .inr (1, [.ref aN, .int (iI (lane)), .int (iI (((len : Nat) : Int)))])), (aN, .inl (cI, 60, .inl (zF (num))))] sz) [(hS0, .inr (1, [.ref aN, .int (iI (lane)), .int (iI (((len : Nat) : Int)))])), (aN, .inl (cI, 60, .inl (zF (num))))]) (va_A [(hS0, .inr (1, [.ref aN, .int (iI (lane)), .int (iI (((len : Nat) : Int)))])), (aN, .inl (cI, 60, .inl (zF (num))))] sz)) 0 0 (va_A [(hS0, .inr (1, [.ref aN, .int (iI (lane)), .int (iI (((len : Nat) : Int)))])), (aN, .inl (cI, 60, .inl (zF (num))))] sz) := by
  refine Met.ofW (cc := cX1_holds) (maxL := 3) (ret := (some .boolean)) (by decide) rfl ?_
  intro p e s m args below meth c s₁ B hml hv
  obtain ⟨rfl, hsz, hP, hK, hD0, hN⟩ := hv
  have hx := B.exec
  have hb := B.bytes
  have hr := B.returns
  have hts := atoms_spec (ws := wsX1_holds) B.pre
  have hown : s.vm.findClass RX1 = some m.cls := findClass_of_methodNamed B.named
  have hlocks := B.notSynchronized
  subst hsz
  have hD := hD0.self (sz := s.heap.size)
  generalize hAe : va_A [(hS0, .inr (1, [.ref aN, .int (iI (lane)), .int (iI (((len : Nat) : Int)))])), (aN, .inl (cI, 60, .inl (zF (num))))] s.heap.size = A at hD ⊢
  have hA : ∀ q : Nat, s.heap.size ≤ q → A q := fun q h => by rw [← hAe]; exact Or.inr h
  have hS : va_S A s.heap s.heap [] := va_S.rf
  have hP : va_P (dC, dI) vwCl [(hS0, .inr (1, [.ref aN, .int (iI (lane)), .int (iI (((len : Nat) : Int)))])), (aN, .inl (cI, 60, .inl (zF (num))))] s.heap := hP
  have hC0 : CallFix p m c cX1_holds 3 s [.ref hS0, .int (iI (i)), .int (iI (n1))].toArray wsX1_holds RX1 := ⟨hx, hb, hml, hown, hts⟩
  have hl := lv_entry [.ref hS0, .int (iI (i)), .int (iI (n1))] (n := 3) (Nat.le_of_ble_eq_true rfl)
  rw [lg_entry_eq]
  generalize (lg_sl [.ref hS0, .int (iI (i)), .int (iI (n1))] ++ List.replicate (3 - (lg_sl [.ref hS0, .int (iI (i)), .int (iI (n1))]).length) Slot.unset).toArray = ls at hl ⊢
  have hl : lv_has ls 3 [(0, .ref hS0), (1, .int (iI (i))), (2, .int (iI (n1)))] := hl
  refine lv_iload_n hx hb dX1_holds_0 rfl (lv_at hl 1 rfl) ?_
  refine r_if_lt (tgt := 30) hx hb dX1_holds_1 (by decide) ⟨by omega, by omega⟩ (fun c_1 => ?_) (fun c_1 => ?_)
  · refine lv_iconst (v := (iI (((0 : Nat) : Int)))) hx hb dX1_holds_30 rfl ?_
    refine r_zret hx hb hlocks hP hD hS [0, 1] () rfl rfl (by decide) hr nar_0 ?_ dX1_holds_31
    first | exact bd_t ⟨by omega, by omega, by omega, by omega⟩ | exact bd_f (by omega)
  · refine lv_iload_n hx hb dX1_holds_4 rfl (lv_at hl 2 rfl) ?_
    refine r_if_lt (tgt := 30) hx hb dX1_holds_5 (by decide) ⟨by omega, by omega⟩ (fun c_5 => ?_) (fun c_5 => ?_)
    · refine lv_iconst (v := (iI (((0 : Nat) : Int)))) hx hb dX1_holds_30 rfl ?_
      refine r_zret hx hb hlocks hP hD hS [0, 1] () rfl rfl (by decide) hr nar_0 ?_ dX1_holds_31
      first | exact bd_t ⟨by omega, by omega, by omega, by omega⟩ | exact bd_f (by omega)
    · refine lv_iload_n hx hb dX1_holds_8 rfl (lv_at hl 1 rfl) ?_
      refine lv_aload_n hx hb dX1_holds_9 rfl (lv_at hl 0 rfl) ?_
      refine va_get (D := (dC, dI)) (ci := 1) (v := .int (iI (((len : Nat) : Int)))) (C := RX1) (T := TX1) (N := 3) hx hb hts (fun _ h9 => List.mem_cons_of_mem _ (List.mem_append_right _ h9)) hown hK hP 0 rfl rfl 2 (by decide) (hts (.fieldLink RX1 19 "ClayFort$Sheet" "length" "I") (List.mem_of_getElem? (i := 1) rfl)) (fun _ h9 => h9) rfl dX1_holds_10 ?_
      refine r_icmp_gt (tgt := 30) hx hb dX1_holds_13 (by decide) ⟨by omega, by omega⟩ ⟨by omega, by omega⟩ (fun c_13 => ?_) (fun c_13 => ?_)
      · refine lv_iconst (v := (iI (((0 : Nat) : Int)))) hx hb dX1_holds_30 rfl ?_
        refine r_zret hx hb hlocks hP hD hS [0, 1] () rfl rfl (by decide) hr nar_0 ?_ dX1_holds_31
        first | exact bd_t ⟨by omega, by omega, by omega, by omega⟩ | exact bd_f (by omega)
      · refine lv_iload_n hx hb dX1_holds_16 rfl (lv_at hl 2 rfl) ?_
        refine lv_aload_n hx hb dX1_holds_17 rfl (lv_at hl 0 rfl) ?_
        refine va_get (D := (dC, dI)) (ci := 1) (v := .int (iI (((len : Nat) : Int)))) (C := RX1) (T := TX1) (N := 3) hx hb hts (fun _ h9 => List.mem_cons_of_mem _ (List.mem_append_right _ h9)) hown hK hP 0 rfl rfl 2 (by decide) (hts (.fieldLink RX1 19 "ClayFort$Sheet" "length" "I") (List.mem_of_getElem? (i := 1) rfl)) (fun _ h9 => h9) rfl dX1_holds_18 ?_
        refine lv_iload_n hx hb dX1_holds_21 rfl (lv_at hl 1 rfl) ?_
        refine r_isub (z := (((len : Nat) : Int)) - i) hx hb dX1_holds_22 (rfl) ?_
        refine r_icmp_gt (tgt := 30) hx hb dX1_holds_23 (by decide) ⟨by omega, by omega⟩ ⟨by omega, by omega⟩ (fun c_23 => ?_) (fun c_23 => ?_)
        · refine lv_iconst (v := (iI (((0 : Nat) : Int)))) hx hb dX1_holds_30 rfl ?_
          refine r_zret hx hb hlocks hP hD hS [0, 1] () rfl rfl (by decide) hr nar_0 ?_ dX1_holds_31
          first | exact bd_t ⟨by omega, by omega, by omega, by omega⟩ | exact bd_f (by omega)
        · refine lv_iconst (v := (iI (((1 : Nat) : Int)))) hx hb dX1_holds_26 rfl ?_
          refine lv_goto (tgt := 31) hx hb dX1_holds_27 (by decide) ?_
          refine r_zret hx hb hlocks hP hD hS [0, 1] () rfl rfl (by decide) hr nar_1 ?_ dX1_holds_31
          first | exact bd_t ⟨by omega, by omega, by omega, by omega⟩ | exact bd_f (by omega)
set_option maxHeartbeats 4000000 in
set_option maxRecDepth 100000 in
theorem c_X1_empty (l : Launch) (dC : Nat → ClassId) (dI : Nat → Nat → Nat) (cI cZ cS : ClassId) (sz : Nat) (hS0 : Nat) (aN : Nat) (lane : Int) (len : Nat) (num : Nat → Int) (hla : -1 ≤ lane ∧ lane ≤ 2) (hle : len ≤ 60) : Met l yX1_empty wsX1_empty ({ frames := 0, cells := 0, slots := 0, locals := 0 }) (va_Pc [.ref hS0] (preW (dC, dI) (tyL cI cZ cS) [(hS0, .inr (1, [.ref aN, .int (iI (lane)), .int (iI (((len : Nat) : Int)))])), (aN, .inl (cI, 60, .inl (zF (num))))] sz)) (va_Qv (fun (u : Unit) => True) (fun (u : Unit) t => va_P (dC, dI) vwCl [(hS0, .inr (1, [.ref aN, .int (iI ((-1))), .int (iI (((0 : Nat) : Int)))])), (aN, .inl (cI, 60, .inl (zF (num))))] t.heap ∧ va_D (va_A [(hS0, .inr (1, [.ref aN, .int (iI (lane)), .int (iI (((len : Nat) : Int)))])), (aN, .inl (cI, 60, .inl (zF (num))))] sz) [(hS0, .inr (1, [.ref aN, .int (iI ((-1))), .int (iI (((0 : Nat) : Int)))])), (aN, .inl (cI, 60, .inl (zF (num))))]) (va_A [(hS0, .inr (1, [.ref aN, .int (iI (lane)), .int (iI (((len : Nat) : Int)))])), (aN, .inl (cI, 60, .inl (zF (num))))] sz)) 0 0 (va_A [(hS0, .inr (1, [.ref aN, .int (iI (lane)), .int (iI (((len : Nat) : Int)))])), (aN, .inl (cI, 60, .inl (zF (num))))] sz) := by
  refine Met.ofW (cc := cX1_empty) (maxL := 1) (ret := none) (by decide) rfl ?_
  intro p e s m args below meth c s₁ B hml hv
  obtain ⟨rfl, hsz, hP, hK, hD0, hN⟩ := hv
  have hx := B.exec
  have hb := B.bytes
  have hr := B.returns
  have hts := atoms_spec (ws := wsX1_empty) B.pre
  have hown : s.vm.findClass RX1 = some m.cls := findClass_of_methodNamed B.named
  have hlocks := B.notSynchronized
  subst hsz
  have hD := hD0.self (sz := s.heap.size)
  generalize hAe : va_A [(hS0, .inr (1, [.ref aN, .int (iI (lane)), .int (iI (((len : Nat) : Int)))])), (aN, .inl (cI, 60, .inl (zF (num))))] s.heap.size = A at hD ⊢
  have hA : ∀ q : Nat, s.heap.size ≤ q → A q := fun q h => by rw [← hAe]; exact Or.inr h
  have hS : va_S A s.heap s.heap [] := va_S.rf
  have hP : va_P (dC, dI) vwCl [(hS0, .inr (1, [.ref aN, .int (iI (lane)), .int (iI (((len : Nat) : Int)))])), (aN, .inl (cI, 60, .inl (zF (num))))] s.heap := hP
  have hC0 : CallFix p m c cX1_empty 1 s [.ref hS0].toArray wsX1_empty RX1 := ⟨hx, hb, hml, hown, hts⟩
  have hl := lv_entry [.ref hS0] (n := 1) (Nat.le_of_ble_eq_true rfl)
  rw [lg_entry_eq]
  generalize (lg_sl [.ref hS0] ++ List.replicate (1 - (lg_sl [.ref hS0]).length) Slot.unset).toArray = ls at hl ⊢
  have hl : lv_has ls 1 [(0, .ref hS0)] := hl
  refine lv_aload_n hx hb dX1_empty_0 rfl (lv_at hl 0 rfl) ?_
  refine lv_iconst (v := (iI ((-1)))) hx hb dX1_empty_1 rfl ?_
  refine va_put (D := (dC, dI)) (ci := 1) (v := .int (iI ((-1)))) (ty := .int) (C := RX1) (T := TX1) (N := 3) hx hb hts (fun _ h9 => List.mem_cons_of_mem _ (List.mem_append_right _ h9)) tyX1 tyX1_ok nmX1 hown hK hP hD hS 0 rfl rfl 1 (by decide) (hts (.fieldLink RX1 15 "ClayFort$Sheet" "lane" "I") (List.mem_of_getElem? (i := 1) rfl)) (fun _ h9 => h9) rfl (by decide +kernel) rfl rfl (Nat.le_of_ble_eq_true rfl) dX1_empty_2 (fun H locs hP hD hS => ?_)
  have hP : va_P (dC, dI) vwCl [(hS0, .inr (1, [.ref aN, .int (iI ((-1))), .int (iI (((len : Nat) : Int)))])), (aN, .inl (cI, 60, .inl (zF (num))))] H := hP
  have hD : va_D A [(hS0, .inr (1, [.ref aN, .int (iI ((-1))), .int (iI (((len : Nat) : Int)))])), (aN, .inl (cI, 60, .inl (zF (num))))] := hD
  refine lv_aload_n hx hb dX1_empty_5 rfl (lv_at hl 0 rfl) ?_
  refine lv_iconst (v := (iI (((0 : Nat) : Int)))) hx hb dX1_empty_6 rfl ?_
  refine va_put (D := (dC, dI)) (ci := 1) (v := .int (iI (((0 : Nat) : Int)))) (ty := .int) (C := RX1) (T := TX1) (N := 3) hx hb hts (fun _ h9 => List.mem_cons_of_mem _ (List.mem_append_right _ h9)) tyX1 tyX1_ok nmX1 hown hK hP hD hS 0 rfl rfl 2 (by decide) (hts (.fieldLink RX1 19 "ClayFort$Sheet" "length" "I") (List.mem_of_getElem? (i := 2) rfl)) (fun _ h9 => h9) rfl (by decide +kernel) rfl rfl (Nat.le_of_ble_eq_true rfl) dX1_empty_7 (fun H locs hP hD hS => ?_)
  have hP : va_P (dC, dI) vwCl [(hS0, .inr (1, [.ref aN, .int (iI ((-1))), .int (iI (((0 : Nat) : Int)))])), (aN, .inl (cI, 60, .inl (zF (num))))] H := hP
  have hD : va_D A [(hS0, .inr (1, [.ref aN, .int (iI ((-1))), .int (iI (((0 : Nat) : Int)))])), (aN, .inl (cI, 60, .inl (zF (num))))] := hD
  refine r_vret hx hb hlocks hP hD hS [0, 1] () rfl rfl (by decide) hr ?_ dX1_empty_10
  exact trivial
set_option maxHeartbeats 4000000 in
set_option maxRecDepth 100000 in
theorem c_X1_cut (l : Launch) (dC : Nat → ClassId) (dI : Nat → Nat → Nat) (cI cZ cS : ClassId) (sz : Nat) (hS0 : Nat) (aN : Nat) (lane : Int) (len : Nat) (num : Nat → Int) (v : Int) (hla : -1 ≤ lane ∧ lane ≤ 2) (hle : len ≤ 60) (h1 : InR v) : Met l yX1_cut wsX1_cut ({ frames := 0, cells := 0, slots := 0, locals := 0 }) (va_Pc [.ref hS0, .int (iI (v))] (preW (dC, dI) (tyL cI cZ cS) [(hS0, .inr (1, [.ref aN, .int (iI (lane)), .int (iI (((len : Nat) : Int)))])), (aN, .inl (cI, 60, .inl (zF (num))))] sz)) (va_Qi (fun (r : Int32) (u : Unit) => r = (iI (cutL lane v))) (fun (u : Unit) t => va_P (dC, dI) vwCl [(hS0, .inr (1, [.ref aN, .int (iI (lane)), .int (iI (((len : Nat) : Int)))])), (aN, .inl (cI, 60, .inl (zF (num))))] t.heap ∧ va_D (va_A [(hS0, .inr (1, [.ref aN, .int (iI (lane)), .int (iI (((len : Nat) : Int)))])), (aN, .inl (cI, 60, .inl (zF (num))))] sz) [(hS0, .inr (1, [.ref aN, .int (iI (lane)), .int (iI (((len : Nat) : Int)))])), (aN, .inl (cI, 60, .inl (zF (num))))]) (va_A [(hS0, .inr (1, [.ref aN, .int (iI (lane)), .int (iI (((len : Nat) : Int)))])), (aN, .inl (cI, 60, .inl (zF (num))))] sz)) 0 0 (va_A [(hS0, .inr (1, [.ref aN, .int (iI (lane)), .int (iI (((len : Nat) : Int)))])), (aN, .inl (cI, 60, .inl (zF (num))))] sz) := by
  refine Met.ofW (cc := cX1_cut) (maxL := 2) (ret := (some .int)) (by decide) rfl ?_
  intro p e s m args below meth c s₁ B hml hv
  obtain ⟨rfl, hsz, hP, hK, hD0, hN⟩ := hv
  have hx := B.exec
  have hb := B.bytes
  have hr := B.returns
  have hts := atoms_spec (ws := wsX1_cut) B.pre
  have hown : s.vm.findClass RX1 = some m.cls := findClass_of_methodNamed B.named
  have hlocks := B.notSynchronized
  subst hsz
  have hD := hD0.self (sz := s.heap.size)
  generalize hAe : va_A [(hS0, .inr (1, [.ref aN, .int (iI (lane)), .int (iI (((len : Nat) : Int)))])), (aN, .inl (cI, 60, .inl (zF (num))))] s.heap.size = A at hD ⊢
  have hA : ∀ q : Nat, s.heap.size ≤ q → A q := fun q h => by rw [← hAe]; exact Or.inr h
  have hS : va_S A s.heap s.heap [] := va_S.rf
  have hP : va_P (dC, dI) vwCl [(hS0, .inr (1, [.ref aN, .int (iI (lane)), .int (iI (((len : Nat) : Int)))])), (aN, .inl (cI, 60, .inl (zF (num))))] s.heap := hP
  have hC0 : CallFix p m c cX1_cut 2 s [.ref hS0, .int (iI (v))].toArray wsX1_cut RX1 := ⟨hx, hb, hml, hown, hts⟩
  have hl := lv_entry [.ref hS0, .int (iI (v))] (n := 2) (Nat.le_of_ble_eq_true rfl)
  rw [lg_entry_eq]
  generalize (lg_sl [.ref hS0, .int (iI (v))] ++ List.replicate (2 - (lg_sl [.ref hS0, .int (iI (v))]).length) Slot.unset).toArray = ls at hl ⊢
  have hl : lv_has ls 2 [(0, .ref hS0), (1, .int (iI (v)))] := hl
  refine lv_aload_n hx hb dX1_cut_0 rfl (lv_at hl 0 rfl) ?_
  refine va_get (D := (dC, dI)) (ci := 1) (v := .int (iI (lane))) (C := RX1) (T := TX1) (N := 3) hx hb hts (fun _ h9 => List.mem_cons_of_mem _ (List.mem_append_right _ h9)) hown hK hP 0 rfl rfl 1 (by decide) (hts (.fieldLink RX1 15 "ClayFort$Sheet" "lane" "I") (List.mem_of_getElem? (i := 1) rfl)) (fun _ h9 => h9) rfl dX1_cut_1 ?_
  by_cases w_4_0 : lane = 0
  · refine r_lookup (tgt := 32) hx hb dX1_cut_4 rfl ⟨by omega, by omega⟩ (by first | (rw [w_4_0]; done) | (rw [w_4_0]; rfl)) (by decide) ?_
    refine lv_iload_n hx hb dX1_cut_32 rfl (lv_at hl 1 rfl) ?_
    refine lv_i2b (v := iI (cut8 (v))) hx hb dX1_cut_33 (cut8_eq _) ?_
    refine r_iret hx hb hlocks hP hD hS [0, 1] () rfl rfl (by decide) hr ?_ dX1_cut_34
    first | exact congrArg iI (cutL_0 (by assumption)).symm | exact congrArg iI (cutL_1 (by assumption)).symm | exact congrArg iI (cutL_2 (by assumption) (by assumption)).symm
  by_cases w_4_1 : lane = 1
  · refine r_lookup (tgt := 35) hx hb dX1_cut_4 rfl ⟨by omega, by omega⟩ (by first | (rw [w_4_1]; done) | (rw [w_4_1]; rfl)) (by decide) ?_
    refine lv_iload_n hx hb dX1_cut_35 rfl (lv_at hl 1 rfl) ?_
    refine lv_i2s (v := iI (cut16 (v))) hx hb dX1_cut_36 (cut16_eq _) ?_
    refine r_iret hx hb hlocks hP hD hS [0, 1] () rfl rfl (by decide) hr ?_ dX1_cut_37
    first | exact congrArg iI (cutL_0 (by assumption)).symm | exact congrArg iI (cutL_1 (by assumption)).symm | exact congrArg iI (cutL_2 (by assumption) (by assumption)).symm
  refine r_lookup (tgt := 38) (off := 34) hx hb dX1_cut_4 rfl ⟨by omega, by omega⟩ (by simp [Op.lookupswitch.offset]; omega) (by decide) ?_
  refine lv_iload_n hx hb dX1_cut_38 rfl (lv_at hl 1 rfl) ?_
  refine r_iret hx hb hlocks hP hD hS [0, 1] () rfl rfl (by decide) hr ?_ dX1_cut_39
  first | exact congrArg iI (cutL_0 (by assumption)).symm | exact congrArg iI (cutL_1 (by assumption)).symm | exact congrArg iI (cutL_2 (by assumption) (by assumption)).symm
set_option maxHeartbeats 4000000 in
set_option maxRecDepth 100000 in
theorem c_X2_kindOf (l : Launch) (dC : Nat → ClassId) (dI : Nat → Nat → Nat) (cI cZ cS : ClassId) (sz : Nat) (code : Int) (h1 : InR code) : Met l yX2_kindOf wsX2_kindOf ({ frames := 0, cells := 0, slots := 0, locals := 0 }) (va_Pc [.int (iI (code))] (preW (dC, dI) (tyL cI cZ cS) [] sz)) (va_Qi (fun (r : Int32) (u : Unit) => r = (iI (kindZ code))) (fun (u : Unit) t => va_P (dC, dI) vwCl [] t.heap ∧ va_D (va_A [] sz) []) (va_A [] sz)) 0 0 (va_A [] sz) := by
  refine Met.ofW (cc := cX2_kindOf) (maxL := 1) (ret := (some .int)) (by decide) rfl ?_
  intro p e s m args below meth c s₁ B hml hv
  obtain ⟨rfl, hsz, hP, hK, hD0, hN⟩ := hv
  have hx := B.exec
  have hb := B.bytes
  have hr := B.returns
  have hts := atoms_spec (ws := wsX2_kindOf) B.pre
  have hown : s.vm.findClass RX2 = some m.cls := findClass_of_methodNamed B.named
  have hlocks := B.notSynchronized
  subst hsz
  have hD := hD0.self (sz := s.heap.size)
  generalize hAe : va_A [] s.heap.size = A at hD ⊢
  have hA : ∀ q : Nat, s.heap.size ≤ q → A q := fun q h => by rw [← hAe]; exact Or.inr h
  have hS : va_S A s.heap s.heap [] := va_S.rf
  have hP : va_P (dC, dI) vwCl [] s.heap := hP
  have hC0 : CallFix p m c cX2_kindOf 1 s [.int (iI (code))].toArray wsX2_kindOf RX2 := ⟨hx, hb, hml, hown, hts⟩
  have hl := lv_entry [.int (iI (code))] (n := 1) (Nat.le_of_ble_eq_true rfl)
  rw [lg_entry_eq]
  generalize (lg_sl [.int (iI (code))] ++ List.replicate (1 - (lg_sl [.int (iI (code))]).length) Slot.unset).toArray = ls at hl ⊢
  have hl : lv_has ls 1 [(0, .int (iI (code)))] := hl
  refine lv_iload_n hx hb dX2_kindOf_0 rfl (lv_at hl 0 rfl) ?_
  by_cases w_1_103 : code = 103
  · refine r_lookup (tgt := 36) hx hb dX2_kindOf_1 rfl ⟨by omega, by omega⟩ (by first | (rw [w_1_103]; done) | (rw [w_1_103]; rfl)) (by decide) ?_
    refine lv_iconst (v := (iI (((0 : Nat) : Int)))) hx hb dX2_kindOf_36 rfl ?_
    refine r_iret hx hb hlocks hP hD hS [] () rfl rfl (by decide) hr ?_ dX2_kindOf_37
    first | exact congrArg iI (kindZ_1 (by assumption)).symm | exact congrArg iI (kindZ_2 (by assumption)).symm | exact congrArg iI (kindZ_3 (by assumption)).symm | exact congrArg iI (kindZ_4 (by assumption) (by assumption) (by assumption)).symm
  by_cases w_1_104 : code = 104
  · refine r_lookup (tgt := 38) hx hb dX2_kindOf_1 rfl ⟨by omega, by omega⟩ (by first | (rw [w_1_104]; done) | (rw [w_1_104]; rfl)) (by decide) ?_
    refine lv_iconst (v := (iI (((1 : Nat) : Int)))) hx hb dX2_kindOf_38 rfl ?_
    refine r_iret hx hb hlocks hP hD hS [] () rfl rfl (by decide) hr ?_ dX2_kindOf_39
    first | exact congrArg iI (kindZ_1 (by assumption)).symm | exact congrArg iI (kindZ_2 (by assumption)).symm | exact congrArg iI (kindZ_3 (by assumption)).symm | exact congrArg iI (kindZ_4 (by assumption) (by assumption) (by assumption)).symm
  by_cases w_1_109 : code = 109
  · refine r_lookup (tgt := 40) hx hb dX2_kindOf_1 rfl ⟨by omega, by omega⟩ (by first | (rw [w_1_109]; done) | (rw [w_1_109]; rfl)) (by decide) ?_
    refine lv_iconst (v := (iI (((2 : Nat) : Int)))) hx hb dX2_kindOf_40 rfl ?_
    refine r_iret hx hb hlocks hP hD hS [] () rfl rfl (by decide) hr ?_ dX2_kindOf_41
    first | exact congrArg iI (kindZ_1 (by assumption)).symm | exact congrArg iI (kindZ_2 (by assumption)).symm | exact congrArg iI (kindZ_3 (by assumption)).symm | exact congrArg iI (kindZ_4 (by assumption) (by assumption) (by assumption)).symm
  refine r_lookup (tgt := 42) (off := 41) hx hb dX2_kindOf_1 rfl ⟨by omega, by omega⟩ (by simp [Op.lookupswitch.offset]; omega) (by decide) ?_
  refine lv_bipush (v := (iI ((-9)))) hx hb dX2_kindOf_42 (by decide +kernel) ?_
  refine r_iret hx hb hlocks hP hD hS [] () rfl rfl (by decide) hr ?_ dX2_kindOf_44
  first | exact congrArg iI (kindZ_1 (by assumption)).symm | exact congrArg iI (kindZ_2 (by assumption)).symm | exact congrArg iI (kindZ_3 (by assumption)).symm | exact congrArg iI (kindZ_4 (by assumption) (by assumption) (by assumption)).symm
set_option maxHeartbeats 4000000 in
set_option maxRecDepth 100000 in
theorem c_X4_isWithin (l : Launch) (dC : Nat → ClassId) (dI : Nat → Nat → Nat) (cI cZ cS : ClassId) (sz : Nat) (v : Int) (most : Int) (h1 : InR v) (h2 : InR most) : Met l yX4_isWithin wsX4_isWithin ({ frames := 0, cells := 0, slots := 0, locals := 0 }) (va_Pc [.int (iI (v)), .int (iI (most))] (preW (dC, dI) (tyL cI cZ cS) [] sz)) (va_Qi (fun (r : Int32) (u : Unit) => r = (iI (bz (decide (0 ≤ v ∧ v ≤ most))))) (fun (u : Unit) t => va_P (dC, dI) vwCl [] t.heap ∧ va_D (va_A [] sz) []) (va_A [] sz)) 0 0 (va_A [] sz) := by
  refine Met.ofW (cc := cX4_isWithin) (maxL := 2) (ret := (some .boolean)) (by decide) rfl ?_
  intro p e s m args below meth c s₁ B hml hv
  obtain ⟨rfl, hsz, hP, hK, hD0, hN⟩ := hv
  have hx := B.exec
  have hb := B.bytes
  have hr := B.returns
  have hts := atoms_spec (ws := wsX4_isWithin) B.pre
  have hown : s.vm.findClass RX4 = some m.cls := findClass_of_methodNamed B.named
  have hlocks := B.notSynchronized
  subst hsz
  have hD := hD0.self (sz := s.heap.size)
  generalize hAe : va_A [] s.heap.size = A at hD ⊢
  have hA : ∀ q : Nat, s.heap.size ≤ q → A q := fun q h => by rw [← hAe]; exact Or.inr h
  have hS : va_S A s.heap s.heap [] := va_S.rf
  have hP : va_P (dC, dI) vwCl [] s.heap := hP
  have hC0 : CallFix p m c cX4_isWithin 2 s [.int (iI (v)), .int (iI (most))].toArray wsX4_isWithin RX4 := ⟨hx, hb, hml, hown, hts⟩
  have hl := lv_entry [.int (iI (v)), .int (iI (most))] (n := 2) (Nat.le_of_ble_eq_true rfl)
  rw [lg_entry_eq]
  generalize (lg_sl [.int (iI (v)), .int (iI (most))] ++ List.replicate (2 - (lg_sl [.int (iI (v)), .int (iI (most))]).length) Slot.unset).toArray = ls at hl ⊢
  have hl : lv_has ls 2 [(0, .int (iI (v))), (1, .int (iI (most)))] := hl
  refine lv_iload_n hx hb dX4_isWithin_0 rfl (lv_at hl 0 rfl) ?_
  refine r_if_lt (tgt := 13) hx hb dX4_isWithin_1 (by decide) ⟨by omega, by omega⟩ (fun c_1 => ?_) (fun c_1 => ?_)
  · refine lv_iconst (v := (iI (((0 : Nat) : Int)))) hx hb dX4_isWithin_13 rfl ?_
    refine r_zret hx hb hlocks hP hD hS [] () rfl rfl (by decide) hr nar_0 ?_ dX4_isWithin_14
    first | exact bd_t ⟨by omega, by omega⟩ | exact bd_f (by omega)
  · refine lv_iload_n hx hb dX4_isWithin_4 rfl (lv_at hl 0 rfl) ?_
    refine lv_iload_n hx hb dX4_isWithin_5 rfl (lv_at hl 1 rfl) ?_
    refine r_icmp_gt (tgt := 13) hx hb dX4_isWithin_6 (by decide) ⟨by omega, by omega⟩ ⟨by omega, by omega⟩ (fun c_6 => ?_) (fun c_6 => ?_)
    · refine lv_iconst (v := (iI (((0 : Nat) : Int)))) hx hb dX4_isWithin_13 rfl ?_
      refine r_zret hx hb hlocks hP hD hS [] () rfl rfl (by decide) hr nar_0 ?_ dX4_isWithin_14
      first | exact bd_t ⟨by omega, by omega⟩ | exact bd_f (by omega)
    · refine lv_iconst (v := (iI (((1 : Nat) : Int)))) hx hb dX4_isWithin_9 rfl ?_
      refine lv_goto (tgt := 14) hx hb dX4_isWithin_10 (by decide) ?_
      refine r_zret hx hb hlocks hP hD hS [] () rfl rfl (by decide) hr nar_1 ?_ dX4_isWithin_14
      first | exact bd_t ⟨by omega, by omega⟩ | exact bd_f (by omega)
set_option maxHeartbeats 4000000 in
set_option maxRecDepth 100000 in
theorem c_X4_isIn (l : Launch) (dC : Nat → ClassId) (dI : Nat → Nat → Nat) (cI cZ cS : ClassId) (sz : Nat) (c1 : Nat) (set : Nat → Bool) (h1 : c1 < 64) : Met l yX4_isIn wsX4_isIn ({ frames := 0, cells := 0, slots := 0, locals := 0 }) (va_Pc [.int (iI (((c1 : Nat) : Int))), .long (lS (set))] (preW (dC, dI) (tyL cI cZ cS) [] sz)) (va_Qi (fun (r : Int32) (u : Unit) => r = (iI (bz (set c1)))) (fun (u : Unit) t => va_P (dC, dI) vwCl [] t.heap ∧ va_D (va_A [] sz) []) (va_A [] sz)) 0 0 (va_A [] sz) := by
  refine Met.ofW (cc := cX4_isIn) (maxL := 3) (ret := (some .boolean)) (by decide) rfl ?_
  intro p e s m args below meth c s₁ B hml hv
  obtain ⟨rfl, hsz, hP, hK, hD0, hN⟩ := hv
  have hx := B.exec
  have hb := B.bytes
  have hr := B.returns
  have hts := atoms_spec (ws := wsX4_isIn) B.pre
  have hown : s.vm.findClass RX4 = some m.cls := findClass_of_methodNamed B.named
  have hlocks := B.notSynchronized
  subst hsz
  have hD := hD0.self (sz := s.heap.size)
  generalize hAe : va_A [] s.heap.size = A at hD ⊢
  have hA : ∀ q : Nat, s.heap.size ≤ q → A q := fun q h => by rw [← hAe]; exact Or.inr h
  have hS : va_S A s.heap s.heap [] := va_S.rf
  have hP : va_P (dC, dI) vwCl [] s.heap := hP
  have hC0 : CallFix p m c cX4_isIn 3 s [.int (iI (((c1 : Nat) : Int))), .long (lS (set))].toArray wsX4_isIn RX4 := ⟨hx, hb, hml, hown, hts⟩
  have hl := lv_entry [.int (iI (((c1 : Nat) : Int))), .long (lS (set))] (n := 3) (Nat.le_of_ble_eq_true rfl)
  rw [lg_entry_eq]
  generalize (lg_sl [.int (iI (((c1 : Nat) : Int))), .long (lS (set))] ++ List.replicate (3 - (lg_sl [.int (iI (((c1 : Nat) : Int))), .long (lS (set))]).length) Slot.unset).toArray = ls at hl ⊢
  have hl : lv_has ls 3 [(0, .int (iI (((c1 : Nat) : Int)))), (1, .long (lS (set)))] := hl
  refine lv_lload_n hx hb dX4_isIn_0 rfl (lv_at hl 1 rfl) ?_
  refine lv_iload_n hx hb dX4_isIn_1 rfl (lv_at hl 0 rfl) ?_
  refine r_lget hx hb c1 dX4_isIn_2 dX4_isIn_3 dX4_isIn_4 (rfl) (by omega) ?_
  refine lv_lconst (v := lI (0)) hx hb dX4_isIn_5 rfl ?_
  refine r_lcmp hx hb dX4_isIn_6 (bz_inL _) ⟨by omega, by omega⟩ ?_
  refine r_lc_eq (tgt := 14) hx hb dX4_isIn_7 (by decide) (fun c_7 => ?_) (fun c_7 => ?_)
  · refine lv_iconst (v := (iI (((0 : Nat) : Int)))) hx hb dX4_isIn_14 rfl ?_
    refine r_zret hx hb hlocks hP hD hS [] () rfl rfl (by decide) hr nar_0 ?_ dX4_isIn_15
    first | exact bz_t (bz_1 (by assumption)) | exact bz_f (bz_0 (by assumption))
  · refine lv_iconst (v := (iI (((1 : Nat) : Int)))) hx hb dX4_isIn_10 rfl ?_
    refine lv_goto (tgt := 15) hx hb dX4_isIn_11 (by decide) ?_
    refine r_zret hx hb hlocks hP hD hS [] () rfl rfl (by decide) hr nar_1 ?_ dX4_isIn_15
    first | exact bz_t (bz_1 (by assumption)) | exact bz_f (bz_0 (by assumption))
set_option maxHeartbeats 4000000 in
set_option maxRecDepth 100000 in
theorem c_X0_hasCell (l : Launch) (dC : Nat → ClassId) (dI : Nat → Nat → Nat) (cI cZ cS : ClassId) (sz : Nat) (hL : Nat) (aCl : Nat) (aCo : Nat) (aRo : Nat) (aKi : Nat) (aSt : Nat) (aRe : Nat) (wide : Nat) (high : Nat) (cells : Nat) (guns : Nat) (sil : Nat → Bool) (dug : Nat → Bool) (fc : Nat → Bool) (lc : Nat → Bool) (clay : Nat → Nat) (col : Nat → Nat) (row : Nat → Nat) (kind : Nat → Nat) (stand : Nat → Nat) (reach : Nat → Nat) (c1 : Int) (hL0 : LandOk wide high cells guns sil dug fc lc clay col row kind stand reach) (h1 : InR c1) : Met l yX0_hasCell wsX0_hasCell ({ frames := 0, cells := 0, slots := 0, locals := 0 }) (va_Pc [.ref hL, .int (iI (c1))] (preW (dC, dI) (tyL cI cZ cS) [(hL, .inr (0, [.int (iI (((wide : Nat) : Int))), .int (iI (((high : Nat) : Int))), .int (iI (((cells : Nat) : Int))), .int (iI (((guns : Nat) : Int))), .int (iS (sil)), .long (lS (dug)), .long (lS (fc)), .long (lS (lc)), .ref aCl, .ref aCo, .ref aRo, .ref aKi, .ref aSt, .ref aRe])), (aCl, .inl (cI, 36, .inl (nF (clay)))), (aCo, .inl (cI, 36, .inl (nF (col)))), (aRo, .inl (cI, 36, .inl (nF (row)))), (aKi, .inl (cI, 5, .inl (nF (kind)))), (aSt, .inl (cI, 5, .inl (nF (stand)))), (aRe, .inl (cI, 5, .inl (nF (reach))))] sz)) (va_Qi (fun (r : Int32) (u : Unit) => r = (iI (bz (decide (0 ≤ c1 ∧ c1 < (cells : Int)))))) (fun (u : Unit) t => va_P (dC, dI) vwCl [(hL, .inr (0, [.int (iI (((wide : Nat) : Int))), .int (iI (((high : Nat) : Int))), .int (iI (((cells : Nat) : Int))), .int (iI (((guns : Nat) : Int))), .int (iS (sil)), .long (lS (dug)), .long (lS (fc)), .long (lS (lc)), .ref aCl, .ref aCo, .ref aRo, .ref aKi, .ref aSt, .ref aRe])), (aCl, .inl (cI, 36, .inl (nF (clay)))), (aCo, .inl (cI, 36, .inl (nF (col)))), (aRo, .inl (cI, 36, .inl (nF (row)))), (aKi, .inl (cI, 5, .inl (nF (kind)))), (aSt, .inl (cI, 5, .inl (nF (stand)))), (aRe, .inl (cI, 5, .inl (nF (reach))))] t.heap ∧ va_D (va_A [(hL, .inr (0, [.int (iI (((wide : Nat) : Int))), .int (iI (((high : Nat) : Int))), .int (iI (((cells : Nat) : Int))), .int (iI (((guns : Nat) : Int))), .int (iS (sil)), .long (lS (dug)), .long (lS (fc)), .long (lS (lc)), .ref aCl, .ref aCo, .ref aRo, .ref aKi, .ref aSt, .ref aRe])), (aCl, .inl (cI, 36, .inl (nF (clay)))), (aCo, .inl (cI, 36, .inl (nF (col)))), (aRo, .inl (cI, 36, .inl (nF (row)))), (aKi, .inl (cI, 5, .inl (nF (kind)))), (aSt, .inl (cI, 5, .inl (nF (stand)))), (aRe, .inl (cI, 5, .inl (nF (reach))))] sz) [(hL, .inr (0, [.int (iI (((wide : Nat) : Int))), .int (iI (((high : Nat) : Int))), .int (iI (((cells : Nat) : Int))), .int (iI (((guns : Nat) : Int))), .int (iS (sil)), .long (lS (dug)), .long (lS (fc)), .long (lS (lc)), .ref aCl, .ref aCo, .ref aRo, .ref aKi, .ref aSt, .ref aRe])), (aCl, .inl (cI, 36, .inl (nF (clay)))), (aCo, .inl (cI, 36, .inl (nF (col)))), (aRo, .inl (cI, 36, .inl (nF (row)))), (aKi, .inl (cI, 5, .inl (nF (kind)))), (aSt, .inl (cI, 5, .inl (nF (stand)))), (aRe, .inl (cI, 5, .inl (nF (reach))))]) (va_A [(hL, .inr (0, [.int (iI (((wide : Nat) : Int))), .int (iI (((high : Nat) : Int))), .int (iI (((cells : Nat) : Int))), .int (iI (((guns : Nat) : Int))), .int (iS (sil)), .long (lS (dug)), .long (lS (fc)), .long (lS (lc)), .ref aCl, .ref aCo, .ref aRo, .ref aKi, .ref aSt, .ref aRe])), (aCl, .inl (cI, 36, .inl (nF (clay)))), (aCo, .inl (cI, 36, .inl (nF (col)))), (aRo, .inl (cI, 36, .inl (nF (row)))), (aKi, .inl (cI, 5, .inl (nF (kind)))), (aSt, .inl (cI, 5, .inl (nF (stand)))), (aRe, .inl (cI, 5, .inl (nF (reach))))] sz)) 0 0 (va_A [(hL, .inr (0, [.int (iI (((wide : Nat) : Int))), .int (iI (((high : Nat) : Int))), .int (iI (((cells : Nat) : Int))), .int (iI (((guns : Nat) : Int))), .int (iS (sil)), .long (lS (dug)), .long (lS (fc)), .long (lS (lc)), .ref aCl, .ref aCo, .ref aRo, .ref aKi, .ref aSt, .ref aRe])), (aCl, .inl (cI, 36, .inl (nF (clay)))), (aCo, .inl (cI, 36, .inl (nF (col)))), (aRo, .inl (cI, 36, .inl (nF (row)))), (aKi, .inl (cI, 5, .inl (nF (kind)))), (aSt, .inl (cI, 5, .inl (nF (stand)))), (aRe, .inl (cI, 5, .inl (nF (reach))))] sz) := by
  refine Met.ofW (cc := cX0_hasCell) (maxL := 2) (ret := (some .boolean)) (by decide) rfl ?_
  intro p e s m args below meth c s₁ B hml hv
  obtain ⟨rfl, hsz, hP, hK, hD0, hN⟩ := hv
  have hx := B.exec
  have hb := B.bytes
  have hr := B.returns
  have hts := atoms_spec (ws := wsX0_hasCell) B.pre
  have hown : s.vm.findClass RX0 = some m.cls := findClass_of_methodNamed B.named
  have hlocks := B.notSynchronized
  subst hsz
  have hD := hD0.self (sz := s.heap.size)
  generalize hAe : va_A [(hL, .inr (0, [.int (iI (((wide : Nat) : Int))), .int (iI (((high : Nat) : Int))), .int (iI (((cells : Nat) : Int))), .int (iI (((guns : Nat) : Int))), .int (iS (sil)), .long (lS (dug)), .long (lS (fc)), .long (lS (lc)), .ref aCl, .ref aCo, .ref aRo, .ref aKi, .ref aSt, .ref aRe])), (aCl, .inl (cI, 36, .inl (nF (clay)))), (aCo, .inl (cI, 36, .inl (nF (col)))), (aRo, .inl (cI, 36, .inl (nF (row)))), (aKi, .inl (cI, 5, .inl (nF (kind)))), (aSt, .inl (cI, 5, .inl (nF (stand)))), (aRe, .inl (cI, 5, .inl (nF (reach))))] s.heap.size = A at hD ⊢
  have hA : ∀ q : Nat, s.heap.size ≤ q → A q := fun q h => by rw [← hAe]; exact Or.inr h
  have hS : va_S A s.heap s.heap [] := va_S.rf
  have hP : va_P (dC, dI) vwCl [(hL, .inr (0, [.int (iI (((wide : Nat) : Int))), .int (iI (((high : Nat) : Int))), .int (iI (((cells : Nat) : Int))), .int (iI (((guns : Nat) : Int))), .int (iS (sil)), .long (lS (dug)), .long (lS (fc)), .long (lS (lc)), .ref aCl, .ref aCo, .ref aRo, .ref aKi, .ref aSt, .ref aRe])), (aCl, .inl (cI, 36, .inl (nF (clay)))), (aCo, .inl (cI, 36, .inl (nF (col)))), (aRo, .inl (cI, 36, .inl (nF (row)))), (aKi, .inl (cI, 5, .inl (nF (kind)))), (aSt, .inl (cI, 5, .inl (nF (stand)))), (aRe, .inl (cI, 5, .inl (nF (reach))))] s.heap := hP
  have hC0 : CallFix p m c cX0_hasCell 2 s [.ref hL, .int (iI (c1))].toArray wsX0_hasCell RX0 := ⟨hx, hb, hml, hown, hts⟩
  have hl := lv_entry [.ref hL, .int (iI (c1))] (n := 2) (Nat.le_of_ble_eq_true rfl)
  rw [lg_entry_eq]
  generalize (lg_sl [.ref hL, .int (iI (c1))] ++ List.replicate (2 - (lg_sl [.ref hL, .int (iI (c1))]).length) Slot.unset).toArray = ls at hl ⊢
  have hl : lv_has ls 2 [(0, .ref hL), (1, .int (iI (c1)))] := hl
  obtain ⟨hce, hw6, hh6, hc36, hg5, hbcl, hbco, hbro, hbki, hbst, hbre, hsc, hco, hro, hfc, hlc, hdu, hsi⟩ := id hL0
  refine lv_iload_n hx hb dX0_hasCell_0 rfl (lv_at hl 1 rfl) ?_
  refine r_if_lt (tgt := 16) hx hb dX0_hasCell_1 (by decide) ⟨by omega, by omega⟩ (fun c_1 => ?_) (fun c_1 => ?_)
  · refine lv_iconst (v := (iI (((0 : Nat) : Int)))) hx hb dX0_hasCell_16 rfl ?_
    refine r_zret hx hb hlocks hP hD hS [0, 1, 2, 3, 4, 5, 6] () rfl rfl (by decide) hr nar_0 ?_ dX0_hasCell_17
    first | exact bd_t ⟨by omega, by omega⟩ | exact bd_f (by omega)
  · refine lv_iload_n hx hb dX0_hasCell_4 rfl (lv_at hl 1 rfl) ?_
    refine lv_aload_n hx hb dX0_hasCell_5 rfl (lv_at hl 0 rfl) ?_
    refine va_get (D := (dC, dI)) (ci := 0) (v := .int (iI (((cells : Nat) : Int)))) (C := RX0) (T := TX0) (N := 14) hx hb hts (fun _ h9 => List.mem_cons_of_mem _ (List.mem_append_right _ h9)) hown hK hP 0 rfl rfl 2 (by decide) (hts (.fieldLink RX0 18 "ClayFort$Land" "cells" "I") (List.mem_of_getElem? (i := 1) rfl)) (fun _ h9 => h9) rfl dX0_hasCell_6 ?_
    refine r_icmp_ge (tgt := 16) hx hb dX0_hasCell_9 (by decide) ⟨by omega, by omega⟩ ⟨by omega, by omega⟩ (fun c_9 => ?_) (fun c_9 => ?_)
    · refine lv_iconst (v := (iI (((0 : Nat) : Int)))) hx hb dX0_hasCell_16 rfl ?_
      refine r_zret hx hb hlocks hP hD hS [0, 1, 2, 3, 4, 5, 6] () rfl rfl (by decide) hr nar_0 ?_ dX0_hasCell_17
      first | exact bd_t ⟨by omega, by omega⟩ | exact bd_f (by omega)
    · refine lv_iconst (v := (iI (((1 : Nat) : Int)))) hx hb dX0_hasCell_12 rfl ?_
      refine lv_goto (tgt := 17) hx hb dX0_hasCell_13 (by decide) ?_
      refine r_zret hx hb hlocks hP hD hS [0, 1, 2, 3, 4, 5, 6] () rfl rfl (by decide) hr nar_1 ?_ dX0_hasCell_17
      first | exact bd_t ⟨by omega, by omega⟩ | exact bd_f (by omega)
set_option maxHeartbeats 4000000 in
set_option maxRecDepth 100000 in
theorem c_X0_hasGun (l : Launch) (dC : Nat → ClassId) (dI : Nat → Nat → Nat) (cI cZ cS : ClassId) (sz : Nat) (hL : Nat) (aCl : Nat) (aCo : Nat) (aRo : Nat) (aKi : Nat) (aSt : Nat) (aRe : Nat) (wide : Nat) (high : Nat) (cells : Nat) (guns : Nat) (sil : Nat → Bool) (dug : Nat → Bool) (fc : Nat → Bool) (lc : Nat → Bool) (clay : Nat → Nat) (col : Nat → Nat) (row : Nat → Nat) (kind : Nat → Nat) (stand : Nat → Nat) (reach : Nat → Nat) (g1 : Int) (hL0 : LandOk wide high cells guns sil dug fc lc clay col row kind stand reach) (h1 : InR g1) : Met l yX0_hasGun wsX0_hasGun ({ frames := 0, cells := 0, slots := 0, locals := 0 }) (va_Pc [.ref hL, .int (iI (g1))] (preW (dC, dI) (tyL cI cZ cS) [(hL, .inr (0, [.int (iI (((wide : Nat) : Int))), .int (iI (((high : Nat) : Int))), .int (iI (((cells : Nat) : Int))), .int (iI (((guns : Nat) : Int))), .int (iS (sil)), .long (lS (dug)), .long (lS (fc)), .long (lS (lc)), .ref aCl, .ref aCo, .ref aRo, .ref aKi, .ref aSt, .ref aRe])), (aCl, .inl (cI, 36, .inl (nF (clay)))), (aCo, .inl (cI, 36, .inl (nF (col)))), (aRo, .inl (cI, 36, .inl (nF (row)))), (aKi, .inl (cI, 5, .inl (nF (kind)))), (aSt, .inl (cI, 5, .inl (nF (stand)))), (aRe, .inl (cI, 5, .inl (nF (reach))))] sz)) (va_Qi (fun (r : Int32) (u : Unit) => r = (iI (bz (decide (0 ≤ g1 ∧ g1 < (guns : Int)))))) (fun (u : Unit) t => va_P (dC, dI) vwCl [(hL, .inr (0, [.int (iI (((wide : Nat) : Int))), .int (iI (((high : Nat) : Int))), .int (iI (((cells : Nat) : Int))), .int (iI (((guns : Nat) : Int))), .int (iS (sil)), .long (lS (dug)), .long (lS (fc)), .long (lS (lc)), .ref aCl, .ref aCo, .ref aRo, .ref aKi, .ref aSt, .ref aRe])), (aCl, .inl (cI, 36, .inl (nF (clay)))), (aCo, .inl (cI, 36, .inl (nF (col)))), (aRo, .inl (cI, 36, .inl (nF (row)))), (aKi, .inl (cI, 5, .inl (nF (kind)))), (aSt, .inl (cI, 5, .inl (nF (stand)))), (aRe, .inl (cI, 5, .inl (nF (reach))))] t.heap ∧ va_D (va_A [(hL, .inr (0, [.int (iI (((wide : Nat) : Int))), .int (iI (((high : Nat) : Int))), .int (iI (((cells : Nat) : Int))), .int (iI (((guns : Nat) : Int))), .int (iS (sil)), .long (lS (dug)), .long (lS (fc)), .long (lS (lc)), .ref aCl, .ref aCo, .ref aRo, .ref aKi, .ref aSt, .ref aRe])), (aCl, .inl (cI, 36, .inl (nF (clay)))), (aCo, .inl (cI, 36, .inl (nF (col)))), (aRo, .inl (cI, 36, .inl (nF (row)))), (aKi, .inl (cI, 5, .inl (nF (kind)))), (aSt, .inl (cI, 5, .inl (nF (stand)))), (aRe, .inl (cI, 5, .inl (nF (reach))))] sz) [(hL, .inr (0, [.int (iI (((wide : Nat) : Int))), .int (iI (((high : Nat) : Int))), .int (iI (((cells : Nat) : Int))), .int (iI (((guns : Nat) : Int))), .int (iS (sil)), .long (lS (dug)), .long (lS (fc)), .long (lS (lc)), .ref aCl, .ref aCo, .ref aRo, .ref aKi, .ref aSt, .ref aRe])), (aCl, .inl (cI, 36, .inl (nF (clay)))), (aCo, .inl (cI, 36, .inl (nF (col)))), (aRo, .inl (cI, 36, .inl (nF (row)))), (aKi, .inl (cI, 5, .inl (nF (kind)))), (aSt, .inl (cI, 5, .inl (nF (stand)))), (aRe, .inl (cI, 5, .inl (nF (reach))))]) (va_A [(hL, .inr (0, [.int (iI (((wide : Nat) : Int))), .int (iI (((high : Nat) : Int))), .int (iI (((cells : Nat) : Int))), .int (iI (((guns : Nat) : Int))), .int (iS (sil)), .long (lS (dug)), .long (lS (fc)), .long (lS (lc)), .ref aCl, .ref aCo, .ref aRo, .ref aKi, .ref aSt, .ref aRe])), (aCl, .inl (cI, 36, .inl (nF (clay)))), (aCo, .inl (cI, 36, .inl (nF (col)))), (aRo, .inl (cI, 36, .inl (nF (row)))), (aKi, .inl (cI, 5, .inl (nF (kind)))), (aSt, .inl (cI, 5, .inl (nF (stand)))), (aRe, .inl (cI, 5, .inl (nF (reach))))] sz)) 0 0 (va_A [(hL, .inr (0, [.int (iI (((wide : Nat) : Int))), .int (iI (((high : Nat) : Int))), .int (iI (((cells : Nat) : Int))), .int (iI (((guns : Nat) : Int))), .int (iS (sil)), .long (lS (dug)), .long (lS (fc)), .long (lS (lc)), .ref aCl, .ref aCo, .ref aRo, .ref aKi, .ref aSt, .ref aRe])), (aCl, .inl (cI, 36, .inl (nF (clay)))), (aCo, .inl (cI, 36, .inl (nF (col)))), (aRo, .inl (cI, 36, .inl (nF (row)))), (aKi, .inl (cI, 5, .inl (nF (kind)))), (aSt, .inl (cI, 5, .inl (nF (stand)))), (aRe, .inl (cI, 5, .inl (nF (reach))))] sz) := by
  refine Met.ofW (cc := cX0_hasGun) (maxL := 2) (ret := (some .boolean)) (by decide) rfl ?_
  intro p e s m args below meth c s₁ B hml hv
  obtain ⟨rfl, hsz, hP, hK, hD0, hN⟩ := hv
  have hx := B.exec
  have hb := B.bytes
  have hr := B.returns
  have hts := atoms_spec (ws := wsX0_hasGun) B.pre
  have hown : s.vm.findClass RX0 = some m.cls := findClass_of_methodNamed B.named
  have hlocks := B.notSynchronized
  subst hsz
  have hD := hD0.self (sz := s.heap.size)
  generalize hAe : va_A [(hL, .inr (0, [.int (iI (((wide : Nat) : Int))), .int (iI (((high : Nat) : Int))), .int (iI (((cells : Nat) : Int))), .int (iI (((guns : Nat) : Int))), .int (iS (sil)), .long (lS (dug)), .long (lS (fc)), .long (lS (lc)), .ref aCl, .ref aCo, .ref aRo, .ref aKi, .ref aSt, .ref aRe])), (aCl, .inl (cI, 36, .inl (nF (clay)))), (aCo, .inl (cI, 36, .inl (nF (col)))), (aRo, .inl (cI, 36, .inl (nF (row)))), (aKi, .inl (cI, 5, .inl (nF (kind)))), (aSt, .inl (cI, 5, .inl (nF (stand)))), (aRe, .inl (cI, 5, .inl (nF (reach))))] s.heap.size = A at hD ⊢
  have hA : ∀ q : Nat, s.heap.size ≤ q → A q := fun q h => by rw [← hAe]; exact Or.inr h
  have hS : va_S A s.heap s.heap [] := va_S.rf
  have hP : va_P (dC, dI) vwCl [(hL, .inr (0, [.int (iI (((wide : Nat) : Int))), .int (iI (((high : Nat) : Int))), .int (iI (((cells : Nat) : Int))), .int (iI (((guns : Nat) : Int))), .int (iS (sil)), .long (lS (dug)), .long (lS (fc)), .long (lS (lc)), .ref aCl, .ref aCo, .ref aRo, .ref aKi, .ref aSt, .ref aRe])), (aCl, .inl (cI, 36, .inl (nF (clay)))), (aCo, .inl (cI, 36, .inl (nF (col)))), (aRo, .inl (cI, 36, .inl (nF (row)))), (aKi, .inl (cI, 5, .inl (nF (kind)))), (aSt, .inl (cI, 5, .inl (nF (stand)))), (aRe, .inl (cI, 5, .inl (nF (reach))))] s.heap := hP
  have hC0 : CallFix p m c cX0_hasGun 2 s [.ref hL, .int (iI (g1))].toArray wsX0_hasGun RX0 := ⟨hx, hb, hml, hown, hts⟩
  have hl := lv_entry [.ref hL, .int (iI (g1))] (n := 2) (Nat.le_of_ble_eq_true rfl)
  rw [lg_entry_eq]
  generalize (lg_sl [.ref hL, .int (iI (g1))] ++ List.replicate (2 - (lg_sl [.ref hL, .int (iI (g1))]).length) Slot.unset).toArray = ls at hl ⊢
  have hl : lv_has ls 2 [(0, .ref hL), (1, .int (iI (g1)))] := hl
  obtain ⟨hce, hw6, hh6, hc36, hg5, hbcl, hbco, hbro, hbki, hbst, hbre, hsc, hco, hro, hfc, hlc, hdu, hsi⟩ := id hL0
  refine lv_iload_n hx hb dX0_hasGun_0 rfl (lv_at hl 1 rfl) ?_
  refine r_if_lt (tgt := 16) hx hb dX0_hasGun_1 (by decide) ⟨by omega, by omega⟩ (fun c_1 => ?_) (fun c_1 => ?_)
  · refine lv_iconst (v := (iI (((0 : Nat) : Int)))) hx hb dX0_hasGun_16 rfl ?_
    refine r_zret hx hb hlocks hP hD hS [0, 1, 2, 3, 4, 5, 6] () rfl rfl (by decide) hr nar_0 ?_ dX0_hasGun_17
    first | exact bd_t ⟨by omega, by omega⟩ | exact bd_f (by omega)
  · refine lv_iload_n hx hb dX0_hasGun_4 rfl (lv_at hl 1 rfl) ?_
    refine lv_aload_n hx hb dX0_hasGun_5 rfl (lv_at hl 0 rfl) ?_
    refine va_get (D := (dC, dI)) (ci := 0) (v := .int (iI (((guns : Nat) : Int)))) (C := RX0) (T := TX0) (N := 14) hx hb hts (fun _ h9 => List.mem_cons_of_mem _ (List.mem_append_right _ h9)) hown hK hP 0 rfl rfl 3 (by decide) (hts (.fieldLink RX0 21 "ClayFort$Land" "guns" "I") (List.mem_of_getElem? (i := 1) rfl)) (fun _ h9 => h9) rfl dX0_hasGun_6 ?_
    refine r_icmp_ge (tgt := 16) hx hb dX0_hasGun_9 (by decide) ⟨by omega, by omega⟩ ⟨by omega, by omega⟩ (fun c_9 => ?_) (fun c_9 => ?_)
    · refine lv_iconst (v := (iI (((0 : Nat) : Int)))) hx hb dX0_hasGun_16 rfl ?_
      refine r_zret hx hb hlocks hP hD hS [0, 1, 2, 3, 4, 5, 6] () rfl rfl (by decide) hr nar_0 ?_ dX0_hasGun_17
      first | exact bd_t ⟨by omega, by omega⟩ | exact bd_f (by omega)
    · refine lv_iconst (v := (iI (((1 : Nat) : Int)))) hx hb dX0_hasGun_12 rfl ?_
      refine lv_goto (tgt := 17) hx hb dX0_hasGun_13 (by decide) ?_
      refine r_zret hx hb hlocks hP hD hS [0, 1, 2, 3, 4, 5, 6] () rfl rfl (by decide) hr nar_1 ?_ dX0_hasGun_17
      first | exact bd_t ⟨by omega, by omega⟩ | exact bd_f (by omega)
set_option maxHeartbeats 4000000 in
set_option maxRecDepth 100000 in
theorem c_X0_nightsOf (l : Launch) (dC : Nat → ClassId) (dI : Nat → Nat → Nat) (cI cZ cS : ClassId) (sz : Nat) (hL : Nat) (aCl : Nat) (aCo : Nat) (aRo : Nat) (aKi : Nat) (aSt : Nat) (aRe : Nat) (wide : Nat) (high : Nat) (cells : Nat) (guns : Nat) (sil : Nat → Bool) (dug : Nat → Bool) (fc : Nat → Bool) (lc : Nat → Bool) (clay : Nat → Nat) (col : Nat → Nat) (row : Nat → Nat) (kind : Nat → Nat) (stand : Nat → Nat) (reach : Nat → Nat) (c1 : Nat) (hL0 : LandOk wide high cells guns sil dug fc lc clay col row kind stand reach) (h1 : c1 < 36) : Met l yX0_nightsOf wsX0_nightsOf ({ frames := 1, cells := 0, slots := 0, locals := 22 }) (va_Pc [.ref hL, .int (iI (((c1 : Nat) : Int)))] (preW (dC, dI) (tyL cI cZ cS) [(hL, .inr (0, [.int (iI (((wide : Nat) : Int))), .int (iI (((high : Nat) : Int))), .int (iI (((cells : Nat) : Int))), .int (iI (((guns : Nat) : Int))), .int (iS (sil)), .long (lS (dug)), .long (lS (fc)), .long (lS (lc)), .ref aCl, .ref aCo, .ref aRo, .ref aKi, .ref aSt, .ref aRe])), (aCl, .inl (cI, 36, .inl (nF (clay)))), (aCo, .inl (cI, 36, .inl (nF (col)))), (aRo, .inl (cI, 36, .inl (nF (row)))), (aKi, .inl (cI, 5, .inl (nF (kind)))), (aSt, .inl (cI, 5, .inl (nF (stand)))), (aRe, .inl (cI, 5, .inl (nF (reach))))] sz)) (va_Qi (fun (r : Int32) (u : Unit) => r = (iI ((((if dug c1 then 0 else clay c1) : Nat) : Int)))) (fun (u : Unit) t => va_P (dC, dI) vwCl [(hL, .inr (0, [.int (iI (((wide : Nat) : Int))), .int (iI (((high : Nat) : Int))), .int (iI (((cells : Nat) : Int))), .int (iI (((guns : Nat) : Int))), .int (iS (sil)), .long (lS (dug)), .long (lS (fc)), .long (lS (lc)), .ref aCl, .ref aCo, .ref aRo, .ref aKi, .ref aSt, .ref aRe])), (aCl, .inl (cI, 36, .inl (nF (clay)))), (aCo, .inl (cI, 36, .inl (nF (col)))), (aRo, .inl (cI, 36, .inl (nF (row)))), (aKi, .inl (cI, 5, .inl (nF (kind)))), (aSt, .inl (cI, 5, .inl (nF (stand)))), (aRe, .inl (cI, 5, .inl (nF (reach))))] t.heap ∧ va_D (va_A [(hL, .inr (0, [.int (iI (((wide : Nat) : Int))), .int (iI (((high : Nat) : Int))), .int (iI (((cells : Nat) : Int))), .int (iI (((guns : Nat) : Int))), .int (iS (sil)), .long (lS (dug)), .long (lS (fc)), .long (lS (lc)), .ref aCl, .ref aCo, .ref aRo, .ref aKi, .ref aSt, .ref aRe])), (aCl, .inl (cI, 36, .inl (nF (clay)))), (aCo, .inl (cI, 36, .inl (nF (col)))), (aRo, .inl (cI, 36, .inl (nF (row)))), (aKi, .inl (cI, 5, .inl (nF (kind)))), (aSt, .inl (cI, 5, .inl (nF (stand)))), (aRe, .inl (cI, 5, .inl (nF (reach))))] sz) [(hL, .inr (0, [.int (iI (((wide : Nat) : Int))), .int (iI (((high : Nat) : Int))), .int (iI (((cells : Nat) : Int))), .int (iI (((guns : Nat) : Int))), .int (iS (sil)), .long (lS (dug)), .long (lS (fc)), .long (lS (lc)), .ref aCl, .ref aCo, .ref aRo, .ref aKi, .ref aSt, .ref aRe])), (aCl, .inl (cI, 36, .inl (nF (clay)))), (aCo, .inl (cI, 36, .inl (nF (col)))), (aRo, .inl (cI, 36, .inl (nF (row)))), (aKi, .inl (cI, 5, .inl (nF (kind)))), (aSt, .inl (cI, 5, .inl (nF (stand)))), (aRe, .inl (cI, 5, .inl (nF (reach))))]) (va_A [(hL, .inr (0, [.int (iI (((wide : Nat) : Int))), .int (iI (((high : Nat) : Int))), .int (iI (((cells : Nat) : Int))), .int (iI (((guns : Nat) : Int))), .int (iS (sil)), .long (lS (dug)), .long (lS (fc)), .long (lS (lc)), .ref aCl, .ref aCo, .ref aRo, .ref aKi, .ref aSt, .ref aRe])), (aCl, .inl (cI, 36, .inl (nF (clay)))), (aCo, .inl (cI, 36, .inl (nF (col)))), (aRo, .inl (cI, 36, .inl (nF (row)))), (aKi, .inl (cI, 5, .inl (nF (kind)))), (aSt, .inl (cI, 5, .inl (nF (stand)))), (aRe, .inl (cI, 5, .inl (nF (reach))))] sz)) 0 0 (va_A [(hL, .inr (0, [.int (iI (((wide : Nat) : Int))), .int (iI (((high : Nat) : Int))), .int (iI (((cells : Nat) : Int))), .int (iI (((guns : Nat) : Int))), .int (iS (sil)), .long (lS (dug)), .long (lS (fc)), .long (lS (lc)), .ref aCl, .ref aCo, .ref aRo, .ref aKi, .ref aSt, .ref aRe])), (aCl, .inl (cI, 36, .inl (nF (clay)))), (aCo, .inl (cI, 36, .inl (nF (col)))), (aRo, .inl (cI, 36, .inl (nF (row)))), (aKi, .inl (cI, 5, .inl (nF (kind)))), (aSt, .inl (cI, 5, .inl (nF (stand)))), (aRe, .inl (cI, 5, .inl (nF (reach))))] sz) := by
  refine Met.ofW (cc := cX0_nightsOf) (maxL := 2) (ret := (some .int)) (by decide) rfl ?_
  intro p e s m args below meth c s₁ B hml hv
  obtain ⟨rfl, hsz, hP, hK, hD0, hN⟩ := hv
  have hx := B.exec
  have hb := B.bytes
  have hr := B.returns
  have hts := atoms_spec (ws := wsX0_nightsOf) B.pre
  have hown : s.vm.findClass RX0 = some m.cls := findClass_of_methodNamed B.named
  have hlocks := B.notSynchronized
  subst hsz
  have hD := hD0.self (sz := s.heap.size)
  generalize hAe : va_A [(hL, .inr (0, [.int (iI (((wide : Nat) : Int))), .int (iI (((high : Nat) : Int))), .int (iI (((cells : Nat) : Int))), .int (iI (((guns : Nat) : Int))), .int (iS (sil)), .long (lS (dug)), .long (lS (fc)), .long (lS (lc)), .ref aCl, .ref aCo, .ref aRo, .ref aKi, .ref aSt, .ref aRe])), (aCl, .inl (cI, 36, .inl (nF (clay)))), (aCo, .inl (cI, 36, .inl (nF (col)))), (aRo, .inl (cI, 36, .inl (nF (row)))), (aKi, .inl (cI, 5, .inl (nF (kind)))), (aSt, .inl (cI, 5, .inl (nF (stand)))), (aRe, .inl (cI, 5, .inl (nF (reach))))] s.heap.size = A at hD ⊢
  have hA : ∀ q : Nat, s.heap.size ≤ q → A q := fun q h => by rw [← hAe]; exact Or.inr h
  have hS : va_S A s.heap s.heap [] := va_S.rf
  have hP : va_P (dC, dI) vwCl [(hL, .inr (0, [.int (iI (((wide : Nat) : Int))), .int (iI (((high : Nat) : Int))), .int (iI (((cells : Nat) : Int))), .int (iI (((guns : Nat) : Int))), .int (iS (sil)), .long (lS (dug)), .long (lS (fc)), .long (lS (lc)), .ref aCl, .ref aCo, .ref aRo, .ref aKi, .ref aSt, .ref aRe])), (aCl, .inl (cI, 36, .inl (nF (clay)))), (aCo, .inl (cI, 36, .inl (nF (col)))), (aRo, .inl (cI, 36, .inl (nF (row)))), (aKi, .inl (cI, 5, .inl (nF (kind)))), (aSt, .inl (cI, 5, .inl (nF (stand)))), (aRe, .inl (cI, 5, .inl (nF (reach))))] s.heap := hP
  have hC0 : CallFix p m c cX0_nightsOf 2 s [.ref hL, .int (iI (((c1 : Nat) : Int)))].toArray wsX0_nightsOf RX0 := ⟨hx, hb, hml, hown, hts⟩
  have hl := lv_entry [.ref hL, .int (iI (((c1 : Nat) : Int)))] (n := 2) (Nat.le_of_ble_eq_true rfl)
  rw [lg_entry_eq]
  generalize (lg_sl [.ref hL, .int (iI (((c1 : Nat) : Int)))] ++ List.replicate (2 - (lg_sl [.ref hL, .int (iI (((c1 : Nat) : Int)))]).length) Slot.unset).toArray = ls at hl ⊢
  have hl : lv_has ls 2 [(0, .ref hL), (1, .int (iI (((c1 : Nat) : Int))))] := hl
  obtain ⟨hce, hw6, hh6, hc36, hg5, hbcl, hbco, hbro, hbki, hbst, hbre, hsc, hco, hro, hfc, hlc, hdu, hsi⟩ := id hL0
  refine lv_iload_n hx hb dX0_nightsOf_0 rfl (lv_at hl 1 rfl) ?_
  refine lv_aload_n hx hb dX0_nightsOf_1 rfl (lv_at hl 0 rfl) ?_
  refine va_get (D := (dC, dI)) (ci := 0) (v := .long (lS (dug))) (C := RX0) (T := TX0) (N := 14) hx hb hts (fun _ h9 => List.mem_cons_of_mem _ (List.mem_append_right _ h9)) hown hK hP 0 rfl rfl 5 (by decide) (hts (.fieldLink RX0 27 "ClayFort$Land" "dug" "J") (List.mem_of_getElem? (i := 1) rfl)) (fun _ h9 => h9) rfl dX0_nightsOf_2 ?_
  refine r_calli (wc := []) (wr := [(hL, .inr (0, [.int (iI (((wide : Nat) : Int))), .int (iI (((high : Nat) : Int))), .int (iI (((cells : Nat) : Int))), .int (iI (((guns : Nat) : Int))), .int (iS (sil)), .long (lS (dug)), .long (lS (fc)), .long (lS (lc)), .ref aCl, .ref aCo, .ref aRo, .ref aKi, .ref aSt, .ref aRe])), (aCl, .inl (cI, 36, .inl (nF (clay)))), (aCo, .inl (cI, 36, .inl (nF (col)))), (aRo, .inl (cI, 36, .inl (nF (row)))), (aKi, .inl (cI, 5, .inl (nF (kind)))), (aSt, .inl (cI, 5, .inl (nF (stand)))), (aRe, .inl (cI, 5, .inl (nF (reach))))]) (va_runSN (As := [.int (iI (((c1 : Nat) : Int))), .long (lS (dug))]) (rest := []) hC0 (c_X4_isIn l dC dI cI cZ cS _  c1 dug (by first | assumption | omega)) ⟨va_cnB 2 hts gX0_nightsOf_X4_isIn_n96 rfl rfl rfl hN.1 (hts (.initialized RX4) (List.mem_of_getElem? (i := 4) rfl)) (by decide +kernel) ⟨Nat.le_of_ble_eq_true rfl, Nat.le_of_ble_eq_true rfl⟩, hts (.static yX4_isIn) (List.mem_of_getElem? (i := 3) rfl), trivial⟩ (r_preS hN hK hP hD [] rfl rfl (by decide) _) rfl rfl hl.1 rfl (lv_room (Nat.le_of_ble_eq_true rfl)) dX0_nightsOf_5 ⟨Nat.le_of_ble_eq_true rfl, Nat.le_of_ble_eq_true rfl⟩) hP hD hS hA [] [0, 1, 2, 3, 4, 5, 6] rfl rfl (by decide) (by decide) (fun r u H locs hw hP hD hS => ?_)
  obtain rfl := hw
  have hP : va_P (dC, dI) vwCl [(hL, .inr (0, [.int (iI (((wide : Nat) : Int))), .int (iI (((high : Nat) : Int))), .int (iI (((cells : Nat) : Int))), .int (iI (((guns : Nat) : Int))), .int (iS (sil)), .long (lS (dug)), .long (lS (fc)), .long (lS (lc)), .ref aCl, .ref aCo, .ref aRo, .ref aKi, .ref aSt, .ref aRe])), (aCl, .inl (cI, 36, .inl (nF (clay)))), (aCo, .inl (cI, 36, .inl (nF (col)))), (aRo, .inl (cI, 36, .inl (nF (row)))), (aKi, .inl (cI, 5, .inl (nF (kind)))), (aSt, .inl (cI, 5, .inl (nF (stand)))), (aRe, .inl (cI, 5, .inl (nF (reach))))] H := hP
  have hD : va_D A [(hL, .inr (0, [.int (iI (((wide : Nat) : Int))), .int (iI (((high : Nat) : Int))), .int (iI (((cells : Nat) : Int))), .int (iI (((guns : Nat) : Int))), .int (iS (sil)), .long (lS (dug)), .long (lS (fc)), .long (lS (lc)), .ref aCl, .ref aCo, .ref aRo, .ref aKi, .ref aSt, .ref aRe])), (aCl, .inl (cI, 36, .inl (nF (clay)))), (aCo, .inl (cI, 36, .inl (nF (col)))), (aRo, .inl (cI, 36, .inl (nF (row)))), (aKi, .inl (cI, 5, .inl (nF (kind)))), (aSt, .inl (cI, 5, .inl (nF (stand)))), (aRe, .inl (cI, 5, .inl (nF (reach))))] := hD
  refine r_w0 ?_
  refine r_if_eq_b (tgt := 15) hx hb dX0_nightsOf_8 (by decide) (fun c_8 => ?_) (fun c_8 => ?_)
  · refine lv_aload_n hx hb dX0_nightsOf_15 rfl (lv_at hl 0 rfl) ?_
    refine va_get (D := (dC, dI)) (ci := 0) (v := .ref aCl) (C := RX0) (T := TX0) (N := 14) hx hb hts (fun _ h9 => List.mem_cons_of_mem _ (List.mem_append_right _ h9)) hown hK hP 0 rfl rfl 8 (by decide) (hts (.fieldLink RX0 37 "ClayFort$Land" "clay" "[I") (List.mem_of_getElem? (i := 2) rfl)) (fun _ h9 => h9) rfl dX0_nightsOf_16 ?_
    refine lv_iload_n hx hb dX0_nightsOf_19 rfl (lv_at hl 1 rfl) ?_
    refine r_ald_i_n hx hb hK hP 1 0 c1 rfl rfl (rfl) (by omega) (Nat.le_of_ble_eq_true rfl) dX0_nightsOf_20 ?_
    have b_20 := hbcl c1
    refine r_iret hx hb hlocks hP hD hS [0, 1, 2, 3, 4, 5, 6] () rfl rfl (by decide) hr ?_ dX0_nightsOf_21
    first | (rw [if_pos (by assumption)]; done) | (rw [if_neg (by simp [*])]; done)
  · refine lv_iconst (v := (iI (((0 : Nat) : Int)))) hx hb dX0_nightsOf_11 rfl ?_
    refine lv_goto (tgt := 21) hx hb dX0_nightsOf_12 (by decide) ?_
    refine r_iret hx hb hlocks hP hD hS [0, 1, 2, 3, 4, 5, 6] () rfl rfl (by decide) hr ?_ dX0_nightsOf_21
    first | (rw [if_pos (by assumption)]; done) | (rw [if_neg (by simp [*])]; done)
set_option maxHeartbeats 4000000 in
set_option maxRecDepth 100000 in
theorem c_X0_rangeOf (l : Launch) (dC : Nat → ClassId) (dI : Nat → Nat → Nat) (cI cZ cS : ClassId) (sz : Nat) (hL : Nat) (aCl : Nat) (aCo : Nat) (aRo : Nat) (aKi : Nat) (aSt : Nat) (aRe : Nat) (wide : Nat) (high : Nat) (cells : Nat) (guns : Nat) (sil : Nat → Bool) (dug : Nat → Bool) (fc : Nat → Bool) (lc : Nat → Bool) (clay : Nat → Nat) (col : Nat → Nat) (row : Nat → Nat) (kind : Nat → Nat) (stand : Nat → Nat) (reach : Nat → Nat) (g1 : Nat) (hL0 : LandOk wide high cells guns sil dug fc lc clay col row kind stand reach) (h1 : g1 < 5) : Met l yX0_rangeOf wsX0_rangeOf ({ frames := 0, cells := 0, slots := 0, locals := 0 }) (va_Pc [.ref hL, .int (iI (((g1 : Nat) : Int)))] (preW (dC, dI) (tyL cI cZ cS) [(hL, .inr (0, [.int (iI (((wide : Nat) : Int))), .int (iI (((high : Nat) : Int))), .int (iI (((cells : Nat) : Int))), .int (iI (((guns : Nat) : Int))), .int (iS (sil)), .long (lS (dug)), .long (lS (fc)), .long (lS (lc)), .ref aCl, .ref aCo, .ref aRo, .ref aKi, .ref aSt, .ref aRe])), (aCl, .inl (cI, 36, .inl (nF (clay)))), (aCo, .inl (cI, 36, .inl (nF (col)))), (aRo, .inl (cI, 36, .inl (nF (row)))), (aKi, .inl (cI, 5, .inl (nF (kind)))), (aSt, .inl (cI, 5, .inl (nF (stand)))), (aRe, .inl (cI, 5, .inl (nF (reach))))] sz)) (va_Qi (fun (r : Int32) (u : Unit) => r = (iI (((rng (kind g1) (reach g1) : Nat) : Int)))) (fun (u : Unit) t => va_P (dC, dI) vwCl [(hL, .inr (0, [.int (iI (((wide : Nat) : Int))), .int (iI (((high : Nat) : Int))), .int (iI (((cells : Nat) : Int))), .int (iI (((guns : Nat) : Int))), .int (iS (sil)), .long (lS (dug)), .long (lS (fc)), .long (lS (lc)), .ref aCl, .ref aCo, .ref aRo, .ref aKi, .ref aSt, .ref aRe])), (aCl, .inl (cI, 36, .inl (nF (clay)))), (aCo, .inl (cI, 36, .inl (nF (col)))), (aRo, .inl (cI, 36, .inl (nF (row)))), (aKi, .inl (cI, 5, .inl (nF (kind)))), (aSt, .inl (cI, 5, .inl (nF (stand)))), (aRe, .inl (cI, 5, .inl (nF (reach))))] t.heap ∧ va_D (va_A [(hL, .inr (0, [.int (iI (((wide : Nat) : Int))), .int (iI (((high : Nat) : Int))), .int (iI (((cells : Nat) : Int))), .int (iI (((guns : Nat) : Int))), .int (iS (sil)), .long (lS (dug)), .long (lS (fc)), .long (lS (lc)), .ref aCl, .ref aCo, .ref aRo, .ref aKi, .ref aSt, .ref aRe])), (aCl, .inl (cI, 36, .inl (nF (clay)))), (aCo, .inl (cI, 36, .inl (nF (col)))), (aRo, .inl (cI, 36, .inl (nF (row)))), (aKi, .inl (cI, 5, .inl (nF (kind)))), (aSt, .inl (cI, 5, .inl (nF (stand)))), (aRe, .inl (cI, 5, .inl (nF (reach))))] sz) [(hL, .inr (0, [.int (iI (((wide : Nat) : Int))), .int (iI (((high : Nat) : Int))), .int (iI (((cells : Nat) : Int))), .int (iI (((guns : Nat) : Int))), .int (iS (sil)), .long (lS (dug)), .long (lS (fc)), .long (lS (lc)), .ref aCl, .ref aCo, .ref aRo, .ref aKi, .ref aSt, .ref aRe])), (aCl, .inl (cI, 36, .inl (nF (clay)))), (aCo, .inl (cI, 36, .inl (nF (col)))), (aRo, .inl (cI, 36, .inl (nF (row)))), (aKi, .inl (cI, 5, .inl (nF (kind)))), (aSt, .inl (cI, 5, .inl (nF (stand)))), (aRe, .inl (cI, 5, .inl (nF (reach))))]) (va_A [(hL, .inr (0, [.int (iI (((wide : Nat) : Int))), .int (iI (((high : Nat) : Int))), .int (iI (((cells : Nat) : Int))), .int (iI (((guns : Nat) : Int))), .int (iS (sil)), .long (lS (dug)), .long (lS (fc)), .long (lS (lc)), .ref aCl, .ref aCo, .ref aRo, .ref aKi, .ref aSt, .ref aRe])), (aCl, .inl (cI, 36, .inl (nF (clay)))), (aCo, .inl (cI, 36, .inl (nF (col)))), (aRo, .inl (cI, 36, .inl (nF (row)))), (aKi, .inl (cI, 5, .inl (nF (kind)))), (aSt, .inl (cI, 5, .inl (nF (stand)))), (aRe, .inl (cI, 5, .inl (nF (reach))))] sz)) 0 0 (va_A [(hL, .inr (0, [.int (iI (((wide : Nat) : Int))), .int (iI (((high : Nat) : Int))), .int (iI (((cells : Nat) : Int))), .int (iI (((guns : Nat) : Int))), .int (iS (sil)), .long (lS (dug)), .long (lS (fc)), .long (lS (lc)), .ref aCl, .ref aCo, .ref aRo, .ref aKi, .ref aSt, .ref aRe])), (aCl, .inl (cI, 36, .inl (nF (clay)))), (aCo, .inl (cI, 36, .inl (nF (col)))), (aRo, .inl (cI, 36, .inl (nF (row)))), (aKi, .inl (cI, 5, .inl (nF (kind)))), (aSt, .inl (cI, 5, .inl (nF (stand)))), (aRe, .inl (cI, 5, .inl (nF (reach))))] sz) := by
  refine Met.ofW (cc := cX0_rangeOf) (maxL := 2) (ret := (some .int)) (by decide) rfl ?_
  intro p e s m args below meth c s₁ B hml hv
  obtain ⟨rfl, hsz, hP, hK, hD0, hN⟩ := hv
  have hx := B.exec
  have hb := B.bytes
  have hr := B.returns
  have hts := atoms_spec (ws := wsX0_rangeOf) B.pre
  have hown : s.vm.findClass RX0 = some m.cls := findClass_of_methodNamed B.named
  have hlocks := B.notSynchronized
  subst hsz
  have hD := hD0.self (sz := s.heap.size)
  generalize hAe : va_A [(hL, .inr (0, [.int (iI (((wide : Nat) : Int))), .int (iI (((high : Nat) : Int))), .int (iI (((cells : Nat) : Int))), .int (iI (((guns : Nat) : Int))), .int (iS (sil)), .long (lS (dug)), .long (lS (fc)), .long (lS (lc)), .ref aCl, .ref aCo, .ref aRo, .ref aKi, .ref aSt, .ref aRe])), (aCl, .inl (cI, 36, .inl (nF (clay)))), (aCo, .inl (cI, 36, .inl (nF (col)))), (aRo, .inl (cI, 36, .inl (nF (row)))), (aKi, .inl (cI, 5, .inl (nF (kind)))), (aSt, .inl (cI, 5, .inl (nF (stand)))), (aRe, .inl (cI, 5, .inl (nF (reach))))] s.heap.size = A at hD ⊢
  have hA : ∀ q : Nat, s.heap.size ≤ q → A q := fun q h => by rw [← hAe]; exact Or.inr h
  have hS : va_S A s.heap s.heap [] := va_S.rf
  have hP : va_P (dC, dI) vwCl [(hL, .inr (0, [.int (iI (((wide : Nat) : Int))), .int (iI (((high : Nat) : Int))), .int (iI (((cells : Nat) : Int))), .int (iI (((guns : Nat) : Int))), .int (iS (sil)), .long (lS (dug)), .long (lS (fc)), .long (lS (lc)), .ref aCl, .ref aCo, .ref aRo, .ref aKi, .ref aSt, .ref aRe])), (aCl, .inl (cI, 36, .inl (nF (clay)))), (aCo, .inl (cI, 36, .inl (nF (col)))), (aRo, .inl (cI, 36, .inl (nF (row)))), (aKi, .inl (cI, 5, .inl (nF (kind)))), (aSt, .inl (cI, 5, .inl (nF (stand)))), (aRe, .inl (cI, 5, .inl (nF (reach))))] s.heap := hP
  have hC0 : CallFix p m c cX0_rangeOf 2 s [.ref hL, .int (iI (((g1 : Nat) : Int)))].toArray wsX0_rangeOf RX0 := ⟨hx, hb, hml, hown, hts⟩
  have hl := lv_entry [.ref hL, .int (iI (((g1 : Nat) : Int)))] (n := 2) (Nat.le_of_ble_eq_true rfl)
  rw [lg_entry_eq]
  generalize (lg_sl [.ref hL, .int (iI (((g1 : Nat) : Int)))] ++ List.replicate (2 - (lg_sl [.ref hL, .int (iI (((g1 : Nat) : Int)))]).length) Slot.unset).toArray = ls at hl ⊢
  have hl : lv_has ls 2 [(0, .ref hL), (1, .int (iI (((g1 : Nat) : Int))))] := hl
  obtain ⟨hce, hw6, hh6, hc36, hg5, hbcl, hbco, hbro, hbki, hbst, hbre, hsc, hco, hro, hfc, hlc, hdu, hsi⟩ := id hL0
  refine lv_aload_n hx hb dX0_rangeOf_0 rfl (lv_at hl 0 rfl) ?_
  refine va_get (D := (dC, dI)) (ci := 0) (v := .ref aKi) (C := RX0) (T := TX0) (N := 14) hx hb hts (fun _ h9 => List.mem_cons_of_mem _ (List.mem_append_right _ h9)) hown hK hP 0 rfl rfl 11 (by decide) (hts (.fieldLink RX0 47 "ClayFort$Land" "kind" "[I") (List.mem_of_getElem? (i := 1) rfl)) (fun _ h9 => h9) rfl dX0_rangeOf_1 ?_
  refine lv_iload_n hx hb dX0_rangeOf_4 rfl (lv_at hl 1 rfl) ?_
  refine r_ald_i_n hx hb hK hP 4 0 g1 rfl rfl (rfl) (by omega) (Nat.le_of_ble_eq_true rfl) dX0_rangeOf_5 ?_
  have b_5 := hbki g1
  by_cases w_6_1 : ((kind g1 : Nat) : Int) = 1
  · refine r_lookup (tgt := 32) hx hb dX0_rangeOf_6 rfl ⟨by omega, by omega⟩ (by first | (rw [w_6_1]; done) | (rw [w_6_1]; rfl)) (by decide) ?_
    refine lv_aload_n hx hb dX0_rangeOf_32 rfl (lv_at hl 0 rfl) ?_
    refine va_get (D := (dC, dI)) (ci := 0) (v := .ref aRe) (C := RX0) (T := TX0) (N := 14) hx hb hts (fun _ h9 => List.mem_cons_of_mem _ (List.mem_append_right _ h9)) hown hK hP 0 rfl rfl 13 (by decide) (hts (.fieldLink RX0 53 "ClayFort$Land" "reach" "[I") (List.mem_of_getElem? (i := 2) rfl)) (fun _ h9 => h9) rfl dX0_rangeOf_33 ?_
    refine lv_iload_n hx hb dX0_rangeOf_36 rfl (lv_at hl 1 rfl) ?_
    refine r_ald_i_n hx hb hK hP 6 0 g1 rfl rfl (rfl) (by omega) (Nat.le_of_ble_eq_true rfl) dX0_rangeOf_37 ?_
    have b_37 := hbre g1
    refine lv_iconst (v := (iI (((1 : Nat) : Int)))) hx hb dX0_rangeOf_38 rfl ?_
    refine r_iadd (z := (((reach g1) + 1 : Nat) : Int)) hx hb dX0_rangeOf_39 ((Int.natCast_add _ _).symm) ?_
    refine r_iret hx hb hlocks hP hD hS [0, 1, 2, 3, 4, 5, 6] () rfl rfl (by decide) hr ?_ dX0_rangeOf_40
    first | rw [rng_1 (by omega)] | rw [rng_2 (by omega)] | rw [rng_0 (by omega) (by omega)]
  by_cases w_6_2 : ((kind g1 : Nat) : Int) = 2
  · refine r_lookup (tgt := 41) hx hb dX0_rangeOf_6 rfl ⟨by omega, by omega⟩ (by first | (rw [w_6_2]; done) | (rw [w_6_2]; rfl)) (by decide) ?_
    refine lv_aload_n hx hb dX0_rangeOf_41 rfl (lv_at hl 0 rfl) ?_
    refine va_get (D := (dC, dI)) (ci := 0) (v := .ref aRe) (C := RX0) (T := TX0) (N := 14) hx hb hts (fun _ h9 => List.mem_cons_of_mem _ (List.mem_append_right _ h9)) hown hK hP 0 rfl rfl 13 (by decide) (hts (.fieldLink RX0 53 "ClayFort$Land" "reach" "[I") (List.mem_of_getElem? (i := 2) rfl)) (fun _ h9 => h9) rfl dX0_rangeOf_42 ?_
    refine lv_iload_n hx hb dX0_rangeOf_45 rfl (lv_at hl 1 rfl) ?_
    refine r_ald_i_n hx hb hK hP 6 0 g1 rfl rfl (rfl) (by omega) (Nat.le_of_ble_eq_true rfl) dX0_rangeOf_46 ?_
    have b_46 := hbre g1
    refine lv_iconst (v := (iI (((1 : Nat) : Int)))) hx hb dX0_rangeOf_47 rfl ?_
    refine r_iadd (z := (((reach g1) + 1 : Nat) : Int)) hx hb dX0_rangeOf_48 ((Int.natCast_add _ _).symm) ?_
    refine lv_iconst (v := (iI (((2 : Nat) : Int)))) hx hb dX0_rangeOf_49 rfl ?_
    refine r_idiv (z := ((((reach g1) + 1) / (2) : Nat) : Int)) hx hb dX0_rangeOf_50 ⟨by omega, by omega⟩ (by omega) ⟨by omega, by omega⟩ (by omega) ((Int.natCast_ediv _ _).symm) ?_
    refine r_iret hx hb hlocks hP hD hS [0, 1, 2, 3, 4, 5, 6] () rfl rfl (by decide) hr ?_ dX0_rangeOf_51
    first | rw [rng_1 (by omega)] | rw [rng_2 (by omega)] | rw [rng_0 (by omega) (by omega)]
  refine r_lookup (tgt := 52) (off := 46) hx hb dX0_rangeOf_6 rfl ⟨by omega, by omega⟩ (by simp [Op.lookupswitch.offset]; omega) (by decide) ?_
  refine lv_aload_n hx hb dX0_rangeOf_52 rfl (lv_at hl 0 rfl) ?_
  refine va_get (D := (dC, dI)) (ci := 0) (v := .ref aRe) (C := RX0) (T := TX0) (N := 14) hx hb hts (fun _ h9 => List.mem_cons_of_mem _ (List.mem_append_right _ h9)) hown hK hP 0 rfl rfl 13 (by decide) (hts (.fieldLink RX0 53 "ClayFort$Land" "reach" "[I") (List.mem_of_getElem? (i := 2) rfl)) (fun _ h9 => h9) rfl dX0_rangeOf_53 ?_
  refine lv_iload_n hx hb dX0_rangeOf_56 rfl (lv_at hl 1 rfl) ?_
  refine r_ald_i_n hx hb hK hP 6 0 g1 rfl rfl (rfl) (by omega) (Nat.le_of_ble_eq_true rfl) dX0_rangeOf_57 ?_
  have b_57 := hbre g1
  refine r_iret hx hb hlocks hP hD hS [0, 1, 2, 3, 4, 5, 6] () rfl rfl (by decide) hr ?_ dX0_rangeOf_58
  first | rw [rng_1 (by omega)] | rw [rng_2 (by omega)] | rw [rng_0 (by omega) (by omega)]
set_option maxHeartbeats 4000000 in
set_option maxRecDepth 100000 in
theorem c_X0_removePost (l : Launch) (dC : Nat → ClassId) (dI : Nat → Nat → Nat) (cI cZ cS : ClassId) (sz : Nat) (hL : Nat) (aCl : Nat) (aCo : Nat) (aRo : Nat) (aKi : Nat) (aSt : Nat) (aRe : Nat) (wide : Nat) (high : Nat) (cells : Nat) (guns : Nat) (sil : Nat → Bool) (dug : Nat → Bool) (fc : Nat → Bool) (lc : Nat → Bool) (clay : Nat → Nat) (col : Nat → Nat) (row : Nat → Nat) (kind : Nat → Nat) (stand : Nat → Nat) (reach : Nat → Nat) (hL0 : LandOk wide high cells guns sil dug fc lc clay col row kind stand reach) (h1 : 1 ≤ guns) : Met l yX0_removePost wsX0_removePost ({ frames := 0, cells := 0, slots := 0, locals := 0 }) (va_Pc [.ref hL] (preW (dC, dI) (tyL cI cZ cS) [(hL, .inr (0, [.int (iI (((wide : Nat) : Int))), .int (iI (((high : Nat) : Int))), .int (iI (((cells : Nat) : Int))), .int (iI (((guns : Nat) : Int))), .int (iS (sil)), .long (lS (dug)), .long (lS (fc)), .long (lS (lc)), .ref aCl, .ref aCo, .ref aRo, .ref aKi, .ref aSt, .ref aRe])), (aCl, .inl (cI, 36, .inl (nF (clay)))), (aCo, .inl (cI, 36, .inl (nF (col)))), (aRo, .inl (cI, 36, .inl (nF (row)))), (aKi, .inl (cI, 5, .inl (nF (kind)))), (aSt, .inl (cI, 5, .inl (nF (stand)))), (aRe, .inl (cI, 5, .inl (nF (reach))))] sz)) (va_Qv (fun (u : Unit) => True) (fun (u : Unit) t => va_P (dC, dI) vwCl [(hL, .inr (0, [.int (iI (((wide : Nat) : Int))), .int (iI (((high : Nat) : Int))), .int (iI (((cells : Nat) : Int))), .int (iI (((guns - 1 : Nat) : Int))), .int (iS (sil)), .long (lS (dug)), .long (lS (fc)), .long (lS (lc)), .ref aCl, .ref aCo, .ref aRo, .ref aKi, .ref aSt, .ref aRe])), (aCl, .inl (cI, 36, .inl (nF (clay)))), (aCo, .inl (cI, 36, .inl (nF (col)))), (aRo, .inl (cI, 36, .inl (nF (row)))), (aKi, .inl (cI, 5, .inl (nF (kind)))), (aSt, .inl (cI, 5, .inl (nF (stand)))), (aRe, .inl (cI, 5, .inl (nF (reach))))] t.heap ∧ va_D (va_A [(hL, .inr (0, [.int (iI (((wide : Nat) : Int))), .int (iI (((high : Nat) : Int))), .int (iI (((cells : Nat) : Int))), .int (iI (((guns : Nat) : Int))), .int (iS (sil)), .long (lS (dug)), .long (lS (fc)), .long (lS (lc)), .ref aCl, .ref aCo, .ref aRo, .ref aKi, .ref aSt, .ref aRe])), (aCl, .inl (cI, 36, .inl (nF (clay)))), (aCo, .inl (cI, 36, .inl (nF (col)))), (aRo, .inl (cI, 36, .inl (nF (row)))), (aKi, .inl (cI, 5, .inl (nF (kind)))), (aSt, .inl (cI, 5, .inl (nF (stand)))), (aRe, .inl (cI, 5, .inl (nF (reach))))] sz) [(hL, .inr (0, [.int (iI (((wide : Nat) : Int))), .int (iI (((high : Nat) : Int))), .int (iI (((cells : Nat) : Int))), .int (iI (((guns - 1 : Nat) : Int))), .int (iS (sil)), .long (lS (dug)), .long (lS (fc)), .long (lS (lc)), .ref aCl, .ref aCo, .ref aRo, .ref aKi, .ref aSt, .ref aRe])), (aCl, .inl (cI, 36, .inl (nF (clay)))), (aCo, .inl (cI, 36, .inl (nF (col)))), (aRo, .inl (cI, 36, .inl (nF (row)))), (aKi, .inl (cI, 5, .inl (nF (kind)))), (aSt, .inl (cI, 5, .inl (nF (stand)))), (aRe, .inl (cI, 5, .inl (nF (reach))))]) (va_A [(hL, .inr (0, [.int (iI (((wide : Nat) : Int))), .int (iI (((high : Nat) : Int))), .int (iI (((cells : Nat) : Int))), .int (iI (((guns : Nat) : Int))), .int (iS (sil)), .long (lS (dug)), .long (lS (fc)), .long (lS (lc)), .ref aCl, .ref aCo, .ref aRo, .ref aKi, .ref aSt, .ref aRe])), (aCl, .inl (cI, 36, .inl (nF (clay)))), (aCo, .inl (cI, 36, .inl (nF (col)))), (aRo, .inl (cI, 36, .inl (nF (row)))), (aKi, .inl (cI, 5, .inl (nF (kind)))), (aSt, .inl (cI, 5, .inl (nF (stand)))), (aRe, .inl (cI, 5, .inl (nF (reach))))] sz)) 0 0 (va_A [(hL, .inr (0, [.int (iI (((wide : Nat) : Int))), .int (iI (((high : Nat) : Int))), .int (iI (((cells : Nat) : Int))), .int (iI (((guns : Nat) : Int))), .int (iS (sil)), .long (lS (dug)), .long (lS (fc)), .long (lS (lc)), .ref aCl, .ref aCo, .ref aRo, .ref aKi, .ref aSt, .ref aRe])), (aCl, .inl (cI, 36, .inl (nF (clay)))), (aCo, .inl (cI, 36, .inl (nF (col)))), (aRo, .inl (cI, 36, .inl (nF (row)))), (aKi, .inl (cI, 5, .inl (nF (kind)))), (aSt, .inl (cI, 5, .inl (nF (stand)))), (aRe, .inl (cI, 5, .inl (nF (reach))))] sz) := by
  refine Met.ofW (cc := cX0_removePost) (maxL := 1) (ret := none) (by decide) rfl ?_
  intro p e s m args below meth c s₁ B hml hv
  obtain ⟨rfl, hsz, hP, hK, hD0, hN⟩ := hv
  have hx := B.exec
  have hb := B.bytes
  have hr := B.returns
  have hts := atoms_spec (ws := wsX0_removePost) B.pre
  have hown : s.vm.findClass RX0 = some m.cls := findClass_of_methodNamed B.named
  have hlocks := B.notSynchronized
  subst hsz
  have hD := hD0.self (sz := s.heap.size)
  generalize hAe : va_A [(hL, .inr (0, [.int (iI (((wide : Nat) : Int))), .int (iI (((high : Nat) : Int))), .int (iI (((cells : Nat) : Int))), .int (iI (((guns : Nat) : Int))), .int (iS (sil)), .long (lS (dug)), .long (lS (fc)), .long (lS (lc)), .ref aCl, .ref aCo, .ref aRo, .ref aKi, .ref aSt, .ref aRe])), (aCl, .inl (cI, 36, .inl (nF (clay)))), (aCo, .inl (cI, 36, .inl (nF (col)))), (aRo, .inl (cI, 36, .inl (nF (row)))), (aKi, .inl (cI, 5, .inl (nF (kind)))), (aSt, .inl (cI, 5, .inl (nF (stand)))), (aRe, .inl (cI, 5, .inl (nF (reach))))] s.heap.size = A at hD ⊢
  have hA : ∀ q : Nat, s.heap.size ≤ q → A q := fun q h => by rw [← hAe]; exact Or.inr h
  have hS : va_S A s.heap s.heap [] := va_S.rf
  have hP : va_P (dC, dI) vwCl [(hL, .inr (0, [.int (iI (((wide : Nat) : Int))), .int (iI (((high : Nat) : Int))), .int (iI (((cells : Nat) : Int))), .int (iI (((guns : Nat) : Int))), .int (iS (sil)), .long (lS (dug)), .long (lS (fc)), .long (lS (lc)), .ref aCl, .ref aCo, .ref aRo, .ref aKi, .ref aSt, .ref aRe])), (aCl, .inl (cI, 36, .inl (nF (clay)))), (aCo, .inl (cI, 36, .inl (nF (col)))), (aRo, .inl (cI, 36, .inl (nF (row)))), (aKi, .inl (cI, 5, .inl (nF (kind)))), (aSt, .inl (cI, 5, .inl (nF (stand)))), (aRe, .inl (cI, 5, .inl (nF (reach))))] s.heap := hP
  have hC0 : CallFix p m c cX0_removePost 1 s [.ref hL].toArray wsX0_removePost RX0 := ⟨hx, hb, hml, hown, hts⟩
  have hl := lv_entry [.ref hL] (n := 1) (Nat.le_of_ble_eq_true rfl)
  rw [lg_entry_eq]
  generalize (lg_sl [.ref hL] ++ List.replicate (1 - (lg_sl [.ref hL]).length) Slot.unset).toArray = ls at hl ⊢
  have hl : lv_has ls 1 [(0, .ref hL)] := hl
  obtain ⟨hce, hw6, hh6, hc36, hg5, hbcl, hbco, hbro, hbki, hbst, hbre, hsc, hco, hro, hfc, hlc, hdu, hsi⟩ := id hL0
  refine lv_aload_n hx hb dX0_removePost_0 rfl (lv_at hl 0 rfl) ?_
  refine lv_dup hx hb dX0_removePost_1 rfl ?_
  refine va_get (D := (dC, dI)) (ci := 0) (v := .int (iI (((guns : Nat) : Int)))) (C := RX0) (T := TX0) (N := 14) hx hb hts (fun _ h9 => List.mem_cons_of_mem _ (List.mem_append_right _ h9)) hown hK hP 0 rfl rfl 3 (by decide) (hts (.fieldLink RX0 21 "ClayFort$Land" "guns" "I") (List.mem_of_getElem? (i := 1) rfl)) (fun _ h9 => h9) rfl dX0_removePost_2 ?_
  refine lv_iconst (v := (iI (((1 : Nat) : Int)))) hx hb dX0_removePost_5 rfl ?_
  refine r_isub (z := ((guns - 1 : Nat) : Int)) hx hb dX0_removePost_6 (by omega) ?_
  refine va_put (D := (dC, dI)) (ci := 0) (v := .int (iI (((guns - 1 : Nat) : Int)))) (ty := .int) (C := RX0) (T := TX0) (N := 14) hx hb hts (fun _ h9 => List.mem_cons_of_mem _ (List.mem_append_right _ h9)) tyX0 tyX0_ok nmX0 hown hK hP hD hS 0 rfl rfl 3 (by decide) (hts (.fieldLink RX0 21 "ClayFort$Land" "guns" "I") (List.mem_of_getElem? (i := 1) rfl)) (fun _ h9 => h9) rfl (by decide +kernel) rfl rfl (Nat.le_of_ble_eq_true rfl) dX0_removePost_7 (fun H locs hP hD hS => ?_)
  have hP : va_P (dC, dI) vwCl [(hL, .inr (0, [.int (iI (((wide : Nat) : Int))), .int (iI (((high : Nat) : Int))), .int (iI (((cells : Nat) : Int))), .int (iI (((guns - 1 : Nat) : Int))), .int (iS (sil)), .long (lS (dug)), .long (lS (fc)), .long (lS (lc)), .ref aCl, .ref aCo, .ref aRo, .ref aKi, .ref aSt, .ref aRe])), (aCl, .inl (cI, 36, .inl (nF (clay)))), (aCo, .inl (cI, 36, .inl (nF (col)))), (aRo, .inl (cI, 36, .inl (nF (row)))), (aKi, .inl (cI, 5, .inl (nF (kind)))), (aSt, .inl (cI, 5, .inl (nF (stand)))), (aRe, .inl (cI, 5, .inl (nF (reach))))] H := hP
  have hD : va_D A [(hL, .inr (0, [.int (iI (((wide : Nat) : Int))), .int (iI (((high : Nat) : Int))), .int (iI (((cells : Nat) : Int))), .int (iI (((guns - 1 : Nat) : Int))), .int (iS (sil)), .long (lS (dug)), .long (lS (fc)), .long (lS (lc)), .ref aCl, .ref aCo, .ref aRo, .ref aKi, .ref aSt, .ref aRe])), (aCl, .inl (cI, 36, .inl (nF (clay)))), (aCo, .inl (cI, 36, .inl (nF (col)))), (aRo, .inl (cI, 36, .inl (nF (row)))), (aKi, .inl (cI, 5, .inl (nF (kind)))), (aSt, .inl (cI, 5, .inl (nF (stand)))), (aRe, .inl (cI, 5, .inl (nF (reach))))] := hD
  refine r_vret hx hb hlocks hP hD hS [0, 1, 2, 3, 4, 5, 6] () rfl rfl (by decide) hr ?_ dX0_removePost_10
  exact trivial
