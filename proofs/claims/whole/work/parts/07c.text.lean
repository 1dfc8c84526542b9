set_option maxHeartbeats 4000000 in
set_option maxRecDepth 100000 in
theorem c_X2_goesOn (l : Launch) (dC : Nat → ClassId) (dI : Nat → Nat → Nat) (cI cZ cS : ClassId) (sz : Nat) (place : Nat) (code : Int) (wide : Nat) (high : Nat) (h0 : place < 60) (h1 : InR code) (h3 : wide ≤ 6 ∧ high ≤ 6) : Met l yX2_goesOn wsX2_goesOn ({ frames := 1, cells := 0, slots := 0, locals := 21 }) (va_Pc [.int (iI (((place : Nat) : Int))), .int (iI (code)), .int (iI (((wide : Nat) : Int))), .int (iI (((high : Nat) : Int)))] (preW (dC, dI) (tyL cI cZ cS) [] sz)) (va_Qi (fun (r : Int32) (u : (Bool)) => r = (iI (bz (u))) ∧ (u = true ↔ goT place code wide high)) (fun (u : (Bool)) t => va_P (dC, dI) vwCl [] t.heap ∧ va_D (va_A [] sz) []) (va_A [] sz)) 0 0 (va_A [] sz) := by
  refine Met.ofW (cc := cX2_goesOn) (maxL := 5) (ret := (some .boolean)) (by decide) rfl ?_
  intro p e s m args below meth c s₁ B hml hv
  obtain ⟨rfl, hsz, hP, hK, hD0, hN⟩ := hv
  have hx := B.exec
  have hb := B.bytes
  have hr := B.returns
  have hts := atoms_spec (ws := wsX2_goesOn) B.pre
  have hown : s.vm.findClass RX2 = some m.cls := findClass_of_methodNamed B.named
  have hlocks := B.notSynchronized
  subst hsz
  have hD := hD0.self (sz := s.heap.size)
  generalize hAe : va_A [] s.heap.size = A at hD ⊢
  have hA : ∀ q : Nat, s.heap.size ≤ q → A q := fun q h => by rw [← hAe]; exact Or.inr h
  have hS : va_S A s.heap s.heap [] := va_S.rf
  have hP : va_P (dC, dI) vwCl [] s.heap := hP
  have hC0 : CallFix p m c cX2_goesOn 5 s [.int (iI (((place : Nat) : Int))), .int (iI (code)), .int (iI (((wide : Nat) : Int))), .int (iI (((high : Nat) : Int)))].toArray wsX2_goesOn RX2 := ⟨hx, hb, hml, hown, hts⟩
  have hl := lv_entry [.int (iI (((place : Nat) : Int))), .int (iI (code)), .int (iI (((wide : Nat) : Int))), .int (iI (((high : Nat) : Int)))] (n := 5) (Nat.le_of_ble_eq_true rfl)
  rw [lg_entry_eq]
  generalize (lg_sl [.int (iI (((place : Nat) : Int))), .int (iI (code)), .int (iI (((wide : Nat) : Int))), .int (iI (((high : Nat) : Int)))] ++ List.replicate (5 - (lg_sl [.int (iI (((place : Nat) : Int))), .int (iI (code)), .int (iI (((wide : Nat) : Int))), .int (iI (((high : Nat) : Int)))]).length) Slot.unset).toArray = ls at hl ⊢
  have hl : lv_has ls 5 [(0, .int (iI (((place : Nat) : Int)))), (1, .int (iI (code))), (2, .int (iI (((wide : Nat) : Int)))), (3, .int (iI (((high : Nat) : Int))))] := hl
  have hwh : wide * high ≤ 36 := Nat.mul_le_mul h3.1 h3.2
  have hkz : -9 ≤ kindZ code ∧ kindZ code ≤ 2 := kindZ_b code
  refine lv_iload_n hx hb dX2_goesOn_0 rfl (lv_at hl 0 rfl) ?_
  refine r_if_ne (tgt := 16) hx hb dX2_goesOn_1 (by decide) ⟨by omega, by omega⟩ (fun c_1 => ?_) (fun c_1 => ?_)
  · refine lv_iload_n hx hb dX2_goesOn_16 rfl (lv_at hl 0 rfl) ?_
    refine lv_iconst (v := (iI (((3 : Nat) : Int)))) hx hb dX2_goesOn_17 rfl ?_
    refine r_icmp_ge (tgt := 39) hx hb dX2_goesOn_18 (by decide) ⟨by omega, by omega⟩ ⟨by omega, by omega⟩ (fun c_18 => ?_) (fun c_18 => ?_)
    · refine lv_iload_n hx hb dX2_goesOn_39 rfl (lv_at hl 0 rfl) ?_
      refine lv_iconst (v := (iI (((3 : Nat) : Int)))) hx hb dX2_goesOn_40 rfl ?_
      refine r_isub (z := (((place : Nat) : Int)) - (((3 : Nat) : Int))) hx hb dX2_goesOn_41 (rfl) ?_
      refine lv_iload_n hx hb dX2_goesOn_42 rfl (lv_at hl 2 rfl) ?_
      refine lv_iload_n hx hb dX2_goesOn_43 rfl (lv_at hl 3 rfl) ?_
      refine r_imul (z := ((wide * high : Nat) : Int)) hx hb dX2_goesOn_44 ((Int.natCast_mul _ _).symm) ?_
      refine r_isub (z := ((((place : Nat) : Int)) - (((3 : Nat) : Int))) - (((wide * high : Nat) : Int))) hx hb dX2_goesOn_45 (rfl) ?_
      refine lv_istore (lv' := [(4, .int (iI (((((place : Nat) : Int)) - (((3 : Nat) : Int))) - (((wide * high : Nat) : Int))))), (0, .int (iI (((place : Nat) : Int)))), (1, .int (iI (code))), (2, .int (iI (((wide : Nat) : Int)))), (3, .int (iI (((high : Nat) : Int))))]) hx hb dX2_goesOn_46 hl (by decide) rfl (fun ls hl => ?_)
      refine lv_iload hx hb dX2_goesOn_48 (lv_at hl 0 rfl) ?_
      refine r_if_ge (tgt := 63) hx hb dX2_goesOn_50 (by decide) ⟨by omega, by omega⟩ (fun c_50 => ?_) (fun c_50 => ?_)
      · refine lv_iload hx hb dX2_goesOn_63 (lv_at hl 0 rfl) ?_
        refine lv_bipush (v := (iI (((20 : Nat) : Int)))) hx hb dX2_goesOn_65 (by decide +kernel) ?_
        refine r_icmp_lt (tgt := 72) hx hb dX2_goesOn_67 (by decide) ⟨by omega, by omega⟩ ⟨by omega, by omega⟩ (fun c_67 => ?_) (fun c_67 => ?_)
        · have e_72_4 : ((((place : Nat) : Int)) - (((3 : Nat) : Int))) - (((wide * high : Nat) : Int)) = (((place - (3 + wide * high)) : Nat) : Int) := by omega
          rw [e_72_4] at hl
          refine lv_iload hx hb dX2_goesOn_72 (lv_at hl 0 rfl) ?_
          refine lv_iconst (v := (iI (((5 : Nat) : Int)))) hx hb dX2_goesOn_74 rfl ?_
          refine r_irem (z := ((((place - (3 + wide * high))) % (5) : Nat) : Int)) hx hb dX2_goesOn_75 ⟨by omega, by omega⟩ (by omega) ⟨by omega, by omega⟩ (by omega) ((Int.natCast_emod _ _).symm) ?_
          by_cases w_76_0 : ((((place - (3 + wide * high))) % (5) : Nat) : Int) = 0
          · refine r_tableIn (tgt := 108) hx hb dX2_goesOn_76 ⟨by omega, by omega⟩ (by omega) (by omega) (by first | (rw [w_76_0]; done) | (rw [w_76_0]; rfl)) (by decide) ?_
            refine lv_iload_n hx hb dX2_goesOn_108 rfl (lv_at hl 2 rfl) ?_
            refine lv_bipush (v := (iI (((59 : Nat) : Int)))) hx hb dX2_goesOn_109 (by decide +kernel) ?_
            refine r_icmp_ne (tgt := 118) hx hb dX2_goesOn_111 (by decide) ⟨by omega, by omega⟩ ⟨by omega, by omega⟩ (fun c_111 => ?_) (fun c_111 => ?_)
            · refine lv_iconst (v := (iI (((0 : Nat) : Int)))) hx hb dX2_goesOn_118 rfl ?_
              refine r_zret hx hb hlocks hP hD hS [] (false) rfl rfl (by decide) hr nar_0 ?_ dX2_goesOn_119
              first | exact ⟨rfl, go_4 0 (by omega) (by omega) (by omega) (by omega) (Iff.trans ⟨fun _ => by omega, fun _ => rfl⟩ gun_0)⟩ | exact ⟨rfl, go_4 0 (by omega) (by omega) (by omega) (by omega) (Iff.trans ⟨fun e => Bool.noConfusion e, fun e => by exfalso; omega⟩ gun_0)⟩
            · refine lv_iconst (v := (iI (((1 : Nat) : Int)))) hx hb dX2_goesOn_114 rfl ?_
              refine lv_goto (tgt := 119) hx hb dX2_goesOn_115 (by decide) ?_
              refine r_zret hx hb hlocks hP hD hS [] (true) rfl rfl (by decide) hr nar_1 ?_ dX2_goesOn_119
              first | exact ⟨rfl, go_4 0 (by omega) (by omega) (by omega) (by omega) (Iff.trans ⟨fun _ => by omega, fun _ => rfl⟩ gun_0)⟩ | exact ⟨rfl, go_4 0 (by omega) (by omega) (by omega) (by omega) (Iff.trans ⟨fun e => Bool.noConfusion e, fun e => by exfalso; omega⟩ gun_0)⟩
          by_cases w_76_1 : ((((place - (3 + wide * high))) % (5) : Nat) : Int) = 1
          · refine r_tableIn (tgt := 120) hx hb dX2_goesOn_76 ⟨by omega, by omega⟩ (by omega) (by omega) (by first | (rw [w_76_1]; done) | (rw [w_76_1]; rfl)) (by decide) ?_
            refine lv_iload_n hx hb dX2_goesOn_120 rfl (lv_at hl 2 rfl) ?_
            refine r_calli (wc := []) (wr := []) (va_runS (As := [.int (iI (code))]) (rest := []) hC0 (c_X2_kindOf l dC dI cI cZ cS _  code (by first | assumption | omega)) (va_cwS 1 hts gX2_goesOn_X2_kindOf rfl rfl rfl (by decide +kernel) ⟨Nat.le_of_ble_eq_true rfl, Nat.le_of_ble_eq_true rfl⟩) (r_preS hN hK hP hD [] rfl rfl (by decide) _) rfl rfl hl.1 rfl (lv_room (Nat.le_of_ble_eq_true rfl)) dX2_goesOn_121 ⟨Nat.le_of_ble_eq_true rfl, Nat.le_of_ble_eq_true rfl⟩) hP hD hS hA [] [] rfl rfl (by decide) (by decide) (fun r u H locs hw hP hD hS => ?_)
            obtain rfl := hw
            have hP : va_P (dC, dI) vwCl [] H := hP
            have hD : va_D A [] := hD
            refine r_w0 ?_
            refine lv_bipush (v := (iI ((-9)))) hx hb dX2_goesOn_124 (by decide +kernel) ?_
            refine r_icmp_eq (tgt := 133) hx hb dX2_goesOn_126 (by decide) ⟨by omega, by omega⟩ ⟨by omega, by omega⟩ (fun c_126 => ?_) (fun c_126 => ?_)
            · refine lv_iconst (v := (iI (((0 : Nat) : Int)))) hx hb dX2_goesOn_133 rfl ?_
              refine r_zret hx hb hlocks hP hD hS [] (false) rfl rfl (by decide) hr nar_0 ?_ dX2_goesOn_134
              first | exact ⟨rfl, go_4 1 (by omega) (by omega) (by omega) (by omega) (Iff.trans ⟨fun _ => by assumption, fun _ => rfl⟩ gun_1)⟩ | exact ⟨rfl, go_4 1 (by omega) (by omega) (by omega) (by omega) (Iff.trans ⟨fun e => Bool.noConfusion e, fun e => absurd (by assumption) e⟩ gun_1)⟩
            · refine lv_iconst (v := (iI (((1 : Nat) : Int)))) hx hb dX2_goesOn_129 rfl ?_
              refine lv_goto (tgt := 134) hx hb dX2_goesOn_130 (by decide) ?_
              refine r_zret hx hb hlocks hP hD hS [] (true) rfl rfl (by decide) hr nar_1 ?_ dX2_goesOn_134
              first | exact ⟨rfl, go_4 1 (by omega) (by omega) (by omega) (by omega) (Iff.trans ⟨fun _ => by assumption, fun _ => rfl⟩ gun_1)⟩ | exact ⟨rfl, go_4 1 (by omega) (by omega) (by omega) (by omega) (Iff.trans ⟨fun e => Bool.noConfusion e, fun e => absurd (by assumption) e⟩ gun_1)⟩
          by_cases w_76_2 : ((((place - (3 + wide * high))) % (5) : Nat) : Int) = 2
          · refine r_tableIn (tgt := 135) hx hb dX2_goesOn_76 ⟨by omega, by omega⟩ (by omega) (by omega) (by first | (rw [w_76_2]; done) | (rw [w_76_2]; rfl)) (by decide) ?_
            refine lv_iload_n hx hb dX2_goesOn_135 rfl (lv_at hl 2 rfl) ?_
            refine lv_bipush (v := (iI (((48 : Nat) : Int)))) hx hb dX2_goesOn_136 (by decide +kernel) ?_
            refine r_isub (z := code - (((48 : Nat) : Int))) hx hb dX2_goesOn_138 (rfl) ?_
            refine r_eqi (figV_eq code) ?_
            have hfv := figV_in code
            refine lv_iload_n hx hb dX2_goesOn_139 rfl (lv_at hl 3 rfl) ?_
            refine lv_iconst (v := (iI (((1 : Nat) : Int)))) hx hb dX2_goesOn_140 rfl ?_
            refine r_isub (z := (((wide : Nat) : Int)) - (((1 : Nat) : Int))) hx hb dX2_goesOn_141 (rfl) ?_
            refine r_calli (wc := []) (wr := []) (va_runSN (As := [.int (iI ((figV code))), .int (iI (((((wide : Nat) : Int)) - (((1 : Nat) : Int)))))]) (rest := []) hC0 (c_X4_isWithin l dC dI cI cZ cS _  (figV code) ((((wide : Nat) : Int)) - (((1 : Nat) : Int))) (by first | assumption | omega) (by first | assumption | omega)) ⟨va_cnB 2 hts gX2_goesOn_X4_isWithin_n21 rfl rfl rfl hN.2.1 (hts (.initialized RX4) (List.mem_of_getElem? (i := 2) rfl)) (by decide +kernel) ⟨Nat.le_of_ble_eq_true rfl, Nat.le_of_ble_eq_true rfl⟩, hts (.static yX4_isWithin) (List.mem_of_getElem? (i := 1) rfl), trivial⟩ (r_preS hN hK hP hD [] rfl rfl (by decide) _) rfl rfl hl.1 rfl (lv_room (Nat.le_of_ble_eq_true rfl)) dX2_goesOn_142 ⟨Nat.le_of_ble_eq_true rfl, Nat.le_of_ble_eq_true rfl⟩) hP hD hS hA [] [] rfl rfl (by decide) (by decide) (fun r u H locs hw hP hD hS => ?_)
            obtain rfl := hw
            have hP : va_P (dC, dI) vwCl [] H := hP
            have hD : va_D A [] := hD
            refine r_w0 ?_
            refine r_zret hx hb hlocks hP hD hS [] (decide (0 ≤ (figV code) ∧ (figV code) ≤ ((((wide : Nat) : Int)) - (((1 : Nat) : Int))))) rfl rfl (by decide) hr (bz_nar _) ?_ dX2_goesOn_145
            exact ⟨rfl, go_4 2 (by omega) (by omega) (by omega) (by omega) ((dig_m h1 (by omega)).trans gun_2)⟩
          by_cases w_76_3 : ((((place - (3 + wide * high))) % (5) : Nat) : Int) = 3
          · refine r_tableIn (tgt := 146) hx hb dX2_goesOn_76 ⟨by omega, by omega⟩ (by omega) (by omega) (by first | (rw [w_76_3]; done) | (rw [w_76_3]; rfl)) (by decide) ?_
            refine lv_iload_n hx hb dX2_goesOn_146 rfl (lv_at hl 2 rfl) ?_
            refine lv_bipush (v := (iI (((48 : Nat) : Int)))) hx hb dX2_goesOn_147 (by decide +kernel) ?_
            refine r_isub (z := code - (((48 : Nat) : Int))) hx hb dX2_goesOn_149 (rfl) ?_
            refine r_eqi (figV_eq code) ?_
            have hfv := figV_in code
            refine lv_iload_n hx hb dX2_goesOn_150 rfl (lv_at hl 4 rfl) ?_
            refine lv_iconst (v := (iI (((1 : Nat) : Int)))) hx hb dX2_goesOn_151 rfl ?_
            refine r_isub (z := (((high : Nat) : Int)) - (((1 : Nat) : Int))) hx hb dX2_goesOn_152 (rfl) ?_
            refine r_calli (wc := []) (wr := []) (va_runSN (As := [.int (iI ((figV code))), .int (iI (((((high : Nat) : Int)) - (((1 : Nat) : Int)))))]) (rest := []) hC0 (c_X4_isWithin l dC dI cI cZ cS _  (figV code) ((((high : Nat) : Int)) - (((1 : Nat) : Int))) (by first | assumption | omega) (by first | assumption | omega)) ⟨va_cnB 2 hts gX2_goesOn_X4_isWithin_n21 rfl rfl rfl hN.2.1 (hts (.initialized RX4) (List.mem_of_getElem? (i := 2) rfl)) (by decide +kernel) ⟨Nat.le_of_ble_eq_true rfl, Nat.le_of_ble_eq_true rfl⟩, hts (.static yX4_isWithin) (List.mem_of_getElem? (i := 1) rfl), trivial⟩ (r_preS hN hK hP hD [] rfl rfl (by decide) _) rfl rfl hl.1 rfl (lv_room (Nat.le_of_ble_eq_true rfl)) dX2_goesOn_153 ⟨Nat.le_of_ble_eq_true rfl, Nat.le_of_ble_eq_true rfl⟩) hP hD hS hA [] [] rfl rfl (by decide) (by decide) (fun r u H locs hw hP hD hS => ?_)
            obtain rfl := hw
            have hP : va_P (dC, dI) vwCl [] H := hP
            have hD : va_D A [] := hD
            refine r_w0 ?_
            refine r_zret hx hb hlocks hP hD hS [] (decide (0 ≤ (figV code) ∧ (figV code) ≤ ((((high : Nat) : Int)) - (((1 : Nat) : Int))))) rfl rfl (by decide) hr (bz_nar _) ?_ dX2_goesOn_156
            exact ⟨rfl, go_4 3 (by omega) (by omega) (by omega) (by omega) ((dig_m h1 (by omega)).trans gun_3)⟩
          refine r_tableOut (tgt := 157) hx hb dX2_goesOn_76 ⟨by omega, by omega⟩ (by omega) (by decide) ?_
          refine lv_iload_n hx hb dX2_goesOn_157 rfl (lv_at hl 2 rfl) ?_
          refine lv_bipush (v := (iI (((48 : Nat) : Int)))) hx hb dX2_goesOn_158 (by decide +kernel) ?_
          refine r_isub (z := code - (((48 : Nat) : Int))) hx hb dX2_goesOn_160 (rfl) ?_
          refine r_eqi (figV_eq code) ?_
          have hfv := figV_in code
          refine lv_bipush (v := (iI (((9 : Nat) : Int)))) hx hb dX2_goesOn_161 (by decide +kernel) ?_
          refine r_calli (wc := []) (wr := []) (va_runSN (As := [.int (iI ((figV code))), .int (iI (9))]) (rest := []) hC0 (c_X4_isWithin l dC dI cI cZ cS _  (figV code) 9 (by first | assumption | omega) (by first | assumption | omega)) ⟨va_cnB 2 hts gX2_goesOn_X4_isWithin_n21 rfl rfl rfl hN.2.1 (hts (.initialized RX4) (List.mem_of_getElem? (i := 2) rfl)) (by decide +kernel) ⟨Nat.le_of_ble_eq_true rfl, Nat.le_of_ble_eq_true rfl⟩, hts (.static yX4_isWithin) (List.mem_of_getElem? (i := 1) rfl), trivial⟩ (r_preS hN hK hP hD [] rfl rfl (by decide) _) rfl rfl hl.1 rfl (lv_room (Nat.le_of_ble_eq_true rfl)) dX2_goesOn_163 ⟨Nat.le_of_ble_eq_true rfl, Nat.le_of_ble_eq_true rfl⟩) hP hD hS hA [] [] rfl rfl (by decide) (by decide) (fun r u H locs hw hP hD hS => ?_)
          obtain rfl := hw
          have hP : va_P (dC, dI) vwCl [] H := hP
          have hD : va_D A [] := hD
          refine r_w0 ?_
          refine r_zret hx hb hlocks hP hD hS [] (decide (0 ≤ (figV code) ∧ (figV code) ≤ 9)) rfl rfl (by decide) hr (bz_nar _) ?_ dX2_goesOn_166
          exact ⟨rfl, go_4 4 (by omega) (by omega) (by omega) (by omega) ((dig_9 h1).trans gun_4)⟩
        · refine lv_iconst (v := (iI (((0 : Nat) : Int)))) hx hb dX2_goesOn_70 rfl ?_
          refine r_zret hx hb hlocks hP hD hS [] (false) rfl rfl (by decide) hr nar_0 ?_ dX2_goesOn_71
          exact ⟨rfl, go_3 (by omega) (by omega)⟩
      · refine lv_iload_n hx hb dX2_goesOn_53 rfl (lv_at hl 2 rfl) ?_
        refine lv_bipush (v := (iI (((48 : Nat) : Int)))) hx hb dX2_goesOn_54 (by decide +kernel) ?_
        refine r_isub (z := code - (((48 : Nat) : Int))) hx hb dX2_goesOn_56 (rfl) ?_
        refine r_eqi (figV_eq code) ?_
        have hfv := figV_in code
        refine lv_bipush (v := (iI (((9 : Nat) : Int)))) hx hb dX2_goesOn_57 (by decide +kernel) ?_
        refine r_calli (wc := []) (wr := []) (va_runSN (As := [.int (iI ((figV code))), .int (iI (9))]) (rest := []) hC0 (c_X4_isWithin l dC dI cI cZ cS _  (figV code) 9 (by first | assumption | omega) (by first | assumption | omega)) ⟨va_cnB 2 hts gX2_goesOn_X4_isWithin_n21 rfl rfl rfl hN.2.1 (hts (.initialized RX4) (List.mem_of_getElem? (i := 2) rfl)) (by decide +kernel) ⟨Nat.le_of_ble_eq_true rfl, Nat.le_of_ble_eq_true rfl⟩, hts (.static yX4_isWithin) (List.mem_of_getElem? (i := 1) rfl), trivial⟩ (r_preS hN hK hP hD [] rfl rfl (by decide) _) rfl rfl hl.1 rfl (lv_room (Nat.le_of_ble_eq_true rfl)) dX2_goesOn_59 ⟨Nat.le_of_ble_eq_true rfl, Nat.le_of_ble_eq_true rfl⟩) hP hD hS hA [] [] rfl rfl (by decide) (by decide) (fun r u H locs hw hP hD hS => ?_)
        obtain rfl := hw
        have hP : va_P (dC, dI) vwCl [] H := hP
        have hD : va_D A [] := hD
        refine r_w0 ?_
        refine r_zret hx hb hlocks hP hD hS [] (decide (0 ≤ (figV code) ∧ (figV code) ≤ 9)) rfl rfl (by decide) hr (bz_nar _) ?_ dX2_goesOn_62
        exact ⟨rfl, go_2 (by omega) (by omega) (dig_9 h1)⟩
    · refine lv_iload_n hx hb dX2_goesOn_21 rfl (lv_at hl 1 rfl) ?_
      refine lv_bipush (v := (iI (((50 : Nat) : Int)))) hx hb dX2_goesOn_22 (by decide +kernel) ?_
      refine r_icmp_lt (tgt := 37) hx hb dX2_goesOn_24 (by decide) ⟨by omega, by omega⟩ ⟨by omega, by omega⟩ (fun c_24 => ?_) (fun c_24 => ?_)
      · refine lv_iconst (v := (iI (((0 : Nat) : Int)))) hx hb dX2_goesOn_37 rfl ?_
        refine r_zret hx hb hlocks hP hD hS [] (false) rfl rfl (by decide) hr nar_0 ?_ dX2_goesOn_38
        first | exact ⟨rfl, go_1 (by omega) ⟨fun _ => ⟨by omega, by omega⟩, fun _ => rfl⟩⟩ | exact ⟨rfl, go_1 (by omega) ⟨fun e => Bool.noConfusion e, fun e => by exfalso; omega⟩⟩
      · refine lv_iload_n hx hb dX2_goesOn_27 rfl (lv_at hl 1 rfl) ?_
        refine lv_bipush (v := (iI (((54 : Nat) : Int)))) hx hb dX2_goesOn_28 (by decide +kernel) ?_
        refine r_icmp_gt (tgt := 37) hx hb dX2_goesOn_30 (by decide) ⟨by omega, by omega⟩ ⟨by omega, by omega⟩ (fun c_30 => ?_) (fun c_30 => ?_)
        · refine lv_iconst (v := (iI (((0 : Nat) : Int)))) hx hb dX2_goesOn_37 rfl ?_
          refine r_zret hx hb hlocks hP hD hS [] (false) rfl rfl (by decide) hr nar_0 ?_ dX2_goesOn_38
          first | exact ⟨rfl, go_1 (by omega) ⟨fun _ => ⟨by omega, by omega⟩, fun _ => rfl⟩⟩ | exact ⟨rfl, go_1 (by omega) ⟨fun e => Bool.noConfusion e, fun e => by exfalso; omega⟩⟩
        · refine lv_iconst (v := (iI (((1 : Nat) : Int)))) hx hb dX2_goesOn_33 rfl ?_
          refine lv_goto (tgt := 38) hx hb dX2_goesOn_34 (by decide) ?_
          refine r_zret hx hb hlocks hP hD hS [] (true) rfl rfl (by decide) hr nar_1 ?_ dX2_goesOn_38
          first | exact ⟨rfl, go_1 (by omega) ⟨fun _ => ⟨by omega, by omega⟩, fun _ => rfl⟩⟩ | exact ⟨rfl, go_1 (by omega) ⟨fun e => Bool.noConfusion e, fun e => by exfalso; omega⟩⟩
  · refine lv_iload_n hx hb dX2_goesOn_4 rfl (lv_at hl 1 rfl) ?_
    refine lv_bipush (v := (iI (((112 : Nat) : Int)))) hx hb dX2_goesOn_5 (by decide +kernel) ?_
    refine r_icmp_ne (tgt := 14) hx hb dX2_goesOn_7 (by decide) ⟨by omega, by omega⟩ ⟨by omega, by omega⟩ (fun c_7 => ?_) (fun c_7 => ?_)
    · refine lv_iconst (v := (iI (((0 : Nat) : Int)))) hx hb dX2_goesOn_14 rfl ?_
      refine r_zret hx hb hlocks hP hD hS [] (false) rfl rfl (by decide) hr nar_0 ?_ dX2_goesOn_15
      first | exact ⟨rfl, go_0 (by omega) ⟨fun _ => by omega, fun _ => rfl⟩⟩ | exact ⟨rfl, go_0 (by omega) ⟨fun e => Bool.noConfusion e, fun e => by exfalso; omega⟩⟩
    · refine lv_iconst (v := (iI (((1 : Nat) : Int)))) hx hb dX2_goesOn_10 rfl ?_
      refine lv_goto (tgt := 15) hx hb dX2_goesOn_11 (by decide) ?_
      refine r_zret hx hb hlocks hP hD hS [] (true) rfl rfl (by decide) hr nar_1 ?_ dX2_goesOn_15
      first | exact ⟨rfl, go_0 (by omega) ⟨fun _ => by omega, fun _ => rfl⟩⟩ | exact ⟨rfl, go_0 (by omega) ⟨fun e => Bool.noConfusion e, fun e => by exfalso; omega⟩⟩
set_option maxHeartbeats 4000000 in
set_option maxRecDepth 100000 in
theorem c_X2_firstFault (l : Launch) (dC : Nat → ClassId) (dI : Nat → Nat → Nat) (cI cZ cS : ClassId) (sz : Nat) (hS0 : Nat) (aN : Nat) (lane : Int) (len : Nat) (num : Nat → Int) (fr : Nat) (n1 : Nat) (hla : -1 ≤ lane ∧ lane ≤ 2) (hle : len ≤ 60) (hnb : ∀ k, -2147483648 ≤ num k ∧ num k < 2147483648) (h1 : fr + n1 ≤ 60) : Met l yX2_firstFault wsX2_firstFault ({ frames := 2, cells := 0, slots := 0, locals := 45 }) (va_Pc [.ref hS0, .int (iI (((fr : Nat) : Int))), .int (iI (((n1 : Nat) : Int)))] (preW (dC, dI) (tyL cI cZ cS) [(hS0, .inr (1, [.ref aN, .int (iI (lane)), .int (iI (((len : Nat) : Int)))])), (aN, .inl (cI, 60, .inl (zF (num))))] sz)) (va_Qi (fun (r : Int32) (u : (Int)) => r = (iI (u)) ∧ (ffR num fr n1 u)) (fun (u : (Int)) t => va_P (dC, dI) vwCl [(hS0, .inr (1, [.ref aN, .int (iI (lane)), .int (iI (((len : Nat) : Int)))])), (aN, .inl (cI, 60, .inl (zF (num))))] t.heap ∧ va_D (va_A [(hS0, .inr (1, [.ref aN, .int (iI (lane)), .int (iI (((len : Nat) : Int)))])), (aN, .inl (cI, 60, .inl (zF (num))))] sz) [(hS0, .inr (1, [.ref aN, .int (iI (lane)), .int (iI (((len : Nat) : Int)))])), (aN, .inl (cI, 60, .inl (zF (num))))]) (va_A [(hS0, .inr (1, [.ref aN, .int (iI (lane)), .int (iI (((len : Nat) : Int)))])), (aN, .inl (cI, 60, .inl (zF (num))))] sz)) 0 0 (va_A [(hS0, .inr (1, [.ref aN, .int (iI (lane)), .int (iI (((len : Nat) : Int)))])), (aN, .inl (cI, 60, .inl (zF (num))))] sz) := by
  refine Met.ofW (cc := cX2_firstFault) (maxL := 7) (ret := (some .int)) (by decide) rfl ?_
  intro p e s m args below meth c s₁ B hml hv
  obtain ⟨rfl, hsz, hP, hK, hD0, hN⟩ := hv
  have hx := B.exec
  have hb := B.bytes
  have hr := B.returns
  have hts := atoms_spec (ws := wsX2_firstFault) B.pre
  have hown : s.vm.findClass RX2 = some m.cls := findClass_of_methodNamed B.named
  have hlocks := B.notSynchronized
  subst hsz
  have hD := hD0.self (sz := s.heap.size)
  generalize hAe : va_A [(hS0, .inr (1, [.ref aN, .int (iI (lane)), .int (iI (((len : Nat) : Int)))])), (aN, .inl (cI, 60, .inl (zF (num))))] s.heap.size = A at hD ⊢
  have hA : ∀ q : Nat, s.heap.size ≤ q → A q := fun q h => by rw [← hAe]; exact Or.inr h
  have hS : va_S A s.heap s.heap [] := va_S.rf
  have hP : va_P (dC, dI) vwCl [(hS0, .inr (1, [.ref aN, .int (iI (lane)), .int (iI (((len : Nat) : Int)))])), (aN, .inl (cI, 60, .inl (zF (num))))] s.heap := hP
  have hC0 : CallFix p m c cX2_firstFault 7 s [.ref hS0, .int (iI (((fr : Nat) : Int))), .int (iI (((n1 : Nat) : Int)))].toArray wsX2_firstFault RX2 := ⟨hx, hb, hml, hown, hts⟩
  have hl := lv_entry [.ref hS0, .int (iI (((fr : Nat) : Int))), .int (iI (((n1 : Nat) : Int)))] (n := 7) (Nat.le_of_ble_eq_true rfl)
  rw [lg_entry_eq]
  generalize (lg_sl [.ref hS0, .int (iI (((fr : Nat) : Int))), .int (iI (((n1 : Nat) : Int)))] ++ List.replicate (7 - (lg_sl [.ref hS0, .int (iI (((fr : Nat) : Int))), .int (iI (((n1 : Nat) : Int)))]).length) Slot.unset).toArray = ls at hl ⊢
  have hl : lv_has ls 7 [(0, .ref hS0), (1, .int (iI (((fr : Nat) : Int)))), (2, .int (iI (((n1 : Nat) : Int))))] := hl
  refine lv_iconst (v := (iI (((0 : Nat) : Int)))) hx hb dX2_firstFault_0 rfl ?_
  refine lv_istore_n (lv' := [(3, .int (iI (((0 : Nat) : Int)))), (0, .ref hS0), (1, .int (iI (((fr : Nat) : Int)))), (2, .int (iI (((n1 : Nat) : Int))))]) hx hb dX2_firstFault_1 rfl hl (by decide) rfl (fun ls hl => ?_)
  refine lv_iconst (v := (iI (((0 : Nat) : Int)))) hx hb dX2_firstFault_2 rfl ?_
  refine lv_istore (lv' := [(4, .int (iI (((0 : Nat) : Int)))), (3, .int (iI (((0 : Nat) : Int)))), (0, .ref hS0), (1, .int (iI (((fr : Nat) : Int)))), (2, .int (iI (((n1 : Nat) : Int))))]) hx hb dX2_firstFault_3 hl (by decide) rfl (fun ls hl => ?_)
  refine lv_iconst (v := (iI (((0 : Nat) : Int)))) hx hb dX2_firstFault_5 rfl ?_
  refine lv_istore (lv' := [(5, .int (iI (((0 : Nat) : Int)))), (4, .int (iI (((0 : Nat) : Int)))), (3, .int (iI (((0 : Nat) : Int)))), (0, .ref hS0), (1, .int (iI (((fr : Nat) : Int)))), (2, .int (iI (((n1 : Nat) : Int))))]) hx hb dX2_firstFault_6 hl (by decide) rfl (fun ls hl => ?_)
  refine r_loop (fun n ls H locs => ∃ (p : Nat) (w : Nat) (h : Nat), (n1 - p) < n ∧ (p ≤ n1) ∧ (∀ j, j < p → goP num fr j) ∧ ((2 ≤ p → w = tW num fr) ∧ (p < 2 → w = 0) ∧ w ≤ 6) ∧ ((3 ≤ p → h = tH num fr) ∧ (p < 3 → h = 0) ∧ h ≤ 6) ∧ va_P (dC, dI) vwCl [(hS0, .inr (1, [.ref aN, .int (iI (lane)), .int (iI (((len : Nat) : Int)))])), (aN, .inl (cI, 60, .inl (zF (num))))] H ∧ va_D A [(hS0, .inr (1, [.ref aN, .int (iI (lane)), .int (iI (((len : Nat) : Int)))])), (aN, .inl (cI, 60, .inl (zF (num))))] ∧ va_S A s.heap H locs ∧ lv_has ls 7 [(0, .ref hS0), (1, .int (iI (((fr : Nat) : Int)))), (2, .int (iI (((n1 : Nat) : Int)))), (3, .int (iI (((w : Nat) : Int)))), (4, .int (iI (((h : Nat) : Int)))), (5, .int (iI (((p : Nat) : Int))))]) ?_ (fun ls H locs hJ => by obtain ⟨p, w, h, h0, -⟩ := hJ; exact absurd h0 (Nat.not_lt_zero _)) ((n1 - 0) + 1) ⟨0, 0, 0, Nat.lt_succ_self _, Nat.zero_le _, fun j hj => absurd hj (Nat.not_lt_zero _), ⟨fun q => by omega, fun _ => rfl, by omega⟩, ⟨fun q => by omega, fun _ => rfl, by omega⟩, hP, hD, hS, lv_sub hl [3, 4, 5, 2, 1, 0] rfl⟩
  intro n ih8 ls H locs hJ
  obtain ⟨p, w, h, hm8, hp, hall, hw, hh, hP, hD, hS, hl⟩ := hJ
  refine lv_iload hx hb dX2_firstFault_8 (lv_at hl 5 rfl) ?_
  refine lv_iload_n hx hb dX2_firstFault_10 rfl (lv_at hl 2 rfl) ?_
  refine r_icmp_ge (tgt := 72) hx hb dX2_firstFault_11 (by decide) ⟨by omega, by omega⟩ ⟨by omega, by omega⟩ (fun c_11 => ?_) (fun c_11 => ?_)
  · have ep : p = n1 := by omega
    have hwh : w * h ≤ 36 := Nat.mul_le_mul hw.2.2 hh.2.2
    have hA : 3 ≤ n1 → tA num fr = 3 + w * h := fun q => by rw [hw.1 (by omega), hh.1 (by omega)]; rfl
    refine lv_iload_n hx hb dX2_firstFault_72 rfl (lv_at hl 2 rfl) ?_
    refine lv_iconst (v := (iI (((3 : Nat) : Int)))) hx hb dX2_firstFault_73 rfl ?_
    refine r_isub (z := (((n1 : Nat) : Int)) - (((3 : Nat) : Int))) hx hb dX2_firstFault_74 (rfl) ?_
    refine lv_iload_n hx hb dX2_firstFault_75 rfl (lv_at hl 3 rfl) ?_
    refine lv_iload hx hb dX2_firstFault_76 (lv_at hl 4 rfl) ?_
    refine r_imul (z := ((w * h : Nat) : Int)) hx hb dX2_firstFault_78 ((Int.natCast_mul _ _).symm) ?_
    refine r_isub (z := ((((n1 : Nat) : Int)) - (((3 : Nat) : Int))) - (((w * h : Nat) : Int))) hx hb dX2_firstFault_79 (rfl) ?_
    refine lv_istore (lv' := [(5, .int (iI (((((n1 : Nat) : Int)) - (((3 : Nat) : Int))) - (((w * h : Nat) : Int))))), (0, .ref hS0), (1, .int (iI (((fr : Nat) : Int)))), (2, .int (iI (((n1 : Nat) : Int)))), (3, .int (iI (((w : Nat) : Int)))), (4, .int (iI (((h : Nat) : Int))))]) hx hb dX2_firstFault_80 hl (by decide) rfl (fun ls hl => ?_)
    refine lv_iload hx hb dX2_firstFault_82 (lv_at hl 0 rfl) ?_
    refine r_if_le (tgt := 99) hx hb dX2_firstFault_84 (by decide) ⟨by omega, by omega⟩ (fun c_84 => ?_) (fun c_84 => ?_)
    · refine lv_iload_n hx hb dX2_firstFault_99 rfl (lv_at hl 3 rfl) ?_
      refine r_iret hx hb hlocks hP hD hS [0, 1] (((n1 : Nat) : Int)) rfl rfl (by decide) hr ?_ dX2_firstFault_100
      first | exact ⟨rfl, Or.inl ⟨rfl, ⟨by omega, by have := hA (by omega); omega, by have := hA (by omega); omega⟩, fun j hj => hall j (by omega)⟩⟩ | exact ⟨rfl, ff_end (fun j hj => hall j (by omega)) (fun q => by have q1 := q.1; have q2 := q.2.1; have q3 := q.2.2; have := hA q1; omega)⟩
    · refine lv_iload hx hb dX2_firstFault_87 (lv_at hl 0 rfl) ?_
      refine lv_iconst (v := (iI (((5 : Nat) : Int)))) hx hb dX2_firstFault_89 rfl ?_
      refine r_irem (z := (((((n1 : Nat) : Int)) - (((3 : Nat) : Int))) - (((w * h : Nat) : Int))) % (((5 : Nat) : Int))) hx hb dX2_firstFault_90 ⟨by omega, by omega⟩ (by omega) ⟨by omega, by omega⟩ (by omega) (rfl) ?_
      refine r_if_ne (tgt := 99) hx hb dX2_firstFault_91 (by decide) ⟨by omega, by omega⟩ (fun c_91 => ?_) (fun c_91 => ?_)
      · refine lv_iload_n hx hb dX2_firstFault_99 rfl (lv_at hl 3 rfl) ?_
        refine r_iret hx hb hlocks hP hD hS [0, 1] (((n1 : Nat) : Int)) rfl rfl (by decide) hr ?_ dX2_firstFault_100
        first | exact ⟨rfl, Or.inl ⟨rfl, ⟨by omega, by have := hA (by omega); omega, by have := hA (by omega); omega⟩, fun j hj => hall j (by omega)⟩⟩ | exact ⟨rfl, ff_end (fun j hj => hall j (by omega)) (fun q => by have q1 := q.1; have q2 := q.2.1; have q3 := q.2.2; have := hA q1; omega)⟩
      · refine lv_bipush (v := (iI ((-9)))) hx hb dX2_firstFault_94 (by decide +kernel) ?_
        refine lv_goto (tgt := 100) hx hb dX2_firstFault_96 (by decide) ?_
        refine r_iret hx hb hlocks hP hD hS [0, 1] ((-9)) rfl rfl (by decide) hr ?_ dX2_firstFault_100
        first | exact ⟨rfl, Or.inl ⟨rfl, ⟨by omega, by have := hA (by omega); omega, by have := hA (by omega); omega⟩, fun j hj => hall j (by omega)⟩⟩ | exact ⟨rfl, ff_end (fun j hj => hall j (by omega)) (fun q => by have q1 := q.1; have q2 := q.2.1; have q3 := q.2.2; have := hA q1; omega)⟩
  · refine lv_aload_n hx hb dX2_firstFault_14 rfl (lv_at hl 0 rfl) ?_
    refine va_get (D := (dC, dI)) (ci := 1) (v := .ref aN) (C := RX1) (T := TX1) (N := 3) hx hb hts (fun _ h9 => List.mem_cons_of_mem _ (List.mem_append_right _ h9)) hown hK hP 0 rfl rfl 0 (by decide) (hts (.fieldLink RX2 9 "ClayFort$Sheet" "numbers" "[I") (List.mem_of_getElem? (i := 1) rfl)) (fun _ h9 => h9) rfl dX2_firstFault_15 ?_
    refine lv_iload_n hx hb dX2_firstFault_18 rfl (lv_at hl 1 rfl) ?_
    refine lv_iload hx hb dX2_firstFault_19 (lv_at hl 5 rfl) ?_
    refine r_iadd (z := ((fr + p : Nat) : Int)) hx hb dX2_firstFault_21 ((Int.natCast_add _ _).symm) ?_
    refine r_ald_i_z hx hb hK hP 1 0 (fr + p) rfl rfl (rfl) (by omega) (Nat.le_of_ble_eq_true rfl) dX2_firstFault_22 ?_
    have b_22 := hnb (fr + p)
    refine lv_istore (lv' := [(6, .int (iI (num (fr + p)))), (0, .ref hS0), (1, .int (iI (((fr : Nat) : Int)))), (2, .int (iI (((n1 : Nat) : Int)))), (3, .int (iI (((w : Nat) : Int)))), (4, .int (iI (((h : Nat) : Int)))), (5, .int (iI (((p : Nat) : Int))))]) hx hb dX2_firstFault_23 hl (by decide) rfl (fun ls hl => ?_)
    refine lv_iload hx hb dX2_firstFault_25 (lv_at hl 6 rfl) ?_
    refine lv_iload hx hb dX2_firstFault_27 (lv_at hl 0 rfl) ?_
    refine lv_iload_n hx hb dX2_firstFault_29 rfl (lv_at hl 4 rfl) ?_
    refine lv_iload hx hb dX2_firstFault_30 (lv_at hl 5 rfl) ?_
    refine r_calli (wc := []) (wr := [(hS0, .inr (1, [.ref aN, .int (iI (lane)), .int (iI (((len : Nat) : Int)))])), (aN, .inl (cI, 60, .inl (zF (num))))]) (va_runS (As := [.int (iI (((p : Nat) : Int))), .int (iI ((num (fr + p)))), .int (iI (((w : Nat) : Int))), .int (iI (((h : Nat) : Int)))]) (rest := []) hC0 (c_X2_goesOn l dC dI cI cZ cS _  p (num (fr + p)) w h (by first | assumption | omega) (by first | assumption | omega) (by first | assumption | omega)) (va_cwS 4 hts gX2_firstFault_X2_goesOn rfl rfl rfl (by decide +kernel) ⟨Nat.le_of_ble_eq_true rfl, Nat.le_of_ble_eq_true rfl⟩) (r_preS hN hK hP hD [] rfl rfl (by decide) _) rfl rfl hl.1 rfl (lv_room (Nat.le_of_ble_eq_true rfl)) dX2_firstFault_32 ⟨Nat.le_of_ble_eq_true rfl, Nat.le_of_ble_eq_true rfl⟩) hP hD hS hA [] [0, 1] rfl rfl (by decide) (by decide) (fun r u H locs hw hP hD hS => ?_)
    obtain ⟨gd_32, rfl⟩ : ∃ z, z = u := ⟨_, rfl⟩
    try dsimp only at hw
    obtain ⟨rfl, q_32_0⟩ := hw
    have hP : va_P (dC, dI) vwCl [(hS0, .inr (1, [.ref aN, .int (iI (lane)), .int (iI (((len : Nat) : Int)))])), (aN, .inl (cI, 60, .inl (zF (num))))] H := hP
    have hD : va_D A [(hS0, .inr (1, [.ref aN, .int (iI (lane)), .int (iI (((len : Nat) : Int)))])), (aN, .inl (cI, 60, .inl (zF (num))))] := hD
    refine r_w0 ?_
    have hTP : gd_32 = true ↔ goP num fr p := q_32_0.trans (goT_P (if q : p < 3 then Or.inl q else Or.inr ⟨hw.1 (by omega), hh.1 (by omega)⟩))
    refine r_if_ne_b (tgt := 41) hx hb dX2_firstFault_35 (by decide) (fun c_35 => ?_) (fun c_35 => ?_)
    · have hgo : goP num fr p := hTP.mp c_35
      refine lv_iload hx hb dX2_firstFault_41 (lv_at hl 6 rfl) ?_
      refine lv_iconst (v := (iI (((1 : Nat) : Int)))) hx hb dX2_firstFault_43 rfl ?_
      refine r_icmp_ne (tgt := 53) hx hb dX2_firstFault_44 (by decide) ⟨by omega, by omega⟩ ⟨by omega, by omega⟩ (fun c_44 => ?_) (fun c_44 => ?_)
      · refine lv_iload hx hb dX2_firstFault_53 (lv_at hl 6 rfl) ?_
        refine lv_iconst (v := (iI (((2 : Nat) : Int)))) hx hb dX2_firstFault_55 rfl ?_
        refine r_icmp_ne (tgt := 66) hx hb dX2_firstFault_56 (by decide) ⟨by omega, by omega⟩ ⟨by omega, by omega⟩ (fun c_56 => ?_) (fun c_56 => ?_)
        · refine lv_iinc (v := (iI (((p + 1 : Nat) : Int)))) (lv' := [(5, .int (iI (((p + 1 : Nat) : Int)))), (6, .int (iI (num (fr + p)))), (0, .ref hS0), (1, .int (iI (((fr : Nat) : Int)))), (2, .int (iI (((n1 : Nat) : Int)))), (3, .int (iI (((w : Nat) : Int)))), (4, .int (iI (((h : Nat) : Int))))]) hx hb dX2_firstFault_66 hl (k := 6) rfl ((iI_add _ _).trans rfl) (by decide) rfl (fun ls hl => ?_)
          refine lv_goto (tgt := 8) hx hb dX2_firstFault_69 (by decide) ?_
          exact ih8 _ _ _ ⟨p + 1, w, h, by omega, by omega, fun j hj => if q : j = p then (by rw [q]; exact hgo) else hall j (by omega), by refine ⟨fun q => ?_, fun q => ?_, by omega⟩ <;> first | rfl | (exfalso; omega) | exact hw.1 (by omega) | exact hw.2.1 (by omega), by refine ⟨fun q => ?_, fun q => ?_, by omega⟩ <;> first | rfl | (exfalso; omega) | exact hh.1 (by omega) | exact hh.2.1 (by omega), hP, hD, hS, lv_sub hl [2, 3, 4, 5, 6, 0] rfl⟩
        · refine lv_iload hx hb dX2_firstFault_59 (lv_at hl 0 rfl) ?_
          refine lv_bipush (v := (iI (((48 : Nat) : Int)))) hx hb dX2_firstFault_61 (by decide +kernel) ?_
          refine r_isub (z := (num (fr + p)) - (((48 : Nat) : Int))) hx hb dX2_firstFault_63 (rfl) ?_
          refine r_eqi (congrArg iI (show (num (fr + p)) - (((48 : Nat) : Int)) = (((tH num fr) : Nat) : Int) from by have q := hgo.2.1 (by omega); have e1 : p = 2 := (by omega); subst e1; exact (Int.toNat_of_nonneg (by omega)).symm)) ?_
          have hH6 : tH num fr ≤ 6 := by have q := hgo.2.1 (by omega); have e1 : p = 2 := (by omega); subst e1; unfold tH; omega
          refine lv_istore (lv' := [(4, .int (iI ((((tH num fr) : Nat) : Int)))), (6, .int (iI (num (fr + p)))), (0, .ref hS0), (1, .int (iI (((fr : Nat) : Int)))), (2, .int (iI (((n1 : Nat) : Int)))), (3, .int (iI (((w : Nat) : Int)))), (5, .int (iI (((p : Nat) : Int))))]) hx hb dX2_firstFault_64 hl (by decide) rfl (fun ls hl => ?_)
          refine lv_iinc (v := (iI (((p + 1 : Nat) : Int)))) (lv' := [(5, .int (iI (((p + 1 : Nat) : Int)))), (4, .int (iI ((((tH num fr) : Nat) : Int)))), (6, .int (iI (num (fr + p)))), (0, .ref hS0), (1, .int (iI (((fr : Nat) : Int)))), (2, .int (iI (((n1 : Nat) : Int)))), (3, .int (iI (((w : Nat) : Int))))]) hx hb dX2_firstFault_66 hl (k := 6) rfl ((iI_add _ _).trans rfl) (by decide) rfl (fun ls hl => ?_)
          refine lv_goto (tgt := 8) hx hb dX2_firstFault_69 (by decide) ?_
          exact ih8 _ _ _ ⟨p + 1, w, (tH num fr), by omega, by omega, fun j hj => if q : j = p then (by rw [q]; exact hgo) else hall j (by omega), by refine ⟨fun q => ?_, fun q => ?_, by omega⟩ <;> first | rfl | (exfalso; omega) | exact hw.1 (by omega) | exact hw.2.1 (by omega), by refine ⟨fun q => ?_, fun q => ?_, by omega⟩ <;> first | rfl | (exfalso; omega) | exact hh.1 (by omega) | exact hh.2.1 (by omega), hP, hD, hS, lv_sub hl [3, 4, 5, 6, 1, 0] rfl⟩
      · refine lv_iload hx hb dX2_firstFault_47 (lv_at hl 0 rfl) ?_
        refine lv_bipush (v := (iI (((48 : Nat) : Int)))) hx hb dX2_firstFault_49 (by decide +kernel) ?_
        refine r_isub (z := (num (fr + p)) - (((48 : Nat) : Int))) hx hb dX2_firstFault_51 (rfl) ?_
        refine r_eqi (congrArg iI (show (num (fr + p)) - (((48 : Nat) : Int)) = (((tW num fr) : Nat) : Int) from by have q := hgo.2.1 (by omega); have e1 : p = 1 := (by omega); subst e1; exact (Int.toNat_of_nonneg (by omega)).symm)) ?_
        have hW6 : tW num fr ≤ 6 := by have q := hgo.2.1 (by omega); have e1 : p = 1 := (by omega); subst e1; unfold tW; omega
        refine lv_istore_n (lv' := [(3, .int (iI ((((tW num fr) : Nat) : Int)))), (6, .int (iI (num (fr + p)))), (0, .ref hS0), (1, .int (iI (((fr : Nat) : Int)))), (2, .int (iI (((n1 : Nat) : Int)))), (4, .int (iI (((h : Nat) : Int)))), (5, .int (iI (((p : Nat) : Int))))]) hx hb dX2_firstFault_52 rfl hl (by decide) rfl (fun ls hl => ?_)
        refine lv_iload hx hb dX2_firstFault_53 (lv_at hl 6 rfl) ?_
        refine lv_iconst (v := (iI (((2 : Nat) : Int)))) hx hb dX2_firstFault_55 rfl ?_
        refine r_icmp_ne (tgt := 66) hx hb dX2_firstFault_56 (by decide) ⟨by omega, by omega⟩ ⟨by omega, by omega⟩ (fun c_56 => ?_) (fun c_56 => ?_)
        · refine lv_iinc (v := (iI (((p + 1 : Nat) : Int)))) (lv' := [(5, .int (iI (((p + 1 : Nat) : Int)))), (3, .int (iI ((((tW num fr) : Nat) : Int)))), (6, .int (iI (num (fr + p)))), (0, .ref hS0), (1, .int (iI (((fr : Nat) : Int)))), (2, .int (iI (((n1 : Nat) : Int)))), (4, .int (iI (((h : Nat) : Int))))]) hx hb dX2_firstFault_66 hl (k := 6) rfl ((iI_add _ _).trans rfl) (by decide) rfl (fun ls hl => ?_)
          refine lv_goto (tgt := 8) hx hb dX2_firstFault_69 (by decide) ?_
          exact ih8 _ _ _ ⟨p + 1, (tW num fr), h, by omega, by omega, fun j hj => if q : j = p then (by rw [q]; exact hgo) else hall j (by omega), by refine ⟨fun q => ?_, fun q => ?_, by omega⟩ <;> first | rfl | (exfalso; omega) | exact hw.1 (by omega) | exact hw.2.1 (by omega), by refine ⟨fun q => ?_, fun q => ?_, by omega⟩ <;> first | rfl | (exfalso; omega) | exact hh.1 (by omega) | exact hh.2.1 (by omega), hP, hD, hS, lv_sub hl [3, 4, 5, 1, 6, 0] rfl⟩
        · refine lv_iload hx hb dX2_firstFault_59 (lv_at hl 1 rfl) ?_
          refine lv_bipush (v := (iI (((48 : Nat) : Int)))) hx hb dX2_firstFault_61 (by decide +kernel) ?_
          refine r_isub (z := (num (fr + p)) - (((48 : Nat) : Int))) hx hb dX2_firstFault_63 (rfl) ?_
          refine r_eqi (congrArg iI (show (num (fr + p)) - (((48 : Nat) : Int)) = (((tH num fr) : Nat) : Int) from by have q := hgo.2.1 (by omega); have e1 : p = 2 := (by omega); subst e1; exact (Int.toNat_of_nonneg (by omega)).symm)) ?_
          have hH6 : tH num fr ≤ 6 := by have q := hgo.2.1 (by omega); have e1 : p = 2 := (by omega); subst e1; unfold tH; omega
          refine lv_istore (lv' := [(4, .int (iI ((((tH num fr) : Nat) : Int)))), (3, .int (iI ((((tW num fr) : Nat) : Int)))), (6, .int (iI (num (fr + p)))), (0, .ref hS0), (1, .int (iI (((fr : Nat) : Int)))), (2, .int (iI (((n1 : Nat) : Int)))), (5, .int (iI (((p : Nat) : Int))))]) hx hb dX2_firstFault_64 hl (by decide) rfl (fun ls hl => ?_)
          refine lv_iinc (v := (iI (((p + 1 : Nat) : Int)))) (lv' := [(5, .int (iI (((p + 1 : Nat) : Int)))), (4, .int (iI ((((tH num fr) : Nat) : Int)))), (3, .int (iI ((((tW num fr) : Nat) : Int)))), (6, .int (iI (num (fr + p)))), (0, .ref hS0), (1, .int (iI (((fr : Nat) : Int)))), (2, .int (iI (((n1 : Nat) : Int))))]) hx hb dX2_firstFault_66 hl (k := 6) rfl ((iI_add _ _).trans rfl) (by decide) rfl (fun ls hl => ?_)
          refine lv_goto (tgt := 8) hx hb dX2_firstFault_69 (by decide) ?_
          exact ih8 _ _ _ ⟨p + 1, (tW num fr), (tH num fr), by omega, by omega, fun j hj => if q : j = p then (by rw [q]; exact hgo) else hall j (by omega), by refine ⟨fun q => ?_, fun q => ?_, by omega⟩ <;> first | rfl | (exfalso; omega) | exact hw.1 (by omega) | exact hw.2.1 (by omega), by refine ⟨fun q => ?_, fun q => ?_, by omega⟩ <;> first | rfl | (exfalso; omega) | exact hh.1 (by omega) | exact hh.2.1 (by omega), hP, hD, hS, lv_sub hl [4, 5, 6, 2, 1, 0] rfl⟩
    · have hno : ¬ goP num fr p := fun q => by rw [hTP.mpr q] at c_35; cases c_35
      refine lv_iload hx hb dX2_firstFault_38 (lv_at hl 6 rfl) ?_
      refine r_iret hx hb hlocks hP hD hS [0, 1] (((p : Nat) : Int)) rfl rfl (by decide) hr ?_ dX2_firstFault_40
      exact ⟨rfl, ff_bad (by omega) hall hno⟩
