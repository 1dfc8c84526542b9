section LC
variable {p : Program} {l : Launch} {e : Env} {s : State} {m : MethodId} {below : List Frame} {meth : Method} {c : Code} {A : Nat → Prop} {dC : Nat → ClassId} {dI : Nat → Nat → Nat} {cI cZ cS : ClassId} {hF aShs hL aCl aCo aRo aKi aSt aRe hW aOw aRt aCe aRc aRs s0 n0 s1 n1 s2 n2 s3 n3 hM mCl mKi mSt mRe mRc mRk mRs mRr mWf mWo mRo mRw mSz mLn mSh mHa : Nat} {b L t : Nat} {zs : Nat → Int} {Q : State → Prop} {H : Heap} {locs : List Loc} {ls : Array Slot}
set_option maxHeartbeats 4000000 in
set_option maxRecDepth 100000 in
/-- the law's loop: both objects answer alike, call by call -/
theorem law_loop (C0 : LwC p s m c A dC dI cI cZ cS b L zs) (hB384 : L ≤ 384) (KE : ∀ H locs ls, va_S A s.heap H locs → W p l e room_1 s m #[Value.ref b] below meth c H locs 40 1054 Q (F0 m 1366 ls [])) : ∀ (n t : Nat), L + 7 ≤ 6 * t + n → 6 * t ≤ L + 6 → ∀ (H : Heap) (locs : List Loc) (ls : Array Slot), JW s A (dC, dI) cI cZ cS hF aShs hL aCl aCo aRo aKi aSt aRe hW aOw aRt aCe aRc aRs s0 n0 s1 n1 s2 n2 s3 n3 hM mCl mKi mSt mRe mRc mRk mRs mRr mWf mWo mRo mRw mSz mLn mSh mHa H locs → lv_has ls 4 [(0, .ref b), (1, .ref hF), (2, .ref hM), (3, .int (iI ((6 * t : Nat) : Int)))] → W p l e room_1 s m #[Value.ref b] below meth c H locs 40 1054 Q (F0 m 18 ls []) := by
  obtain ⟨hC0, hN, hT, hK, hA, hX, hbl, hbA, hz⟩ := id C0
  obtain ⟨hx, hb, hml, hown, hts⟩ := id hC0
  intro n
  induction n with
  | zero =>
    intro t h1 h2
    exact absurd h1 (by omega)
  | succ n ih =>
    intro t h1 h2 H locs ls hJ hl
    have hS : va_S A s.heap H locs := by
      obtain ⟨_, _, _, _, _, _, _, _, _, _, _, _, _, _, _, _, _, _, _, _, _, _, _, _, _, _, _, _, _, _, _, _, _, _, _, _, _, _, _, _, _, _, _, -, -, -, -, -, hS⟩ := hJ
      exact hS
    refine lv_iload_n hx hb dL_law_18 rfl (lv_at hl 3 rfl) ?_
    refine lv_aload_n hx hb dL_law_19 rfl (lv_at hl 0 rfl) ?_
    refine va_slen hx hb hX hbl hbA hS dL_law_20 ?_
    refine r_eqi (show Int32.ofNat L = iI ((L : Nat) : Int) from rfl) ?_
    refine lv_bipush (v := iI 6) hx hb dL_law_21 (by decide +kernel) ?_
    refine r_isub (z := ((L : Nat) : Int) - 6) hx hb dL_law_23 rfl ?_
    refine r_icmp_gt (tgt := 1366) hx hb dL_law_24 (by decide) ⟨by omega, by omega⟩ ⟨by omega, by omega⟩ (fun q => ?_) (fun q => ?_)
    · exact KE H locs ls hS
    · have hB6 : 6 * t + 6 ≤ L := by omega
      refine lv_aload_n hx hb dL_law_27 rfl (lv_at hl 0 rfl) ?_
      refine lv_iload_n hx hb dL_law_28 rfl (lv_at hl 3 rfl) ?_
      refine r_sld (i := 6 * t) (z := zs (6 * t)) hx hb hX hbl hbA hS rfl (by omega) hB384 rfl dL_law_29 ?_
      refine lv_bipush (v := iI 63) hx hb dL_law_30 (by decide +kernel) ?_
      refine lv_iand hx hb dL_law_32 ?_
      obtain ⟨w, hw⟩ : ∃ w, w = (iI (zs (6 * t)) &&& iI 63).toInt := ⟨_, rfl⟩
      have hwi : InR w := by rw [hw]; exact i_in _
      refine r_eqi (y := iI w) (by rw [hw, iI_of]) ?_
      have K : ∀ H locs ls, JW s A (dC, dI) cI cZ cS hF aShs hL aCl aCo aRo aKi aSt aRe hW aOw aRt aCe aRc aRs s0 n0 s1 n1 s2 n2 s3 n3 hM mCl mKi mSt mRe mRc mRk mRs mRr mWf mWo mRo mRw mSz mLn mSh mHa H locs → lv_has ls 4 [(0, .ref b), (1, .ref hF), (2, .ref hM), (3, .int (iI ((6 * t : Nat) : Int)))] → W p l e room_1 s m #[Value.ref b] below meth c H locs 40 1054 Q (F0 m 1360 ls []) := fun H locs ls hJ hl => by
        refine lv_iinc (v := iI ((6 * (t + 1) : Nat) : Int)) (lv' := [(3, .int (iI ((6 * (t + 1) : Nat) : Int))), (0, .ref b), (1, .ref hF), (2, .ref hM)]) hx hb dL_law_1360 hl (k := 3) rfl ((iI_add _ _).trans (congrArg iI (by omega))) (by decide) rfl (fun ls hl => ?_)
        refine lv_goto (tgt := 18) hx hb dL_law_1363 (by decide) ?_
        exact ih (t + 1) (by omega) (by omega) H locs ls hJ (lv_sub hl [1, 2, 3, 0] rfl)
      by_cases w_0 : w = 0
      · refine r_tableIn (tgt := 200) hx hb dL_law_33 hwi (by omega) (by omega) (by rw [w_0]; rfl) (by decide) ?_
        exact law_0 C0 hB6 hB384 hJ hl K
      by_cases w_1 : w = 1
      · refine r_tableIn (tgt := 253) hx hb dL_law_33 hwi (by omega) (by omega) (by rw [w_1]; rfl) (by decide) ?_
        exact law_1 C0 hB6 hB384 hJ hl K
      by_cases w_2 : w = 2
      · refine r_tableIn (tgt := 286) hx hb dL_law_33 hwi (by omega) (by omega) (by rw [w_2]; rfl) (by decide) ?_
        exact law_2 C0 hB6 hB384 hJ hl K
      by_cases w_3 : w = 3
      · refine r_tableIn (tgt := 309) hx hb dL_law_33 hwi (by omega) (by omega) (by rw [w_3]; rfl) (by decide) ?_
        exact law_3 C0 hB6 hB384 hJ hl K
      by_cases w_4 : w = 4
      · refine r_tableIn (tgt := 342) hx hb dL_law_33 hwi (by omega) (by omega) (by rw [w_4]; rfl) (by decide) ?_
        exact law_4 C0 hB6 hB384 hJ hl K
      by_cases w_5 : w = 5
      · refine r_tableIn (tgt := 375) hx hb dL_law_33 hwi (by omega) (by omega) (by rw [w_5]; rfl) (by decide) ?_
        exact law_5 C0 hB6 hB384 hJ hl K
      by_cases w_6 : w = 6
      · refine r_tableIn (tgt := 424) hx hb dL_law_33 hwi (by omega) (by omega) (by rw [w_6]; rfl) (by decide) ?_
        exact law_6 C0 hB6 hB384 hJ hl K
      by_cases w_7 : w = 7
      · refine r_tableIn (tgt := 457) hx hb dL_law_33 hwi (by omega) (by omega) (by rw [w_7]; rfl) (by decide) ?_
        exact law_7 C0 hB6 hB384 hJ hl K
      by_cases w_8 : w = 8
      · refine r_tableIn (tgt := 481) hx hb dL_law_33 hwi (by omega) (by omega) (by rw [w_8]; rfl) (by decide) ?_
        exact law_8 C0 hB6 hB384 hJ hl K
      by_cases w_9 : w = 9
      · refine r_tableIn (tgt := 504) hx hb dL_law_33 hwi (by omega) (by omega) (by rw [w_9]; rfl) (by decide) ?_
        exact law_9 C0 hB6 hB384 hJ hl K
      by_cases w_10 : w = 10
      · refine r_tableIn (tgt := 537) hx hb dL_law_33 hwi (by omega) (by omega) (by rw [w_10]; rfl) (by decide) ?_
        exact law_10 C0 hB6 hB384 hJ hl K
      by_cases w_11 : w = 11
      · refine r_tableIn (tgt := 560) hx hb dL_law_33 hwi (by omega) (by omega) (by rw [w_11]; rfl) (by decide) ?_
        exact law_11 C0 hB6 hB384 hJ hl K
      by_cases w_12 : w = 12
      · refine r_tableIn (tgt := 573) hx hb dL_law_33 hwi (by omega) (by omega) (by rw [w_12]; rfl) (by decide) ?_
        exact law_12 C0 hB6 hB384 hJ hl K
      by_cases w_13 : w = 13
      · refine r_tableIn (tgt := 596) hx hb dL_law_33 hwi (by omega) (by omega) (by rw [w_13]; rfl) (by decide) ?_
        exact law_13 C0 hB6 hB384 hJ hl K
      by_cases w_14 : w = 14
      · refine r_tableIn (tgt := 609) hx hb dL_law_33 hwi (by omega) (by omega) (by rw [w_14]; rfl) (by decide) ?_
        exact law_14 C0 hB6 hB384 hJ hl K
      by_cases w_15 : w = 15
      · refine r_tableIn (tgt := 672) hx hb dL_law_33 hwi (by omega) (by omega) (by rw [w_15]; rfl) (by decide) ?_
        exact law_15 C0 hB6 hB384 hJ hl K
      by_cases w_16 : w = 16
      · refine r_tableIn (tgt := 705) hx hb dL_law_33 hwi (by omega) (by omega) (by rw [w_16]; rfl) (by decide) ?_
        exact law_16 C0 hB6 hB384 hJ hl K
      by_cases w_17 : w = 17
      · refine r_tableIn (tgt := 738) hx hb dL_law_33 hwi (by omega) (by omega) (by rw [w_17]; rfl) (by decide) ?_
        exact law_17 C0 hB6 hB384 hJ hl K
      by_cases w_18 : w = 18
      · refine r_tableIn (tgt := 761) hx hb dL_law_33 hwi (by omega) (by omega) (by rw [w_18]; rfl) (by decide) ?_
        exact law_18 C0 hB6 hB384 hJ hl K
      by_cases w_19 : w = 19
      · refine r_tableIn (tgt := 784) hx hb dL_law_33 hwi (by omega) (by omega) (by rw [w_19]; rfl) (by decide) ?_
        exact law_19 C0 hB6 hB384 hJ hl K
      by_cases w_20 : w = 20
      · refine r_tableIn (tgt := 807) hx hb dL_law_33 hwi (by omega) (by omega) (by rw [w_20]; rfl) (by decide) ?_
        exact law_20 C0 hB6 hB384 hJ hl K
      by_cases w_21 : w = 21
      · refine r_tableIn (tgt := 840) hx hb dL_law_33 hwi (by omega) (by omega) (by rw [w_21]; rfl) (by decide) ?_
        exact law_21 C0 hB6 hB384 hJ hl K
      by_cases w_22 : w = 22
      · refine r_tableIn (tgt := 889) hx hb dL_law_33 hwi (by omega) (by omega) (by rw [w_22]; rfl) (by decide) ?_
        exact law_22 C0 hB6 hB384 hJ hl K
      by_cases w_23 : w = 23
      · refine r_tableIn (tgt := 912) hx hb dL_law_33 hwi (by omega) (by omega) (by rw [w_23]; rfl) (by decide) ?_
        exact law_23 C0 hB6 hB384 hJ hl K
      by_cases w_24 : w = 24
      · refine r_tableIn (tgt := 935) hx hb dL_law_33 hwi (by omega) (by omega) (by rw [w_24]; rfl) (by decide) ?_
        exact law_24 C0 hB6 hB384 hJ hl K
      by_cases w_25 : w = 25
      · refine r_tableIn (tgt := 958) hx hb dL_law_33 hwi (by omega) (by omega) (by rw [w_25]; rfl) (by decide) ?_
        exact law_25 C0 hB6 hB384 hJ hl K
      by_cases w_26 : w = 26
      · refine r_tableIn (tgt := 982) hx hb dL_law_33 hwi (by omega) (by omega) (by rw [w_26]; rfl) (by decide) ?_
        exact law_26 C0 hB6 hB384 hJ hl K
      by_cases w_27 : w = 27
      · refine r_tableIn (tgt := 1016) hx hb dL_law_33 hwi (by omega) (by omega) (by rw [w_27]; rfl) (by decide) ?_
        exact law_27 C0 hB6 hB384 hJ hl K
      by_cases w_28 : w = 28
      · refine r_tableIn (tgt := 1059) hx hb dL_law_33 hwi (by omega) (by omega) (by rw [w_28]; rfl) (by decide) ?_
        exact law_28 C0 hB6 hB384 hJ hl K
      by_cases w_29 : w = 29
      · refine r_tableIn (tgt := 1082) hx hb dL_law_33 hwi (by omega) (by omega) (by rw [w_29]; rfl) (by decide) ?_
        exact law_29 C0 hB6 hB384 hJ hl K
      by_cases w_30 : w = 30
      · refine r_tableIn (tgt := 1125) hx hb dL_law_33 hwi (by omega) (by omega) (by rw [w_30]; rfl) (by decide) ?_
        exact law_30 C0 hB6 hB384 hJ hl K
      by_cases w_31 : w = 31
      · refine r_tableIn (tgt := 1169) hx hb dL_law_33 hwi (by omega) (by omega) (by rw [w_31]; rfl) (by decide) ?_
        exact law_31 C0 hB6 hB384 hJ hl K
      by_cases w_32 : w = 32
      · refine r_tableIn (tgt := 1232) hx hb dL_law_33 hwi (by omega) (by omega) (by rw [w_32]; rfl) (by decide) ?_
        exact law_32 C0 hB6 hB384 hJ hl K
      by_cases w_33 : w = 33
      · refine r_tableIn (tgt := 1255) hx hb dL_law_33 hwi (by omega) (by omega) (by rw [w_33]; rfl) (by decide) ?_
        exact law_33 C0 hB6 hB384 hJ hl K
      by_cases w_34 : w = 34
      · refine r_tableIn (tgt := 1278) hx hb dL_law_33 hwi (by omega) (by omega) (by rw [w_34]; rfl) (by decide) ?_
        exact law_34 C0 hB6 hB384 hJ hl K
      by_cases w_35 : w = 35
      · refine r_tableIn (tgt := 1311) hx hb dL_law_33 hwi (by omega) (by omega) (by rw [w_35]; rfl) (by decide) ?_
        exact law_35 C0 hB6 hB384 hJ hl K
      by_cases w_36 : w = 36
      · refine r_tableIn (tgt := 1324) hx hb dL_law_33 hwi (by omega) (by omega) (by rw [w_36]; rfl) (by decide) ?_
        exact law_36 C0 hB6 hB384 hJ hl K
      by_cases w_37 : w = 37
      · refine r_tableIn (tgt := 1337) hx hb dL_law_33 hwi (by omega) (by omega) (by rw [w_37]; rfl) (by decide) ?_
        exact law_37 C0 hB6 hB384 hJ hl K
      refine r_tableOut (tgt := 1360) hx hb dL_law_33 hwi (by omega) (by decide) ?_
      exact K _ _ _ hJ hl
end LC
