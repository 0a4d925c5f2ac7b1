/-- what Town makes -/
def wdX8 (cA : Nat → ClassId) (h : Nat) (u : (Nat → Nat)) : va_W := (h, .inr (8, [.ref (u 1), .ref (u 2), .ref (u 3), .ref (u 4), .ref (u 5), .ref (u 6), .ref (u 7), .ref (u 8), .ref (u 9), .ref (u 10), .ref (u 11), .ref (u 12), .ref (u 13), .ref (u 14), .ref (u 15), .int 0, .int 0, .int 0, .int 0, .int (1)])) :: (((((((((((((([(u 1, .inl (cA 0, 8, .inl (fun _ => 0)))] ++ [(u 2, .inl (cA 0, 8, .inl (fun _ => 0)))]) ++ [(u 3, .inl (cA 0, 8, .inl (fun _ => 0)))]) ++ [(u 4, .inl (cA 0, 8, .inl (fun _ => 0)))]) ++ [(u 5, .inl (cA 0, 8, .inl (fun _ => 0)))]) ++ [(u 6, .inl (cA 0, 8, .inl (fun _ => 0)))]) ++ [(u 7, .inl (cA 0, 10, .inl (fun _ => 0)))]) ++ [(u 8, .inl (cA 0, 10, .inl (fun _ => 0)))]) ++ [(u 9, .inl (cA 0, 10, .inl (fun _ => 0)))]) ++ [(u 10, .inl (cA 0, 10, .inl (fun _ => 0)))]) ++ [(u 11, .inl (cA 0, 10, .inl (fun _ => 0)))]) ++ [(u 12, .inl (cA 0, 10, .inl (fun _ => 0)))]) ++ [(u 13, .inl (cA 0, 64, .inl (fun _ => 0)))]) ++ [(u 14, .inl (cA 0, 18, .inl (fun _ => 0)))]) ++ [(u 15, .inl (cA 0, 4, .inl (upd (fun _ => 0) (Int32.toNatClampNeg 1) 1)))])
theorem mi_X8 : MthB yX8_init cX8_init 1 none 0 := ⟨List.mem_of_getElem? (i := 162) (by decide +kernel), List.mem_of_getElem? (i := 98) (by decide +kernel), ⟨by decide +kernel, by decide +kernel, by decide +kernel⟩, by decide⟩
set_option maxRecDepth 100000 in
set_option maxHeartbeats 4000000 in
theorem ini_X8 : Ini yX8_init cX8_init 1 1 15 194 8 20 wdX8 := by
  refine Ini.of (own := RX8) rfl (by decide +kernel) rfl (by decide) (fun cA h0 => ?_)
  refine in_ald dX8_init_0 ?_
  refine in_obj (gt_in (List.mem_of_getElem? (i := 163) (by decide +kernel)) rfl) dX8_init_1 (by decide) (by decide) ?_
  refine in_ald dX8_init_4 ?_
  refine in_bip (8) dX8_init_5 rfl ?_
  refine in_newI 8 rfl (by decide) (by decide) (Nat.le_of_ble_eq_true rfl) (Nat.le_of_ble_eq_true rfl) dX8_init_7 (fun q1 => ?_)
  refine in_putR (k := 0) ⟨RX8, TX8, 20, rfl, by decide, List.mem_of_getElem? (i := 164) (by decide +kernel), rfl, rfl⟩ rfl rfl (Nat.le_of_ble_eq_true rfl) dX8_init_9 ?_
  refine in_ald dX8_init_12 ?_
  refine in_bip (8) dX8_init_13 rfl ?_
  refine in_newI 8 rfl (by decide) (by decide) (Nat.le_of_ble_eq_true rfl) (Nat.le_of_ble_eq_true rfl) dX8_init_15 (fun q2 => ?_)
  refine in_putR (k := 1) ⟨RX8, TX8, 20, rfl, by decide, List.mem_of_getElem? (i := 167) (by decide +kernel), rfl, rfl⟩ rfl rfl (Nat.le_of_ble_eq_true rfl) dX8_init_17 ?_
  refine in_ald dX8_init_20 ?_
  refine in_bip (8) dX8_init_21 rfl ?_
  refine in_newI 8 rfl (by decide) (by decide) (Nat.le_of_ble_eq_true rfl) (Nat.le_of_ble_eq_true rfl) dX8_init_23 (fun q3 => ?_)
  refine in_putR (k := 2) ⟨RX8, TX8, 20, rfl, by decide, List.mem_of_getElem? (i := 170) (by decide +kernel), rfl, rfl⟩ rfl rfl (Nat.le_of_ble_eq_true rfl) dX8_init_25 ?_
  refine in_ald dX8_init_28 ?_
  refine in_bip (8) dX8_init_29 rfl ?_
  refine in_newI 8 rfl (by decide) (by decide) (Nat.le_of_ble_eq_true rfl) (Nat.le_of_ble_eq_true rfl) dX8_init_31 (fun q4 => ?_)
  refine in_putR (k := 3) ⟨RX8, TX8, 20, rfl, by decide, List.mem_of_getElem? (i := 172) (by decide +kernel), rfl, rfl⟩ rfl rfl (Nat.le_of_ble_eq_true rfl) dX8_init_33 ?_
  refine in_ald dX8_init_36 ?_
  refine in_bip (8) dX8_init_37 rfl ?_
  refine in_newI 8 rfl (by decide) (by decide) (Nat.le_of_ble_eq_true rfl) (Nat.le_of_ble_eq_true rfl) dX8_init_39 (fun q5 => ?_)
  refine in_putR (k := 4) ⟨RX8, TX8, 20, rfl, by decide, List.mem_of_getElem? (i := 174) (by decide +kernel), rfl, rfl⟩ rfl rfl (Nat.le_of_ble_eq_true rfl) dX8_init_41 ?_
  refine in_ald dX8_init_44 ?_
  refine in_bip (8) dX8_init_45 rfl ?_
  refine in_newI 8 rfl (by decide) (by decide) (Nat.le_of_ble_eq_true rfl) (Nat.le_of_ble_eq_true rfl) dX8_init_47 (fun q6 => ?_)
  refine in_putR (k := 5) ⟨RX8, TX8, 20, rfl, by decide, List.mem_of_getElem? (i := 175) (by decide +kernel), rfl, rfl⟩ rfl rfl (Nat.le_of_ble_eq_true rfl) dX8_init_49 ?_
  refine in_ald dX8_init_52 ?_
  refine in_bip (10) dX8_init_53 rfl ?_
  refine in_newI 10 rfl (by decide) (by decide) (Nat.le_of_ble_eq_true rfl) (Nat.le_of_ble_eq_true rfl) dX8_init_55 (fun q7 => ?_)
  refine in_putR (k := 6) ⟨RX8, TX8, 20, rfl, by decide, List.mem_of_getElem? (i := 177) (by decide +kernel), rfl, rfl⟩ rfl rfl (Nat.le_of_ble_eq_true rfl) dX8_init_57 ?_
  refine in_ald dX8_init_60 ?_
  refine in_bip (10) dX8_init_61 rfl ?_
  refine in_newI 10 rfl (by decide) (by decide) (Nat.le_of_ble_eq_true rfl) (Nat.le_of_ble_eq_true rfl) dX8_init_63 (fun q8 => ?_)
  refine in_putR (k := 7) ⟨RX8, TX8, 20, rfl, by decide, List.mem_of_getElem? (i := 183) (by decide +kernel), rfl, rfl⟩ rfl rfl (Nat.le_of_ble_eq_true rfl) dX8_init_65 ?_
  refine in_ald dX8_init_68 ?_
  refine in_bip (10) dX8_init_69 rfl ?_
  refine in_newI 10 rfl (by decide) (by decide) (Nat.le_of_ble_eq_true rfl) (Nat.le_of_ble_eq_true rfl) dX8_init_71 (fun q9 => ?_)
  refine in_putR (k := 8) ⟨RX8, TX8, 20, rfl, by decide, List.mem_of_getElem? (i := 186) (by decide +kernel), rfl, rfl⟩ rfl rfl (Nat.le_of_ble_eq_true rfl) dX8_init_73 ?_
  refine in_ald dX8_init_76 ?_
  refine in_bip (10) dX8_init_77 rfl ?_
  refine in_newI 10 rfl (by decide) (by decide) (Nat.le_of_ble_eq_true rfl) (Nat.le_of_ble_eq_true rfl) dX8_init_79 (fun q10 => ?_)
  refine in_putR (k := 9) ⟨RX8, TX8, 20, rfl, by decide, List.mem_of_getElem? (i := 192) (by decide +kernel), rfl, rfl⟩ rfl rfl (Nat.le_of_ble_eq_true rfl) dX8_init_81 ?_
  refine in_ald dX8_init_84 ?_
  refine in_bip (10) dX8_init_85 rfl ?_
  refine in_newI 10 rfl (by decide) (by decide) (Nat.le_of_ble_eq_true rfl) (Nat.le_of_ble_eq_true rfl) dX8_init_87 (fun q11 => ?_)
  refine in_putR (k := 10) ⟨RX8, TX8, 20, rfl, by decide, List.mem_of_getElem? (i := 195) (by decide +kernel), rfl, rfl⟩ rfl rfl (Nat.le_of_ble_eq_true rfl) dX8_init_89 ?_
  refine in_ald dX8_init_92 ?_
  refine in_bip (10) dX8_init_93 rfl ?_
  refine in_newI 10 rfl (by decide) (by decide) (Nat.le_of_ble_eq_true rfl) (Nat.le_of_ble_eq_true rfl) dX8_init_95 (fun q12 => ?_)
  refine in_putR (k := 11) ⟨RX8, TX8, 20, rfl, by decide, List.mem_of_getElem? (i := 198) (by decide +kernel), rfl, rfl⟩ rfl rfl (Nat.le_of_ble_eq_true rfl) dX8_init_97 ?_
  refine in_ald dX8_init_100 ?_
  refine in_bip (64) dX8_init_101 rfl ?_
  refine in_newI 64 rfl (by decide) (by decide) (Nat.le_of_ble_eq_true rfl) (Nat.le_of_ble_eq_true rfl) dX8_init_103 (fun q13 => ?_)
  refine in_putR (k := 12) ⟨RX8, TX8, 20, rfl, by decide, List.mem_of_getElem? (i := 200) (by decide +kernel), rfl, rfl⟩ rfl rfl (Nat.le_of_ble_eq_true rfl) dX8_init_105 ?_
  refine in_ald dX8_init_108 ?_
  refine in_bip (18) dX8_init_109 rfl ?_
  refine in_newI 18 rfl (by decide) (by decide) (Nat.le_of_ble_eq_true rfl) (Nat.le_of_ble_eq_true rfl) dX8_init_111 (fun q14 => ?_)
  refine in_putR (k := 13) ⟨RX8, TX8, 20, rfl, by decide, List.mem_of_getElem? (i := 202) (by decide +kernel), rfl, rfl⟩ rfl rfl (Nat.le_of_ble_eq_true rfl) dX8_init_113 ?_
  refine in_ald dX8_init_116 ?_
  refine in_ic (4) dX8_init_117 rfl ?_
  refine in_newI 4 rfl (by decide) (by decide) (Nat.le_of_ble_eq_true rfl) (Nat.le_of_ble_eq_true rfl) dX8_init_118 (fun q15 => ?_)
  refine in_putR (k := 14) ⟨RX8, TX8, 20, rfl, by decide, List.mem_of_getElem? (i := 203) (by decide +kernel), rfl, rfl⟩ rfl rfl (Nat.le_of_ble_eq_true rfl) dX8_init_120 ?_
  refine in_ald dX8_init_123 ?_
  refine in_getR (k := 14) (x := q15) fo_X8_54 rfl dX8_init_124 ?_
  refine in_ic (1) dX8_init_127 rfl ?_
  refine in_ic (1) dX8_init_128 rfl ?_
  refine in_iast (show ¬ ((1 : Int32) < 0 ∨ 4 ≤ Int32.toNatClampNeg 1) by decide) dX8_init_129 ?_
  refine in_ald dX8_init_130 ?_
  refine in_ic (1) dX8_init_131 rfl ?_
  refine in_putI (k := 19) fo_X8_57 fn_8_19 rfl rfl (Nat.le_of_ble_eq_true rfl) dX8_init_132 ?_
  exact in_ret dX8_init_135 ⟨(fun j => match j with | 1 => q1 | 2 => q2 | 3 => q3 | 4 => q4 | 5 => q5 | 6 => q6 | 7 => q7 | 8 => q8 | 9 => q9 | 10 => q10 | 11 => q11 | 12 => q12 | 13 => q13 | 14 => q14 | 15 => q15 | _ => 0), rfl⟩ (Nat.le_of_ble_eq_true rfl) (Nat.le_of_ble_eq_true rfl)
/-- what Days makes -/
def wdX0 (cA : Nat → ClassId) (h : Nat) (u : (Nat → Nat)) : va_W := (h, .inr (0, [.ref (u 1), .int 0, .int 0, .int 0, .int 0])) :: [(u 1, .inl (cA 0, 10, .inl (fun _ => 0)))]
theorem mi_X0 : MthB yX0_init cX0_init 1 none 0 := ⟨List.mem_of_getElem? (i := 434) (by decide +kernel), List.mem_of_getElem? (i := 105) (by decide +kernel), ⟨by decide +kernel, by decide +kernel, by decide +kernel⟩, by decide⟩
set_option maxRecDepth 100000 in
set_option maxHeartbeats 4000000 in
theorem ini_X0 : Ini yX0_init cX0_init 1 1 1 10 0 5 wdX0 := by
  refine Ini.of (own := RX0) rfl (by decide +kernel) rfl (by decide) (fun cA h0 => ?_)
  refine in_ald dX0_init_0 ?_
  refine in_obj (gt_in (List.mem_of_getElem? (i := 435) (by decide +kernel)) rfl) dX0_init_1 (by decide) (by decide) ?_
  refine in_ald dX0_init_4 ?_
  refine in_bip (10) dX0_init_5 rfl ?_
  refine in_newI 10 rfl (by decide) (by decide) (Nat.le_of_ble_eq_true rfl) (Nat.le_of_ble_eq_true rfl) dX0_init_7 (fun q1 => ?_)
  refine in_putR (k := 0) ⟨RX0, TX0, 5, rfl, by decide, List.mem_of_getElem? (i := 436) (by decide +kernel), rfl, rfl⟩ rfl rfl (Nat.le_of_ble_eq_true rfl) dX0_init_9 ?_
  exact in_ret dX0_init_12 ⟨(fun j => match j with | 1 => q1 | _ => 0), rfl⟩ (Nat.le_of_ble_eq_true rfl) (Nat.le_of_ble_eq_true rfl)
/-- what Rule makes -/
def wdX3 (cA : Nat → ClassId) (h : Nat) (u : (Nat → Nat)) : va_W := (h, .inr (3, [.ref (u 1), .ref (u 2), .int 0])) :: ([(u 1, .inl (cA 0, 40, .inl (fun _ => 0)))] ++ [(u 2, .inl (cA 0, 40, .inl (fun _ => 0)))])
theorem mi_X3 : MthB yX3_init cX3_init 1 none 0 := ⟨List.mem_of_getElem? (i := 286) (by decide +kernel), List.mem_of_getElem? (i := 100) (by decide +kernel), ⟨by decide +kernel, by decide +kernel, by decide +kernel⟩, by decide⟩
set_option maxRecDepth 100000 in
set_option maxHeartbeats 4000000 in
theorem ini_X3 : Ini yX3_init cX3_init 1 1 2 80 3 3 wdX3 := by
  refine Ini.of (own := RX3) rfl (by decide +kernel) rfl (by decide) (fun cA h0 => ?_)
  refine in_ald dX3_init_0 ?_
  refine in_obj (gt_in (List.mem_of_getElem? (i := 287) (by decide +kernel)) rfl) dX3_init_1 (by decide) (by decide) ?_
  refine in_ald dX3_init_4 ?_
  refine in_bip (40) dX3_init_5 rfl ?_
  refine in_newI 40 rfl (by decide) (by decide) (Nat.le_of_ble_eq_true rfl) (Nat.le_of_ble_eq_true rfl) dX3_init_7 (fun q1 => ?_)
  refine in_putR (k := 0) ⟨RX3, TX3, 3, rfl, by decide, List.mem_of_getElem? (i := 288) (by decide +kernel), rfl, rfl⟩ rfl rfl (Nat.le_of_ble_eq_true rfl) dX3_init_9 ?_
  refine in_ald dX3_init_12 ?_
  refine in_bip (40) dX3_init_13 rfl ?_
  refine in_newI 40 rfl (by decide) (by decide) (Nat.le_of_ble_eq_true rfl) (Nat.le_of_ble_eq_true rfl) dX3_init_15 (fun q2 => ?_)
  refine in_putR (k := 1) ⟨RX3, TX3, 3, rfl, by decide, List.mem_of_getElem? (i := 289) (by decide +kernel), rfl, rfl⟩ rfl rfl (Nat.le_of_ble_eq_true rfl) dX3_init_17 ?_
  exact in_ret dX3_init_20 ⟨(fun j => match j with | 1 => q1 | 2 => q2 | _ => 0), rfl⟩ (Nat.le_of_ble_eq_true rfl) (Nat.le_of_ble_eq_true rfl)
/-- what RuleReader makes -/
def wdX4 (cA : Nat → ClassId) (h : Nat) (u : (Nat → Nat)) : va_W := (h, .inr (4, [.ref (u 1), .ref (u 2), .ref (u 3), .int 0, .int 0, .int 0, .int 0, .int 0])) :: (([(u 1, .inl (cA 0, 40, .inl (fun _ => 0)))] ++ [(u 2, .inl (cA 0, 40, .inl (fun _ => 0)))]) ++ [(u 3, .inl (cA 3, 5, .inl (fun _ => 0)))])
theorem mi_X4 : MthB yX4_init cX4_init 1 none 0 := ⟨List.mem_of_getElem? (i := 302) (by decide +kernel), List.mem_of_getElem? (i := 101) (by decide +kernel), ⟨by decide +kernel, by decide +kernel, by decide +kernel⟩, by decide⟩
set_option maxRecDepth 100000 in
set_option maxHeartbeats 4000000 in
theorem ini_X4 : Ini yX4_init cX4_init 1 1 3 85 4 8 wdX4 := by
  refine Ini.of (own := RX4) rfl (by decide +kernel) rfl (by decide) (fun cA h0 => ?_)
  refine in_ald dX4_init_0 ?_
  refine in_obj (gt_in (List.mem_of_getElem? (i := 303) (by decide +kernel)) rfl) dX4_init_1 (by decide) (by decide) ?_
  refine in_ald dX4_init_4 ?_
  refine in_bip (40) dX4_init_5 rfl ?_
  refine in_newI 40 rfl (by decide) (by decide) (Nat.le_of_ble_eq_true rfl) (Nat.le_of_ble_eq_true rfl) dX4_init_7 (fun q1 => ?_)
  refine in_putR (k := 0) ⟨RX4, TX4, 8, rfl, by decide, List.mem_of_getElem? (i := 304) (by decide +kernel), rfl, rfl⟩ rfl rfl (Nat.le_of_ble_eq_true rfl) dX4_init_9 ?_
  refine in_ald dX4_init_12 ?_
  refine in_bip (40) dX4_init_13 rfl ?_
  refine in_newI 40 rfl (by decide) (by decide) (Nat.le_of_ble_eq_true rfl) (Nat.le_of_ble_eq_true rfl) dX4_init_15 (fun q2 => ?_)
  refine in_putR (k := 1) ⟨RX4, TX4, 8, rfl, by decide, List.mem_of_getElem? (i := 306) (by decide +kernel), rfl, rfl⟩ rfl rfl (Nat.le_of_ble_eq_true rfl) dX4_init_17 ?_
  refine in_ald dX4_init_20 ?_
  refine in_ic (5) dX4_init_21 rfl ?_
  refine in_newZ 5 rfl (by decide) (by decide) (Nat.le_of_ble_eq_true rfl) (Nat.le_of_ble_eq_true rfl) dX4_init_22 (fun q3 => ?_)
  refine in_putR (k := 2) ⟨RX4, TX4, 8, rfl, by decide, List.mem_of_getElem? (i := 307) (by decide +kernel), rfl, rfl⟩ rfl rfl (Nat.le_of_ble_eq_true rfl) dX4_init_24 ?_
  exact in_ret dX4_init_27 ⟨(fun j => match j with | 1 => q1 | 2 => q2 | 3 => q3 | _ => 0), rfl⟩ (Nat.le_of_ble_eq_true rfl) (Nat.le_of_ble_eq_true rfl)
/-- what Text makes -/
def wdX6 (cA : Nat → ClassId) (h : Nat) (u : (Nat → Nat)) : va_W := (h, .inr (6, [.ref (u 1), .int 0])) :: [(u 1, .inl (cA 0, 80, .inl (fun _ => 0)))]
theorem mi_X6 : MthB yX6_init cX6_init 1 none 0 := ⟨List.mem_of_getElem? (i := 132) (by decide +kernel), List.mem_of_getElem? (i := 96) (by decide +kernel), ⟨by decide +kernel, by decide +kernel, by decide +kernel⟩, by decide⟩
set_option maxRecDepth 100000 in
set_option maxHeartbeats 4000000 in
theorem ini_X6 : Ini yX6_init cX6_init 1 1 1 80 6 2 wdX6 := by
  refine Ini.of (own := RX6) rfl (by decide +kernel) rfl (by decide) (fun cA h0 => ?_)
  refine in_ald dX6_init_0 ?_
  refine in_obj (gt_in (List.mem_of_getElem? (i := 133) (by decide +kernel)) rfl) dX6_init_1 (by decide) (by decide) ?_
  refine in_ald dX6_init_4 ?_
  refine in_bip (80) dX6_init_5 rfl ?_
  refine in_newI 80 rfl (by decide) (by decide) (Nat.le_of_ble_eq_true rfl) (Nat.le_of_ble_eq_true rfl) dX6_init_7 (fun q1 => ?_)
  refine in_putR (k := 0) ⟨RX6, TX6, 2, rfl, by decide, List.mem_of_getElem? (i := 134) (by decide +kernel), rfl, rfl⟩ rfl rfl (Nat.le_of_ble_eq_true rfl) dX6_init_9 ?_
  exact in_ret dX6_init_12 ⟨(fun j => match j with | 1 => q1 | _ => 0), rfl⟩ (Nat.le_of_ble_eq_true rfl) (Nat.le_of_ble_eq_true rfl)
/-- what Told makes -/
def wdX7 (cA : Nat → ClassId) (h : Nat) (u : (Nat → Nat)) : va_W := (h, .inr (7, [.ref (u 1), .int 0])) :: [(u 1, .inl (cA 1, 10, .inr (.inl (fun _ => 0))))]
theorem mi_X7 : MthB yX7_init cX7_init 1 none 0 := ⟨List.mem_of_getElem? (i := 146) (by decide +kernel), List.mem_of_getElem? (i := 97) (by decide +kernel), ⟨by decide +kernel, by decide +kernel, by decide +kernel⟩, by decide⟩
set_option maxRecDepth 100000 in
set_option maxHeartbeats 4000000 in
theorem ini_X7 : Ini yX7_init cX7_init 1 1 1 10 7 2 wdX7 := by
  refine Ini.of (own := RX7) rfl (by decide +kernel) rfl (by decide) (fun cA h0 => ?_)
  refine in_ald dX7_init_0 ?_
  refine in_obj (gt_in (List.mem_of_getElem? (i := 147) (by decide +kernel)) rfl) dX7_init_1 (by decide) (by decide) ?_
  refine in_ald dX7_init_4 ?_
  refine in_bip (10) dX7_init_5 rfl ?_
  refine in_newJ 10 rfl (by decide) (by decide) (Nat.le_of_ble_eq_true rfl) (Nat.le_of_ble_eq_true rfl) dX7_init_7 (fun q1 => ?_)
  refine in_putR (k := 0) ⟨RX7, TX7, 2, rfl, by decide, List.mem_of_getElem? (i := 148) (by decide +kernel), rfl, rfl⟩ rfl rfl (Nat.le_of_ble_eq_true rfl) dX7_init_9 ?_
  exact in_ret dX7_init_12 ⟨(fun j => match j with | 1 => q1 | _ => 0), rfl⟩ (Nat.le_of_ble_eq_true rfl) (Nat.le_of_ble_eq_true rfl)
/-- what TownReader makes -/
def wdX9 (cA : Nat → ClassId) (h : Nat) (u : (Nat → Nat)) : va_W := (h, .inr (9, [.int 0, .int 0])) :: []
theorem mi_X9 : MthB yX9_init cX9_init 1 none 0 := ⟨List.mem_of_getElem? (i := 273) (by decide +kernel), List.mem_of_getElem? (i := 99) (by decide +kernel), ⟨by decide +kernel, by decide +kernel, by decide +kernel⟩, by decide⟩
set_option maxRecDepth 100000 in
set_option maxHeartbeats 4000000 in
theorem ini_X9 : Ini yX9_init cX9_init 1 1 0 0 9 2 wdX9 := by
  refine Ini.of (own := RX9) rfl (by decide +kernel) rfl (by decide) (fun cA h0 => ?_)
  refine in_ald dX9_init_0 ?_
  refine in_obj (gt_in (List.mem_of_getElem? (i := 274) (by decide +kernel)) rfl) dX9_init_1 (by decide) (by decide) ?_
  exact in_ret dX9_init_4 ⟨(fun _ => 0), rfl⟩ (Nat.le_of_ble_eq_true rfl) (Nat.le_of_ble_eq_true rfl)
/-- what Gifts makes -/
def wdX1 (cA : Nat → ClassId) (h : Nat) (u : ((Nat → Nat) × (Nat → Nat))) : va_W := (h, .inr (1, [.ref (u.1 1), .int 0, .int 0])) :: wdX8 cA (u.1 1) (u.2)
theorem mi_X1 : MthB yX1_init cX1_init 1 none 0 := ⟨List.mem_of_getElem? (i := 336) (by decide +kernel), List.mem_of_getElem? (i := 102) (by decide +kernel), ⟨by decide +kernel, by decide +kernel, by decide +kernel⟩, by decide⟩
set_option maxRecDepth 100000 in
set_option maxHeartbeats 4000000 in
theorem ini_X1 : Ini yX1_init cX1_init 1 2 16 214 1 3 wdX1 := by
  refine Ini.of (own := RX1) rfl (by decide +kernel) rfl (by decide) (fun cA h0 => ?_)
  refine in_ald dX1_init_0 ?_
  refine in_obj (gt_in (List.mem_of_getElem? (i := 337) (by decide +kernel)) rfl) dX1_init_1 (by decide) (by decide) ?_
  refine in_ald dX1_init_4 ?_
  refine in_new (cj := 8) (Nj := 20) (T := TX8) rfl (gt_in (List.mem_of_getElem? (i := 338) (by decide +kernel)) rfl) (gt_in (List.mem_of_getElem? (i := 159) (by decide +kernel)) rfl) (gt_in (List.mem_of_getElem? (i := 98) (by decide +kernel)) rfl) (Nat.le_of_ble_eq_true rfl) (Nat.le_of_ble_eq_true rfl) dX1_init_5 (fun q1 => ?_)
  refine in_dup rfl dX1_init_8 ?_
  refine in_call ini_X8 mi_X8 (Or.inl (List.mem_of_getElem? (i := 339) (by decide +kernel))) (gt_in (List.mem_of_getElem? (i := 161) (by decide +kernel)) rfl) rfl (by decide) (Nat.le_of_ble_eq_true rfl) (Nat.le_of_ble_eq_true rfl) (Nat.le_of_ble_eq_true rfl) dX1_init_9 (fun u1 => ?_)
  refine in_putR (k := 0) ⟨RX1, TX1, 3, rfl, by decide, List.mem_of_getElem? (i := 340) (by decide +kernel), rfl, rfl⟩ rfl rfl (Nat.le_of_ble_eq_true rfl) dX1_init_12 ?_
  exact in_ret dX1_init_15 ⟨((fun j => match j with | 1 => q1 | _ => 0), u1), rfl⟩ (Nat.le_of_ble_eq_true rfl) (Nat.le_of_ble_eq_true rfl)
/-- what Parts makes -/
def wdX2 (cA : Nat → ClassId) (h : Nat) (u : ((Nat → Nat) × (Nat → Nat))) : va_W := (h, .inr (2, [.ref (u.1 1), .ref (u.1 2), .int 0])) :: (wdX8 cA (u.1 1) (u.2) ++ [(u.1 2, .inl (cA 0, 10, .inl (fun _ => 0)))])
theorem mi_X2 : MthB yX2_init cX2_init 1 none 0 := ⟨List.mem_of_getElem? (i := 416) (by decide +kernel), List.mem_of_getElem? (i := 104) (by decide +kernel), ⟨by decide +kernel, by decide +kernel, by decide +kernel⟩, by decide⟩
set_option maxRecDepth 100000 in
set_option maxHeartbeats 4000000 in
theorem ini_X2 : Ini yX2_init cX2_init 1 2 17 224 2 3 wdX2 := by
  refine Ini.of (own := RX2) rfl (by decide +kernel) rfl (by decide) (fun cA h0 => ?_)
  refine in_ald dX2_init_0 ?_
  refine in_obj (gt_in (List.mem_of_getElem? (i := 417) (by decide +kernel)) rfl) dX2_init_1 (by decide) (by decide) ?_
  refine in_ald dX2_init_4 ?_
  refine in_new (cj := 8) (Nj := 20) (T := TX8) rfl (gt_in (List.mem_of_getElem? (i := 418) (by decide +kernel)) rfl) (gt_in (List.mem_of_getElem? (i := 159) (by decide +kernel)) rfl) (gt_in (List.mem_of_getElem? (i := 98) (by decide +kernel)) rfl) (Nat.le_of_ble_eq_true rfl) (Nat.le_of_ble_eq_true rfl) dX2_init_5 (fun q1 => ?_)
  refine in_dup rfl dX2_init_8 ?_
  refine in_call ini_X8 mi_X8 (Or.inl (List.mem_of_getElem? (i := 419) (by decide +kernel))) (gt_in (List.mem_of_getElem? (i := 161) (by decide +kernel)) rfl) rfl (by decide) (Nat.le_of_ble_eq_true rfl) (Nat.le_of_ble_eq_true rfl) (Nat.le_of_ble_eq_true rfl) dX2_init_9 (fun u1 => ?_)
  refine in_putR (k := 0) ⟨RX2, TX2, 3, rfl, by decide, List.mem_of_getElem? (i := 420) (by decide +kernel), rfl, rfl⟩ rfl rfl (Nat.le_of_ble_eq_true rfl) dX2_init_12 ?_
  refine in_ald dX2_init_15 ?_
  refine in_bip (10) dX2_init_16 rfl ?_
  refine in_newI 10 rfl (by decide) (by decide) (Nat.le_of_ble_eq_true rfl) (Nat.le_of_ble_eq_true rfl) dX2_init_18 (fun q2 => ?_)
  refine in_putR (k := 1) ⟨RX2, TX2, 3, rfl, by decide, List.mem_of_getElem? (i := 421) (by decide +kernel), rfl, rfl⟩ rfl rfl (Nat.le_of_ble_eq_true rfl) dX2_init_20 ?_
  exact in_ret dX2_init_23 ⟨((fun j => match j with | 1 => q1 | 2 => q2 | _ => 0), u1), rfl⟩ (Nat.le_of_ble_eq_true rfl) (Nat.le_of_ble_eq_true rfl)
/-- what States makes -/
def wdX5 (cA : Nat → ClassId) (h : Nat) (u : ((Nat → Nat) × (Nat → Nat))) : va_W := (h, .inr (5, [.ref (u.1 1), .ref (u.1 2), .ref (u.1 3), .ref (u.1 4), .ref (u.1 5), .ref (u.1 6), .ref (u.1 7), .ref (u.1 8), .ref (u.1 9), .int 0, .int 0, .int 0, .int 0, .int 0, .int 0])) :: ((((((((wdX8 cA (u.1 1) (u.2) ++ [(u.1 2, .inl (cA 1, 3000, .inr (.inl (fun _ => 0))))]) ++ [(u.1 3, .inl (cA 1, 3000, .inr (.inl (fun _ => 0))))]) ++ [(u.1 4, .inl (cA 1, 3000, .inr (.inl (fun _ => 0))))]) ++ [(u.1 5, .inl (cA 1, 3000, .inr (.inl (fun _ => 0))))]) ++ [(u.1 6, .inl (cA 0, 3000, .inl (fun _ => 0)))]) ++ [(u.1 7, .inl (cA 0, 3000, .inl (fun _ => 0)))]) ++ [(u.1 8, .inl (cA 0, 8192, .inl (fun _ => 0)))]) ++ [(u.1 9, .inl (cA 0, 10, .inl (fun _ => 0)))])
theorem mi_X5 : MthB yX5_init cX5_init 1 none 0 := ⟨List.mem_of_getElem? (i := 356) (by decide +kernel), List.mem_of_getElem? (i := 103) (by decide +kernel), ⟨by decide +kernel, by decide +kernel, by decide +kernel⟩, by decide⟩
set_option maxRecDepth 100000 in
set_option maxHeartbeats 4000000 in
theorem ini_X5 : Ini yX5_init cX5_init 1 2 24 26416 5 15 wdX5 := by
  refine Ini.of (own := RX5) rfl (by decide +kernel) rfl (by decide) (fun cA h0 => ?_)
  refine in_ald dX5_init_0 ?_
  refine in_obj (gt_in (List.mem_of_getElem? (i := 357) (by decide +kernel)) rfl) dX5_init_1 (by decide) (by decide) ?_
  refine in_ald dX5_init_4 ?_
  refine in_new (cj := 8) (Nj := 20) (T := TX8) rfl (gt_in (List.mem_of_getElem? (i := 358) (by decide +kernel)) rfl) (gt_in (List.mem_of_getElem? (i := 159) (by decide +kernel)) rfl) (gt_in (List.mem_of_getElem? (i := 98) (by decide +kernel)) rfl) (Nat.le_of_ble_eq_true rfl) (Nat.le_of_ble_eq_true rfl) dX5_init_5 (fun q1 => ?_)
  refine in_dup rfl dX5_init_8 ?_
  refine in_call ini_X8 mi_X8 (Or.inl (List.mem_of_getElem? (i := 359) (by decide +kernel))) (gt_in (List.mem_of_getElem? (i := 161) (by decide +kernel)) rfl) rfl (by decide) (Nat.le_of_ble_eq_true rfl) (Nat.le_of_ble_eq_true rfl) (Nat.le_of_ble_eq_true rfl) dX5_init_9 (fun u1 => ?_)
  refine in_putR (k := 0) ⟨RX5, TX5, 15, rfl, by decide, List.mem_of_getElem? (i := 360) (by decide +kernel), rfl, rfl⟩ rfl rfl (Nat.le_of_ble_eq_true rfl) dX5_init_12 ?_
  refine in_ald dX5_init_15 ?_
  refine in_sip (3000) dX5_init_16 rfl ?_
  refine in_newJ 3000 rfl (by decide) (by decide) (Nat.le_of_ble_eq_true rfl) (Nat.le_of_ble_eq_true rfl) dX5_init_19 (fun q2 => ?_)
  refine in_putR (k := 1) ⟨RX5, TX5, 15, rfl, by decide, List.mem_of_getElem? (i := 361) (by decide +kernel), rfl, rfl⟩ rfl rfl (Nat.le_of_ble_eq_true rfl) dX5_init_21 ?_
  refine in_ald dX5_init_24 ?_
  refine in_sip (3000) dX5_init_25 rfl ?_
  refine in_newJ 3000 rfl (by decide) (by decide) (Nat.le_of_ble_eq_true rfl) (Nat.le_of_ble_eq_true rfl) dX5_init_28 (fun q3 => ?_)
  refine in_putR (k := 2) ⟨RX5, TX5, 15, rfl, by decide, List.mem_of_getElem? (i := 362) (by decide +kernel), rfl, rfl⟩ rfl rfl (Nat.le_of_ble_eq_true rfl) dX5_init_30 ?_
  refine in_ald dX5_init_33 ?_
  refine in_sip (3000) dX5_init_34 rfl ?_
  refine in_newJ 3000 rfl (by decide) (by decide) (Nat.le_of_ble_eq_true rfl) (Nat.le_of_ble_eq_true rfl) dX5_init_37 (fun q4 => ?_)
  refine in_putR (k := 3) ⟨RX5, TX5, 15, rfl, by decide, List.mem_of_getElem? (i := 363) (by decide +kernel), rfl, rfl⟩ rfl rfl (Nat.le_of_ble_eq_true rfl) dX5_init_39 ?_
  refine in_ald dX5_init_42 ?_
  refine in_sip (3000) dX5_init_43 rfl ?_
  refine in_newJ 3000 rfl (by decide) (by decide) (Nat.le_of_ble_eq_true rfl) (Nat.le_of_ble_eq_true rfl) dX5_init_46 (fun q5 => ?_)
  refine in_putR (k := 4) ⟨RX5, TX5, 15, rfl, by decide, List.mem_of_getElem? (i := 364) (by decide +kernel), rfl, rfl⟩ rfl rfl (Nat.le_of_ble_eq_true rfl) dX5_init_48 ?_
  refine in_ald dX5_init_51 ?_
  refine in_sip (3000) dX5_init_52 rfl ?_
  refine in_newI 3000 rfl (by decide) (by decide) (Nat.le_of_ble_eq_true rfl) (Nat.le_of_ble_eq_true rfl) dX5_init_55 (fun q6 => ?_)
  refine in_putR (k := 5) ⟨RX5, TX5, 15, rfl, by decide, List.mem_of_getElem? (i := 365) (by decide +kernel), rfl, rfl⟩ rfl rfl (Nat.le_of_ble_eq_true rfl) dX5_init_57 ?_
  refine in_ald dX5_init_60 ?_
  refine in_sip (3000) dX5_init_61 rfl ?_
  refine in_newI 3000 rfl (by decide) (by decide) (Nat.le_of_ble_eq_true rfl) (Nat.le_of_ble_eq_true rfl) dX5_init_64 (fun q7 => ?_)
  refine in_putR (k := 6) ⟨RX5, TX5, 15, rfl, by decide, List.mem_of_getElem? (i := 367) (by decide +kernel), rfl, rfl⟩ rfl rfl (Nat.le_of_ble_eq_true rfl) dX5_init_66 ?_
  refine in_ald dX5_init_69 ?_
  refine in_sip (8192) dX5_init_70 rfl ?_
  refine in_newI 8192 rfl (by decide) (by decide) (Nat.le_of_ble_eq_true rfl) (Nat.le_of_ble_eq_true rfl) dX5_init_73 (fun q8 => ?_)
  refine in_putR (k := 7) ⟨RX5, TX5, 15, rfl, by decide, List.mem_of_getElem? (i := 369) (by decide +kernel), rfl, rfl⟩ rfl rfl (Nat.le_of_ble_eq_true rfl) dX5_init_75 ?_
  refine in_ald dX5_init_78 ?_
  refine in_bip (10) dX5_init_79 rfl ?_
  refine in_newI 10 rfl (by decide) (by decide) (Nat.le_of_ble_eq_true rfl) (Nat.le_of_ble_eq_true rfl) dX5_init_81 (fun q9 => ?_)
  refine in_putR (k := 8) ⟨RX5, TX5, 15, rfl, by decide, List.mem_of_getElem? (i := 370) (by decide +kernel), rfl, rfl⟩ rfl rfl (Nat.le_of_ble_eq_true rfl) dX5_init_83 ?_
  exact in_ret dX5_init_86 ⟨((fun j => match j with | 1 => q1 | 2 => q2 | 3 => q3 | 4 => q4 | 5 => q5 | 6 => q6 | 7 => q7 | 8 => q8 | 9 => q9 | _ => 0), u1), rfl⟩ (Nat.le_of_ble_eq_true rfl) (Nat.le_of_ble_eq_true rfl)
