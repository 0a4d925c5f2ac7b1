/-- what PaidByPoorer makes -/
def wdX10 (cA : Nat → ClassId) (h : Nat) (u : ((Nat → Nat) × (Nat → Nat) × (Nat → Nat) × (Nat → Nat) × (Nat → Nat) × (Nat → Nat) × (Nat → Nat) × (Nat → Nat) × (Nat → Nat) × (Nat → Nat) × ((Nat → Nat) × (Nat → Nat)) × ((Nat → Nat) × (Nat → Nat)) × ((Nat → Nat) × (Nat → Nat)) × (Nat → Nat))) : va_W := (h, .inr (10, [.ref (u.1 1), .ref (u.1 2), .ref (u.1 3), .ref (u.1 4), .ref (u.1 5), .ref (u.1 6), .ref (u.1 7), .ref (u.1 8), .ref (u.1 9), .ref (u.1 10), .ref (u.1 11), .ref (u.1 12), .ref (u.1 13), .ref (u.1 14), .int 0, .int 0, .int 0])) :: (((((((((((((wdX6 cA (u.1 1) (u.2.1) ++ wdX7 cA (u.1 2) (u.2.2.1)) ++ wdX8 cA (u.1 3) (u.2.2.2.1)) ++ wdX8 cA (u.1 4) (u.2.2.2.2.1)) ++ wdX8 cA (u.1 5) (u.2.2.2.2.2.1)) ++ wdX8 cA (u.1 6) (u.2.2.2.2.2.2.1)) ++ wdX9 cA (u.1 7) (u.2.2.2.2.2.2.2.1)) ++ wdX3 cA (u.1 8) (u.2.2.2.2.2.2.2.2.1)) ++ wdX4 cA (u.1 9) (u.2.2.2.2.2.2.2.2.2.1)) ++ wdX1 cA (u.1 10) (u.2.2.2.2.2.2.2.2.2.2.1)) ++ wdX5 cA (u.1 11) (u.2.2.2.2.2.2.2.2.2.2.2.1)) ++ wdX2 cA (u.1 12) (u.2.2.2.2.2.2.2.2.2.2.2.2.1)) ++ wdX0 cA (u.1 13) (u.2.2.2.2.2.2.2.2.2.2.2.2.2)) ++ [(u.1 14, .inl (cA 0, 10, .inl (fun _ => 0)))])
theorem mi_X10 : MthB yX10_init cX10_init 1 none 0 := ⟨List.mem_of_getElem? (i := 124) (by decide +kernel), List.mem_of_getElem? (i := 95) (by decide +kernel), ⟨by decide +kernel, by decide +kernel, by decide +kernel⟩, by decide⟩
set_option maxRecDepth 100000 in
set_option maxHeartbeats 4000000 in
theorem ini_X10 : Ini yX10_init cX10_init 1 3 139 28028 10 17 wdX10 := by
  refine Ini.of (own := RX10) rfl (by decide +kernel) rfl (by decide) (fun cA h0 => ?_)
  refine in_ald dX10_init_0 ?_
  refine in_obj (gt_in (List.mem_of_getElem? (i := 125) (by decide +kernel)) rfl) dX10_init_1 (by decide) (by decide) ?_
  refine in_ald dX10_init_4 ?_
  refine in_new (cj := 6) (Nj := 2) (T := TX6) rfl (gt_in (List.mem_of_getElem? (i := 128) (by decide +kernel)) rfl) (gt_in (List.mem_of_getElem? (i := 129) (by decide +kernel)) rfl) (gt_in (List.mem_of_getElem? (i := 96) (by decide +kernel)) rfl) (Nat.le_of_ble_eq_true rfl) (Nat.le_of_ble_eq_true rfl) dX10_init_5 (fun q1 => ?_)
  refine in_dup rfl dX10_init_8 ?_
  refine in_call ini_X6 mi_X6 (Or.inl (List.mem_of_getElem? (i := 130) (by decide +kernel))) (gt_in (List.mem_of_getElem? (i := 131) (by decide +kernel)) rfl) rfl (by decide) (Nat.le_of_ble_eq_true rfl) (Nat.le_of_ble_eq_true rfl) (Nat.le_of_ble_eq_true rfl) dX10_init_9 (fun u1 => ?_)
  refine in_putR (k := 0) ⟨RX10, TX10, 17, rfl, by decide, List.mem_of_getElem? (i := 456) (by decide +kernel), rfl, rfl⟩ rfl rfl (Nat.le_of_ble_eq_true rfl) dX10_init_12 ?_
  refine in_ald dX10_init_15 ?_
  refine in_new (cj := 7) (Nj := 2) (T := TX7) rfl (gt_in (List.mem_of_getElem? (i := 142) (by decide +kernel)) rfl) (gt_in (List.mem_of_getElem? (i := 143) (by decide +kernel)) rfl) (gt_in (List.mem_of_getElem? (i := 97) (by decide +kernel)) rfl) (Nat.le_of_ble_eq_true rfl) (Nat.le_of_ble_eq_true rfl) dX10_init_16 (fun q2 => ?_)
  refine in_dup rfl dX10_init_19 ?_
  refine in_call ini_X7 mi_X7 (Or.inl (List.mem_of_getElem? (i := 144) (by decide +kernel))) (gt_in (List.mem_of_getElem? (i := 145) (by decide +kernel)) rfl) rfl (by decide) (Nat.le_of_ble_eq_true rfl) (Nat.le_of_ble_eq_true rfl) (Nat.le_of_ble_eq_true rfl) dX10_init_20 (fun u2 => ?_)
  refine in_putR (k := 1) ⟨RX10, TX10, 17, rfl, by decide, List.mem_of_getElem? (i := 457) (by decide +kernel), rfl, rfl⟩ rfl rfl (Nat.le_of_ble_eq_true rfl) dX10_init_23 ?_
  refine in_ald dX10_init_26 ?_
  refine in_new (cj := 8) (Nj := 20) (T := TX8) rfl (gt_in (List.mem_of_getElem? (i := 158) (by decide +kernel)) rfl) (gt_in (List.mem_of_getElem? (i := 159) (by decide +kernel)) rfl) (gt_in (List.mem_of_getElem? (i := 98) (by decide +kernel)) rfl) (Nat.le_of_ble_eq_true rfl) (Nat.le_of_ble_eq_true rfl) dX10_init_27 (fun q3 => ?_)
  refine in_dup rfl dX10_init_30 ?_
  refine in_call ini_X8 mi_X8 (Or.inl (List.mem_of_getElem? (i := 160) (by decide +kernel))) (gt_in (List.mem_of_getElem? (i := 161) (by decide +kernel)) rfl) rfl (by decide) (Nat.le_of_ble_eq_true rfl) (Nat.le_of_ble_eq_true rfl) (Nat.le_of_ble_eq_true rfl) dX10_init_31 (fun u3 => ?_)
  refine in_putR (k := 2) ⟨RX10, TX10, 17, rfl, by decide, List.mem_of_getElem? (i := 458) (by decide +kernel), rfl, rfl⟩ rfl rfl (Nat.le_of_ble_eq_true rfl) dX10_init_34 ?_
  refine in_ald dX10_init_37 ?_
  refine in_new (cj := 8) (Nj := 20) (T := TX8) rfl (gt_in (List.mem_of_getElem? (i := 158) (by decide +kernel)) rfl) (gt_in (List.mem_of_getElem? (i := 159) (by decide +kernel)) rfl) (gt_in (List.mem_of_getElem? (i := 98) (by decide +kernel)) rfl) (Nat.le_of_ble_eq_true rfl) (Nat.le_of_ble_eq_true rfl) dX10_init_38 (fun q4 => ?_)
  refine in_dup rfl dX10_init_41 ?_
  refine in_call ini_X8 mi_X8 (Or.inl (List.mem_of_getElem? (i := 160) (by decide +kernel))) (gt_in (List.mem_of_getElem? (i := 161) (by decide +kernel)) rfl) rfl (by decide) (Nat.le_of_ble_eq_true rfl) (Nat.le_of_ble_eq_true rfl) (Nat.le_of_ble_eq_true rfl) dX10_init_42 (fun u4 => ?_)
  refine in_putR (k := 3) ⟨RX10, TX10, 17, rfl, by decide, List.mem_of_getElem? (i := 459) (by decide +kernel), rfl, rfl⟩ rfl rfl (Nat.le_of_ble_eq_true rfl) dX10_init_45 ?_
  refine in_ald dX10_init_48 ?_
  refine in_new (cj := 8) (Nj := 20) (T := TX8) rfl (gt_in (List.mem_of_getElem? (i := 158) (by decide +kernel)) rfl) (gt_in (List.mem_of_getElem? (i := 159) (by decide +kernel)) rfl) (gt_in (List.mem_of_getElem? (i := 98) (by decide +kernel)) rfl) (Nat.le_of_ble_eq_true rfl) (Nat.le_of_ble_eq_true rfl) dX10_init_49 (fun q5 => ?_)
  refine in_dup rfl dX10_init_52 ?_
  refine in_call ini_X8 mi_X8 (Or.inl (List.mem_of_getElem? (i := 160) (by decide +kernel))) (gt_in (List.mem_of_getElem? (i := 161) (by decide +kernel)) rfl) rfl (by decide) (Nat.le_of_ble_eq_true rfl) (Nat.le_of_ble_eq_true rfl) (Nat.le_of_ble_eq_true rfl) dX10_init_53 (fun u5 => ?_)
  refine in_putR (k := 4) ⟨RX10, TX10, 17, rfl, by decide, List.mem_of_getElem? (i := 460) (by decide +kernel), rfl, rfl⟩ rfl rfl (Nat.le_of_ble_eq_true rfl) dX10_init_56 ?_
  refine in_ald dX10_init_59 ?_
  refine in_new (cj := 8) (Nj := 20) (T := TX8) rfl (gt_in (List.mem_of_getElem? (i := 158) (by decide +kernel)) rfl) (gt_in (List.mem_of_getElem? (i := 159) (by decide +kernel)) rfl) (gt_in (List.mem_of_getElem? (i := 98) (by decide +kernel)) rfl) (Nat.le_of_ble_eq_true rfl) (Nat.le_of_ble_eq_true rfl) dX10_init_60 (fun q6 => ?_)
  refine in_dup rfl dX10_init_63 ?_
  refine in_call ini_X8 mi_X8 (Or.inl (List.mem_of_getElem? (i := 160) (by decide +kernel))) (gt_in (List.mem_of_getElem? (i := 161) (by decide +kernel)) rfl) rfl (by decide) (Nat.le_of_ble_eq_true rfl) (Nat.le_of_ble_eq_true rfl) (Nat.le_of_ble_eq_true rfl) dX10_init_64 (fun u6 => ?_)
  refine in_putR (k := 5) ⟨RX10, TX10, 17, rfl, by decide, List.mem_of_getElem? (i := 461) (by decide +kernel), rfl, rfl⟩ rfl rfl (Nat.le_of_ble_eq_true rfl) dX10_init_67 ?_
  refine in_ald dX10_init_70 ?_
  refine in_new (cj := 9) (Nj := 2) (T := TX9) rfl (gt_in (List.mem_of_getElem? (i := 269) (by decide +kernel)) rfl) (gt_in (List.mem_of_getElem? (i := 270) (by decide +kernel)) rfl) (gt_in (List.mem_of_getElem? (i := 99) (by decide +kernel)) rfl) (Nat.le_of_ble_eq_true rfl) (Nat.le_of_ble_eq_true rfl) dX10_init_71 (fun q7 => ?_)
  refine in_dup rfl dX10_init_74 ?_
  refine in_call ini_X9 mi_X9 (Or.inr ⟨"PaidByPoorer", List.mem_of_getElem? (i := 271) (by decide +kernel)⟩) (gt_in (List.mem_of_getElem? (i := 272) (by decide +kernel)) rfl) rfl (by decide) (Nat.le_of_ble_eq_true rfl) (Nat.le_of_ble_eq_true rfl) (Nat.le_of_ble_eq_true rfl) dX10_init_75 (fun u7 => ?_)
  refine in_putR (k := 6) ⟨RX10, TX10, 17, rfl, by decide, List.mem_of_getElem? (i := 462) (by decide +kernel), rfl, rfl⟩ rfl rfl (Nat.le_of_ble_eq_true rfl) dX10_init_78 ?_
  refine in_ald dX10_init_81 ?_
  refine in_new (cj := 3) (Nj := 3) (T := TX3) rfl (gt_in (List.mem_of_getElem? (i := 282) (by decide +kernel)) rfl) (gt_in (List.mem_of_getElem? (i := 283) (by decide +kernel)) rfl) (gt_in (List.mem_of_getElem? (i := 100) (by decide +kernel)) rfl) (Nat.le_of_ble_eq_true rfl) (Nat.le_of_ble_eq_true rfl) dX10_init_82 (fun q8 => ?_)
  refine in_dup rfl dX10_init_85 ?_
  refine in_call ini_X3 mi_X3 (Or.inl (List.mem_of_getElem? (i := 284) (by decide +kernel))) (gt_in (List.mem_of_getElem? (i := 285) (by decide +kernel)) rfl) rfl (by decide) (Nat.le_of_ble_eq_true rfl) (Nat.le_of_ble_eq_true rfl) (Nat.le_of_ble_eq_true rfl) dX10_init_86 (fun u8 => ?_)
  refine in_putR (k := 7) ⟨RX10, TX10, 17, rfl, by decide, List.mem_of_getElem? (i := 463) (by decide +kernel), rfl, rfl⟩ rfl rfl (Nat.le_of_ble_eq_true rfl) dX10_init_89 ?_
  refine in_ald dX10_init_92 ?_
  refine in_new (cj := 4) (Nj := 8) (T := TX4) rfl (gt_in (List.mem_of_getElem? (i := 298) (by decide +kernel)) rfl) (gt_in (List.mem_of_getElem? (i := 299) (by decide +kernel)) rfl) (gt_in (List.mem_of_getElem? (i := 101) (by decide +kernel)) rfl) (Nat.le_of_ble_eq_true rfl) (Nat.le_of_ble_eq_true rfl) dX10_init_93 (fun q9 => ?_)
  refine in_dup rfl dX10_init_96 ?_
  refine in_call ini_X4 mi_X4 (Or.inl (List.mem_of_getElem? (i := 300) (by decide +kernel))) (gt_in (List.mem_of_getElem? (i := 301) (by decide +kernel)) rfl) rfl (by decide) (Nat.le_of_ble_eq_true rfl) (Nat.le_of_ble_eq_true rfl) (Nat.le_of_ble_eq_true rfl) dX10_init_97 (fun u9 => ?_)
  refine in_putR (k := 8) ⟨RX10, TX10, 17, rfl, by decide, List.mem_of_getElem? (i := 464) (by decide +kernel), rfl, rfl⟩ rfl rfl (Nat.le_of_ble_eq_true rfl) dX10_init_100 ?_
  refine in_ald dX10_init_103 ?_
  refine in_new (cj := 1) (Nj := 3) (T := TX1) rfl (gt_in (List.mem_of_getElem? (i := 332) (by decide +kernel)) rfl) (gt_in (List.mem_of_getElem? (i := 333) (by decide +kernel)) rfl) (gt_in (List.mem_of_getElem? (i := 102) (by decide +kernel)) rfl) (Nat.le_of_ble_eq_true rfl) (Nat.le_of_ble_eq_true rfl) dX10_init_104 (fun q10 => ?_)
  refine in_dup rfl dX10_init_107 ?_
  refine in_call ini_X1 mi_X1 (Or.inl (List.mem_of_getElem? (i := 334) (by decide +kernel))) (gt_in (List.mem_of_getElem? (i := 335) (by decide +kernel)) rfl) rfl (by decide) (Nat.le_of_ble_eq_true rfl) (Nat.le_of_ble_eq_true rfl) (Nat.le_of_ble_eq_true rfl) dX10_init_108 (fun u10 => ?_)
  refine in_putR (k := 9) ⟨RX10, TX10, 17, rfl, by decide, List.mem_of_getElem? (i := 465) (by decide +kernel), rfl, rfl⟩ rfl rfl (Nat.le_of_ble_eq_true rfl) dX10_init_111 ?_
  refine in_ald dX10_init_114 ?_
  refine in_new (cj := 5) (Nj := 15) (T := TX5) rfl (gt_in (List.mem_of_getElem? (i := 352) (by decide +kernel)) rfl) (gt_in (List.mem_of_getElem? (i := 353) (by decide +kernel)) rfl) (gt_in (List.mem_of_getElem? (i := 103) (by decide +kernel)) rfl) (Nat.le_of_ble_eq_true rfl) (Nat.le_of_ble_eq_true rfl) dX10_init_115 (fun q11 => ?_)
  refine in_dup rfl dX10_init_118 ?_
  refine in_call ini_X5 mi_X5 (Or.inl (List.mem_of_getElem? (i := 354) (by decide +kernel))) (gt_in (List.mem_of_getElem? (i := 355) (by decide +kernel)) rfl) rfl (by decide) (Nat.le_of_ble_eq_true rfl) (Nat.le_of_ble_eq_true rfl) (Nat.le_of_ble_eq_true rfl) dX10_init_119 (fun u11 => ?_)
  refine in_putR (k := 10) ⟨RX10, TX10, 17, rfl, by decide, List.mem_of_getElem? (i := 466) (by decide +kernel), rfl, rfl⟩ rfl rfl (Nat.le_of_ble_eq_true rfl) dX10_init_122 ?_
  refine in_ald dX10_init_125 ?_
  refine in_new (cj := 2) (Nj := 3) (T := TX2) rfl (gt_in (List.mem_of_getElem? (i := 412) (by decide +kernel)) rfl) (gt_in (List.mem_of_getElem? (i := 413) (by decide +kernel)) rfl) (gt_in (List.mem_of_getElem? (i := 104) (by decide +kernel)) rfl) (Nat.le_of_ble_eq_true rfl) (Nat.le_of_ble_eq_true rfl) dX10_init_126 (fun q12 => ?_)
  refine in_dup rfl dX10_init_129 ?_
  refine in_call ini_X2 mi_X2 (Or.inl (List.mem_of_getElem? (i := 414) (by decide +kernel))) (gt_in (List.mem_of_getElem? (i := 415) (by decide +kernel)) rfl) rfl (by decide) (Nat.le_of_ble_eq_true rfl) (Nat.le_of_ble_eq_true rfl) (Nat.le_of_ble_eq_true rfl) dX10_init_130 (fun u12 => ?_)
  refine in_putR (k := 11) ⟨RX10, TX10, 17, rfl, by decide, List.mem_of_getElem? (i := 467) (by decide +kernel), rfl, rfl⟩ rfl rfl (Nat.le_of_ble_eq_true rfl) dX10_init_133 ?_
  refine in_ald dX10_init_136 ?_
  refine in_new (cj := 0) (Nj := 5) (T := TX0) rfl (gt_in (List.mem_of_getElem? (i := 430) (by decide +kernel)) rfl) (gt_in (List.mem_of_getElem? (i := 431) (by decide +kernel)) rfl) (gt_in (List.mem_of_getElem? (i := 105) (by decide +kernel)) rfl) (Nat.le_of_ble_eq_true rfl) (Nat.le_of_ble_eq_true rfl) dX10_init_137 (fun q13 => ?_)
  refine in_dup rfl dX10_init_140 ?_
  refine in_call ini_X0 mi_X0 (Or.inl (List.mem_of_getElem? (i := 432) (by decide +kernel))) (gt_in (List.mem_of_getElem? (i := 433) (by decide +kernel)) rfl) rfl (by decide) (Nat.le_of_ble_eq_true rfl) (Nat.le_of_ble_eq_true rfl) (Nat.le_of_ble_eq_true rfl) dX10_init_141 (fun u13 => ?_)
  refine in_putR (k := 12) ⟨RX10, TX10, 17, rfl, by decide, List.mem_of_getElem? (i := 468) (by decide +kernel), rfl, rfl⟩ rfl rfl (Nat.le_of_ble_eq_true rfl) dX10_init_144 ?_
  refine in_ald dX10_init_147 ?_
  refine in_bip (10) dX10_init_148 rfl ?_
  refine in_newI 10 rfl (by decide) (by decide) (Nat.le_of_ble_eq_true rfl) (Nat.le_of_ble_eq_true rfl) dX10_init_150 (fun q14 => ?_)
  refine in_putR (k := 13) ⟨RX10, TX10, 17, rfl, by decide, List.mem_of_getElem? (i := 469) (by decide +kernel), rfl, rfl⟩ rfl rfl (Nat.le_of_ble_eq_true rfl) dX10_init_152 ?_
  exact in_ret dX10_init_155 ⟨((fun j => match j with | 1 => q1 | 2 => q2 | 3 => q3 | 4 => q4 | 5 => q5 | 6 => q6 | 7 => q7 | 8 => q8 | 9 => q9 | 10 => q10 | 11 => q11 | 12 => q12 | 13 => q13 | 14 => q14 | _ => 0), u1, u2, u3, u4, u5, u6, u7, u8, u9, u10, u11, u12, u13), rfl⟩ (Nat.le_of_ble_eq_true rfl) (Nat.le_of_ble_eq_true rfl)
