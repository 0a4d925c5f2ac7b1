theorem in_fs {cc : ByteArray} {own : String} {nL d mc ms ci : Nat} {cA : Nat → ClassId} {h0 : Nat} {Fin : va_W → Prop} {pc : Nat} {st fs fs2 : List Value} {rest : va_W} {cells slots : Nat} (he : fs = fs2) (k : RI cc own nL d mc ms ci cA h0 Fin pc st fs2 rest cells slots) : RI cc own nL d mc ms ci cA h0 Fin pc st fs rest cells slots := by subst he; exact k
/-- what PaidByPoorerModel makes -/
def wdX11 (cA : Nat → ClassId) (h : Nat) (u : (Nat → Nat)) : va_W := (h, .inr (11, [.int 0, .ref (u 1), .ref (u 2), .ref (u 3), .ref (u 4), .ref (u 5), .ref (u 6), .int 0, .ref (u 7), .ref (u 8), .ref (u 9), .ref (u 10), .ref (u 11), .ref (u 12), .ref (u 13), .int 0, .int (1), .ref (u 14), .int 0, .ref (u 15), .int 0, .int 0, .null, .int 0, .int 0, .int 0, .int 0, .ref (u 16), .int 0, .int (-1), .int 0, .ref (u 17), .int 0, .ref (u 18), .int 0, .ref (u 19), .ref (u 20), .ref (u 21), .ref (u 22), .ref (u 23), .ref (u 24), .ref (u 25), .ref (u 26), .ref (u 27), .int 0, .ref (u 28), .int 0, .ref (u 29), .ref (u 30), .ref (u 31), .int 0, .int 0, .int 0, .int 0, .ref (u 32), .int 0, .ref (u 33), .ref (u 34), .ref (u 35)])) :: ((((((((((((((((((((((((((((((((((([] ++ [(u 1, .inl (cA 0, 8, .inl (fun _ => 0)))]) ++ [(u 2, .inl (cA 0, 8, .inl (fun _ => 0)))]) ++ [(u 3, .inl (cA 3, 8, .inl (fun _ => 0)))]) ++ [(u 4, .inl (cA 0, 8, .inl (fun _ => 0)))]) ++ [(u 5, .inl (cA 0, 8, .inl (fun _ => 0)))]) ++ [(u 6, .inl (cA 0, 64, .inl (fun _ => 0)))]) ++ [(u 7, .inl (cA 0, 10, .inl (fun _ => 0)))]) ++ [(u 8, .inl (cA 0, 10, .inl (fun _ => 0)))]) ++ [(u 9, .inl (cA 0, 10, .inl (fun _ => 0)))]) ++ [(u 10, .inl (cA 0, 10, .inl (fun _ => 0)))]) ++ [(u 11, .inl (cA 0, 10, .inl (fun _ => 0)))]) ++ [(u 12, .inl (cA 0, 10, .inl (fun _ => 0)))]) ++ [(u 13, .inl (cA 0, 4, .inl (upd (upd (upd (upd (fun _ => 0) (Int32.toNatClampNeg 0) 0) (Int32.toNatClampNeg 1) 1) (Int32.toNatClampNeg 2) 0) (Int32.toNatClampNeg 3) 0)))]) ++ [(u 14, .inl (cA 2, 80, .inl (fun _ => 0)))]) ++ [(u 15, .inl (cA 1, 16, .inr (.inl (fun _ => 0))))]) ++ [(u 16, .inl (cA 2, 40, .inl (fun _ => 0)))]) ++ [(u 17, .inl (cA 0, 10, .inl (fun _ => 0)))]) ++ [(u 18, .inl (cA 0, 18, .inl (fun _ => 0)))]) ++ [(u 19, .inl (cA 0, 3000, .inl (fun _ => 0)))]) ++ [(u 20, .inl (cA 0, 24000, .inl (fun _ => 0)))]) ++ [(u 21, .inl (cA 0, 240000, .inl (fun _ => 0)))]) ++ [(u 22, .inl (cA 0, 3000, .inl (fun _ => 0)))]) ++ [(u 23, .inl (cA 0, 3000, .inl (fun _ => 0)))]) ++ [(u 24, .inl (cA 0, 3000, .inl (fun _ => 0)))]) ++ [(u 25, .inl (cA 0, 3000, .inl (fun _ => 0)))]) ++ [(u 26, .inl (cA 1, 3000, .inr (.inl (fun _ => 0))))]) ++ [(u 27, .inl (cA 3, 3000, .inl (fun _ => 0)))]) ++ [(u 28, .inl (cA 0, 8192, .inl (fun _ => 0)))]) ++ [(u 29, .inl (cA 0, 8, .inl (fun _ => 0)))]) ++ [(u 30, .inl (cA 0, 10, .inl (fun _ => 0)))]) ++ [(u 31, .inl (cA 0, 4, .inl (fun _ => 0)))]) ++ [(u 32, .inl (cA 0, 101, .inl (fun _ => 0)))]) ++ [(u 33, .inl (cA 0, 266, .inl (fun _ => 0)))]) ++ [(u 34, .inl (cA 3, 2, .inl (fun _ => 0)))]) ++ [(u 35, .inl (cA 0, 2, .inl (fun _ => 0)))])
theorem mi_X11 : MthB yX11_init cX11_init 1 none 0 := ⟨List.mem_of_getElem? (i := 1392) (by decide +kernel), List.mem_of_getElem? (i := 106) (by decide +kernel), ⟨by decide +kernel, by decide +kernel, by decide +kernel⟩, by decide⟩
set_option maxRecDepth 100000 in
set_option maxHeartbeats 4000000 in
theorem ini_X11 : Ini yX11_init cX11_init 1 1 35 293917 11 59 wdX11 := by
  refine Ini.of (own := RX11) rfl (by decide +kernel) rfl (by decide) (fun cA h0 => ?_)
  refine in_fs (fs2 := [.int 0, .null, .null, .null, .null, .null, .null, .int 0, .null, .null, .null, .null, .null, .null, .null, .int 0, .int 0, .null, .int 0, .null, .int 0, .int 0, .null, .int 0, .int 0, .int 0, .int 0, .null, .int 0, .int 0, .int 0, .null, .int 0, .null, .int 0, .null, .null, .null, .null, .null, .null, .null, .null, .null, .int 0, .null, .int 0, .null, .null, .null, .int 0, .int 0, .int 0, .int 0, .null, .int 0, .null, .null, .null]) rfl ?_
  refine in_ald dX11_init_0 ?_
  refine in_obj (gt_in (List.mem_of_getElem? (i := 1393) (by decide +kernel)) rfl) dX11_init_1 (by decide) (by decide) ?_
  refine in_ald dX11_init_4 ?_
  refine in_bip (8) dX11_init_5 rfl ?_
  refine in_newI 8 rfl (by decide) (by decide) (Nat.le_of_ble_eq_true rfl) (Nat.le_of_ble_eq_true rfl) dX11_init_7 (fun q1 => ?_)
  refine in_putR (k := 1) ⟨RX11, TX11, 59, rfl, by decide, List.mem_of_getElem? (i := 1396) (by decide +kernel), rfl, rfl⟩ rfl rfl (Nat.le_of_ble_eq_true rfl) dX11_init_9 ?_
  refine in_fs (fs2 := [.int 0, .ref (q1), .null, .null, .null, .null, .null, .int 0, .null, .null, .null, .null, .null, .null, .null, .int 0, .int 0, .null, .int 0, .null, .int 0, .int 0, .null, .int 0, .int 0, .int 0, .int 0, .null, .int 0, .int 0, .int 0, .null, .int 0, .null, .int 0, .null, .null, .null, .null, .null, .null, .null, .null, .null, .int 0, .null, .int 0, .null, .null, .null, .int 0, .int 0, .int 0, .int 0, .null, .int 0, .null, .null, .null]) rfl ?_
  refine in_ald dX11_init_12 ?_
  refine in_bip (8) dX11_init_13 rfl ?_
  refine in_newI 8 rfl (by decide) (by decide) (Nat.le_of_ble_eq_true rfl) (Nat.le_of_ble_eq_true rfl) dX11_init_15 (fun q2 => ?_)
  refine in_putR (k := 2) ⟨RX11, TX11, 59, rfl, by decide, List.mem_of_getElem? (i := 1397) (by decide +kernel), rfl, rfl⟩ rfl rfl (Nat.le_of_ble_eq_true rfl) dX11_init_17 ?_
  refine in_fs (fs2 := [.int 0, .ref (q1), .ref (q2), .null, .null, .null, .null, .int 0, .null, .null, .null, .null, .null, .null, .null, .int 0, .int 0, .null, .int 0, .null, .int 0, .int 0, .null, .int 0, .int 0, .int 0, .int 0, .null, .int 0, .int 0, .int 0, .null, .int 0, .null, .int 0, .null, .null, .null, .null, .null, .null, .null, .null, .null, .int 0, .null, .int 0, .null, .null, .null, .int 0, .int 0, .int 0, .int 0, .null, .int 0, .null, .null, .null]) rfl ?_
  refine in_ald dX11_init_20 ?_
  refine in_bip (8) dX11_init_21 rfl ?_
  refine in_newZ 8 rfl (by decide) (by decide) (Nat.le_of_ble_eq_true rfl) (Nat.le_of_ble_eq_true rfl) dX11_init_23 (fun q3 => ?_)
  refine in_putR (k := 3) ⟨RX11, TX11, 59, rfl, by decide, List.mem_of_getElem? (i := 1398) (by decide +kernel), rfl, rfl⟩ rfl rfl (Nat.le_of_ble_eq_true rfl) dX11_init_25 ?_
  refine in_fs (fs2 := [.int 0, .ref (q1), .ref (q2), .ref (q3), .null, .null, .null, .int 0, .null, .null, .null, .null, .null, .null, .null, .int 0, .int 0, .null, .int 0, .null, .int 0, .int 0, .null, .int 0, .int 0, .int 0, .int 0, .null, .int 0, .int 0, .int 0, .null, .int 0, .null, .int 0, .null, .null, .null, .null, .null, .null, .null, .null, .null, .int 0, .null, .int 0, .null, .null, .null, .int 0, .int 0, .int 0, .int 0, .null, .int 0, .null, .null, .null]) rfl ?_
  refine in_ald dX11_init_28 ?_
  refine in_bip (8) dX11_init_29 rfl ?_
  refine in_newI 8 rfl (by decide) (by decide) (Nat.le_of_ble_eq_true rfl) (Nat.le_of_ble_eq_true rfl) dX11_init_31 (fun q4 => ?_)
  refine in_putR (k := 4) ⟨RX11, TX11, 59, rfl, by decide, List.mem_of_getElem? (i := 1399) (by decide +kernel), rfl, rfl⟩ rfl rfl (Nat.le_of_ble_eq_true rfl) dX11_init_33 ?_
  refine in_fs (fs2 := [.int 0, .ref (q1), .ref (q2), .ref (q3), .ref (q4), .null, .null, .int 0, .null, .null, .null, .null, .null, .null, .null, .int 0, .int 0, .null, .int 0, .null, .int 0, .int 0, .null, .int 0, .int 0, .int 0, .int 0, .null, .int 0, .int 0, .int 0, .null, .int 0, .null, .int 0, .null, .null, .null, .null, .null, .null, .null, .null, .null, .int 0, .null, .int 0, .null, .null, .null, .int 0, .int 0, .int 0, .int 0, .null, .int 0, .null, .null, .null]) rfl ?_
  refine in_ald dX11_init_36 ?_
  refine in_bip (8) dX11_init_37 rfl ?_
  refine in_newI 8 rfl (by decide) (by decide) (Nat.le_of_ble_eq_true rfl) (Nat.le_of_ble_eq_true rfl) dX11_init_39 (fun q5 => ?_)
  refine in_putR (k := 5) ⟨RX11, TX11, 59, rfl, by decide, List.mem_of_getElem? (i := 1400) (by decide +kernel), rfl, rfl⟩ rfl rfl (Nat.le_of_ble_eq_true rfl) dX11_init_41 ?_
  refine in_fs (fs2 := [.int 0, .ref (q1), .ref (q2), .ref (q3), .ref (q4), .ref (q5), .null, .int 0, .null, .null, .null, .null, .null, .null, .null, .int 0, .int 0, .null, .int 0, .null, .int 0, .int 0, .null, .int 0, .int 0, .int 0, .int 0, .null, .int 0, .int 0, .int 0, .null, .int 0, .null, .int 0, .null, .null, .null, .null, .null, .null, .null, .null, .null, .int 0, .null, .int 0, .null, .null, .null, .int 0, .int 0, .int 0, .int 0, .null, .int 0, .null, .null, .null]) rfl ?_
  refine in_ald dX11_init_44 ?_
  refine in_bip (64) dX11_init_45 rfl ?_
  refine in_newI 64 rfl (by decide) (by decide) (Nat.le_of_ble_eq_true rfl) (Nat.le_of_ble_eq_true rfl) dX11_init_47 (fun q6 => ?_)
  refine in_putR (k := 6) ⟨RX11, TX11, 59, rfl, by decide, List.mem_of_getElem? (i := 1401) (by decide +kernel), rfl, rfl⟩ rfl rfl (Nat.le_of_ble_eq_true rfl) dX11_init_49 ?_
  refine in_fs (fs2 := [.int 0, .ref (q1), .ref (q2), .ref (q3), .ref (q4), .ref (q5), .ref (q6), .int 0, .null, .null, .null, .null, .null, .null, .null, .int 0, .int 0, .null, .int 0, .null, .int 0, .int 0, .null, .int 0, .int 0, .int 0, .int 0, .null, .int 0, .int 0, .int 0, .null, .int 0, .null, .int 0, .null, .null, .null, .null, .null, .null, .null, .null, .null, .int 0, .null, .int 0, .null, .null, .null, .int 0, .int 0, .int 0, .int 0, .null, .int 0, .null, .null, .null]) rfl ?_
  refine in_ald dX11_init_52 ?_
  refine in_bip (10) dX11_init_53 rfl ?_
  refine in_newI 10 rfl (by decide) (by decide) (Nat.le_of_ble_eq_true rfl) (Nat.le_of_ble_eq_true rfl) dX11_init_55 (fun q7 => ?_)
  refine in_putR (k := 8) ⟨RX11, TX11, 59, rfl, by decide, List.mem_of_getElem? (i := 1403) (by decide +kernel), rfl, rfl⟩ rfl rfl (Nat.le_of_ble_eq_true rfl) dX11_init_57 ?_
  refine in_fs (fs2 := [.int 0, .ref (q1), .ref (q2), .ref (q3), .ref (q4), .ref (q5), .ref (q6), .int 0, .ref (q7), .null, .null, .null, .null, .null, .null, .int 0, .int 0, .null, .int 0, .null, .int 0, .int 0, .null, .int 0, .int 0, .int 0, .int 0, .null, .int 0, .int 0, .int 0, .null, .int 0, .null, .int 0, .null, .null, .null, .null, .null, .null, .null, .null, .null, .int 0, .null, .int 0, .null, .null, .null, .int 0, .int 0, .int 0, .int 0, .null, .int 0, .null, .null, .null]) rfl ?_
  refine in_ald dX11_init_60 ?_
  refine in_bip (10) dX11_init_61 rfl ?_
  refine in_newI 10 rfl (by decide) (by decide) (Nat.le_of_ble_eq_true rfl) (Nat.le_of_ble_eq_true rfl) dX11_init_63 (fun q8 => ?_)
  refine in_putR (k := 9) ⟨RX11, TX11, 59, rfl, by decide, List.mem_of_getElem? (i := 1404) (by decide +kernel), rfl, rfl⟩ rfl rfl (Nat.le_of_ble_eq_true rfl) dX11_init_65 ?_
  refine in_fs (fs2 := [.int 0, .ref (q1), .ref (q2), .ref (q3), .ref (q4), .ref (q5), .ref (q6), .int 0, .ref (q7), .ref (q8), .null, .null, .null, .null, .null, .int 0, .int 0, .null, .int 0, .null, .int 0, .int 0, .null, .int 0, .int 0, .int 0, .int 0, .null, .int 0, .int 0, .int 0, .null, .int 0, .null, .int 0, .null, .null, .null, .null, .null, .null, .null, .null, .null, .int 0, .null, .int 0, .null, .null, .null, .int 0, .int 0, .int 0, .int 0, .null, .int 0, .null, .null, .null]) rfl ?_
  refine in_ald dX11_init_68 ?_
  refine in_bip (10) dX11_init_69 rfl ?_
  refine in_newI 10 rfl (by decide) (by decide) (Nat.le_of_ble_eq_true rfl) (Nat.le_of_ble_eq_true rfl) dX11_init_71 (fun q9 => ?_)
  refine in_putR (k := 10) ⟨RX11, TX11, 59, rfl, by decide, List.mem_of_getElem? (i := 1405) (by decide +kernel), rfl, rfl⟩ rfl rfl (Nat.le_of_ble_eq_true rfl) dX11_init_73 ?_
  refine in_fs (fs2 := [.int 0, .ref (q1), .ref (q2), .ref (q3), .ref (q4), .ref (q5), .ref (q6), .int 0, .ref (q7), .ref (q8), .ref (q9), .null, .null, .null, .null, .int 0, .int 0, .null, .int 0, .null, .int 0, .int 0, .null, .int 0, .int 0, .int 0, .int 0, .null, .int 0, .int 0, .int 0, .null, .int 0, .null, .int 0, .null, .null, .null, .null, .null, .null, .null, .null, .null, .int 0, .null, .int 0, .null, .null, .null, .int 0, .int 0, .int 0, .int 0, .null, .int 0, .null, .null, .null]) rfl ?_
  refine in_ald dX11_init_76 ?_
  refine in_bip (10) dX11_init_77 rfl ?_
  refine in_newI 10 rfl (by decide) (by decide) (Nat.le_of_ble_eq_true rfl) (Nat.le_of_ble_eq_true rfl) dX11_init_79 (fun q10 => ?_)
  refine in_putR (k := 11) ⟨RX11, TX11, 59, rfl, by decide, List.mem_of_getElem? (i := 1406) (by decide +kernel), rfl, rfl⟩ rfl rfl (Nat.le_of_ble_eq_true rfl) dX11_init_81 ?_
  refine in_fs (fs2 := [.int 0, .ref (q1), .ref (q2), .ref (q3), .ref (q4), .ref (q5), .ref (q6), .int 0, .ref (q7), .ref (q8), .ref (q9), .ref (q10), .null, .null, .null, .int 0, .int 0, .null, .int 0, .null, .int 0, .int 0, .null, .int 0, .int 0, .int 0, .int 0, .null, .int 0, .int 0, .int 0, .null, .int 0, .null, .int 0, .null, .null, .null, .null, .null, .null, .null, .null, .null, .int 0, .null, .int 0, .null, .null, .null, .int 0, .int 0, .int 0, .int 0, .null, .int 0, .null, .null, .null]) rfl ?_
  refine in_ald dX11_init_84 ?_
  refine in_bip (10) dX11_init_85 rfl ?_
  refine in_newI 10 rfl (by decide) (by decide) (Nat.le_of_ble_eq_true rfl) (Nat.le_of_ble_eq_true rfl) dX11_init_87 (fun q11 => ?_)
  refine in_putR (k := 12) ⟨RX11, TX11, 59, rfl, by decide, List.mem_of_getElem? (i := 1407) (by decide +kernel), rfl, rfl⟩ rfl rfl (Nat.le_of_ble_eq_true rfl) dX11_init_89 ?_
  refine in_fs (fs2 := [.int 0, .ref (q1), .ref (q2), .ref (q3), .ref (q4), .ref (q5), .ref (q6), .int 0, .ref (q7), .ref (q8), .ref (q9), .ref (q10), .ref (q11), .null, .null, .int 0, .int 0, .null, .int 0, .null, .int 0, .int 0, .null, .int 0, .int 0, .int 0, .int 0, .null, .int 0, .int 0, .int 0, .null, .int 0, .null, .int 0, .null, .null, .null, .null, .null, .null, .null, .null, .null, .int 0, .null, .int 0, .null, .null, .null, .int 0, .int 0, .int 0, .int 0, .null, .int 0, .null, .null, .null]) rfl ?_
  refine in_ald dX11_init_92 ?_
  refine in_bip (10) dX11_init_93 rfl ?_
  refine in_newI 10 rfl (by decide) (by decide) (Nat.le_of_ble_eq_true rfl) (Nat.le_of_ble_eq_true rfl) dX11_init_95 (fun q12 => ?_)
  refine in_putR (k := 13) ⟨RX11, TX11, 59, rfl, by decide, List.mem_of_getElem? (i := 1408) (by decide +kernel), rfl, rfl⟩ rfl rfl (Nat.le_of_ble_eq_true rfl) dX11_init_97 ?_
  refine in_fs (fs2 := [.int 0, .ref (q1), .ref (q2), .ref (q3), .ref (q4), .ref (q5), .ref (q6), .int 0, .ref (q7), .ref (q8), .ref (q9), .ref (q10), .ref (q11), .ref (q12), .null, .int 0, .int 0, .null, .int 0, .null, .int 0, .int 0, .null, .int 0, .int 0, .int 0, .int 0, .null, .int 0, .int 0, .int 0, .null, .int 0, .null, .int 0, .null, .null, .null, .null, .null, .null, .null, .null, .null, .int 0, .null, .int 0, .null, .null, .null, .int 0, .int 0, .int 0, .int 0, .null, .int 0, .null, .null, .null]) rfl ?_
  refine in_ald dX11_init_100 ?_
  refine in_ic (4) dX11_init_101 rfl ?_
  refine in_newI 4 rfl (by decide) (by decide) (Nat.le_of_ble_eq_true rfl) (Nat.le_of_ble_eq_true rfl) dX11_init_102 (fun q13 => ?_)
  refine in_dup rfl dX11_init_104 ?_
  refine in_ic (0) dX11_init_105 rfl ?_
  refine in_ic (0) dX11_init_106 rfl ?_
  refine in_iast (show ¬ ((0 : Int32) < 0 ∨ 4 ≤ Int32.toNatClampNeg 0) by decide) dX11_init_107 ?_
  refine in_dup rfl dX11_init_108 ?_
  refine in_ic (1) dX11_init_109 rfl ?_
  refine in_ic (1) dX11_init_110 rfl ?_
  refine in_iast (show ¬ ((1 : Int32) < 0 ∨ 4 ≤ Int32.toNatClampNeg 1) by decide) dX11_init_111 ?_
  refine in_dup rfl dX11_init_112 ?_
  refine in_ic (2) dX11_init_113 rfl ?_
  refine in_ic (0) dX11_init_114 rfl ?_
  refine in_iast (show ¬ ((2 : Int32) < 0 ∨ 4 ≤ Int32.toNatClampNeg 2) by decide) dX11_init_115 ?_
  refine in_dup rfl dX11_init_116 ?_
  refine in_ic (3) dX11_init_117 rfl ?_
  refine in_ic (0) dX11_init_118 rfl ?_
  refine in_iast (show ¬ ((3 : Int32) < 0 ∨ 4 ≤ Int32.toNatClampNeg 3) by decide) dX11_init_119 ?_
  refine in_putR (k := 14) ⟨RX11, TX11, 59, rfl, by decide, List.mem_of_getElem? (i := 1409) (by decide +kernel), rfl, rfl⟩ rfl rfl (Nat.le_of_ble_eq_true rfl) dX11_init_120 ?_
  refine in_fs (fs2 := [.int 0, .ref (q1), .ref (q2), .ref (q3), .ref (q4), .ref (q5), .ref (q6), .int 0, .ref (q7), .ref (q8), .ref (q9), .ref (q10), .ref (q11), .ref (q12), .ref (q13), .int 0, .int 0, .null, .int 0, .null, .int 0, .int 0, .null, .int 0, .int 0, .int 0, .int 0, .null, .int 0, .int 0, .int 0, .null, .int 0, .null, .int 0, .null, .null, .null, .null, .null, .null, .null, .null, .null, .int 0, .null, .int 0, .null, .null, .null, .int 0, .int 0, .int 0, .int 0, .null, .int 0, .null, .null, .null]) rfl ?_
  refine in_ald dX11_init_123 ?_
  refine in_ic (1) dX11_init_124 rfl ?_
  refine in_putI (k := 16) fo_X11_50 fn_11_16 rfl rfl (Nat.le_of_ble_eq_true rfl) dX11_init_125 ?_
  refine in_fs (fs2 := [.int 0, .ref (q1), .ref (q2), .ref (q3), .ref (q4), .ref (q5), .ref (q6), .int 0, .ref (q7), .ref (q8), .ref (q9), .ref (q10), .ref (q11), .ref (q12), .ref (q13), .int 0, .int (1), .null, .int 0, .null, .int 0, .int 0, .null, .int 0, .int 0, .int 0, .int 0, .null, .int 0, .int 0, .int 0, .null, .int 0, .null, .int 0, .null, .null, .null, .null, .null, .null, .null, .null, .null, .int 0, .null, .int 0, .null, .null, .null, .int 0, .int 0, .int 0, .int 0, .null, .int 0, .null, .null, .null]) rfl ?_
  refine in_ald dX11_init_128 ?_
  refine in_bip (80) dX11_init_129 rfl ?_
  refine in_newB 80 rfl (by decide) (by decide) (Nat.le_of_ble_eq_true rfl) (Nat.le_of_ble_eq_true rfl) dX11_init_131 (fun q14 => ?_)
  refine in_putR (k := 17) ⟨RX11, TX11, 59, rfl, by decide, List.mem_of_getElem? (i := 1412) (by decide +kernel), rfl, rfl⟩ rfl rfl (Nat.le_of_ble_eq_true rfl) dX11_init_133 ?_
  refine in_fs (fs2 := [.int 0, .ref (q1), .ref (q2), .ref (q3), .ref (q4), .ref (q5), .ref (q6), .int 0, .ref (q7), .ref (q8), .ref (q9), .ref (q10), .ref (q11), .ref (q12), .ref (q13), .int 0, .int (1), .ref (q14), .int 0, .null, .int 0, .int 0, .null, .int 0, .int 0, .int 0, .int 0, .null, .int 0, .int 0, .int 0, .null, .int 0, .null, .int 0, .null, .null, .null, .null, .null, .null, .null, .null, .null, .int 0, .null, .int 0, .null, .null, .null, .int 0, .int 0, .int 0, .int 0, .null, .int 0, .null, .null, .null]) rfl ?_
  refine in_ald dX11_init_136 ?_
  refine in_bip (16) dX11_init_137 rfl ?_
  refine in_newJ 16 rfl (by decide) (by decide) (Nat.le_of_ble_eq_true rfl) (Nat.le_of_ble_eq_true rfl) dX11_init_139 (fun q15 => ?_)
  refine in_putR (k := 19) ⟨RX11, TX11, 59, rfl, by decide, List.mem_of_getElem? (i := 1414) (by decide +kernel), rfl, rfl⟩ rfl rfl (Nat.le_of_ble_eq_true rfl) dX11_init_141 ?_
  refine in_fs (fs2 := [.int 0, .ref (q1), .ref (q2), .ref (q3), .ref (q4), .ref (q5), .ref (q6), .int 0, .ref (q7), .ref (q8), .ref (q9), .ref (q10), .ref (q11), .ref (q12), .ref (q13), .int 0, .int (1), .ref (q14), .int 0, .ref (q15), .int 0, .int 0, .null, .int 0, .int 0, .int 0, .int 0, .null, .int 0, .int 0, .int 0, .null, .int 0, .null, .int 0, .null, .null, .null, .null, .null, .null, .null, .null, .null, .int 0, .null, .int 0, .null, .null, .null, .int 0, .int 0, .int 0, .int 0, .null, .int 0, .null, .null, .null]) rfl ?_
  refine in_ald dX11_init_144 ?_
  refine in_bip (40) dX11_init_145 rfl ?_
  refine in_newB 40 rfl (by decide) (by decide) (Nat.le_of_ble_eq_true rfl) (Nat.le_of_ble_eq_true rfl) dX11_init_147 (fun q16 => ?_)
  refine in_putR (k := 27) ⟨RX11, TX11, 59, rfl, by decide, List.mem_of_getElem? (i := 1422) (by decide +kernel), rfl, rfl⟩ rfl rfl (Nat.le_of_ble_eq_true rfl) dX11_init_149 ?_
  refine in_fs (fs2 := [.int 0, .ref (q1), .ref (q2), .ref (q3), .ref (q4), .ref (q5), .ref (q6), .int 0, .ref (q7), .ref (q8), .ref (q9), .ref (q10), .ref (q11), .ref (q12), .ref (q13), .int 0, .int (1), .ref (q14), .int 0, .ref (q15), .int 0, .int 0, .null, .int 0, .int 0, .int 0, .int 0, .ref (q16), .int 0, .int 0, .int 0, .null, .int 0, .null, .int 0, .null, .null, .null, .null, .null, .null, .null, .null, .null, .int 0, .null, .int 0, .null, .null, .null, .int 0, .int 0, .int 0, .int 0, .null, .int 0, .null, .null, .null]) rfl ?_
  refine in_ald dX11_init_152 ?_
  refine in_ic (-1) dX11_init_153 rfl ?_
  refine in_putI (k := 29) fo_X11_65 fn_11_29 rfl rfl (Nat.le_of_ble_eq_true rfl) dX11_init_154 ?_
  refine in_fs (fs2 := [.int 0, .ref (q1), .ref (q2), .ref (q3), .ref (q4), .ref (q5), .ref (q6), .int 0, .ref (q7), .ref (q8), .ref (q9), .ref (q10), .ref (q11), .ref (q12), .ref (q13), .int 0, .int (1), .ref (q14), .int 0, .ref (q15), .int 0, .int 0, .null, .int 0, .int 0, .int 0, .int 0, .ref (q16), .int 0, .int (-1), .int 0, .null, .int 0, .null, .int 0, .null, .null, .null, .null, .null, .null, .null, .null, .null, .int 0, .null, .int 0, .null, .null, .null, .int 0, .int 0, .int 0, .int 0, .null, .int 0, .null, .null, .null]) rfl ?_
  refine in_ald dX11_init_157 ?_
  refine in_bip (10) dX11_init_158 rfl ?_
  refine in_newI 10 rfl (by decide) (by decide) (Nat.le_of_ble_eq_true rfl) (Nat.le_of_ble_eq_true rfl) dX11_init_160 (fun q17 => ?_)
  refine in_putR (k := 31) ⟨RX11, TX11, 59, rfl, by decide, List.mem_of_getElem? (i := 1426) (by decide +kernel), rfl, rfl⟩ rfl rfl (Nat.le_of_ble_eq_true rfl) dX11_init_162 ?_
  refine in_fs (fs2 := [.int 0, .ref (q1), .ref (q2), .ref (q3), .ref (q4), .ref (q5), .ref (q6), .int 0, .ref (q7), .ref (q8), .ref (q9), .ref (q10), .ref (q11), .ref (q12), .ref (q13), .int 0, .int (1), .ref (q14), .int 0, .ref (q15), .int 0, .int 0, .null, .int 0, .int 0, .int 0, .int 0, .ref (q16), .int 0, .int (-1), .int 0, .ref (q17), .int 0, .null, .int 0, .null, .null, .null, .null, .null, .null, .null, .null, .null, .int 0, .null, .int 0, .null, .null, .null, .int 0, .int 0, .int 0, .int 0, .null, .int 0, .null, .null, .null]) rfl ?_
  refine in_ald dX11_init_165 ?_
  refine in_bip (18) dX11_init_166 rfl ?_
  refine in_newI 18 rfl (by decide) (by decide) (Nat.le_of_ble_eq_true rfl) (Nat.le_of_ble_eq_true rfl) dX11_init_168 (fun q18 => ?_)
  refine in_putR (k := 33) ⟨RX11, TX11, 59, rfl, by decide, List.mem_of_getElem? (i := 1428) (by decide +kernel), rfl, rfl⟩ rfl rfl (Nat.le_of_ble_eq_true rfl) dX11_init_170 ?_
  refine in_fs (fs2 := [.int 0, .ref (q1), .ref (q2), .ref (q3), .ref (q4), .ref (q5), .ref (q6), .int 0, .ref (q7), .ref (q8), .ref (q9), .ref (q10), .ref (q11), .ref (q12), .ref (q13), .int 0, .int (1), .ref (q14), .int 0, .ref (q15), .int 0, .int 0, .null, .int 0, .int 0, .int 0, .int 0, .ref (q16), .int 0, .int (-1), .int 0, .ref (q17), .int 0, .ref (q18), .int 0, .null, .null, .null, .null, .null, .null, .null, .null, .null, .int 0, .null, .int 0, .null, .null, .null, .int 0, .int 0, .int 0, .int 0, .null, .int 0, .null, .null, .null]) rfl ?_
  refine in_ald dX11_init_173 ?_
  refine in_sip (3000) dX11_init_174 rfl ?_
  refine in_newI 3000 rfl (by decide) (by decide) (Nat.le_of_ble_eq_true rfl) (Nat.le_of_ble_eq_true rfl) dX11_init_177 (fun q19 => ?_)
  refine in_putR (k := 35) ⟨RX11, TX11, 59, rfl, by decide, List.mem_of_getElem? (i := 1430) (by decide +kernel), rfl, rfl⟩ rfl rfl (Nat.le_of_ble_eq_true rfl) dX11_init_179 ?_
  refine in_fs (fs2 := [.int 0, .ref (q1), .ref (q2), .ref (q3), .ref (q4), .ref (q5), .ref (q6), .int 0, .ref (q7), .ref (q8), .ref (q9), .ref (q10), .ref (q11), .ref (q12), .ref (q13), .int 0, .int (1), .ref (q14), .int 0, .ref (q15), .int 0, .int 0, .null, .int 0, .int 0, .int 0, .int 0, .ref (q16), .int 0, .int (-1), .int 0, .ref (q17), .int 0, .ref (q18), .int 0, .ref (q19), .null, .null, .null, .null, .null, .null, .null, .null, .int 0, .null, .int 0, .null, .null, .null, .int 0, .int 0, .int 0, .int 0, .null, .int 0, .null, .null, .null]) rfl ?_
  refine in_ald dX11_init_182 ?_
  refine in_sip (24000) dX11_init_183 rfl ?_
  refine in_newI 24000 rfl (by decide) (by decide) (Nat.le_of_ble_eq_true rfl) (Nat.le_of_ble_eq_true rfl) dX11_init_186 (fun q20 => ?_)
  refine in_putR (k := 36) ⟨RX11, TX11, 59, rfl, by decide, List.mem_of_getElem? (i := 1431) (by decide +kernel), rfl, rfl⟩ rfl rfl (Nat.le_of_ble_eq_true rfl) dX11_init_188 ?_
  refine in_fs (fs2 := [.int 0, .ref (q1), .ref (q2), .ref (q3), .ref (q4), .ref (q5), .ref (q6), .int 0, .ref (q7), .ref (q8), .ref (q9), .ref (q10), .ref (q11), .ref (q12), .ref (q13), .int 0, .int (1), .ref (q14), .int 0, .ref (q15), .int 0, .int 0, .null, .int 0, .int 0, .int 0, .int 0, .ref (q16), .int 0, .int (-1), .int 0, .ref (q17), .int 0, .ref (q18), .int 0, .ref (q19), .ref (q20), .null, .null, .null, .null, .null, .null, .null, .int 0, .null, .int 0, .null, .null, .null, .int 0, .int 0, .int 0, .int 0, .null, .int 0, .null, .null, .null]) rfl ?_
  refine in_ald dX11_init_191 ?_
  refine in_ldc (v := 240000) (List.mem_of_getElem? (i := 1394) (by decide +kernel)) dX11_init_192 ?_
  refine in_newI 240000 rfl (by decide) (by decide) (Nat.le_of_ble_eq_true rfl) (Nat.le_of_ble_eq_true rfl) dX11_init_194 (fun q21 => ?_)
  refine in_putR (k := 37) ⟨RX11, TX11, 59, rfl, by decide, List.mem_of_getElem? (i := 1432) (by decide +kernel), rfl, rfl⟩ rfl rfl (Nat.le_of_ble_eq_true rfl) dX11_init_196 ?_
  refine in_fs (fs2 := [.int 0, .ref (q1), .ref (q2), .ref (q3), .ref (q4), .ref (q5), .ref (q6), .int 0, .ref (q7), .ref (q8), .ref (q9), .ref (q10), .ref (q11), .ref (q12), .ref (q13), .int 0, .int (1), .ref (q14), .int 0, .ref (q15), .int 0, .int 0, .null, .int 0, .int 0, .int 0, .int 0, .ref (q16), .int 0, .int (-1), .int 0, .ref (q17), .int 0, .ref (q18), .int 0, .ref (q19), .ref (q20), .ref (q21), .null, .null, .null, .null, .null, .null, .int 0, .null, .int 0, .null, .null, .null, .int 0, .int 0, .int 0, .int 0, .null, .int 0, .null, .null, .null]) rfl ?_
  refine in_ald dX11_init_199 ?_
  refine in_sip (3000) dX11_init_200 rfl ?_
  refine in_newI 3000 rfl (by decide) (by decide) (Nat.le_of_ble_eq_true rfl) (Nat.le_of_ble_eq_true rfl) dX11_init_203 (fun q22 => ?_)
  refine in_putR (k := 38) ⟨RX11, TX11, 59, rfl, by decide, List.mem_of_getElem? (i := 1433) (by decide +kernel), rfl, rfl⟩ rfl rfl (Nat.le_of_ble_eq_true rfl) dX11_init_205 ?_
  refine in_fs (fs2 := [.int 0, .ref (q1), .ref (q2), .ref (q3), .ref (q4), .ref (q5), .ref (q6), .int 0, .ref (q7), .ref (q8), .ref (q9), .ref (q10), .ref (q11), .ref (q12), .ref (q13), .int 0, .int (1), .ref (q14), .int 0, .ref (q15), .int 0, .int 0, .null, .int 0, .int 0, .int 0, .int 0, .ref (q16), .int 0, .int (-1), .int 0, .ref (q17), .int 0, .ref (q18), .int 0, .ref (q19), .ref (q20), .ref (q21), .ref (q22), .null, .null, .null, .null, .null, .int 0, .null, .int 0, .null, .null, .null, .int 0, .int 0, .int 0, .int 0, .null, .int 0, .null, .null, .null]) rfl ?_
  refine in_ald dX11_init_208 ?_
  refine in_sip (3000) dX11_init_209 rfl ?_
  refine in_newI 3000 rfl (by decide) (by decide) (Nat.le_of_ble_eq_true rfl) (Nat.le_of_ble_eq_true rfl) dX11_init_212 (fun q23 => ?_)
  refine in_putR (k := 39) ⟨RX11, TX11, 59, rfl, by decide, List.mem_of_getElem? (i := 1434) (by decide +kernel), rfl, rfl⟩ rfl rfl (Nat.le_of_ble_eq_true rfl) dX11_init_214 ?_
  refine in_fs (fs2 := [.int 0, .ref (q1), .ref (q2), .ref (q3), .ref (q4), .ref (q5), .ref (q6), .int 0, .ref (q7), .ref (q8), .ref (q9), .ref (q10), .ref (q11), .ref (q12), .ref (q13), .int 0, .int (1), .ref (q14), .int 0, .ref (q15), .int 0, .int 0, .null, .int 0, .int 0, .int 0, .int 0, .ref (q16), .int 0, .int (-1), .int 0, .ref (q17), .int 0, .ref (q18), .int 0, .ref (q19), .ref (q20), .ref (q21), .ref (q22), .ref (q23), .null, .null, .null, .null, .int 0, .null, .int 0, .null, .null, .null, .int 0, .int 0, .int 0, .int 0, .null, .int 0, .null, .null, .null]) rfl ?_
  refine in_ald dX11_init_217 ?_
  refine in_sip (3000) dX11_init_218 rfl ?_
  refine in_newI 3000 rfl (by decide) (by decide) (Nat.le_of_ble_eq_true rfl) (Nat.le_of_ble_eq_true rfl) dX11_init_221 (fun q24 => ?_)
  refine in_putR (k := 40) ⟨RX11, TX11, 59, rfl, by decide, List.mem_of_getElem? (i := 1435) (by decide +kernel), rfl, rfl⟩ rfl rfl (Nat.le_of_ble_eq_true rfl) dX11_init_223 ?_
  refine in_fs (fs2 := [.int 0, .ref (q1), .ref (q2), .ref (q3), .ref (q4), .ref (q5), .ref (q6), .int 0, .ref (q7), .ref (q8), .ref (q9), .ref (q10), .ref (q11), .ref (q12), .ref (q13), .int 0, .int (1), .ref (q14), .int 0, .ref (q15), .int 0, .int 0, .null, .int 0, .int 0, .int 0, .int 0, .ref (q16), .int 0, .int (-1), .int 0, .ref (q17), .int 0, .ref (q18), .int 0, .ref (q19), .ref (q20), .ref (q21), .ref (q22), .ref (q23), .ref (q24), .null, .null, .null, .int 0, .null, .int 0, .null, .null, .null, .int 0, .int 0, .int 0, .int 0, .null, .int 0, .null, .null, .null]) rfl ?_
  refine in_ald dX11_init_226 ?_
  refine in_sip (3000) dX11_init_227 rfl ?_
  refine in_newI 3000 rfl (by decide) (by decide) (Nat.le_of_ble_eq_true rfl) (Nat.le_of_ble_eq_true rfl) dX11_init_230 (fun q25 => ?_)
  refine in_putR (k := 41) ⟨RX11, TX11, 59, rfl, by decide, List.mem_of_getElem? (i := 1436) (by decide +kernel), rfl, rfl⟩ rfl rfl (Nat.le_of_ble_eq_true rfl) dX11_init_232 ?_
  refine in_fs (fs2 := [.int 0, .ref (q1), .ref (q2), .ref (q3), .ref (q4), .ref (q5), .ref (q6), .int 0, .ref (q7), .ref (q8), .ref (q9), .ref (q10), .ref (q11), .ref (q12), .ref (q13), .int 0, .int (1), .ref (q14), .int 0, .ref (q15), .int 0, .int 0, .null, .int 0, .int 0, .int 0, .int 0, .ref (q16), .int 0, .int (-1), .int 0, .ref (q17), .int 0, .ref (q18), .int 0, .ref (q19), .ref (q20), .ref (q21), .ref (q22), .ref (q23), .ref (q24), .ref (q25), .null, .null, .int 0, .null, .int 0, .null, .null, .null, .int 0, .int 0, .int 0, .int 0, .null, .int 0, .null, .null, .null]) rfl ?_
  refine in_ald dX11_init_235 ?_
  refine in_sip (3000) dX11_init_236 rfl ?_
  refine in_newJ 3000 rfl (by decide) (by decide) (Nat.le_of_ble_eq_true rfl) (Nat.le_of_ble_eq_true rfl) dX11_init_239 (fun q26 => ?_)
  refine in_putR (k := 42) ⟨RX11, TX11, 59, rfl, by decide, List.mem_of_getElem? (i := 1437) (by decide +kernel), rfl, rfl⟩ rfl rfl (Nat.le_of_ble_eq_true rfl) dX11_init_241 ?_
  refine in_fs (fs2 := [.int 0, .ref (q1), .ref (q2), .ref (q3), .ref (q4), .ref (q5), .ref (q6), .int 0, .ref (q7), .ref (q8), .ref (q9), .ref (q10), .ref (q11), .ref (q12), .ref (q13), .int 0, .int (1), .ref (q14), .int 0, .ref (q15), .int 0, .int 0, .null, .int 0, .int 0, .int 0, .int 0, .ref (q16), .int 0, .int (-1), .int 0, .ref (q17), .int 0, .ref (q18), .int 0, .ref (q19), .ref (q20), .ref (q21), .ref (q22), .ref (q23), .ref (q24), .ref (q25), .ref (q26), .null, .int 0, .null, .int 0, .null, .null, .null, .int 0, .int 0, .int 0, .int 0, .null, .int 0, .null, .null, .null]) rfl ?_
  refine in_ald dX11_init_244 ?_
  refine in_sip (3000) dX11_init_245 rfl ?_
  refine in_newZ 3000 rfl (by decide) (by decide) (Nat.le_of_ble_eq_true rfl) (Nat.le_of_ble_eq_true rfl) dX11_init_248 (fun q27 => ?_)
  refine in_putR (k := 43) ⟨RX11, TX11, 59, rfl, by decide, List.mem_of_getElem? (i := 1438) (by decide +kernel), rfl, rfl⟩ rfl rfl (Nat.le_of_ble_eq_true rfl) dX11_init_250 ?_
  refine in_fs (fs2 := [.int 0, .ref (q1), .ref (q2), .ref (q3), .ref (q4), .ref (q5), .ref (q6), .int 0, .ref (q7), .ref (q8), .ref (q9), .ref (q10), .ref (q11), .ref (q12), .ref (q13), .int 0, .int (1), .ref (q14), .int 0, .ref (q15), .int 0, .int 0, .null, .int 0, .int 0, .int 0, .int 0, .ref (q16), .int 0, .int (-1), .int 0, .ref (q17), .int 0, .ref (q18), .int 0, .ref (q19), .ref (q20), .ref (q21), .ref (q22), .ref (q23), .ref (q24), .ref (q25), .ref (q26), .ref (q27), .int 0, .null, .int 0, .null, .null, .null, .int 0, .int 0, .int 0, .int 0, .null, .int 0, .null, .null, .null]) rfl ?_
  refine in_ald dX11_init_253 ?_
  refine in_sip (8192) dX11_init_254 rfl ?_
  refine in_newI 8192 rfl (by decide) (by decide) (Nat.le_of_ble_eq_true rfl) (Nat.le_of_ble_eq_true rfl) dX11_init_257 (fun q28 => ?_)
  refine in_putR (k := 45) ⟨RX11, TX11, 59, rfl, by decide, List.mem_of_getElem? (i := 1440) (by decide +kernel), rfl, rfl⟩ rfl rfl (Nat.le_of_ble_eq_true rfl) dX11_init_259 ?_
  refine in_fs (fs2 := [.int 0, .ref (q1), .ref (q2), .ref (q3), .ref (q4), .ref (q5), .ref (q6), .int 0, .ref (q7), .ref (q8), .ref (q9), .ref (q10), .ref (q11), .ref (q12), .ref (q13), .int 0, .int (1), .ref (q14), .int 0, .ref (q15), .int 0, .int 0, .null, .int 0, .int 0, .int 0, .int 0, .ref (q16), .int 0, .int (-1), .int 0, .ref (q17), .int 0, .ref (q18), .int 0, .ref (q19), .ref (q20), .ref (q21), .ref (q22), .ref (q23), .ref (q24), .ref (q25), .ref (q26), .ref (q27), .int 0, .ref (q28), .int 0, .null, .null, .null, .int 0, .int 0, .int 0, .int 0, .null, .int 0, .null, .null, .null]) rfl ?_
  refine in_ald dX11_init_262 ?_
  refine in_bip (8) dX11_init_263 rfl ?_
  refine in_newI 8 rfl (by decide) (by decide) (Nat.le_of_ble_eq_true rfl) (Nat.le_of_ble_eq_true rfl) dX11_init_265 (fun q29 => ?_)
  refine in_putR (k := 47) ⟨RX11, TX11, 59, rfl, by decide, List.mem_of_getElem? (i := 1442) (by decide +kernel), rfl, rfl⟩ rfl rfl (Nat.le_of_ble_eq_true rfl) dX11_init_267 ?_
  refine in_fs (fs2 := [.int 0, .ref (q1), .ref (q2), .ref (q3), .ref (q4), .ref (q5), .ref (q6), .int 0, .ref (q7), .ref (q8), .ref (q9), .ref (q10), .ref (q11), .ref (q12), .ref (q13), .int 0, .int (1), .ref (q14), .int 0, .ref (q15), .int 0, .int 0, .null, .int 0, .int 0, .int 0, .int 0, .ref (q16), .int 0, .int (-1), .int 0, .ref (q17), .int 0, .ref (q18), .int 0, .ref (q19), .ref (q20), .ref (q21), .ref (q22), .ref (q23), .ref (q24), .ref (q25), .ref (q26), .ref (q27), .int 0, .ref (q28), .int 0, .ref (q29), .null, .null, .int 0, .int 0, .int 0, .int 0, .null, .int 0, .null, .null, .null]) rfl ?_
  refine in_ald dX11_init_270 ?_
  refine in_bip (10) dX11_init_271 rfl ?_
  refine in_newI 10 rfl (by decide) (by decide) (Nat.le_of_ble_eq_true rfl) (Nat.le_of_ble_eq_true rfl) dX11_init_273 (fun q30 => ?_)
  refine in_putR (k := 48) ⟨RX11, TX11, 59, rfl, by decide, List.mem_of_getElem? (i := 1443) (by decide +kernel), rfl, rfl⟩ rfl rfl (Nat.le_of_ble_eq_true rfl) dX11_init_275 ?_
  refine in_fs (fs2 := [.int 0, .ref (q1), .ref (q2), .ref (q3), .ref (q4), .ref (q5), .ref (q6), .int 0, .ref (q7), .ref (q8), .ref (q9), .ref (q10), .ref (q11), .ref (q12), .ref (q13), .int 0, .int (1), .ref (q14), .int 0, .ref (q15), .int 0, .int 0, .null, .int 0, .int 0, .int 0, .int 0, .ref (q16), .int 0, .int (-1), .int 0, .ref (q17), .int 0, .ref (q18), .int 0, .ref (q19), .ref (q20), .ref (q21), .ref (q22), .ref (q23), .ref (q24), .ref (q25), .ref (q26), .ref (q27), .int 0, .ref (q28), .int 0, .ref (q29), .ref (q30), .null, .int 0, .int 0, .int 0, .int 0, .null, .int 0, .null, .null, .null]) rfl ?_
  refine in_ald dX11_init_278 ?_
  refine in_ic (4) dX11_init_279 rfl ?_
  refine in_newI 4 rfl (by decide) (by decide) (Nat.le_of_ble_eq_true rfl) (Nat.le_of_ble_eq_true rfl) dX11_init_280 (fun q31 => ?_)
  refine in_putR (k := 49) ⟨RX11, TX11, 59, rfl, by decide, List.mem_of_getElem? (i := 1444) (by decide +kernel), rfl, rfl⟩ rfl rfl (Nat.le_of_ble_eq_true rfl) dX11_init_282 ?_
  refine in_fs (fs2 := [.int 0, .ref (q1), .ref (q2), .ref (q3), .ref (q4), .ref (q5), .ref (q6), .int 0, .ref (q7), .ref (q8), .ref (q9), .ref (q10), .ref (q11), .ref (q12), .ref (q13), .int 0, .int (1), .ref (q14), .int 0, .ref (q15), .int 0, .int 0, .null, .int 0, .int 0, .int 0, .int 0, .ref (q16), .int 0, .int (-1), .int 0, .ref (q17), .int 0, .ref (q18), .int 0, .ref (q19), .ref (q20), .ref (q21), .ref (q22), .ref (q23), .ref (q24), .ref (q25), .ref (q26), .ref (q27), .int 0, .ref (q28), .int 0, .ref (q29), .ref (q30), .ref (q31), .int 0, .int 0, .int 0, .int 0, .null, .int 0, .null, .null, .null]) rfl ?_
  refine in_ald dX11_init_285 ?_
  refine in_bip (101) dX11_init_286 rfl ?_
  refine in_newI 101 rfl (by decide) (by decide) (Nat.le_of_ble_eq_true rfl) (Nat.le_of_ble_eq_true rfl) dX11_init_288 (fun q32 => ?_)
  refine in_putR (k := 54) ⟨RX11, TX11, 59, rfl, by decide, List.mem_of_getElem? (i := 1449) (by decide +kernel), rfl, rfl⟩ rfl rfl (Nat.le_of_ble_eq_true rfl) dX11_init_290 ?_
  refine in_fs (fs2 := [.int 0, .ref (q1), .ref (q2), .ref (q3), .ref (q4), .ref (q5), .ref (q6), .int 0, .ref (q7), .ref (q8), .ref (q9), .ref (q10), .ref (q11), .ref (q12), .ref (q13), .int 0, .int (1), .ref (q14), .int 0, .ref (q15), .int 0, .int 0, .null, .int 0, .int 0, .int 0, .int 0, .ref (q16), .int 0, .int (-1), .int 0, .ref (q17), .int 0, .ref (q18), .int 0, .ref (q19), .ref (q20), .ref (q21), .ref (q22), .ref (q23), .ref (q24), .ref (q25), .ref (q26), .ref (q27), .int 0, .ref (q28), .int 0, .ref (q29), .ref (q30), .ref (q31), .int 0, .int 0, .int 0, .int 0, .ref (q32), .int 0, .null, .null, .null]) rfl ?_
  refine in_ald dX11_init_293 ?_
  refine in_sip (266) dX11_init_294 rfl ?_
  refine in_newI 266 rfl (by decide) (by decide) (Nat.le_of_ble_eq_true rfl) (Nat.le_of_ble_eq_true rfl) dX11_init_297 (fun q33 => ?_)
  refine in_putR (k := 56) ⟨RX11, TX11, 59, rfl, by decide, List.mem_of_getElem? (i := 1451) (by decide +kernel), rfl, rfl⟩ rfl rfl (Nat.le_of_ble_eq_true rfl) dX11_init_299 ?_
  refine in_fs (fs2 := [.int 0, .ref (q1), .ref (q2), .ref (q3), .ref (q4), .ref (q5), .ref (q6), .int 0, .ref (q7), .ref (q8), .ref (q9), .ref (q10), .ref (q11), .ref (q12), .ref (q13), .int 0, .int (1), .ref (q14), .int 0, .ref (q15), .int 0, .int 0, .null, .int 0, .int 0, .int 0, .int 0, .ref (q16), .int 0, .int (-1), .int 0, .ref (q17), .int 0, .ref (q18), .int 0, .ref (q19), .ref (q20), .ref (q21), .ref (q22), .ref (q23), .ref (q24), .ref (q25), .ref (q26), .ref (q27), .int 0, .ref (q28), .int 0, .ref (q29), .ref (q30), .ref (q31), .int 0, .int 0, .int 0, .int 0, .ref (q32), .int 0, .ref (q33), .null, .null]) rfl ?_
  refine in_ald dX11_init_302 ?_
  refine in_ic (2) dX11_init_303 rfl ?_
  refine in_newZ 2 rfl (by decide) (by decide) (Nat.le_of_ble_eq_true rfl) (Nat.le_of_ble_eq_true rfl) dX11_init_304 (fun q34 => ?_)
  refine in_putR (k := 57) ⟨RX11, TX11, 59, rfl, by decide, List.mem_of_getElem? (i := 1452) (by decide +kernel), rfl, rfl⟩ rfl rfl (Nat.le_of_ble_eq_true rfl) dX11_init_306 ?_
  refine in_fs (fs2 := [.int 0, .ref (q1), .ref (q2), .ref (q3), .ref (q4), .ref (q5), .ref (q6), .int 0, .ref (q7), .ref (q8), .ref (q9), .ref (q10), .ref (q11), .ref (q12), .ref (q13), .int 0, .int (1), .ref (q14), .int 0, .ref (q15), .int 0, .int 0, .null, .int 0, .int 0, .int 0, .int 0, .ref (q16), .int 0, .int (-1), .int 0, .ref (q17), .int 0, .ref (q18), .int 0, .ref (q19), .ref (q20), .ref (q21), .ref (q22), .ref (q23), .ref (q24), .ref (q25), .ref (q26), .ref (q27), .int 0, .ref (q28), .int 0, .ref (q29), .ref (q30), .ref (q31), .int 0, .int 0, .int 0, .int 0, .ref (q32), .int 0, .ref (q33), .ref (q34), .null]) rfl ?_
  refine in_ald dX11_init_309 ?_
  refine in_ic (2) dX11_init_310 rfl ?_
  refine in_newI 2 rfl (by decide) (by decide) (Nat.le_of_ble_eq_true rfl) (Nat.le_of_ble_eq_true rfl) dX11_init_311 (fun q35 => ?_)
  refine in_putR (k := 58) ⟨RX11, TX11, 59, rfl, by decide, List.mem_of_getElem? (i := 1453) (by decide +kernel), rfl, rfl⟩ rfl rfl (Nat.le_of_ble_eq_true rfl) dX11_init_313 ?_
  refine in_fs (fs2 := [.int 0, .ref (q1), .ref (q2), .ref (q3), .ref (q4), .ref (q5), .ref (q6), .int 0, .ref (q7), .ref (q8), .ref (q9), .ref (q10), .ref (q11), .ref (q12), .ref (q13), .int 0, .int (1), .ref (q14), .int 0, .ref (q15), .int 0, .int 0, .null, .int 0, .int 0, .int 0, .int 0, .ref (q16), .int 0, .int (-1), .int 0, .ref (q17), .int 0, .ref (q18), .int 0, .ref (q19), .ref (q20), .ref (q21), .ref (q22), .ref (q23), .ref (q24), .ref (q25), .ref (q26), .ref (q27), .int 0, .ref (q28), .int 0, .ref (q29), .ref (q30), .ref (q31), .int 0, .int 0, .int 0, .int 0, .ref (q32), .int 0, .ref (q33), .ref (q34), .ref (q35)]) rfl ?_
  exact in_ret dX11_init_316 ⟨(fun j => match j with | 1 => q1 | 2 => q2 | 3 => q3 | 4 => q4 | 5 => q5 | 6 => q6 | 7 => q7 | 8 => q8 | 9 => q9 | 10 => q10 | 11 => q11 | 12 => q12 | 13 => q13 | 14 => q14 | 15 => q15 | 16 => q16 | 17 => q17 | 18 => q18 | 19 => q19 | 20 => q20 | 21 => q21 | 22 => q22 | 23 => q23 | 24 => q24 | 25 => q25 | 26 => q26 | 27 => q27 | 28 => q28 | 29 => q29 | 30 => q30 | 31 => q31 | 32 => q32 | 33 => q33 | 34 => q34 | 35 => q35 | _ => 0), rfl⟩ (Nat.le_of_ble_eq_true rfl) (Nat.le_of_ble_eq_true rfl)
