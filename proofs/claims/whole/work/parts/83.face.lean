set_option maxRecDepth 100000 in
set_option maxHeartbeats 4000000 in
theorem c_X10_sign {M : Mem} {L : Nat} (hL : M.1 2 1 = nI L) (h : L + 4 ≤ 80) {v : Int32} : Fun yX10_sign cX10_sign 2 (some .int) 1 [.ref 0, .int v] M (some (.int (nI (L + 4)))) (t4M M L v) := by
  refine Fun.of (own := RX10) ([some (.ref 0), some (.int v)]) rfl (by decide +kernel) (Nat.le_of_ble_eq_true rfl) rfl ?_
  refine rx_aload_n (i := 0) dX10_sign_0 rfl rfl ?_
  refine rx_getR 2 (k := 0) fo_X10_12 kl_0 (by decide) ti_10_0 (by decide) rfl dX10_sign_1 ?_
  refine rx_iload_n (i := 1) dX10_sign_4 rfl rfl ?_
  refine rx_cvI (ci := 6) mo_X6_addFour lk_X10_92 (c_X6_addFour hL h) (by decide) rfl rfl (Nat.le_of_ble_eq_true rfl) kl_2 rfl dX10_sign_5 ?_
  refine rx_if_eq (tgt := 21) dX10_sign_8 (by decide) (fun c8 => absurd c8 (by decide)) (fun c8 => ?_)
  refine rx_aload_n (i := 0) dX10_sign_11 rfl rfl ?_
  refine rx_getR 2 (k := 0) fo_X10_12 kl_0 (by decide) ti_10_0 (by decide) rfl dX10_sign_12 ?_
  refine rx_cvI (ci := 6) mo_X6_length lk_X10_96 c_X6_length (by decide) rfl rfl (Nat.le_of_ble_eq_true rfl) kl_2 rfl dX10_sign_15 ?_
  refine rx_goto (tgt := 22) dX10_sign_18 (by decide) ?_
  exact rx_fiI dX10_sign_22 (by simp [t4M, setI]) rfl
set_option maxRecDepth 100000 in
set_option maxHeartbeats 4000000 in
theorem c_X10_sign_no {M : Mem} {L : Nat} (hL : M.1 2 1 = nI L) (h : ¬ L + 4 ≤ 80) (hl : L ≤ 80) {v : Int32} : Fun yX10_sign cX10_sign 2 (some .int) 1 [.ref 0, .int v] M (some (.int (-1))) (M) := by
  refine Fun.of (own := RX10) ([some (.ref 0), some (.int v)]) rfl (by decide +kernel) (Nat.le_of_ble_eq_true rfl) rfl ?_
  refine rx_aload_n (i := 0) dX10_sign_0 rfl rfl ?_
  refine rx_getR 2 (k := 0) fo_X10_12 kl_0 (by decide) ti_10_0 (by decide) rfl dX10_sign_1 ?_
  refine rx_iload_n (i := 1) dX10_sign_4 rfl rfl ?_
  refine rx_cvI (ci := 6) mo_X6_addFour lk_X10_92 (c_X6_addFour_no hL h hl) (by decide) rfl rfl (Nat.le_of_ble_eq_true rfl) kl_2 rfl dX10_sign_5 ?_
  refine rx_if_eq (tgt := 21) dX10_sign_8 (by decide) (fun c8 => ?_) (fun c8 => absurd c8 (by decide))
  refine rx_iconst (-1) dX10_sign_21 rfl ?_
  exact rx_fiI dX10_sign_22 rfl rfl
set_option maxRecDepth 100000 in
set_option maxHeartbeats 4000000 in
theorem c_X10_end {M : Mem} {x : Int32} : Fun yX10_end cX10_end 2 (some .boolean) 1 [.ref 0, .int x] M (some (.int (if 0 ≤ x ∧ x ≤ M.1 2 1 then 1 else 0))) (if 0 ≤ x ∧ x ≤ M.1 2 1 then setI M 2 1 x else M) := by
  refine Fun.of (own := RX10) ([some (.ref 0), some (.int x)]) rfl (by decide +kernel) (Nat.le_of_ble_eq_true rfl) rfl ?_
  refine rx_aload_n (i := 0) dX10_end_0 rfl rfl ?_
  refine rx_getR 2 (k := 0) fo_X10_12 kl_0 (by decide) ti_10_0 (by decide) rfl dX10_end_1 ?_
  refine rx_iload_n (i := 1) dX10_end_4 rfl rfl ?_
  refine rx_cvI (ci := 6) mo_X6_cut lk_X10_100 c_X6_cut (by decide) rfl rfl (Nat.le_of_ble_eq_true rfl) kl_2 rfl dX10_end_5 ?_
  exact rx_fiZ dX10_end_8 (by split <;> decide) rfl rfl
set_option maxRecDepth 100000 in
set_option maxHeartbeats 4000000 in
theorem c_X10_today {M : Mem} : Fun yX10_today cX10_today 1 (some .int) 0 [.ref 0] M (some (.int (M.1 28 18))) (M) := by
  refine Fun.of (own := RX10) ([some (.ref 0)]) rfl (by decide +kernel) (Nat.le_of_ble_eq_true rfl) rfl ?_
  refine rx_aload_n (i := 0) dX10_today_0 rfl rfl ?_
  refine rx_getR 28 (k := 2) fo_X10_26 kl_0 (by decide) ti_10_2 (by decide) rfl dX10_today_1 ?_
  refine rx_getI (k := 18) fo_X10_418 kl_28 (by decide) ti_8_18 dX10_today_4 ?_
  exact rx_fiI dX10_today_7 rfl rfl
set_option maxRecDepth 100000 in
set_option maxHeartbeats 4000000 in
theorem c_X10_isDay {M : Mem} {x : Int32} : Fun yX10_isDay cX10_isDay 1 (some .boolean) 0 [.int x] M (some (.int (if 0 ≤ x ∧ x ≤ 99 then 1 else 0))) (M) := by
  refine Fun.of (own := RX10) ([some (.int x)]) rfl (by decide +kernel) (Nat.le_of_ble_eq_true rfl) rfl ?_
  refine rx_iload_n (i := 0) dX10_isDay_0 rfl rfl ?_
  refine rx_if_lt (tgt := 14) dX10_isDay_1 (by decide) (fun c1 => ?_) (fun c1 => ?_)
  · skip
    have f1 := Int32.not_le.mpr c1
    refine rx_iconst (0) dX10_isDay_14 rfl ?_
    first | exact rx_fiZ dX10_isDay_15 (Or.inr rfl) (by rw [if_pos ⟨Int32.not_lt.mp c1, Int32.not_lt.mp c7⟩]) rfl | exact rx_fiZ dX10_isDay_15 (Or.inl rfl) (by rw [if_neg fun q => c7 |> fun z => absurd z (Int32.not_lt.mpr q.2)]) rfl | exact rx_fiZ dX10_isDay_15 (Or.inl rfl) (by rw [if_neg fun q => absurd c1 (Int32.not_lt.mpr q.1)]) rfl
  · skip
    have f1 := Int32.not_lt.mp c1
    refine rx_iload_n (i := 0) dX10_isDay_4 rfl rfl ?_
    refine rx_bipush (99) dX10_isDay_5 rfl ?_
    refine rx_icmp_gt (tgt := 14) dX10_isDay_7 (by decide) (fun c7 => ?_) (fun c7 => ?_)
    · skip
      have f7 := Int32.not_le.mpr c7
      refine rx_iconst (0) dX10_isDay_14 rfl ?_
      first | exact rx_fiZ dX10_isDay_15 (Or.inr rfl) (by rw [if_pos ⟨Int32.not_lt.mp c1, Int32.not_lt.mp c7⟩]) rfl | exact rx_fiZ dX10_isDay_15 (Or.inl rfl) (by rw [if_neg fun q => c7 |> fun z => absurd z (Int32.not_lt.mpr q.2)]) rfl | exact rx_fiZ dX10_isDay_15 (Or.inl rfl) (by rw [if_neg fun q => absurd c1 (Int32.not_lt.mpr q.1)]) rfl
    · skip
      have f7 := Int32.not_lt.mp c7
      refine rx_iconst (1) dX10_isDay_10 rfl ?_
      refine rx_goto (tgt := 15) dX10_isDay_11 (by decide) ?_
      first | exact rx_fiZ dX10_isDay_15 (Or.inr rfl) (by rw [if_pos ⟨Int32.not_lt.mp c1, Int32.not_lt.mp c7⟩]) rfl | exact rx_fiZ dX10_isDay_15 (Or.inl rfl) (by rw [if_neg fun q => c7 |> fun z => absurd z (Int32.not_lt.mpr q.2)]) rfl | exact rx_fiZ dX10_isDay_15 (Or.inl rfl) (by rw [if_neg fun q => absurd c1 (Int32.not_lt.mpr q.1)]) rfl
set_option maxRecDepth 100000 in
set_option maxHeartbeats 4000000 in
theorem c_X10_isSpan {M : Mem} {x : Int32} : Fun yX10_isSpan cX10_isSpan 1 (some .boolean) 0 [.int x] M (some (.int (if 0 ≤ x ∧ x ≤ 60 then 1 else 0))) (M) := by
  refine Fun.of (own := RX10) ([some (.int x)]) rfl (by decide +kernel) (Nat.le_of_ble_eq_true rfl) rfl ?_
  refine rx_iload_n (i := 0) dX10_isSpan_0 rfl rfl ?_
  refine rx_if_lt (tgt := 14) dX10_isSpan_1 (by decide) (fun c1 => ?_) (fun c1 => ?_)
  · skip
    have f1 := Int32.not_le.mpr c1
    refine rx_iconst (0) dX10_isSpan_14 rfl ?_
    first | exact rx_fiZ dX10_isSpan_15 (Or.inr rfl) (by rw [if_pos ⟨Int32.not_lt.mp c1, Int32.not_lt.mp c7⟩]) rfl | exact rx_fiZ dX10_isSpan_15 (Or.inl rfl) (by rw [if_neg fun q => c7 |> fun z => absurd z (Int32.not_lt.mpr q.2)]) rfl | exact rx_fiZ dX10_isSpan_15 (Or.inl rfl) (by rw [if_neg fun q => absurd c1 (Int32.not_lt.mpr q.1)]) rfl
  · skip
    have f1 := Int32.not_lt.mp c1
    refine rx_iload_n (i := 0) dX10_isSpan_4 rfl rfl ?_
    refine rx_bipush (60) dX10_isSpan_5 rfl ?_
    refine rx_icmp_gt (tgt := 14) dX10_isSpan_7 (by decide) (fun c7 => ?_) (fun c7 => ?_)
    · skip
      have f7 := Int32.not_le.mpr c7
      refine rx_iconst (0) dX10_isSpan_14 rfl ?_
      first | exact rx_fiZ dX10_isSpan_15 (Or.inr rfl) (by rw [if_pos ⟨Int32.not_lt.mp c1, Int32.not_lt.mp c7⟩]) rfl | exact rx_fiZ dX10_isSpan_15 (Or.inl rfl) (by rw [if_neg fun q => c7 |> fun z => absurd z (Int32.not_lt.mpr q.2)]) rfl | exact rx_fiZ dX10_isSpan_15 (Or.inl rfl) (by rw [if_neg fun q => absurd c1 (Int32.not_lt.mpr q.1)]) rfl
    · skip
      have f7 := Int32.not_lt.mp c7
      refine rx_iconst (1) dX10_isSpan_10 rfl ?_
      refine rx_goto (tgt := 15) dX10_isSpan_11 (by decide) ?_
      first | exact rx_fiZ dX10_isSpan_15 (Or.inr rfl) (by rw [if_pos ⟨Int32.not_lt.mp c1, Int32.not_lt.mp c7⟩]) rfl | exact rx_fiZ dX10_isSpan_15 (Or.inl rfl) (by rw [if_neg fun q => c7 |> fun z => absurd z (Int32.not_lt.mpr q.2)]) rfl | exact rx_fiZ dX10_isSpan_15 (Or.inl rfl) (by rw [if_neg fun q => absurd c1 (Int32.not_lt.mpr q.1)]) rfl
