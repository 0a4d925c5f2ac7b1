set_option maxRecDepth 100000 in
set_option maxHeartbeats 4000000 in
theorem c_X10_hide {M : Mem} {n i : Nat} {x : Int32} (hn : M.1 28 15 = nI n) (hn8 : n ≤ 8) (hi : i < n) (hx : 0 ≤ x ∧ x ≤ M.1 29 i) : Fun yX10_hide cX10_hide 4 (some .int) 1 [.ref 0, .int (nI i), .int x] M (some (.int (M.1 32 i))) (setI (setI M 32 i x) 0 14 0) := by
  refine Fun.of (own := RX10) ([some (.ref 0), some (.int (nI i)), some (.int x), none]) rfl (by decide +kernel) (Nat.le_of_ble_eq_true rfl) rfl ?_
  refine rx_aload_n (i := 0) dX10_hide_0 rfl rfl ?_
  refine rx_getR 28 (k := 2) fo_X10_26 kl_0 (by decide) ti_10_2 (by decide) rfl dX10_hide_1 ?_
  refine rx_iload_n (i := 1) dX10_hide_4 rfl rfl ?_
  refine rx_cvI (ci := 8) mo_X8_isPerson lk_X10_120 (c_X8_isPerson (t := 28) (by unfold isTown; omega)) (by decide) rfl rfl (Nat.le_of_ble_eq_true rfl) kl_28 rfl dX10_hide_5 ?_
  refine rx_top (1) (by rw [hn]; exact one_i hi (by omega)) ?_
  refine rx_if_eq (tgt := 28) dX10_hide_8 (by decide) (fun c8 => absurd c8 (by decide)) (fun c8 => ?_)
  refine rx_iload_n (i := 2) dX10_hide_11 rfl rfl ?_
  refine rx_if_lt (tgt := 28) dX10_hide_12 (by decide) (fun c12 => ?_) (fun c12 => ?_)
  · skip
    have f12 := Int32.not_le.mpr c12
    exact absurd hx.1 (Int32.not_le.mpr c12)
    skip
  · skip
    have f12 := Int32.not_lt.mp c12
    refine rx_iload_n (i := 2) dX10_hide_15 rfl rfl ?_
    refine rx_aload_n (i := 0) dX10_hide_16 rfl rfl ?_
    refine rx_getR 28 (k := 2) fo_X10_26 kl_0 (by decide) ti_10_2 (by decide) rfl dX10_hide_17 ?_
    refine rx_getR 29 (k := 0) fo_X10_126 kl_28 (by decide) ti_8_0 (by decide) rfl dX10_hide_20 ?_
    refine rx_iload_n (i := 1) dX10_hide_23 rfl rfl ?_
    refine rx_ialdN kl_29 (by omega) (by first | decide | omega) dX10_hide_24 ?_
    refine rx_icmp_le (tgt := 30) dX10_hide_25 (by decide) (fun c25 => ?_) (fun c25 => ?_)
    · skip
      have f25 := Int32.not_lt.mpr c25
      refine rx_aload_n (i := 0) dX10_hide_30 rfl rfl ?_
      refine rx_getR 28 (k := 2) fo_X10_26 kl_0 (by decide) ti_10_2 (by decide) rfl dX10_hide_31 ?_
      refine rx_getR 32 (k := 3) fo_X10_135 kl_28 (by decide) ti_8_3 (by decide) rfl dX10_hide_34 ?_
      refine rx_iload_n (i := 1) dX10_hide_37 rfl rfl ?_
      refine rx_ialdN kl_32 (by omega) (by first | decide | omega) dX10_hide_38 ?_
      refine rx_istore_n (i := 3) dX10_hide_39 rfl (by decide) rfl rfl ?_
      refine rx_aload_n (i := 0) dX10_hide_40 rfl rfl ?_
      refine rx_getR 28 (k := 2) fo_X10_26 kl_0 (by decide) ti_10_2 (by decide) rfl dX10_hide_41 ?_
      refine rx_getR 32 (k := 3) fo_X10_135 kl_28 (by decide) ti_8_3 (by decide) rfl dX10_hide_44 ?_
      refine rx_iload_n (i := 1) dX10_hide_47 rfl rfl ?_
      refine rx_iload_n (i := 2) dX10_hide_48 rfl rfl ?_
      refine rx_iastN kl_32 (by omega) (by first | decide | omega) dX10_hide_49 ?_
      refine rx_aload_n (i := 0) dX10_hide_50 rfl rfl ?_
      refine rx_cvN (ci := 10) mo_X10_forgetPayments lk_X10_110 c_X10_forgetPayments (by decide) rfl rfl (Nat.le_of_ble_eq_true rfl) kl_0 rfl dX10_hide_51 ?_
      refine rx_iload_n (i := 3) dX10_hide_54 rfl rfl ?_
      exact rx_fiI dX10_hide_55 rfl rfl
    · skip
      have f25 := Int32.not_le.mp c25
      exact absurd hx.2 c25
      skip
set_option maxRecDepth 100000 in
set_option maxHeartbeats 4000000 in
theorem c_X10_hide_no {M : Mem} {n : Nat} {y x : Int32} (hn : M.1 28 15 = nI n) (hn8 : n ≤ 8) (hx : ¬ ((0 ≤ y ∧ y < nI n) ∧ 0 ≤ x ∧ x ≤ M.1 29 y.toNatClampNeg)) : Fun yX10_hide cX10_hide 4 (some .int) 1 [.ref 0, .int y, .int x] M (some (.int (-1))) (M) := by
  refine Fun.of (own := RX10) ([some (.ref 0), some (.int y), some (.int x), none]) rfl (by decide +kernel) (Nat.le_of_ble_eq_true rfl) rfl ?_
  refine rx_aload_n (i := 0) dX10_hide_0 rfl rfl ?_
  refine rx_getR 28 (k := 2) fo_X10_26 kl_0 (by decide) ti_10_2 (by decide) rfl dX10_hide_1 ?_
  refine rx_iload_n (i := 1) dX10_hide_4 rfl rfl ?_
  refine rx_cvI (ci := 8) mo_X8_isPerson lk_X10_120 (c_X8_isPerson (t := 28) (by unfold isTown; omega)) (by decide) rfl rfl (Nat.le_of_ble_eq_true rfl) kl_28 rfl dX10_hide_5 ?_
  rw [hn]
  refine rx_if_eq (tgt := 28) dX10_hide_8 (by decide) (fun c8 => ?_) (fun c8 => ?_)
  · skip
    refine rx_iconst (-1) dX10_hide_28 rfl ?_
    exact rx_fiI dX10_hide_29 rfl rfl
  · skip
    have e8 : 0 ≤ y ∧ y < nI n := ite1n c8
    obtain ⟨i, hi31, rfl⟩ := nI_of (Int32.not_lt.mpr e8.1)
    have hi : i < n := (nI_ltI hi31 (by omega)).mp e8.2
    rw [nI_clamp hi31] at hx
    refine rx_iload_n (i := 2) dX10_hide_11 rfl rfl ?_
    refine rx_if_lt (tgt := 28) dX10_hide_12 (by decide) (fun c12 => ?_) (fun c12 => ?_)
    · skip
      have f12 := Int32.not_le.mpr c12
      refine rx_iconst (-1) dX10_hide_28 rfl ?_
      exact rx_fiI dX10_hide_29 rfl rfl
    · skip
      have f12 := Int32.not_lt.mp c12
      refine rx_iload_n (i := 2) dX10_hide_15 rfl rfl ?_
      refine rx_aload_n (i := 0) dX10_hide_16 rfl rfl ?_
      refine rx_getR 28 (k := 2) fo_X10_26 kl_0 (by decide) ti_10_2 (by decide) rfl dX10_hide_17 ?_
      refine rx_getR 29 (k := 0) fo_X10_126 kl_28 (by decide) ti_8_0 (by decide) rfl dX10_hide_20 ?_
      refine rx_iload_n (i := 1) dX10_hide_23 rfl rfl ?_
      refine rx_ialdN kl_29 (by omega) (by first | decide | omega) dX10_hide_24 ?_
      refine rx_icmp_le (tgt := 30) dX10_hide_25 (by decide) (fun c25 => ?_) (fun c25 => ?_)
      · skip
        have f25 := Int32.not_lt.mpr c25
        exact absurd ⟨e8, Int32.not_lt.mp c12, c25⟩ hx
        skip
      · skip
        have f25 := Int32.not_le.mp c25
        refine rx_iconst (-1) dX10_hide_28 rfl ?_
        exact rx_fiI dX10_hide_29 rfl rfl
