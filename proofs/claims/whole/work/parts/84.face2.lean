set_option maxRecDepth 100000 in
set_option maxHeartbeats 4000000 in
theorem c_X10_forgetPayments {M : Mem} : Fun yX10_forgetPayments cX10_forgetPayments 1 none 0 [.ref 0] M (none) (setI M 0 14 0) := by
  refine Fun.of (own := RX10) ([some (.ref 0)]) rfl (by decide +kernel) (Nat.le_of_ble_eq_true rfl) rfl ?_
  refine rx_aload_n (i := 0) dX10_forgetPayments_0 rfl rfl ?_
  refine rx_iconst (0) dX10_forgetPayments_1 rfl ?_
  refine rx_putI (k := 14) fo_X10_240 fn_10_14 kl_0 (by decide) ty_10_14 dX10_forgetPayments_2 ?_
  exact rx_fiV dX10_forgetPayments_5 rfl
set_option maxRecDepth 100000 in
set_option maxHeartbeats 4000000 in
theorem c_X10_seed {M : Mem} {x : Int32} : Fun yX10_seed cX10_seed 3 (some .int) 0 [.ref 0, .int x] M (some (.int (M.1 28 19))) (setI M 28 19 x) := by
  refine Fun.of (own := RX10) ([some (.ref 0), some (.int x), none]) rfl (by decide +kernel) (Nat.le_of_ble_eq_true rfl) rfl ?_
  refine rx_aload_n (i := 0) dX10_seed_0 rfl rfl ?_
  refine rx_getR 28 (k := 2) fo_X10_26 kl_0 (by decide) ti_10_2 (by decide) rfl dX10_seed_1 ?_
  refine rx_getI (k := 19) fo_X10_421 kl_28 (by decide) ti_8_19 dX10_seed_4 ?_
  refine rx_istore_n (i := 2) dX10_seed_7 rfl (by decide) rfl rfl ?_
  refine rx_aload_n (i := 0) dX10_seed_8 rfl rfl ?_
  refine rx_getR 28 (k := 2) fo_X10_26 kl_0 (by decide) ti_10_2 (by decide) rfl dX10_seed_9 ?_
  refine rx_iload_n (i := 1) dX10_seed_12 rfl rfl ?_
  refine rx_putI (k := 19) fo_X10_421 fn_8_19 kl_28 (by decide) ty_8_19 dX10_seed_13 ?_
  refine rx_iload_n (i := 2) dX10_seed_16 rfl rfl ?_
  exact rx_fiI dX10_seed_17 rfl rfl
set_option maxRecDepth 100000 in
set_option maxHeartbeats 4000000 in
theorem c_X10_entry {M : Mem} {x v : Int32} : Fun yX10_entry cX10_entry 3 (some .int) 1 [.int x, .int v] M (some (.int (maxF (minF (cutF x v))))) (M) := by
  refine Fun.of (own := RX10) ([some (.int x), some (.int v), none]) rfl (by decide +kernel) (Nat.le_of_ble_eq_true rfl) rfl ?_
  refine rx_iload_n (i := 1) dX10_entry_0 rfl rfl ?_
  refine rx_istore_n (i := 2) dX10_entry_1 rfl (by decide) rfl rfl ?_
  refine rx_iload_n (i := 0) dX10_entry_2 rfl rfl ?_
  refine rx_if_ne (tgt := 12) dX10_entry_3 (by decide) (fun c3 => ?_) (fun c3 => ?_)
  · skip
    refine rx_iload_n (i := 0) dX10_entry_12 rfl rfl ?_
    refine rx_iconst (1) dX10_entry_13 rfl ?_
    refine rx_icmp_ne (tgt := 20) dX10_entry_14 (by decide) (fun c14 => ?_) (fun c14 => ?_)
    · skip
      refine rx_iconst (0) dX10_entry_20 rfl ?_
      refine rx_sipush (999) dX10_entry_21 rfl ?_
      refine rx_iload_n (i := 2) dX10_entry_24 rfl rfl ?_
      refine rx_top (cutF x v) (by unfold cutF; first | rw [if_pos c3] | rw [if_neg c3, if_pos c14] | rw [if_neg c3, if_neg c14]) ?_
      refine rx_mmin (List.mem_of_getElem? (i := 755) (by decide +kernel)) (by decide) (Nat.le_of_ble_eq_true rfl) dX10_entry_25 ?_
      refine rx_mmax (List.mem_of_getElem? (i := 756) (by decide +kernel)) (by decide) (Nat.le_of_ble_eq_true rfl) dX10_entry_28 ?_
      exact rx_fiI dX10_entry_31 rfl rfl
    · skip
      refine rx_iload_n (i := 1) dX10_entry_17 rfl rfl ?_
      refine rx_i2s dX10_entry_18 rfl ?_
      refine rx_istore_n (i := 2) dX10_entry_19 rfl (by decide) rfl rfl ?_
      refine rx_iconst (0) dX10_entry_20 rfl ?_
      refine rx_sipush (999) dX10_entry_21 rfl ?_
      refine rx_iload_n (i := 2) dX10_entry_24 rfl rfl ?_
      refine rx_top (cutF x v) (by unfold cutF; first | rw [if_pos c3] | rw [if_neg c3, if_pos c14] | rw [if_neg c3, if_neg c14]) ?_
      refine rx_mmin (List.mem_of_getElem? (i := 755) (by decide +kernel)) (by decide) (Nat.le_of_ble_eq_true rfl) dX10_entry_25 ?_
      refine rx_mmax (List.mem_of_getElem? (i := 756) (by decide +kernel)) (by decide) (Nat.le_of_ble_eq_true rfl) dX10_entry_28 ?_
      exact rx_fiI dX10_entry_31 rfl rfl
  · skip
    refine rx_iload_n (i := 1) dX10_entry_6 rfl rfl ?_
    refine rx_i2b dX10_entry_7 rfl ?_
    refine rx_istore_n (i := 2) dX10_entry_8 rfl (by decide) rfl rfl ?_
    refine rx_goto (tgt := 20) dX10_entry_9 (by decide) ?_
    refine rx_iconst (0) dX10_entry_20 rfl ?_
    refine rx_sipush (999) dX10_entry_21 rfl ?_
    refine rx_iload_n (i := 2) dX10_entry_24 rfl rfl ?_
    refine rx_top (cutF x v) (by unfold cutF; first | rw [if_pos c3] | rw [if_neg c3, if_pos c14] | rw [if_neg c3, if_neg c14]) ?_
    refine rx_mmin (List.mem_of_getElem? (i := 755) (by decide +kernel)) (by decide) (Nat.le_of_ble_eq_true rfl) dX10_entry_25 ?_
    refine rx_mmax (List.mem_of_getElem? (i := 756) (by decide +kernel)) (by decide) (Nat.le_of_ble_eq_true rfl) dX10_entry_28 ?_
    exact rx_fiI dX10_entry_31 rfl rfl
