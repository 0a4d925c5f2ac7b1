set_option maxRecDepth 100000 in
set_option maxHeartbeats 4000000 in
theorem c_X10_keep0 {M : Mem} : Fun yX10_keep cX10_keep 2 (some .boolean) 2 [.ref 0, .int 0] M (some (.int 1)) (setI (cpM M 60 28) 0 15 1) := by
  refine Fun.of (own := RX10) ([some (.ref 0), some (.int 0)]) rfl (by decide +kernel) (Nat.le_of_ble_eq_true rfl) rfl ?_
  refine rx_iload_n (i := 1) dX10_keep_0 rfl rfl ?_
  refine rx_if_ne (tgt := 22) dX10_keep_1 (by decide) (fun c1 => absurd c1 (by decide)) (fun c1 => ?_)
  refine rx_aload_n (i := 0) dX10_keep_4 rfl rfl ?_
  refine rx_getR 60 (k := 4) fo_X10_33 kl_0 (by decide) ti_10_4 (by decide) rfl dX10_keep_5 ?_
  refine rx_aload_n (i := 0) dX10_keep_8 rfl rfl ?_
  refine rx_getR 28 (k := 2) fo_X10_26 kl_0 (by decide) ti_10_2 (by decide) rfl dX10_keep_9 ?_
  refine rx_cvN (ci := 8) mo_X8_copyFrom lk_X10_250 (c_X8_copyFrom it60 it28 (by decide)) (by decide) rfl rfl (Nat.le_of_ble_eq_true rfl) kl_60 rfl dX10_keep_12 ?_
  refine rx_aload_n (i := 0) dX10_keep_15 rfl rfl ?_
  refine rx_iconst (1) dX10_keep_16 rfl ?_
  refine rx_putZ (k := 15) fo_X10_424 fn_10_15 kl_0 (by decide) ty_10_15 (by first | exact Or.inl rfl | exact Or.inr rfl) dX10_keep_17 ?_
  refine rx_iconst (1) dX10_keep_20 rfl ?_
  exact rx_fiZ dX10_keep_21 (Or.inr rfl) rfl rfl
set_option maxRecDepth 100000 in
set_option maxHeartbeats 4000000 in
theorem c_X10_keep1 {M : Mem} : Fun yX10_keep cX10_keep 2 (some .boolean) 2 [.ref 0, .int 1] M (some (.int 1)) (setI (cpM M 76 28) 0 16 1) := by
  refine Fun.of (own := RX10) ([some (.ref 0), some (.int 1)]) rfl (by decide +kernel) (Nat.le_of_ble_eq_true rfl) rfl ?_
  refine rx_iload_n (i := 1) dX10_keep_0 rfl rfl ?_
  refine rx_if_ne (tgt := 22) dX10_keep_1 (by decide) (fun c1 => ?_) (fun c1 => absurd c1 (by decide))
  refine rx_iload_n (i := 1) dX10_keep_22 rfl rfl ?_
  refine rx_iconst (1) dX10_keep_23 rfl ?_
  refine rx_icmp_ne (tgt := 45) dX10_keep_24 (by decide) (fun c24 => absurd c24 (by decide)) (fun c24 => ?_)
  refine rx_aload_n (i := 0) dX10_keep_27 rfl rfl ?_
  refine rx_getR 76 (k := 5) fo_X10_36 kl_0 (by decide) ti_10_5 (by decide) rfl dX10_keep_28 ?_
  refine rx_aload_n (i := 0) dX10_keep_31 rfl rfl ?_
  refine rx_getR 28 (k := 2) fo_X10_26 kl_0 (by decide) ti_10_2 (by decide) rfl dX10_keep_32 ?_
  refine rx_cvN (ci := 8) mo_X8_copyFrom lk_X10_250 (c_X8_copyFrom it76 it28 (by decide)) (by decide) rfl rfl (Nat.le_of_ble_eq_true rfl) kl_76 rfl dX10_keep_35 ?_
  refine rx_aload_n (i := 0) dX10_keep_38 rfl rfl ?_
  refine rx_iconst (1) dX10_keep_39 rfl ?_
  refine rx_putZ (k := 16) fo_X10_428 fn_10_16 kl_0 (by decide) ty_10_16 (by first | exact Or.inl rfl | exact Or.inr rfl) dX10_keep_40 ?_
  refine rx_iconst (1) dX10_keep_43 rfl ?_
  exact rx_fiZ dX10_keep_44 (Or.inr rfl) rfl rfl
set_option maxRecDepth 100000 in
set_option maxHeartbeats 4000000 in
theorem c_X10_keep_no {M : Mem} {x : Int32} (h0 : ¬ x = 0) (h1 : ¬ x = 1) : Fun yX10_keep cX10_keep 2 (some .boolean) 2 [.ref 0, .int x] M (some (.int 0)) (M) := by
  refine Fun.of (own := RX10) ([some (.ref 0), some (.int x)]) rfl (by decide +kernel) (Nat.le_of_ble_eq_true rfl) rfl ?_
  refine rx_iload_n (i := 1) dX10_keep_0 rfl rfl ?_
  refine rx_if_ne (tgt := 22) dX10_keep_1 (by decide) (fun c1 => ?_) (fun c1 => ?_)
  · skip
    refine rx_iload_n (i := 1) dX10_keep_22 rfl rfl ?_
    refine rx_iconst (1) dX10_keep_23 rfl ?_
    refine rx_icmp_ne (tgt := 45) dX10_keep_24 (by decide) (fun c24 => ?_) (fun c24 => ?_)
    · skip
      refine rx_iconst (0) dX10_keep_45 rfl ?_
      exact rx_fiZ dX10_keep_46 (Or.inl rfl) rfl rfl
    · skip
      exact absurd c24 h1
      skip
  · skip
    exact absurd c1 h0
    skip
set_option maxRecDepth 100000 in
set_option maxHeartbeats 4000000 in
theorem c_X10_takeAgain {M : Mem} {t : Nat} (ht : isTown t) (ht28 : 28 ≠ t) (h1 : M.1 t 15 = M.1 28 15) (h2 : M.1 t 16 = M.1 28 16) : Fun yX10_takeAgain cX10_takeAgain 2 (some .boolean) 2 [.ref 0, .ref t] M (some (.int 1)) (setI (cpM M 28 t) 0 14 0) := by
  refine Fun.of (own := RX10) ([some (.ref 0), some (.ref t)]) rfl (by decide +kernel) (Nat.le_of_ble_eq_true rfl) rfl ?_
  refine rx_aload_n (i := 1) dX10_takeAgain_0 rfl rfl ?_
  refine rx_getI (k := 15) fo_X10_184 (kt_0 ht) (by decide) ti_8_15 dX10_takeAgain_1 ?_
  refine rx_aload_n (i := 0) dX10_takeAgain_4 rfl rfl ?_
  refine rx_getR 28 (k := 2) fo_X10_26 kl_0 (by decide) ti_10_2 (by decide) rfl dX10_takeAgain_5 ?_
  refine rx_getI (k := 15) fo_X10_184 kl_28 (by decide) ti_8_15 dX10_takeAgain_8 ?_
  refine rx_icmp_ne (tgt := 28) dX10_takeAgain_11 (by decide) (fun c11 => ?_) (fun c11 => ?_)
  · skip
    exact absurd h1 c11
    skip
  · skip
    refine rx_aload_n (i := 1) dX10_takeAgain_14 rfl rfl ?_
    refine rx_getI (k := 16) fo_X10_435 (kt_0 ht) (by decide) ti_8_16 dX10_takeAgain_15 ?_
    refine rx_aload_n (i := 0) dX10_takeAgain_18 rfl rfl ?_
    refine rx_getR 28 (k := 2) fo_X10_26 kl_0 (by decide) ti_10_2 (by decide) rfl dX10_takeAgain_19 ?_
    refine rx_getI (k := 16) fo_X10_435 kl_28 (by decide) ti_8_16 dX10_takeAgain_22 ?_
    refine rx_icmp_eq (tgt := 30) dX10_takeAgain_25 (by decide) (fun c25 => ?_) (fun c25 => ?_)
    · skip
      refine rx_aload_n (i := 0) dX10_takeAgain_30 rfl rfl ?_
      refine rx_getR 28 (k := 2) fo_X10_26 kl_0 (by decide) ti_10_2 (by decide) rfl dX10_takeAgain_31 ?_
      refine rx_aload_n (i := 1) dX10_takeAgain_34 rfl rfl ?_
      refine rx_cvN (ci := 8) mo_X8_copyFrom lk_X10_250 (c_X8_copyFrom it28 ht ht28) (by decide) rfl rfl (Nat.le_of_ble_eq_true rfl) kl_28 rfl dX10_takeAgain_35 ?_
      refine rx_aload_n (i := 0) dX10_takeAgain_38 rfl rfl ?_
      refine rx_cvN (ci := 10) mo_X10_forgetPayments lk_X10_110 c_X10_forgetPayments (by decide) rfl rfl (Nat.le_of_ble_eq_true rfl) kl_0 rfl dX10_takeAgain_39 ?_
      refine rx_iconst (1) dX10_takeAgain_42 rfl ?_
      exact rx_fiZ dX10_takeAgain_43 (Or.inr rfl) rfl rfl
    · skip
      exact absurd h2 c25
      skip
set_option maxRecDepth 100000 in
set_option maxHeartbeats 4000000 in
theorem c_X10_takeAgain_no {M : Mem} {t : Nat} (ht : isTown t) (ht28 : 28 ≠ t) (h : ¬ (M.1 t 15 = M.1 28 15 ∧ M.1 t 16 = M.1 28 16)) : Fun yX10_takeAgain cX10_takeAgain 2 (some .boolean) 2 [.ref 0, .ref t] M (some (.int 0)) (M) := by
  refine Fun.of (own := RX10) ([some (.ref 0), some (.ref t)]) rfl (by decide +kernel) (Nat.le_of_ble_eq_true rfl) rfl ?_
  refine rx_aload_n (i := 1) dX10_takeAgain_0 rfl rfl ?_
  refine rx_getI (k := 15) fo_X10_184 (kt_0 ht) (by decide) ti_8_15 dX10_takeAgain_1 ?_
  refine rx_aload_n (i := 0) dX10_takeAgain_4 rfl rfl ?_
  refine rx_getR 28 (k := 2) fo_X10_26 kl_0 (by decide) ti_10_2 (by decide) rfl dX10_takeAgain_5 ?_
  refine rx_getI (k := 15) fo_X10_184 kl_28 (by decide) ti_8_15 dX10_takeAgain_8 ?_
  refine rx_icmp_ne (tgt := 28) dX10_takeAgain_11 (by decide) (fun c11 => ?_) (fun c11 => ?_)
  · skip
    refine rx_iconst (0) dX10_takeAgain_28 rfl ?_
    exact rx_fiZ dX10_takeAgain_29 (Or.inl rfl) rfl rfl
  · skip
    refine rx_aload_n (i := 1) dX10_takeAgain_14 rfl rfl ?_
    refine rx_getI (k := 16) fo_X10_435 (kt_0 ht) (by decide) ti_8_16 dX10_takeAgain_15 ?_
    refine rx_aload_n (i := 0) dX10_takeAgain_18 rfl rfl ?_
    refine rx_getR 28 (k := 2) fo_X10_26 kl_0 (by decide) ti_10_2 (by decide) rfl dX10_takeAgain_19 ?_
    refine rx_getI (k := 16) fo_X10_435 kl_28 (by decide) ti_8_16 dX10_takeAgain_22 ?_
    refine rx_icmp_eq (tgt := 30) dX10_takeAgain_25 (by decide) (fun c25 => ?_) (fun c25 => ?_)
    · skip
      exact absurd ⟨c11, c25⟩ h
      skip
    · skip
      refine rx_iconst (0) dX10_takeAgain_28 rfl ?_
      exact rx_fiZ dX10_takeAgain_29 (Or.inl rfl) rfl rfl
set_option maxRecDepth 100000 in
set_option maxHeartbeats 4000000 in
theorem c_X10_again0 {M : Mem} (hf : ¬ M.1 0 15 = 0) (h1 : M.1 60 15 = M.1 28 15) (h2 : M.1 60 16 = M.1 28 16) : Fun yX10_again cX10_again 2 (some .boolean) 3 [.ref 0, .int 0] M (some (.int 1)) (setI (cpM M 28 60) 0 14 0) := by
  refine Fun.of (own := RX10) ([some (.ref 0), some (.int 0)]) rfl (by decide +kernel) (Nat.le_of_ble_eq_true rfl) rfl ?_
  refine rx_iload_n (i := 1) dX10_again_0 rfl rfl ?_
  refine rx_if_ne (tgt := 20) dX10_again_1 (by decide) (fun c1 => absurd c1 (by decide)) (fun c1 => ?_)
  refine rx_aload_n (i := 0) dX10_again_4 rfl rfl ?_
  refine rx_getI (k := 15) fo_X10_424 kl_0 (by decide) ti_10_15 dX10_again_5 ?_
  refine rx_if_eq (tgt := 20) dX10_again_8 (by decide) (fun c8 => ?_) (fun c8 => ?_)
  · skip
    exact absurd c8 hf
    skip
  · skip
    refine rx_aload_n (i := 0) dX10_again_11 rfl rfl ?_
    refine rx_aload_n (i := 0) dX10_again_12 rfl rfl ?_
    refine rx_getR 60 (k := 4) fo_X10_33 kl_0 (by decide) ti_10_4 (by decide) rfl dX10_again_13 ?_
    refine rx_cvI (ci := 10) mo_X10_takeAgain lk_X10_431 (c_X10_takeAgain it60 (by decide) h1 h2) (by decide) rfl rfl (Nat.le_of_ble_eq_true rfl) kl_0 rfl dX10_again_16 ?_
    exact rx_fiZ dX10_again_19 (Or.inr rfl) rfl rfl
set_option maxRecDepth 100000 in
set_option maxHeartbeats 4000000 in
theorem c_X10_again0_no {M : Mem} (h : ¬ (¬ M.1 0 15 = 0 ∧ M.1 60 15 = M.1 28 15 ∧ M.1 60 16 = M.1 28 16)) : Fun yX10_again cX10_again 2 (some .boolean) 3 [.ref 0, .int 0] M (some (.int 0)) (M) := by
  refine Fun.of (own := RX10) ([some (.ref 0), some (.int 0)]) rfl (by decide +kernel) (Nat.le_of_ble_eq_true rfl) rfl ?_
  refine rx_iload_n (i := 1) dX10_again_0 rfl rfl ?_
  refine rx_if_ne (tgt := 20) dX10_again_1 (by decide) (fun c1 => absurd c1 (by decide)) (fun c1 => ?_)
  refine rx_aload_n (i := 0) dX10_again_4 rfl rfl ?_
  refine rx_getI (k := 15) fo_X10_424 kl_0 (by decide) ti_10_15 dX10_again_5 ?_
  refine rx_if_eq (tgt := 20) dX10_again_8 (by decide) (fun c8 => ?_) (fun c8 => ?_)
  · skip
    refine rx_iload_n (i := 1) dX10_again_20 rfl rfl ?_
    refine rx_iconst (1) dX10_again_21 rfl ?_
    refine rx_icmp_ne (tgt := 41) dX10_again_22 (by decide) (fun c22 => ?_) (fun c22 => absurd c22 (by decide))
    refine rx_iconst (0) dX10_again_41 rfl ?_
    exact rx_fiZ dX10_again_42 (Or.inl rfl) rfl rfl
  · skip
    have hn1 : ¬ (M.1 60 15 = M.1 28 15 ∧ M.1 60 16 = M.1 28 16) := fun q => h ⟨c8, q⟩
    refine rx_aload_n (i := 0) dX10_again_11 rfl rfl ?_
    refine rx_aload_n (i := 0) dX10_again_12 rfl rfl ?_
    refine rx_getR 60 (k := 4) fo_X10_33 kl_0 (by decide) ti_10_4 (by decide) rfl dX10_again_13 ?_
    refine rx_cvI (ci := 10) mo_X10_takeAgain lk_X10_431 (c_X10_takeAgain_no it60 (by decide) hn1) (by decide) rfl rfl (Nat.le_of_ble_eq_true rfl) kl_0 rfl dX10_again_16 ?_
    exact rx_fiZ dX10_again_19 (Or.inl rfl) rfl rfl
set_option maxRecDepth 100000 in
set_option maxHeartbeats 4000000 in
theorem c_X10_again1 {M : Mem} (hf : ¬ M.1 0 16 = 0) (h1 : M.1 76 15 = M.1 28 15) (h2 : M.1 76 16 = M.1 28 16) : Fun yX10_again cX10_again 2 (some .boolean) 3 [.ref 0, .int 1] M (some (.int 1)) (setI (cpM M 28 76) 0 14 0) := by
  refine Fun.of (own := RX10) ([some (.ref 0), some (.int 1)]) rfl (by decide +kernel) (Nat.le_of_ble_eq_true rfl) rfl ?_
  refine rx_iload_n (i := 1) dX10_again_0 rfl rfl ?_
  refine rx_if_ne (tgt := 20) dX10_again_1 (by decide) (fun c1 => ?_) (fun c1 => absurd c1 (by decide))
  refine rx_iload_n (i := 1) dX10_again_20 rfl rfl ?_
  refine rx_iconst (1) dX10_again_21 rfl ?_
  refine rx_icmp_ne (tgt := 41) dX10_again_22 (by decide) (fun c22 => absurd c22 (by decide)) (fun c22 => ?_)
  refine rx_aload_n (i := 0) dX10_again_25 rfl rfl ?_
  refine rx_getI (k := 16) fo_X10_428 kl_0 (by decide) ti_10_16 dX10_again_26 ?_
  refine rx_if_eq (tgt := 41) dX10_again_29 (by decide) (fun c29 => ?_) (fun c29 => ?_)
  · skip
    exact absurd c29 hf
    skip
  · skip
    refine rx_aload_n (i := 0) dX10_again_32 rfl rfl ?_
    refine rx_aload_n (i := 0) dX10_again_33 rfl rfl ?_
    refine rx_getR 76 (k := 5) fo_X10_36 kl_0 (by decide) ti_10_5 (by decide) rfl dX10_again_34 ?_
    refine rx_cvI (ci := 10) mo_X10_takeAgain lk_X10_431 (c_X10_takeAgain it76 (by decide) h1 h2) (by decide) rfl rfl (Nat.le_of_ble_eq_true rfl) kl_0 rfl dX10_again_37 ?_
    exact rx_fiZ dX10_again_40 (Or.inr rfl) rfl rfl
set_option maxRecDepth 100000 in
set_option maxHeartbeats 4000000 in
theorem c_X10_again1_no {M : Mem} (h : ¬ (¬ M.1 0 16 = 0 ∧ M.1 76 15 = M.1 28 15 ∧ M.1 76 16 = M.1 28 16)) : Fun yX10_again cX10_again 2 (some .boolean) 3 [.ref 0, .int 1] M (some (.int 0)) (M) := by
  refine Fun.of (own := RX10) ([some (.ref 0), some (.int 1)]) rfl (by decide +kernel) (Nat.le_of_ble_eq_true rfl) rfl ?_
  refine rx_iload_n (i := 1) dX10_again_0 rfl rfl ?_
  refine rx_if_ne (tgt := 20) dX10_again_1 (by decide) (fun c1 => ?_) (fun c1 => absurd c1 (by decide))
  refine rx_iload_n (i := 1) dX10_again_20 rfl rfl ?_
  refine rx_iconst (1) dX10_again_21 rfl ?_
  refine rx_icmp_ne (tgt := 41) dX10_again_22 (by decide) (fun c22 => absurd c22 (by decide)) (fun c22 => ?_)
  refine rx_aload_n (i := 0) dX10_again_25 rfl rfl ?_
  refine rx_getI (k := 16) fo_X10_428 kl_0 (by decide) ti_10_16 dX10_again_26 ?_
  refine rx_if_eq (tgt := 41) dX10_again_29 (by decide) (fun c29 => ?_) (fun c29 => ?_)
  · skip
    refine rx_iconst (0) dX10_again_41 rfl ?_
    exact rx_fiZ dX10_again_42 (Or.inl rfl) rfl rfl
  · skip
    have hn1 : ¬ (M.1 76 15 = M.1 28 15 ∧ M.1 76 16 = M.1 28 16) := fun q => h ⟨c29, q⟩
    refine rx_aload_n (i := 0) dX10_again_32 rfl rfl ?_
    refine rx_aload_n (i := 0) dX10_again_33 rfl rfl ?_
    refine rx_getR 76 (k := 5) fo_X10_36 kl_0 (by decide) ti_10_5 (by decide) rfl dX10_again_34 ?_
    refine rx_cvI (ci := 10) mo_X10_takeAgain lk_X10_431 (c_X10_takeAgain_no it76 (by decide) hn1) (by decide) rfl rfl (Nat.le_of_ble_eq_true rfl) kl_0 rfl dX10_again_37 ?_
    exact rx_fiZ dX10_again_40 (Or.inl rfl) rfl rfl
set_option maxRecDepth 100000 in
set_option maxHeartbeats 4000000 in
theorem c_X10_again_no {M : Mem} {x : Int32} (h0 : ¬ x = 0) (h1 : ¬ x = 1) : Fun yX10_again cX10_again 2 (some .boolean) 3 [.ref 0, .int x] M (some (.int 0)) (M) := by
  refine Fun.of (own := RX10) ([some (.ref 0), some (.int x)]) rfl (by decide +kernel) (Nat.le_of_ble_eq_true rfl) rfl ?_
  refine rx_iload_n (i := 1) dX10_again_0 rfl rfl ?_
  refine rx_if_ne (tgt := 20) dX10_again_1 (by decide) (fun c1 => ?_) (fun c1 => ?_)
  · skip
    refine rx_iload_n (i := 1) dX10_again_20 rfl rfl ?_
    refine rx_iconst (1) dX10_again_21 rfl ?_
    refine rx_icmp_ne (tgt := 41) dX10_again_22 (by decide) (fun c22 => ?_) (fun c22 => ?_)
    · skip
      refine rx_iconst (0) dX10_again_41 rfl ?_
      exact rx_fiZ dX10_again_42 (Or.inl rfl) rfl rfl
    · skip
      exact absurd c22 h1
      skip
  · skip
    exact absurd c1 h0
    skip
def cntC (M : Mem) (n m : Nat) (x : Int32) : Int32 :=
  if x = 0 then nI n else if x = 1 then nI m else if x = 2 then fbor (fun k => decide (M.1 39 k = 0)) m else if x = 3 then M.1 0 14 else if x = 4 then M.1 28 17 else if x = 5 then fsum (M.1 29) n else if x = 6 then M.1 4 1 else if x = 7 then M.1 2 1 else -1
set_option maxRecDepth 100000 in
set_option maxHeartbeats 4000000 in
theorem c_X10_count {M : Mem} {n m : Nat} (w : TW M 28 n m) {x : Int32} : Fun yX10_count cX10_count 2 (some .int) 2 [.ref 0, .int x] M (some (.int (cntC M n m x))) (M) := by
  refine Fun.of (own := RX10) ([some (.ref 0), some (.int x)]) rfl (by decide +kernel) (Nat.le_of_ble_eq_true rfl) rfl ?_
  have ⟨hn, hn8, hm, hm10, hd⟩ := w
  refine rx_iload_n (i := 1) dX10_count_0 rfl rfl ?_
  by_cases s0 : x = 0
  · subst s0
    refine rx_tableIn (off := 47) (tgt := 48) dX10_count_1 (by decide) (by decide) rfl (by decide) ?_
    refine rx_aload_n (i := 0) dX10_count_48 rfl rfl ?_
    refine rx_getR 28 (k := 2) fo_X10_26 kl_0 (by decide) ti_10_2 (by decide) rfl dX10_count_49 ?_
    refine rx_getI (k := 15) fo_X10_184 kl_28 (by decide) ti_8_15 dX10_count_52 ?_
    refine rx_top (nI n) (hn) ?_
    exact rx_fiI dX10_count_55 (by first | rfl | exact e9.symm) rfl
  by_cases s1 : x = 1
  · subst s1
    refine rx_tableIn (off := 55) (tgt := 56) dX10_count_1 (by decide) (by decide) rfl (by decide) ?_
    refine rx_aload_n (i := 0) dX10_count_56 rfl rfl ?_
    refine rx_getR 28 (k := 2) fo_X10_26 kl_0 (by decide) ti_10_2 (by decide) rfl dX10_count_57 ?_
    refine rx_getI (k := 16) fo_X10_435 kl_28 (by decide) ti_8_16 dX10_count_60 ?_
    refine rx_top (nI m) (hm) ?_
    exact rx_fiI dX10_count_63 (by first | rfl | exact e9.symm) rfl
  by_cases s2 : x = 2
  · subst s2
    refine rx_tableIn (off := 63) (tgt := 64) dX10_count_1 (by decide) (by decide) rfl (by decide) ?_
    refine rx_aload_n (i := 0) dX10_count_64 rfl rfl ?_
    refine rx_getR 28 (k := 2) fo_X10_26 kl_0 (by decide) ti_10_2 (by decide) rfl dX10_count_65 ?_
    refine rx_cvI (ci := 8) mo_X8_openDebts lk_X10_438 (c_X8_openDebts it28 w) (by decide) rfl rfl (Nat.le_of_ble_eq_true rfl) kl_28 rfl dX10_count_68 ?_
    exact rx_fiI dX10_count_71 (by first | rfl | exact e9.symm) rfl
  by_cases s3 : x = 3
  · subst s3
    refine rx_tableIn (off := 71) (tgt := 72) dX10_count_1 (by decide) (by decide) rfl (by decide) ?_
    refine rx_aload_n (i := 0) dX10_count_72 rfl rfl ?_
    refine rx_getI (k := 14) fo_X10_240 kl_0 (by decide) ti_10_14 dX10_count_73 ?_
    exact rx_fiI dX10_count_76 (by first | rfl | exact e9.symm) rfl
  by_cases s4 : x = 4
  · subst s4
    refine rx_tableIn (off := 76) (tgt := 77) dX10_count_1 (by decide) (by decide) rfl (by decide) ?_
    refine rx_aload_n (i := 0) dX10_count_77 rfl rfl ?_
    refine rx_getR 28 (k := 2) fo_X10_26 kl_0 (by decide) ti_10_2 (by decide) rfl dX10_count_78 ?_
    refine rx_getI (k := 17) fo_X10_268 kl_28 (by decide) ti_8_17 dX10_count_81 ?_
    exact rx_fiI dX10_count_84 (by first | rfl | exact e9.symm) rfl
  by_cases s5 : x = 5
  · subst s5
    refine rx_tableIn (off := 84) (tgt := 85) dX10_count_1 (by decide) (by decide) rfl (by decide) ?_
    refine rx_aload_n (i := 0) dX10_count_85 rfl rfl ?_
    refine rx_getR 28 (k := 2) fo_X10_26 kl_0 (by decide) ti_10_2 (by decide) rfl dX10_count_86 ?_
    refine rx_cvI (ci := 8) mo_X8_allCoin lk_X10_405 (c_X8_allCoin it28 w) (by decide) rfl rfl (Nat.le_of_ble_eq_true rfl) kl_28 rfl dX10_count_89 ?_
    exact rx_fiI dX10_count_92 (by first | rfl | exact e9.symm) rfl
  by_cases s6 : x = 6
  · subst s6
    refine rx_tableIn (off := 92) (tgt := 93) dX10_count_1 (by decide) (by decide) rfl (by decide) ?_
    refine rx_aload_n (i := 0) dX10_count_93 rfl rfl ?_
    refine rx_getR 4 (k := 1) fo_X10_19 kl_0 (by decide) ti_10_1 (by decide) rfl dX10_count_94 ?_
    refine rx_getI (k := 1) fo_X10_441 kl_4 (by decide) ti_7_1 dX10_count_97 ?_
    exact rx_fiI dX10_count_100 (by first | rfl | exact e9.symm) rfl
  by_cases s7 : x = 7
  · subst s7
    refine rx_tableIn (off := 100) (tgt := 101) dX10_count_1 (by decide) (by decide) rfl (by decide) ?_
    refine rx_aload_n (i := 0) dX10_count_101 rfl rfl ?_
    refine rx_getR 2 (k := 0) fo_X10_12 kl_0 (by decide) ti_10_0 (by decide) rfl dX10_count_102 ?_
    refine rx_cvI (ci := 6) mo_X6_length lk_X10_96 c_X6_length (by decide) rfl rfl (Nat.le_of_ble_eq_true rfl) kl_2 rfl dX10_count_105 ?_
    exact rx_fiI dX10_count_108 (by first | rfl | exact e9.symm) rfl
  have e9 : cntC M n m x = -1 := by unfold cntC; rw [if_neg s0, if_neg s1, if_neg s2, if_neg s3, if_neg s4, if_neg s5, if_neg s6, if_neg s7]
  refine rx_tableOut (tgt := 109) dX10_count_1 (by have q0 := lv_neT s0 (a := 0) rfl; have q1 := lv_neT s1 (a := 1) rfl; have q2 := lv_neT s2 (a := 2) rfl; have q3 := lv_neT s3 (a := 3) rfl; have q4 := lv_neT s4 (a := 4) rfl; have q5 := lv_neT s5 (a := 5) rfl; have q6 := lv_neT s6 (a := 6) rfl; have q7 := lv_neT s7 (a := 7) rfl; have := x.toInt; omega) (by decide) ?_
  refine rx_iconst (-1) dX10_count_109 rfl ?_
  exact rx_fiI dX10_count_110 (by first | rfl | exact e9.symm) rfl
set_option maxRecDepth 100000 in
set_option maxHeartbeats 4000000 in
theorem c_X10_row {M : Mem} {s i : Nat} (hs : M.1 4 1 = nI s) (hs10 : s ≤ 10) (hi : i < s) : Fun yX10_row cX10_row 2 (some .long) 0 [.ref 0, .int (nI i)] M (some (.long (M.2.1 5 i))) (M) := by
  refine Fun.of (own := RX10) ([some (.ref 0), some (.int (nI i))]) rfl (by decide +kernel) (Nat.le_of_ble_eq_true rfl) rfl ?_
  refine rx_iload_n (i := 1) dX10_row_0 rfl rfl ?_
  refine rx_if_lt (tgt := 15) dX10_row_1 (by decide) (fun c1 => ?_) (fun c1 => ?_)
  · skip
    exact absurd (nI_pos' (by omega)) (Int32.not_le.mpr c1)
    skip
  · skip
    refine rx_iload_n (i := 1) dX10_row_4 rfl rfl ?_
    refine rx_aload_n (i := 0) dX10_row_5 rfl rfl ?_
    refine rx_getR 4 (k := 1) fo_X10_19 kl_0 (by decide) ti_10_1 (by decide) rfl dX10_row_6 ?_
    refine rx_getI (k := 1) fo_X10_441 kl_4 (by decide) ti_7_1 dX10_row_9 ?_
    refine rx_top (nI s) (hs) ?_
    refine rx_icmp_lt (tgt := 23) dX10_row_12 (by decide) (fun c12 => ?_) (fun c12 => ?_)
    · skip
      refine rx_aload_n (i := 0) dX10_row_23 rfl rfl ?_
      refine rx_getR 4 (k := 1) fo_X10_19 kl_0 (by decide) ti_10_1 (by decide) rfl dX10_row_24 ?_
      refine rx_getR 5 (k := 0) fo_X10_442 kl_4 (by decide) ti_7_0 (by decide) rfl dX10_row_27 ?_
      refine rx_iload_n (i := 1) dX10_row_30 rfl rfl ?_
      refine rx_laldN kl_5 (by omega) (by first | decide | omega) dX10_row_31 ?_
      exact rx_fiL dX10_row_32 rfl rfl
    · skip
      exact absurd (nI_lt hi (by omega)) c12
      skip
set_option maxRecDepth 100000 in
set_option maxHeartbeats 4000000 in
theorem c_X10_undo {M : Mem} {n m : Nat} (w : TW M 28 n m) {i k o g u : Nat} (hi : i < n) (hk : k < m) (ho : o < n) (hg : g < n) (eo : M.1 35 k = nI o) (eg : M.1 36 k = nI g) (eu : M.1 0 14 = nI (u + 1)) (hu : u < 10) (euk : M.1 1 u = nI k) (ep : M.1 40 k = nI i) : Fun yX10_undo cX10_undo 1 (some .int) 2 [.ref 0] M (some (.int (nI u))) (upM (setI M 0 14 (nI u)) 28 o g i k) := by
  refine Fun.of (own := RX10) ([some (.ref 0)]) rfl (by decide +kernel) (Nat.le_of_ble_eq_true rfl) rfl ?_
  have ⟨hn, hn8, hm, hm10, hd⟩ := w
  refine rx_aload_n (i := 0) dX10_undo_0 rfl rfl ?_
  refine rx_getI (k := 14) fo_X10_240 kl_0 (by decide) ti_10_14 dX10_undo_1 ?_
  refine rx_top (nI (u + 1)) (eu) ?_
  refine rx_iconst (1) dX10_undo_4 rfl ?_
  refine rx_icmp_ge (tgt := 10) dX10_undo_5 (by decide) (fun c5 => ?_) (fun c5 => ?_)
  · skip
    refine rx_aload_n (i := 0) dX10_undo_10 rfl rfl ?_
    refine rx_dup dX10_undo_11 rfl ?_
    refine rx_getI (k := 14) fo_X10_240 kl_0 (by decide) ti_10_14 dX10_undo_12 ?_
    refine rx_top (nI (u + 1)) (eu) ?_
    refine rx_iconst (1) dX10_undo_15 rfl ?_
    refine rx_isub dX10_undo_16 ?_
    refine rx_top (nI u) (sub1 u) ?_
    refine rx_putI (k := 14) fo_X10_240 fn_10_14 kl_0 (by decide) ty_10_14 dX10_undo_17 ?_
    refine rx_aload_n (i := 0) dX10_undo_20 rfl rfl ?_
    refine rx_getR 28 (k := 2) fo_X10_26 kl_0 (by decide) ti_10_2 (by decide) rfl dX10_undo_21 ?_
    refine rx_aload_n (i := 0) dX10_undo_24 rfl rfl ?_
    refine rx_getR 1 (k := 13) fo_X10_88 kl_0 (by decide) ti_10_13 (by decide) rfl dX10_undo_25 ?_
    refine rx_aload_n (i := 0) dX10_undo_28 rfl rfl ?_
    refine rx_getI (k := 14) fo_X10_240 kl_0 (by decide) ti_10_14 dX10_undo_29 ?_
    refine rx_top (nI u) (sI_eq) ?_
    refine rx_ialdN kl_1 (by omega) (by first | decide | omega) dX10_undo_32 ?_
    refine rx_top (nI k) ((sI_na (by omega)).trans euk) ?_
    refine rx_cvN (ci := 8) mo_X8_unmakePayment lk_X10_246 (c_X8_unmakePayment it28 (w.f (j := 14) (x := nI u)) hi hk ho hg ((sI_na (by omega)).trans eo) ((sI_na (by omega)).trans eg) ((sI_na (by omega)).trans ep)) (by decide) rfl rfl (Nat.le_of_ble_eq_true rfl) kl_28 rfl dX10_undo_33 ?_
    refine rx_aload_n (i := 0) dX10_undo_36 rfl rfl ?_
    refine rx_getI (k := 14) fo_X10_240 kl_0 (by decide) ti_10_14 dX10_undo_37 ?_
    refine rx_top (nI u) (by unfold upM; exact (sI_na (by omega)).trans ((sI_na (by omega)).trans ((sI_na (by omega)).trans ((shM_o (by omega)).trans sI_eq)))) ?_
    exact rx_fiI dX10_undo_40 rfl rfl
  · skip
    exact absurd (nI_le (a := 1) (b := u + 1) (by omega) (by omega)) c5
    skip
set_option maxRecDepth 100000 in
set_option maxHeartbeats 4000000 in
theorem c_X10_undo_no {M : Mem} (eu : M.1 0 14 = 0) : Fun yX10_undo cX10_undo 1 (some .int) 2 [.ref 0] M (some (.int (-1))) (M) := by
  refine Fun.of (own := RX10) ([some (.ref 0)]) rfl (by decide +kernel) (Nat.le_of_ble_eq_true rfl) rfl ?_
  refine rx_aload_n (i := 0) dX10_undo_0 rfl rfl ?_
  refine rx_getI (k := 14) fo_X10_240 kl_0 (by decide) ti_10_14 dX10_undo_1 ?_
  refine rx_top (0) (eu) ?_
  refine rx_iconst (1) dX10_undo_4 rfl ?_
  refine rx_icmp_ge (tgt := 10) dX10_undo_5 (by decide) (fun c5 => ?_) (fun c5 => ?_)
  · skip
    exact absurd c5 (by decide)
    skip
  · skip
    refine rx_iconst (-1) dX10_undo_8 rfl ?_
    exact rx_fiI dX10_undo_9 rfl rfl
theorem pyM_0 {M : Mem} {o g i k a j : Nat} (h : a < 28) : (pyM M 28 o g i k).1 a j = M.1 a j := (sI_na (by omega)).trans ((sI_na (by omega)).trans ((sI_na (by omega)).trans (shM_o (by omega))))
set_option maxRecDepth 100000 in
set_option maxHeartbeats 4000000 in
theorem c_X10_pay {M : Mem} {n m : Nat} (w : TW M 28 n m) (hO : OKT (view M 28) n) {i k : Nat} (hi : i < n) (hk : k < m) {o g u : Nat} (ho : o < n) (hg : g < n) (eo : M.1 35 k = nI o) (eg : M.1 36 k = nI g) (eu : M.1 0 14 = nI u) (hu : u < 10) (h10 : M.1 39 k = 0) (hmay : mayT (view M 28) n k i = true) : Fun yX10_pay cX10_pay 3 (some .int) 4 [.ref 0, .int (nI i), .int (nI k)] M (some (.int (prT (view M 28) i k))) (pyM (setI (setI (mkL M 28 n) 1 u (nI k)) 0 14 (nI (u + 1))) 28 o g i k) := by
  refine Fun.of (own := RX10) ([some (.ref 0), some (.int (nI i)), some (.int (nI k))]) rfl (by decide +kernel) (Nat.le_of_ble_eq_true rfl) rfl ?_
  have ⟨hn, hn8, hm, hm10, hd⟩ := w
  refine rx_aload_n (i := 0) dX10_pay_0 rfl rfl ?_
  refine rx_getR 28 (k := 2) fo_X10_26 kl_0 (by decide) ti_10_2 (by decide) rfl dX10_pay_1 ?_
  refine rx_iload_n (i := 1) dX10_pay_4 rfl rfl ?_
  refine rx_cvI (ci := 8) mo_X8_isPerson lk_X10_120 (c_X8_isPerson it28) (by decide) rfl rfl (Nat.le_of_ble_eq_true rfl) kl_28 rfl dX10_pay_5 ?_
  refine rx_top (1) (by rw [hn]; exact one_i hi (by omega)) ?_
  refine rx_if_eq (tgt := 22) dX10_pay_8 (by decide) (fun c8 => absurd c8 (by decide)) (fun c8 => ?_)
  refine rx_aload_n (i := 0) dX10_pay_11 rfl rfl ?_
  refine rx_getR 28 (k := 2) fo_X10_26 kl_0 (by decide) ti_10_2 (by decide) rfl dX10_pay_12 ?_
  refine rx_iload_n (i := 2) dX10_pay_15 rfl rfl ?_
  refine rx_cvI (ci := 8) mo_X8_isDebt lk_X10_157 (c_X8_isDebt it28) (by decide) rfl rfl (Nat.le_of_ble_eq_true rfl) kl_28 rfl dX10_pay_16 ?_
  refine rx_top (1) (by rw [hm]; exact one_i hk (by omega)) ?_
  refine rx_if_ne (tgt := 24) dX10_pay_19 (by decide) (fun c19 => ?_) (fun c19 => absurd c19 (by decide))
  refine rx_aload_n (i := 0) dX10_pay_24 rfl rfl ?_
  refine rx_getR 28 (k := 2) fo_X10_26 kl_0 (by decide) ti_10_2 (by decide) rfl dX10_pay_25 ?_
  refine rx_iload_n (i := 1) dX10_pay_28 rfl rfl ?_
  refine rx_iload_n (i := 2) dX10_pay_29 rfl rfl ?_
  refine rx_cvI (ci := 8) mo_X8_canPay lk_X10_236 (c_X8_canPay it28 w hi hk h10 (bb28 hO) hO.2) (by decide) rfl rfl (Nat.le_of_ble_eq_true rfl) kl_28 rfl dX10_pay_30 ?_
  refine rx_top (1) (by rw [mayL_T w hk hi, hmay]; rfl) ?_
  refine rx_if_ne (tgt := 39) dX10_pay_33 (by decide) (fun c33 => ?_) (fun c33 => absurd c33 (by decide))
  refine rx_aload_n (i := 0) dX10_pay_39 rfl rfl ?_
  refine rx_getI (k := 14) fo_X10_240 kl_0 (by decide) ti_10_14 dX10_pay_40 ?_
  refine rx_top (nI u) ((mkL_o (by omega)).trans eu) ?_
  refine rx_bipush (10) dX10_pay_43 rfl ?_
  refine rx_icmp_ge (tgt := 68) dX10_pay_45 (by decide) (fun c45 => ?_) (fun c45 => ?_)
  · skip
    exact absurd (nI_lt (b := 10) hu (by omega)) (Int32.not_lt.mpr c45)
    skip
  · skip
    refine rx_aload_n (i := 0) dX10_pay_48 rfl rfl ?_
    refine rx_getR 1 (k := 13) fo_X10_88 kl_0 (by decide) ti_10_13 (by decide) rfl dX10_pay_49 ?_
    refine rx_aload_n (i := 0) dX10_pay_52 rfl rfl ?_
    refine rx_getI (k := 14) fo_X10_240 kl_0 (by decide) ti_10_14 dX10_pay_53 ?_
    refine rx_top (nI u) ((mkL_o (by omega)).trans eu) ?_
    refine rx_iload_n (i := 2) dX10_pay_56 rfl rfl ?_
    refine rx_iastN kl_1 (by omega) (by first | decide | omega) dX10_pay_57 ?_
    refine rx_aload_n (i := 0) dX10_pay_58 rfl rfl ?_
    refine rx_dup dX10_pay_59 rfl ?_
    refine rx_getI (k := 14) fo_X10_240 kl_0 (by decide) ti_10_14 dX10_pay_60 ?_
    refine rx_top (nI u) ((sI_na (by omega)).trans ((mkL_o (by omega)).trans eu)) ?_
    refine rx_iconst (1) dX10_pay_63 rfl ?_
    refine rx_iadd dX10_pay_64 ?_
    refine rx_top (nI (u + 1)) ((nI_succ u).symm) ?_
    refine rx_putI (k := 14) fo_X10_240 fn_10_14 kl_0 (by decide) ty_10_14 dX10_pay_65 ?_
    have wP : TW (setI (setI (mkL M 28 n) 1 u (nI k)) 0 14 (nI (u + 1))) 28 n m := (w.mk28.g (by omega)).f
    have eP : (setI (setI (mkL M 28 n) 1 u (nI k)) 0 14 (nI (u + 1))).1 35 k = M.1 35 k ∧ (setI (setI (mkL M 28 n) 1 u (nI k)) 0 14 (nI (u + 1))).1 36 k = M.1 36 k := ⟨(sI_na (by omega)).trans ((sI_na (by omega)).trans (mkL_o (by omega))), (sI_na (by omega)).trans ((sI_na (by omega)).trans (mkL_o (by omega)))⟩
    refine rx_aload_n (i := 0) dX10_pay_68 rfl rfl ?_
    refine rx_getR 28 (k := 2) fo_X10_26 kl_0 (by decide) ti_10_2 (by decide) rfl dX10_pay_69 ?_
    refine rx_iload_n (i := 1) dX10_pay_72 rfl rfl ?_
    refine rx_iload_n (i := 2) dX10_pay_73 rfl rfl ?_
    refine rx_cvI (ci := 8) mo_X8_makePayment lk_X10_243 (c_X8_makePayment it28 wP hi hk ho hg (eP.1.trans eo) (eP.2.trans eg)) (by decide) rfl rfl (Nat.le_of_ble_eq_true rfl) kl_28 rfl dX10_pay_74 ?_
    exact rx_fiI dX10_pay_77 (by rw [← priceM_T]; unfold priceM; rw [show (28 : Nat) + 3 = 31 by rfl, show (28 : Nat) + 9 = 37 by rfl, show (28 : Nat) + 2 = 30 by rfl, sI_na (by omega), sI_na (by omega), mkL_o (by omega), sI_na (by omega), sI_na (by omega), mkL_o (by omega), sI_na (by omega), sI_na (by omega), mkL_o (by omega)]) rfl
set_option maxRecDepth 100000 in
set_option maxHeartbeats 4000000 in
theorem c_X10_pay_2 {M : Mem} {n m : Nat} (w : TW M 28 n m) (hO : OKT (view M 28) n) {i k : Nat} (hi : i < n) (hk : k < m) (h : ¬ (M.1 39 k = 0 ∧ mayT (view M 28) n k i = true)) : Con yX10_pay cX10_pay 3 (some .int) 4 [.ref 0, .int (nI i), .int (nI k)] M (fun v N => v = some (.int (-2)) ∧ (N = M ∨ N = mkL M 28 n)) := by
  refine Con.of (own := RX10) (ls := [some (.ref 0), some (.int (nI i)), some (.int (nI k))]) rfl (by decide +kernel) (Nat.le_of_ble_eq_true rfl) rfl ?_
  have ⟨hn, hn8, hm, hm10, hd⟩ := w
  refine rx_aload_n (i := 0) dX10_pay_0 rfl rfl ?_
  refine rx_getR 28 (k := 2) fo_X10_26 kl_0 (by decide) ti_10_2 (by decide) rfl dX10_pay_1 ?_
  refine rx_iload_n (i := 1) dX10_pay_4 rfl rfl ?_
  refine rx_cvI (ci := 8) mo_X8_isPerson lk_X10_120 (c_X8_isPerson it28) (by decide) rfl rfl (Nat.le_of_ble_eq_true rfl) kl_28 rfl dX10_pay_5 ?_
  refine rx_top (1) (by rw [hn]; exact one_i hi (by omega)) ?_
  refine rx_if_eq (tgt := 22) dX10_pay_8 (by decide) (fun c8 => absurd c8 (by decide)) (fun c8 => ?_)
  refine rx_aload_n (i := 0) dX10_pay_11 rfl rfl ?_
  refine rx_getR 28 (k := 2) fo_X10_26 kl_0 (by decide) ti_10_2 (by decide) rfl dX10_pay_12 ?_
  refine rx_iload_n (i := 2) dX10_pay_15 rfl rfl ?_
  refine rx_cvI (ci := 8) mo_X8_isDebt lk_X10_157 (c_X8_isDebt it28) (by decide) rfl rfl (Nat.le_of_ble_eq_true rfl) kl_28 rfl dX10_pay_16 ?_
  refine rx_top (1) (by rw [hm]; exact one_i hk (by omega)) ?_
  refine rx_if_ne (tgt := 24) dX10_pay_19 (by decide) (fun c19 => ?_) (fun c19 => absurd c19 (by decide))
  refine rx_aload_n (i := 0) dX10_pay_24 rfl rfl ?_
  refine rx_getR 28 (k := 2) fo_X10_26 kl_0 (by decide) ti_10_2 (by decide) rfl dX10_pay_25 ?_
  refine rx_iload_n (i := 1) dX10_pay_28 rfl rfl ?_
  refine rx_iload_n (i := 2) dX10_pay_29 rfl rfl ?_
  by_cases h10 : M.1 39 k = 0
  · have hmay : mayT (view M 28) n k i = false := Bool.eq_false_iff.mpr fun q => h ⟨h10, q⟩
    refine rx_cvI (ci := 8) mo_X8_canPay lk_X10_236 (c_X8_canPay it28 w hi hk h10 (bb28 hO) hO.2) (by decide) rfl rfl (Nat.le_of_ble_eq_true rfl) kl_28 rfl dX10_pay_30 ?_
    refine rx_top (0) (by rw [mayL_T w hk hi, hmay]; rfl) ?_
    refine rx_if_ne (tgt := 39) dX10_pay_33 (by decide) (fun c33 => absurd c33 (by decide)) (fun c33 => ?_)
    refine rx_bipush (-2) dX10_pay_36 rfl ?_
    exact rx_iret dX10_pay_38 ⟨rfl, Or.inr rfl⟩
  · skip
    refine rx_cvI (ci := 8) mo_X8_canPay lk_X10_236 (c_X8_canPay_no it28 w (fun q => h10 (by have := q.2.2; rw [nI_clamp (by omega)] at this; exact this))) (by decide) rfl rfl (Nat.le_of_ble_eq_true rfl) kl_28 rfl dX10_pay_30 ?_
    refine rx_if_ne (tgt := 39) dX10_pay_33 (by decide) (fun c33 => absurd c33 (by decide)) (fun c33 => ?_)
    refine rx_bipush (-2) dX10_pay_36 rfl ?_
    exact rx_iret dX10_pay_38 ⟨rfl, Or.inl rfl⟩
set_option maxRecDepth 100000 in
set_option maxHeartbeats 4000000 in
theorem c_X10_pay_no {M : Mem} {n m : Nat} (w : TW M 28 n m) {y x : Int32} (hx : ¬ ((0 ≤ y ∧ y < nI n) ∧ 0 ≤ x ∧ x < nI m)) : Fun yX10_pay cX10_pay 3 (some .int) 4 [.ref 0, .int y, .int x] M (some (.int (-1))) (M) := by
  refine Fun.of (own := RX10) ([some (.ref 0), some (.int y), some (.int x)]) rfl (by decide +kernel) (Nat.le_of_ble_eq_true rfl) rfl ?_
  have ⟨hn, hn8, hm, hm10, hd⟩ := w
  refine rx_aload_n (i := 0) dX10_pay_0 rfl rfl ?_
  refine rx_getR 28 (k := 2) fo_X10_26 kl_0 (by decide) ti_10_2 (by decide) rfl dX10_pay_1 ?_
  refine rx_iload_n (i := 1) dX10_pay_4 rfl rfl ?_
  refine rx_cvI (ci := 8) mo_X8_isPerson lk_X10_120 (c_X8_isPerson it28) (by decide) rfl rfl (Nat.le_of_ble_eq_true rfl) kl_28 rfl dX10_pay_5 ?_
  rw [hn]
  refine rx_if_eq (tgt := 22) dX10_pay_8 (by decide) (fun c8 => ?_) (fun c8 => ?_)
  · skip
    refine rx_iconst (-1) dX10_pay_22 rfl ?_
    exact rx_fiI dX10_pay_23 rfl rfl
  · skip
    have e8 := ite1n c8
    refine rx_aload_n (i := 0) dX10_pay_11 rfl rfl ?_
    refine rx_getR 28 (k := 2) fo_X10_26 kl_0 (by decide) ti_10_2 (by decide) rfl dX10_pay_12 ?_
    refine rx_iload_n (i := 2) dX10_pay_15 rfl rfl ?_
    refine rx_cvI (ci := 8) mo_X8_isDebt lk_X10_157 (c_X8_isDebt it28) (by decide) rfl rfl (Nat.le_of_ble_eq_true rfl) kl_28 rfl dX10_pay_16 ?_
    rw [hm]
    refine rx_if_ne (tgt := 24) dX10_pay_19 (by decide) (fun c19 => ?_) (fun c19 => ?_)
    · skip
      exact absurd ⟨e8, ite1n c19⟩ hx
      skip
    · skip
      refine rx_iconst (-1) dX10_pay_22 rfl ?_
      exact rx_fiI dX10_pay_23 rfl rfl
theorem sw9 {x : Int32} (s0 : ¬ x = 0) (s1 : ¬ x = 1) (s2 : ¬ x = 2) (s3 : ¬ x = 3) (s4 : ¬ x = 4) (s5 : ¬ x = 5) (s6 : ¬ x = 6) (s7 : ¬ x = 7) (s8 : ¬ x = 8) : ¬ (0 ≤ x ∧ x ≤ 8) := fun h => by
  obtain ⟨h1, h2⟩ := h
  rw [i_le, i_0] at h1
  rw [i_le, show (8 : Int32).toInt = 8 from rfl] at h2
  have q0 := lv_neT s0 (a := 0) rfl; have q1 := lv_neT s1 (a := 1) rfl; have q2 := lv_neT s2 (a := 2) rfl; have q3 := lv_neT s3 (a := 3) rfl; have q4 := lv_neT s4 (a := 4) rfl; have q5 := lv_neT s5 (a := 5) rfl; have q6 := lv_neT s6 (a := 6) rfl; have q7 := lv_neT s7 (a := 7) rfl; have q8 := lv_neT s8 (a := 8) rfl
  omega
theorem sw6 {x : Int32} (s0 : ¬ x = 0) (s1 : ¬ x = 1) (s2 : ¬ x = 2) (s3 : ¬ x = 3) (s4 : ¬ x = 4) (s5 : ¬ x = 5) : ¬ (0 ≤ x ∧ x ≤ 5) := fun h => by
  obtain ⟨h1, h2⟩ := h
  rw [i_le, i_0] at h1
  rw [i_le, show (5 : Int32).toInt = 5 from rfl] at h2
  have q0 := lv_neT s0 (a := 0) rfl; have q1 := lv_neT s1 (a := 1) rfl; have q2 := lv_neT s2 (a := 2) rfl; have q3 := lv_neT s3 (a := 3) rfl; have q4 := lv_neT s4 (a := 4) rfl; have q5 := lv_neT s5 (a := 5) rfl
  omega
set_option maxRecDepth 100000 in
set_option maxHeartbeats 4000000 in
theorem c_X10_of {M : Mem} {n m : Nat} (w : TW M 28 n m) {i : Nat} (hi : i < n) {x : Int32} (hx : 0 ≤ x ∧ x ≤ 8) : Con yX10_of cX10_of 3 (some .int) 2 [.ref 0, .int (nI i), .int x] M (fun v N => v = some (.int (ofT (view M 28) n m i x)) ∧ (N = M ∨ N = mkL M 28 n)) := by
  refine Con.of (own := RX10) (ls := [some (.ref 0), some (.int (nI i)), some (.int x)]) rfl (by decide +kernel) (Nat.le_of_ble_eq_true rfl) rfl ?_
  have ⟨hn, hn8, hm, hm10, hd⟩ := w
  refine rx_aload_n (i := 0) dX10_of_0 rfl rfl ?_
  refine rx_getR 28 (k := 2) fo_X10_26 kl_0 (by decide) ti_10_2 (by decide) rfl dX10_of_1 ?_
  refine rx_iload_n (i := 1) dX10_of_4 rfl rfl ?_
  refine rx_cvI (ci := 8) mo_X8_isPerson lk_X10_120 (c_X8_isPerson it28) (by decide) rfl rfl (Nat.le_of_ble_eq_true rfl) kl_28 rfl dX10_of_5 ?_
  refine rx_top (1) (by rw [hn]; exact one_i hi (by omega)) ?_
  refine rx_if_ne (tgt := 19) dX10_of_8 (by decide) (fun c8 => ?_) (fun c8 => ?_)
  · skip
    refine rx_iload_n (i := 2) dX10_of_19 rfl rfl ?_
    by_cases s0 : x = 0
    · subst s0
      refine rx_tableIn (off := 52) (tgt := 72) dX10_of_20 (by decide) (by decide) rfl (by decide) ?_
      refine rx_aload_n (i := 0) dX10_of_72 rfl rfl ?_
      refine rx_getR 28 (k := 2) fo_X10_26 kl_0 (by decide) ti_10_2 (by decide) rfl dX10_of_73 ?_
      refine rx_getR 29 (k := 0) fo_X10_126 kl_28 (by decide) ti_8_0 (by decide) rfl dX10_of_76 ?_
      refine rx_iload_n (i := 1) dX10_of_79 rfl rfl ?_
      refine rx_ialdN kl_29 (by omega) (by first | decide | omega) dX10_of_80 ?_
      exact rx_iret dX10_of_81 ⟨rfl, Or.inl rfl⟩
    by_cases s1 : x = 1
    · subst s1
      refine rx_tableIn (off := 62) (tgt := 82) dX10_of_20 (by decide) (by decide) rfl (by decide) ?_
      refine rx_aload_n (i := 0) dX10_of_82 rfl rfl ?_
      refine rx_getR 28 (k := 2) fo_X10_26 kl_0 (by decide) ti_10_2 (by decide) rfl dX10_of_83 ?_
      refine rx_getR 30 (k := 1) fo_X10_129 kl_28 (by decide) ti_8_1 (by decide) rfl dX10_of_86 ?_
      refine rx_iload_n (i := 1) dX10_of_89 rfl rfl ?_
      refine rx_ialdN kl_30 (by omega) (by first | decide | omega) dX10_of_90 ?_
      exact rx_iret dX10_of_91 ⟨rfl, Or.inl rfl⟩
    by_cases s2 : x = 2
    · subst s2
      refine rx_tableIn (off := 72) (tgt := 92) dX10_of_20 (by decide) (by decide) rfl (by decide) ?_
      refine rx_aload_n (i := 0) dX10_of_92 rfl rfl ?_
      refine rx_getR 28 (k := 2) fo_X10_26 kl_0 (by decide) ti_10_2 (by decide) rfl dX10_of_93 ?_
      refine rx_getR 31 (k := 2) fo_X10_132 kl_28 (by decide) ti_8_2 (by decide) rfl dX10_of_96 ?_
      refine rx_iload_n (i := 1) dX10_of_99 rfl rfl ?_
      refine rx_ialdN kl_31 (by omega) (by first | decide | omega) dX10_of_100 ?_
      exact rx_iret dX10_of_101 ⟨rfl, Or.inl rfl⟩
    by_cases s3 : x = 3
    · subst s3
      refine rx_tableIn (off := 82) (tgt := 102) dX10_of_20 (by decide) (by decide) rfl (by decide) ?_
      refine rx_aload_n (i := 0) dX10_of_102 rfl rfl ?_
      refine rx_getR 28 (k := 2) fo_X10_26 kl_0 (by decide) ti_10_2 (by decide) rfl dX10_of_103 ?_
      refine rx_getR 32 (k := 3) fo_X10_135 kl_28 (by decide) ti_8_3 (by decide) rfl dX10_of_106 ?_
      refine rx_iload_n (i := 1) dX10_of_109 rfl rfl ?_
      refine rx_ialdN kl_32 (by omega) (by first | decide | omega) dX10_of_110 ?_
      exact rx_iret dX10_of_111 ⟨rfl, Or.inl rfl⟩
    by_cases s4 : x = 4
    · subst s4
      refine rx_tableIn (off := 92) (tgt := 112) dX10_of_20 (by decide) (by decide) rfl (by decide) ?_
      refine rx_aload_n (i := 0) dX10_of_112 rfl rfl ?_
      refine rx_getR 28 (k := 2) fo_X10_26 kl_0 (by decide) ti_10_2 (by decide) rfl dX10_of_113 ?_
      refine rx_cvN (ci := 8) mo_X8_makeList lk_X10_138 (c_X8_makeList it28 w) (by decide) rfl rfl (Nat.le_of_ble_eq_true rfl) kl_28 rfl dX10_of_116 ?_
      refine rx_aload_n (i := 0) dX10_of_119 rfl rfl ?_
      refine rx_getR 28 (k := 2) fo_X10_26 kl_0 (by decide) ti_10_2 (by decide) rfl dX10_of_120 ?_
      refine rx_getR 34 (k := 5) fo_X10_141 kl_28 (by decide) ti_8_5 (by decide) rfl dX10_of_123 ?_
      refine rx_iload_n (i := 1) dX10_of_126 rfl rfl ?_
      refine rx_ialdN kl_34 (by omega) (by first | decide | omega) dX10_of_127 ?_
      refine rx_top (onT (view M 28) i) ((mkL_l hi).trans onL_T) ?_
      exact rx_iret dX10_of_128 ⟨rfl, Or.inr rfl⟩
    by_cases s5 : x = 5
    · subst s5
      refine rx_tableIn (off := 109) (tgt := 129) dX10_of_20 (by decide) (by decide) rfl (by decide) ?_
      refine rx_aload_n (i := 0) dX10_of_129 rfl rfl ?_
      refine rx_getR 28 (k := 2) fo_X10_26 kl_0 (by decide) ti_10_2 (by decide) rfl dX10_of_130 ?_
      refine rx_iload_n (i := 1) dX10_of_133 rfl rfl ?_
      refine rx_cvI (ci := 8) mo_X8_openOwedBy lk_X10_144 (c_X8_openOwedBy it28 w hi) (by decide) rfl rfl (Nat.le_of_ble_eq_true rfl) kl_28 rfl dX10_of_134 ?_
      exact rx_iret dX10_of_137 ⟨rfl, Or.inl rfl⟩
    by_cases s6 : x = 6
    · subst s6
      refine rx_tableIn (off := 118) (tgt := 138) dX10_of_20 (by decide) (by decide) rfl (by decide) ?_
      refine rx_aload_n (i := 0) dX10_of_138 rfl rfl ?_
      refine rx_getR 28 (k := 2) fo_X10_26 kl_0 (by decide) ti_10_2 (by decide) rfl dX10_of_139 ?_
      refine rx_iload_n (i := 1) dX10_of_142 rfl rfl ?_
      refine rx_cvI (ci := 8) mo_X8_openOwedTo lk_X10_148 (c_X8_openOwedTo it28 w _) (by decide) rfl rfl (Nat.le_of_ble_eq_true rfl) kl_28 rfl dX10_of_143 ?_
      exact rx_iret dX10_of_146 ⟨rfl, Or.inl rfl⟩
    by_cases s7 : x = 7
    · subst s7
      refine rx_tableIn (off := 127) (tgt := 147) dX10_of_20 (by decide) (by decide) rfl (by decide) ?_
      refine rx_aload_n (i := 0) dX10_of_147 rfl rfl ?_
      refine rx_getR 28 (k := 2) fo_X10_26 kl_0 (by decide) ti_10_2 (by decide) rfl dX10_of_148 ?_
      refine rx_iload_n (i := 1) dX10_of_151 rfl rfl ?_
      refine rx_cvI (ci := 8) mo_X8_favoursOwedBy lk_X10_151 (c_X8_favoursOwedBy it28 w _ hi) (by decide) rfl rfl (Nat.le_of_ble_eq_true rfl) kl_28 rfl dX10_of_152 ?_
      exact rx_iret dX10_of_155 ⟨rfl, Or.inl rfl⟩
    by_cases s8 : x = 8
    · subst s8
      refine rx_tableIn (off := 136) (tgt := 156) dX10_of_20 (by decide) (by decide) rfl (by decide) ?_
      refine rx_aload_n (i := 0) dX10_of_156 rfl rfl ?_
      refine rx_getR 28 (k := 2) fo_X10_26 kl_0 (by decide) ti_10_2 (by decide) rfl dX10_of_157 ?_
      refine rx_iload_n (i := 1) dX10_of_160 rfl rfl ?_
      refine rx_cvI (ci := 8) mo_X8_favoursOwedTo lk_X10_154 (c_X8_favoursOwedTo it28 w _ hi) (by decide) rfl rfl (Nat.le_of_ble_eq_true rfl) kl_28 rfl dX10_of_161 ?_
      exact rx_iret dX10_of_164 ⟨rfl, Or.inl rfl⟩
    exact absurd hx (sw9 s0 s1 s2 s3 s4 s5 s6 s7 s8)
  · skip
    exact absurd c8 (by decide)
    skip
set_option maxRecDepth 100000 in
set_option maxHeartbeats 4000000 in
theorem c_X10_debt {M : Mem} {n m : Nat} (w : TW M 28 n m) {i : Nat} (hi : i < m) {x : Int32} (hx : 0 ≤ x ∧ x ≤ 5) : Fun yX10_debt cX10_debt 3 (some .int) 1 [.ref 0, .int (nI i), .int x] M (some (.int (deT (view M 28) i x))) (M) := by
  refine Fun.of (own := RX10) ([some (.ref 0), some (.int (nI i)), some (.int x)]) rfl (by decide +kernel) (Nat.le_of_ble_eq_true rfl) rfl ?_
  have ⟨hn, hn8, hm, hm10, hd⟩ := w
  refine rx_aload_n (i := 0) dX10_debt_0 rfl rfl ?_
  refine rx_getR 28 (k := 2) fo_X10_26 kl_0 (by decide) ti_10_2 (by decide) rfl dX10_debt_1 ?_
  refine rx_iload_n (i := 1) dX10_debt_4 rfl rfl ?_
  refine rx_cvI (ci := 8) mo_X8_isDebt lk_X10_157 (c_X8_isDebt it28) (by decide) rfl rfl (Nat.le_of_ble_eq_true rfl) kl_28 rfl dX10_debt_5 ?_
  refine rx_top (1) (by rw [hm]; exact one_i hi (by omega)) ?_
  refine rx_if_ne (tgt := 19) dX10_debt_8 (by decide) (fun c8 => ?_) (fun c8 => ?_)
  · skip
    refine rx_iload_n (i := 2) dX10_debt_19 rfl rfl ?_
    by_cases s0 : x = 0
    · subst s0
      refine rx_tableIn (off := 40) (tgt := 60) dX10_debt_20 (by decide) (by decide) rfl (by decide) ?_
      refine rx_aload_n (i := 0) dX10_debt_60 rfl rfl ?_
      refine rx_getR 28 (k := 2) fo_X10_26 kl_0 (by decide) ti_10_2 (by decide) rfl dX10_debt_61 ?_
      refine rx_getR 35 (k := 6) fo_X10_160 kl_28 (by decide) ti_8_6 (by decide) rfl dX10_debt_64 ?_
      refine rx_iload_n (i := 1) dX10_debt_67 rfl rfl ?_
      refine rx_ialdN kl_35 (by omega) (by first | decide | omega) dX10_debt_68 ?_
      exact rx_fiI dX10_debt_69 rfl rfl
    by_cases s1 : x = 1
    · subst s1
      refine rx_tableIn (off := 50) (tgt := 70) dX10_debt_20 (by decide) (by decide) rfl (by decide) ?_
      refine rx_aload_n (i := 0) dX10_debt_70 rfl rfl ?_
      refine rx_getR 28 (k := 2) fo_X10_26 kl_0 (by decide) ti_10_2 (by decide) rfl dX10_debt_71 ?_
      refine rx_getR 36 (k := 7) fo_X10_163 kl_28 (by decide) ti_8_7 (by decide) rfl dX10_debt_74 ?_
      refine rx_iload_n (i := 1) dX10_debt_77 rfl rfl ?_
      refine rx_ialdN kl_36 (by omega) (by first | decide | omega) dX10_debt_78 ?_
      exact rx_fiI dX10_debt_79 rfl rfl
    by_cases s2 : x = 2
    · subst s2
      refine rx_tableIn (off := 60) (tgt := 80) dX10_debt_20 (by decide) (by decide) rfl (by decide) ?_
      refine rx_aload_n (i := 0) dX10_debt_80 rfl rfl ?_
      refine rx_getR 28 (k := 2) fo_X10_26 kl_0 (by decide) ti_10_2 (by decide) rfl dX10_debt_81 ?_
      refine rx_getR 37 (k := 8) fo_X10_166 kl_28 (by decide) ti_8_8 (by decide) rfl dX10_debt_84 ?_
      refine rx_iload_n (i := 1) dX10_debt_87 rfl rfl ?_
      refine rx_ialdN kl_37 (by omega) (by first | decide | omega) dX10_debt_88 ?_
      exact rx_fiI dX10_debt_89 rfl rfl
    by_cases s3 : x = 3
    · subst s3
      refine rx_tableIn (off := 70) (tgt := 90) dX10_debt_20 (by decide) (by decide) rfl (by decide) ?_
      refine rx_aload_n (i := 0) dX10_debt_90 rfl rfl ?_
      refine rx_getR 28 (k := 2) fo_X10_26 kl_0 (by decide) ti_10_2 (by decide) rfl dX10_debt_91 ?_
      refine rx_getR 38 (k := 9) fo_X10_169 kl_28 (by decide) ti_8_9 (by decide) rfl dX10_debt_94 ?_
      refine rx_iload_n (i := 1) dX10_debt_97 rfl rfl ?_
      refine rx_ialdN kl_38 (by omega) (by first | decide | omega) dX10_debt_98 ?_
      exact rx_fiI dX10_debt_99 rfl rfl
    by_cases s4 : x = 4
    · subst s4
      refine rx_tableIn (off := 80) (tgt := 100) dX10_debt_20 (by decide) (by decide) rfl (by decide) ?_
      refine rx_aload_n (i := 0) dX10_debt_100 rfl rfl ?_
      refine rx_getR 28 (k := 2) fo_X10_26 kl_0 (by decide) ti_10_2 (by decide) rfl dX10_debt_101 ?_
      refine rx_getR 39 (k := 10) fo_X10_172 kl_28 (by decide) ti_8_10 (by decide) rfl dX10_debt_104 ?_
      refine rx_iload_n (i := 1) dX10_debt_107 rfl rfl ?_
      refine rx_ialdN kl_39 (by omega) (by first | decide | omega) dX10_debt_108 ?_
      exact rx_fiI dX10_debt_109 rfl rfl
    by_cases s5 : x = 5
    · subst s5
      refine rx_tableIn (off := 90) (tgt := 110) dX10_debt_20 (by decide) (by decide) rfl (by decide) ?_
      refine rx_aload_n (i := 0) dX10_debt_110 rfl rfl ?_
      refine rx_getR 28 (k := 2) fo_X10_26 kl_0 (by decide) ti_10_2 (by decide) rfl dX10_debt_111 ?_
      refine rx_getR 40 (k := 11) fo_X10_175 kl_28 (by decide) ti_8_11 (by decide) rfl dX10_debt_114 ?_
      refine rx_iload_n (i := 1) dX10_debt_117 rfl rfl ?_
      refine rx_ialdN kl_40 (by omega) (by first | decide | omega) dX10_debt_118 ?_
      exact rx_fiI dX10_debt_119 rfl rfl
    exact absurd hx (sw6 s0 s1 s2 s3 s4 s5)
  · skip
    exact absurd c8 (by decide)
    skip
