theorem it28 : isTown 28 := Or.inl rfl
theorem it44 : isTown 44 := Or.inr (Or.inl rfl)
theorem it60 : isTown 60 := Or.inr (Or.inr (Or.inl rfl))
theorem it76 : isTown 76 := Or.inr (Or.inr (Or.inr (Or.inl rfl)))
theorem TW.f {M : Mem} {n m : Nat} {x : Int32} {j : Nat} (w : TW M 28 n m) : TW (setI M 0 j x) 28 n m := w.keep (sI_na (by omega)) (sI_na (by omega)) (fun _ _ => sI_na (by omega)) (fun _ _ => sI_na (by omega))
theorem TW.g {M : Mem} {n m : Nat} {x : Int32} {a j : Nat} (h : a ≠ 28 ∧ a ≠ 35 ∧ a ≠ 36) (w : TW M 28 n m) : TW (setI M a j x) 28 n m := w.keep (sI_na (by omega)) (sI_na (by omega)) (fun _ _ => sI_na (by omega)) (fun _ _ => sI_na (by omega))
theorem TW.mk28 {M : Mem} {n m : Nat} (w : TW M 28 n m) : TW (mkL M 28 n) 28 n m := w.keep (mkL_o (by omega)) (mkL_o (by omega)) (fun _ _ => mkL_o (by omega)) (fun _ _ => mkL_o (by omega))
set_option maxRecDepth 100000 in
set_option maxHeartbeats 4000000 in
theorem c_X10_greatestLaw {M : Mem} {x : Int32} : Fun yX10_greatestLaw cX10_greatestLaw 1 (some .int) 0 [.int x] M (some (.int (lawG x))) (M) := by
  refine Fun.of (own := RX10) ([some (.int x)]) rfl (by decide +kernel) (Nat.le_of_ble_eq_true rfl) rfl ?_
  refine rx_iload_n (i := 0) dX10_greatestLaw_0 rfl rfl ?_
  refine rx_if_ne (tgt := 6) dX10_greatestLaw_1 (by decide) (fun c1 => ?_) (fun c1 => ?_)
  · skip
    refine rx_iload_n (i := 0) dX10_greatestLaw_6 rfl rfl ?_
    refine rx_iconst (2) dX10_greatestLaw_7 rfl ?_
    refine rx_icmp_ne (tgt := 15) dX10_greatestLaw_8 (by decide) (fun c8 => ?_) (fun c8 => ?_)
    · skip
      refine rx_bipush (99) dX10_greatestLaw_15 rfl ?_
      first | exact rx_fiI dX10_greatestLaw_17 (by rw [lawG, if_neg c1, if_pos c8]) rfl | exact rx_fiI dX10_greatestLaw_17 (by rw [lawG, if_neg c1, if_neg c8]) rfl
    · skip
      refine rx_iconst (1) dX10_greatestLaw_11 rfl ?_
      refine rx_goto (tgt := 17) dX10_greatestLaw_12 (by decide) ?_
      first | exact rx_fiI dX10_greatestLaw_17 (by rw [lawG, if_neg c1, if_pos c8]) rfl | exact rx_fiI dX10_greatestLaw_17 (by rw [lawG, if_neg c1, if_neg c8]) rfl
  · skip
    refine rx_iconst (3) dX10_greatestLaw_4 rfl ?_
    exact rx_fiI dX10_greatestLaw_5 (by rw [lawG, if_pos c1]) rfl
set_option maxRecDepth 100000 in
set_option maxHeartbeats 4000000 in
theorem c_X10_law {M : Mem} {j : Nat} (hj : j < 4) {v : Int32} (h : lawOK (nI j) v) : Fun yX10_law cX10_law 4 (some .int) 1 [.ref 0, .int (nI j), .int v] M (some (.int (M.1 43 j))) (setI M 43 j v) := by
  refine Fun.of (own := RX10) ([some (.ref 0), some (.int (nI j)), some (.int v), none]) rfl (by decide +kernel) (Nat.le_of_ble_eq_true rfl) rfl ?_
  refine rx_iload_n (i := 1) dX10_law_0 rfl rfl ?_
  refine rx_if_lt (tgt := 21) dX10_law_1 (by decide) (fun c1 => ?_) (fun c1 => ?_)
  · skip
    have f1 := Int32.not_le.mpr c1
    exact absurd h.1.1 (Int32.not_le.mpr c1)
    skip
  · skip
    have f1 := Int32.not_lt.mp c1
    refine rx_iload_n (i := 1) dX10_law_4 rfl rfl ?_
    refine rx_iconst (3) dX10_law_5 rfl ?_
    refine rx_icmp_gt (tgt := 21) dX10_law_6 (by decide) (fun c6 => ?_) (fun c6 => ?_)
    · skip
      have f6 := Int32.not_le.mpr c6
      exact absurd h.1.2 (Int32.not_le.mpr c6)
      skip
    · skip
      have f6 := Int32.not_lt.mp c6
      refine rx_iload_n (i := 2) dX10_law_9 rfl rfl ?_
      refine rx_if_lt (tgt := 21) dX10_law_10 (by decide) (fun c10 => ?_) (fun c10 => ?_)
      · skip
        have f10 := Int32.not_le.mpr c10
        exact absurd h.2.1 (Int32.not_le.mpr c10)
        skip
      · skip
        have f10 := Int32.not_lt.mp c10
        refine rx_iload_n (i := 2) dX10_law_13 rfl rfl ?_
        refine rx_iload_n (i := 1) dX10_law_14 rfl rfl ?_
        refine rx_csI mo_X10_greatestLaw lk_X10_178 c_X10_greatestLaw (by decide) rfl rfl (Nat.le_of_ble_eq_true rfl) dX10_law_15 ?_
        refine rx_icmp_le (tgt := 23) dX10_law_18 (by decide) (fun c18 => ?_) (fun c18 => ?_)
        · skip
          have f18 := Int32.not_lt.mpr c18
          refine rx_aload_n (i := 0) dX10_law_23 rfl rfl ?_
          refine rx_getR 28 (k := 2) fo_X10_26 kl_0 (by decide) ti_10_2 (by decide) rfl dX10_law_24 ?_
          refine rx_getR 43 (k := 14) fo_X10_181 kl_28 (by decide) ti_8_14 (by decide) rfl dX10_law_27 ?_
          refine rx_iload_n (i := 1) dX10_law_30 rfl rfl ?_
          refine rx_ialdN kl_43 (by omega) (by first | decide | omega) dX10_law_31 ?_
          refine rx_istore_n (i := 3) dX10_law_32 rfl (by decide) rfl rfl ?_
          refine rx_aload_n (i := 0) dX10_law_33 rfl rfl ?_
          refine rx_getR 28 (k := 2) fo_X10_26 kl_0 (by decide) ti_10_2 (by decide) rfl dX10_law_34 ?_
          refine rx_getR 43 (k := 14) fo_X10_181 kl_28 (by decide) ti_8_14 (by decide) rfl dX10_law_37 ?_
          refine rx_iload_n (i := 1) dX10_law_40 rfl rfl ?_
          refine rx_iload_n (i := 2) dX10_law_41 rfl rfl ?_
          refine rx_iastN kl_43 (by omega) (by first | decide | omega) dX10_law_42 ?_
          refine rx_iload_n (i := 3) dX10_law_43 rfl rfl ?_
          exact rx_fiI dX10_law_44 rfl rfl
        · skip
          have f18 := Int32.not_le.mp c18
          exact absurd h.2.2 c18
          skip
set_option maxRecDepth 100000 in
set_option maxHeartbeats 4000000 in
theorem c_X10_law_no {M : Mem} {x v : Int32} (h : ¬ lawOK x v) : Fun yX10_law cX10_law 4 (some .int) 1 [.ref 0, .int x, .int v] M (some (.int (-1))) (M) := by
  refine Fun.of (own := RX10) ([some (.ref 0), some (.int x), some (.int v), none]) rfl (by decide +kernel) (Nat.le_of_ble_eq_true rfl) rfl ?_
  refine rx_iload_n (i := 1) dX10_law_0 rfl rfl ?_
  refine rx_if_lt (tgt := 21) dX10_law_1 (by decide) (fun c1 => ?_) (fun c1 => ?_)
  · skip
    have f1 := Int32.not_le.mpr c1
    refine rx_iconst (-1) dX10_law_21 rfl ?_
    exact rx_fiI dX10_law_22 rfl rfl
  · skip
    have f1 := Int32.not_lt.mp c1
    refine rx_iload_n (i := 1) dX10_law_4 rfl rfl ?_
    refine rx_iconst (3) dX10_law_5 rfl ?_
    refine rx_icmp_gt (tgt := 21) dX10_law_6 (by decide) (fun c6 => ?_) (fun c6 => ?_)
    · skip
      have f6 := Int32.not_le.mpr c6
      refine rx_iconst (-1) dX10_law_21 rfl ?_
      exact rx_fiI dX10_law_22 rfl rfl
    · skip
      have f6 := Int32.not_lt.mp c6
      refine rx_iload_n (i := 2) dX10_law_9 rfl rfl ?_
      refine rx_if_lt (tgt := 21) dX10_law_10 (by decide) (fun c10 => ?_) (fun c10 => ?_)
      · skip
        have f10 := Int32.not_le.mpr c10
        refine rx_iconst (-1) dX10_law_21 rfl ?_
        exact rx_fiI dX10_law_22 rfl rfl
      · skip
        have f10 := Int32.not_lt.mp c10
        refine rx_iload_n (i := 2) dX10_law_13 rfl rfl ?_
        refine rx_iload_n (i := 1) dX10_law_14 rfl rfl ?_
        refine rx_csI mo_X10_greatestLaw lk_X10_178 c_X10_greatestLaw (by decide) rfl rfl (Nat.le_of_ble_eq_true rfl) dX10_law_15 ?_
        refine rx_icmp_le (tgt := 23) dX10_law_18 (by decide) (fun c18 => ?_) (fun c18 => ?_)
        · skip
          have f18 := Int32.not_lt.mpr c18
          exact absurd ⟨⟨Int32.not_lt.mp c1, Int32.not_lt.mp c6⟩, Int32.not_lt.mp c10, c18⟩ h
          skip
        · skip
          have f18 := Int32.not_le.mp c18
          refine rx_iconst (-1) dX10_law_21 rfl ?_
          exact rx_fiI dX10_law_22 rfl rfl
set_option maxRecDepth 100000 in
set_option maxHeartbeats 4000000 in
theorem c_X10_noon {M : Mem} {n m : Nat} (w : TW M 28 n m) : Fun yX10_noon cX10_noon 1 (some .int) 2 [.ref 0] M (some (.int (fsum (fun k => M.1 29 k - M.1 32 k) n))) (cnL (setI M 0 14 0) 28 n) := by
  refine Fun.of (own := RX10) ([some (.ref 0)]) rfl (by decide +kernel) (Nat.le_of_ble_eq_true rfl) rfl ?_
  refine rx_aload_n (i := 0) dX10_noon_0 rfl rfl ?_
  refine rx_cvN (ci := 10) mo_X10_forgetPayments lk_X10_110 c_X10_forgetPayments (by decide) rfl rfl (Nat.le_of_ble_eq_true rfl) kl_0 rfl dX10_noon_1 ?_
  refine rx_aload_n (i := 0) dX10_noon_4 rfl rfl ?_
  refine rx_getR 28 (k := 2) fo_X10_26 kl_0 (by decide) ti_10_2 (by decide) rfl dX10_noon_5 ?_
  refine rx_cvI (ci := 8) mo_X8_countList lk_X10_200 (c_X8_countList it28 (w.f (j := 14) (x := 0))) (by decide) rfl rfl (Nat.le_of_ble_eq_true rfl) kl_28 rfl dX10_noon_8 ?_
  exact rx_fiI dX10_noon_11 rfl rfl
def srC (M : Mem) : Mem := setI (setI M 0 14 0) 28 19 (rnd (M.1 28 19))
set_option maxRecDepth 100000 in
set_option maxHeartbeats 4000000 in
theorem c_X10_search {M : Mem} {n m : Nat} (w : TW M 28 n m) {i : Nat} (hi : i < n) {x : Int32} (hx : 0 ≤ x ∧ x ≤ 10) : Fun yX10_search cX10_search 4 (some .int) 1 [.ref 0, .int (nI i), .int x] M (some (.int (if drw (M.1 28 19) < x then M.1 32 i else 0))) (if drw (M.1 28 19) < x then setI (setI (srC M) 29 i (M.1 29 i - M.1 32 i)) 32 i 0 else srC M) := by
  refine Fun.of (own := RX10) ([some (.ref 0), some (.int (nI i)), some (.int x), none]) rfl (by decide +kernel) (Nat.le_of_ble_eq_true rfl) rfl ?_
  have ⟨hn, hn8, hm, hm10, hd⟩ := w
  refine rx_aload_n (i := 0) dX10_search_0 rfl rfl ?_
  refine rx_getR 28 (k := 2) fo_X10_26 kl_0 (by decide) ti_10_2 (by decide) rfl dX10_search_1 ?_
  refine rx_iload_n (i := 1) dX10_search_4 rfl rfl ?_
  refine rx_cvI (ci := 8) mo_X8_isPerson lk_X10_120 (c_X8_isPerson it28) (by decide) rfl rfl (Nat.le_of_ble_eq_true rfl) kl_28 rfl dX10_search_5 ?_
  refine rx_top (1) (by rw [hn]; exact one_i hi (by omega)) ?_
  refine rx_if_eq (tgt := 21) dX10_search_8 (by decide) (fun c8 => absurd c8 (by decide)) (fun c8 => ?_)
  refine rx_iload_n (i := 2) dX10_search_11 rfl rfl ?_
  refine rx_if_lt (tgt := 21) dX10_search_12 (by decide) (fun c12 => ?_) (fun c12 => ?_)
  · skip
    have f12 := Int32.not_le.mpr c12
    exact absurd hx.1 (Int32.not_le.mpr c12)
    skip
  · skip
    have f12 := Int32.not_lt.mp c12
    refine rx_iload_n (i := 2) dX10_search_15 rfl rfl ?_
    refine rx_bipush (10) dX10_search_16 rfl ?_
    refine rx_icmp_le (tgt := 23) dX10_search_18 (by decide) (fun c18 => ?_) (fun c18 => ?_)
    · skip
      have f18 := Int32.not_lt.mpr c18
      refine rx_aload_n (i := 0) dX10_search_23 rfl rfl ?_
      refine rx_cvN (ci := 10) mo_X10_forgetPayments lk_X10_110 c_X10_forgetPayments (by decide) rfl rfl (Nat.le_of_ble_eq_true rfl) kl_0 rfl dX10_search_24 ?_
      refine rx_aload_n (i := 0) dX10_search_27 rfl rfl ?_
      refine rx_getR 28 (k := 2) fo_X10_26 kl_0 (by decide) ti_10_2 (by decide) rfl dX10_search_28 ?_
      refine rx_bipush (10) dX10_search_31 rfl ?_
      refine rx_cvI (ci := 8) mo_X8_draw lk_X10_203 (c_X8_draw it28) (by decide) rfl rfl (Nat.le_of_ble_eq_true rfl) kl_28 rfl dX10_search_33 ?_
      refine rx_iload_n (i := 2) dX10_search_36 rfl rfl ?_
      refine rx_icmp_lt (tgt := 42) dX10_search_37 (by decide) (fun c37 => ?_) (fun c37 => ?_)
      · skip
        have e37 : drw (M.1 28 19) < x := c37
        refine rx_aload_n (i := 0) dX10_search_42 rfl rfl ?_
        refine rx_getR 28 (k := 2) fo_X10_26 kl_0 (by decide) ti_10_2 (by decide) rfl dX10_search_43 ?_
        refine rx_getR 32 (k := 3) fo_X10_135 kl_28 (by decide) ti_8_3 (by decide) rfl dX10_search_46 ?_
        refine rx_iload_n (i := 1) dX10_search_49 rfl rfl ?_
        refine rx_ialdN kl_32 (by omega) (by first | decide | omega) dX10_search_50 ?_
        refine rx_istore_n (i := 3) dX10_search_51 rfl (by decide) rfl rfl ?_
        refine rx_aload_n (i := 0) dX10_search_52 rfl rfl ?_
        refine rx_getR 28 (k := 2) fo_X10_26 kl_0 (by decide) ti_10_2 (by decide) rfl dX10_search_53 ?_
        refine rx_getR 29 (k := 0) fo_X10_126 kl_28 (by decide) ti_8_0 (by decide) rfl dX10_search_56 ?_
        refine rx_iload_n (i := 1) dX10_search_59 rfl rfl ?_
        refine rx_dup2_11 dX10_search_60 rfl rfl ?_
        refine rx_ialdN kl_29 (by omega) (by first | decide | omega) dX10_search_61 ?_
        refine rx_iload_n (i := 3) dX10_search_62 rfl rfl ?_
        refine rx_isub dX10_search_63 ?_
        refine rx_iastN kl_29 (by omega) (by first | decide | omega) dX10_search_64 ?_
        refine rx_aload_n (i := 0) dX10_search_65 rfl rfl ?_
        refine rx_getR 28 (k := 2) fo_X10_26 kl_0 (by decide) ti_10_2 (by decide) rfl dX10_search_66 ?_
        refine rx_getR 32 (k := 3) fo_X10_135 kl_28 (by decide) ti_8_3 (by decide) rfl dX10_search_69 ?_
        refine rx_iload_n (i := 1) dX10_search_72 rfl rfl ?_
        refine rx_iconst (0) dX10_search_73 rfl ?_
        refine rx_iastN kl_32 (by omega) (by first | decide | omega) dX10_search_74 ?_
        refine rx_iload_n (i := 3) dX10_search_75 rfl rfl ?_
        exact rx_fiI dX10_search_76 (if_pos e37).symm (if_pos e37).symm
      · skip
        have e37 : ¬ drw (M.1 28 19) < x := c37
        refine rx_iconst (0) dX10_search_40 rfl ?_
        exact rx_fiI dX10_search_41 (if_neg e37).symm (if_neg e37).symm
    · skip
      have f18 := Int32.not_le.mp c18
      exact absurd hx.2 c18
      skip
set_option maxRecDepth 100000 in
set_option maxHeartbeats 4000000 in
theorem c_X10_search_no {M : Mem} {n m : Nat} (w : TW M 28 n m) {y x : Int32} (hx : ¬ ((0 ≤ y ∧ y < nI n) ∧ 0 ≤ x ∧ x ≤ 10)) : Fun yX10_search cX10_search 4 (some .int) 1 [.ref 0, .int y, .int x] M (some (.int (-1))) (M) := by
  refine Fun.of (own := RX10) ([some (.ref 0), some (.int y), some (.int x), none]) rfl (by decide +kernel) (Nat.le_of_ble_eq_true rfl) rfl ?_
  have ⟨hn, hn8, hm, hm10, hd⟩ := w
  refine rx_aload_n (i := 0) dX10_search_0 rfl rfl ?_
  refine rx_getR 28 (k := 2) fo_X10_26 kl_0 (by decide) ti_10_2 (by decide) rfl dX10_search_1 ?_
  refine rx_iload_n (i := 1) dX10_search_4 rfl rfl ?_
  refine rx_cvI (ci := 8) mo_X8_isPerson lk_X10_120 (c_X8_isPerson it28) (by decide) rfl rfl (Nat.le_of_ble_eq_true rfl) kl_28 rfl dX10_search_5 ?_
  rw [hn]
  refine rx_if_eq (tgt := 21) dX10_search_8 (by decide) (fun c8 => ?_) (fun c8 => ?_)
  · skip
    refine rx_iconst (-1) dX10_search_21 rfl ?_
    exact rx_fiI dX10_search_22 rfl rfl
  · skip
    have e8 := ite1n c8
    refine rx_iload_n (i := 2) dX10_search_11 rfl rfl ?_
    refine rx_if_lt (tgt := 21) dX10_search_12 (by decide) (fun c12 => ?_) (fun c12 => ?_)
    · skip
      have f12 := Int32.not_le.mpr c12
      refine rx_iconst (-1) dX10_search_21 rfl ?_
      exact rx_fiI dX10_search_22 rfl rfl
    · skip
      have f12 := Int32.not_lt.mp c12
      refine rx_iload_n (i := 2) dX10_search_15 rfl rfl ?_
      refine rx_bipush (10) dX10_search_16 rfl ?_
      refine rx_icmp_le (tgt := 23) dX10_search_18 (by decide) (fun c18 => ?_) (fun c18 => ?_)
      · skip
        have f18 := Int32.not_lt.mpr c18
        exact absurd ⟨e8, Int32.not_lt.mp c12, c18⟩ hx
        skip
      · skip
        have f18 := Int32.not_le.mp c18
        refine rx_iconst (-1) dX10_search_21 rfl ?_
        exact rx_fiI dX10_search_22 rfl rfl
theorem bb28 {M : Mem} {n : Nat} (hO : OKT (view M 28) n) : BB (onL M 28) n := fun k hk => by rw [onL_T]; exact hO.bb k hk
theorem bbL {M : Mem} {n : Nat} (hO : OKT (view M 28) n) : BB ((mkL M 28 n).1 34) n := fun k hk => by rw [show (mkL M 28 n).1 34 k = onL M 28 k from mkL_l hk]; exact bb28 hO k hk
set_option maxRecDepth 100000 in
set_option maxHeartbeats 4000000 in
theorem c_X10_below {M : Mem} {n m : Nat} (w : TW M 28 n m) (hO : OKT (view M 28) n) {i : Nat} (hi : i < n) : Fun yX10_below cX10_below 2 (some .int) 2 [.ref 0, .int (nI i)] M (some (.int (fbor (fun o => !(decide (o = i)) && blw (view M 28 14 0) (view M 28 14 1) n (onT (view M 28)) i o) n))) (mkL M 28 n) := by
  refine Fun.of (own := RX10) ([some (.ref 0), some (.int (nI i))]) rfl (by decide +kernel) (Nat.le_of_ble_eq_true rfl) rfl ?_
  have ⟨hn, hn8, hm, hm10, hd⟩ := w
  refine rx_aload_n (i := 0) dX10_below_0 rfl rfl ?_
  refine rx_getR 28 (k := 2) fo_X10_26 kl_0 (by decide) ti_10_2 (by decide) rfl dX10_below_1 ?_
  refine rx_iload_n (i := 1) dX10_below_4 rfl rfl ?_
  refine rx_cvI (ci := 8) mo_X8_isPerson lk_X10_120 (c_X8_isPerson it28) (by decide) rfl rfl (Nat.le_of_ble_eq_true rfl) kl_28 rfl dX10_below_5 ?_
  refine rx_top (1) (by rw [hn]; exact one_i hi (by omega)) ?_
  refine rx_if_ne (tgt := 13) dX10_below_8 (by decide) (fun c8 => ?_) (fun c8 => absurd c8 (by decide))
  refine rx_aload_n (i := 0) dX10_below_13 rfl rfl ?_
  refine rx_getR 28 (k := 2) fo_X10_26 kl_0 (by decide) ti_10_2 (by decide) rfl dX10_below_14 ?_
  refine rx_cvN (ci := 8) mo_X8_makeList lk_X10_138 (c_X8_makeList it28 w) (by decide) rfl rfl (Nat.le_of_ble_eq_true rfl) kl_28 rfl dX10_below_17 ?_
  refine rx_aload_n (i := 0) dX10_below_20 rfl rfl ?_
  refine rx_getR 28 (k := 2) fo_X10_26 kl_0 (by decide) ti_10_2 (by decide) rfl dX10_below_21 ?_
  refine rx_iload_n (i := 1) dX10_below_24 rfl rfl ?_
  refine rx_cvI (ci := 8) mo_X8_belowBits lk_X10_206 (c_X8_belowBits it28 w.mk28 hi (bbL hO) hO.2) (by decide) rfl rfl (Nat.le_of_ble_eq_true rfl) kl_28 rfl dX10_below_25 ?_
  exact rx_fiI dX10_below_28 (fbor_congr fun o ho => by
    rw [blw_congr (L := (mkL M 28 n).1 34) (L' := onT (view M 28)) (fun j hj => (mkL_l hj).trans onL_T) hi ho]
    rfl) rfl
set_option maxRecDepth 100000 in
set_option maxHeartbeats 4000000 in
theorem c_X10_below_no {M : Mem} {n m : Nat} (w : TW M 28 n m) {y : Int32} (hx : ¬ (0 ≤ y ∧ y < nI n)) : Fun yX10_below cX10_below 2 (some .int) 2 [.ref 0, .int y] M (some (.int (-1))) (M) := by
  refine Fun.of (own := RX10) ([some (.ref 0), some (.int y)]) rfl (by decide +kernel) (Nat.le_of_ble_eq_true rfl) rfl ?_
  have ⟨hn, hn8, hm, hm10, hd⟩ := w
  refine rx_aload_n (i := 0) dX10_below_0 rfl rfl ?_
  refine rx_getR 28 (k := 2) fo_X10_26 kl_0 (by decide) ti_10_2 (by decide) rfl dX10_below_1 ?_
  refine rx_iload_n (i := 1) dX10_below_4 rfl rfl ?_
  refine rx_cvI (ci := 8) mo_X8_isPerson lk_X10_120 (c_X8_isPerson it28) (by decide) rfl rfl (Nat.le_of_ble_eq_true rfl) kl_28 rfl dX10_below_5 ?_
  rw [hn]
  refine rx_if_ne (tgt := 13) dX10_below_8 (by decide) (fun c8 => ?_) (fun c8 => ?_)
  · skip
    exact absurd (ite1n c8) hx
    skip
  · skip
    refine rx_iconst (-1) dX10_below_11 rfl ?_
    exact rx_fiI dX10_below_12 rfl rfl
set_option maxRecDepth 100000 in
set_option maxHeartbeats 4000000 in
theorem c_X10_favour {M : Mem} {n m : Nat} (w : TW M 28 n m) {i j : Nat} (hi : i < n) (hj : j < n) (hij : i ≠ j) : Fun yX10_favour cX10_favour 3 (some .int) 1 [.ref 0, .int (nI i), .int (nI j)] M (some (.int (M.1 41 (8 * i + j)))) (M) := by
  refine Fun.of (own := RX10) ([some (.ref 0), some (.int (nI i)), some (.int (nI j))]) rfl (by decide +kernel) (Nat.le_of_ble_eq_true rfl) rfl ?_
  have ⟨hn, hn8, hm, hm10, hd⟩ := w
  refine rx_aload_n (i := 0) dX10_favour_0 rfl rfl ?_
  refine rx_getR 28 (k := 2) fo_X10_26 kl_0 (by decide) ti_10_2 (by decide) rfl dX10_favour_1 ?_
  refine rx_iload_n (i := 1) dX10_favour_4 rfl rfl ?_
  refine rx_cvI (ci := 8) mo_X8_isPerson lk_X10_120 (c_X8_isPerson it28) (by decide) rfl rfl (Nat.le_of_ble_eq_true rfl) kl_28 rfl dX10_favour_5 ?_
  refine rx_top (1) (by rw [hn]; exact one_i hi (by omega)) ?_
  refine rx_if_eq (tgt := 27) dX10_favour_8 (by decide) (fun c8 => absurd c8 (by decide)) (fun c8 => ?_)
  refine rx_aload_n (i := 0) dX10_favour_11 rfl rfl ?_
  refine rx_getR 28 (k := 2) fo_X10_26 kl_0 (by decide) ti_10_2 (by decide) rfl dX10_favour_12 ?_
  refine rx_iload_n (i := 2) dX10_favour_15 rfl rfl ?_
  refine rx_cvI (ci := 8) mo_X8_isPerson lk_X10_120 (c_X8_isPerson it28) (by decide) rfl rfl (Nat.le_of_ble_eq_true rfl) kl_28 rfl dX10_favour_16 ?_
  refine rx_top (1) (by rw [hn]; exact one_i hj (by omega)) ?_
  refine rx_if_eq (tgt := 27) dX10_favour_19 (by decide) (fun c19 => absurd c19 (by decide)) (fun c19 => ?_)
  refine rx_iload_n (i := 1) dX10_favour_22 rfl rfl ?_
  refine rx_iload_n (i := 2) dX10_favour_23 rfl rfl ?_
  refine rx_icmp_ne (tgt := 29) dX10_favour_24 (by decide) (fun c24 => ?_) (fun c24 => ?_)
  · skip
    refine rx_aload_n (i := 0) dX10_favour_29 rfl rfl ?_
    refine rx_getR 28 (k := 2) fo_X10_26 kl_0 (by decide) ti_10_2 (by decide) rfl dX10_favour_30 ?_
    refine rx_getR 41 (k := 12) fo_X10_254 kl_28 (by decide) ti_8_12 (by decide) rfl dX10_favour_33 ?_
    refine rx_iload_n (i := 1) dX10_favour_36 rfl rfl ?_
    refine rx_bipush (8) dX10_favour_37 rfl ?_
    refine rx_imul dX10_favour_39 ?_
    refine rx_iload_n (i := 2) dX10_favour_40 rfl rfl ?_
    refine rx_iadd dX10_favour_41 ?_
    refine rx_top (nI (8 * i + j)) (ix8 i j) ?_
    refine rx_ialdN kl_41 (by omega) (by first | decide | omega) dX10_favour_42 ?_
    exact rx_fiI dX10_favour_43 rfl rfl
  · skip
    exact absurd ((nI_eq (by omega) (by omega)).mp c24) hij
    skip
set_option maxRecDepth 100000 in
set_option maxHeartbeats 4000000 in
theorem c_X10_favour_no {M : Mem} {n m : Nat} (w : TW M 28 n m) {y x : Int32} (hx : ¬ ((0 ≤ y ∧ y < nI n) ∧ (0 ≤ x ∧ x < nI n) ∧ ¬ y = x)) : Fun yX10_favour cX10_favour 3 (some .int) 1 [.ref 0, .int y, .int x] M (some (.int (-1))) (M) := by
  refine Fun.of (own := RX10) ([some (.ref 0), some (.int y), some (.int x)]) rfl (by decide +kernel) (Nat.le_of_ble_eq_true rfl) rfl ?_
  have ⟨hn, hn8, hm, hm10, hd⟩ := w
  refine rx_aload_n (i := 0) dX10_favour_0 rfl rfl ?_
  refine rx_getR 28 (k := 2) fo_X10_26 kl_0 (by decide) ti_10_2 (by decide) rfl dX10_favour_1 ?_
  refine rx_iload_n (i := 1) dX10_favour_4 rfl rfl ?_
  refine rx_cvI (ci := 8) mo_X8_isPerson lk_X10_120 (c_X8_isPerson it28) (by decide) rfl rfl (Nat.le_of_ble_eq_true rfl) kl_28 rfl dX10_favour_5 ?_
  rw [hn]
  refine rx_if_eq (tgt := 27) dX10_favour_8 (by decide) (fun c8 => ?_) (fun c8 => ?_)
  · skip
    refine rx_iconst (-1) dX10_favour_27 rfl ?_
    exact rx_fiI dX10_favour_28 rfl rfl
  · skip
    have e8 := ite1n c8
    refine rx_aload_n (i := 0) dX10_favour_11 rfl rfl ?_
    refine rx_getR 28 (k := 2) fo_X10_26 kl_0 (by decide) ti_10_2 (by decide) rfl dX10_favour_12 ?_
    refine rx_iload_n (i := 2) dX10_favour_15 rfl rfl ?_
    refine rx_cvI (ci := 8) mo_X8_isPerson lk_X10_120 (c_X8_isPerson it28) (by decide) rfl rfl (Nat.le_of_ble_eq_true rfl) kl_28 rfl dX10_favour_16 ?_
    rw [hn]
    refine rx_if_eq (tgt := 27) dX10_favour_19 (by decide) (fun c19 => ?_) (fun c19 => ?_)
    · skip
      refine rx_iconst (-1) dX10_favour_27 rfl ?_
      exact rx_fiI dX10_favour_28 rfl rfl
    · skip
      have e19 := ite1n c19
      refine rx_iload_n (i := 1) dX10_favour_22 rfl rfl ?_
      refine rx_iload_n (i := 2) dX10_favour_23 rfl rfl ?_
      refine rx_icmp_ne (tgt := 29) dX10_favour_24 (by decide) (fun c24 => ?_) (fun c24 => ?_)
      · skip
        exact absurd ⟨e8, e19, c24⟩ hx
        skip
      · skip
        refine rx_iconst (-1) dX10_favour_27 rfl ?_
        exact rx_fiI dX10_favour_28 rfl rfl
set_option maxRecDepth 100000 in
set_option maxHeartbeats 4000000 in
theorem c_X10_give {M : Mem} {n m : Nat} (w : TW M 28 n m) {i j : Nat} {z : Int32} (hi : i < n) (hj : j < n) (hij : i ≠ j) (hz1 : 1 ≤ z) (hz2 : z ≤ M.1 29 i - M.1 32 i) : Fun yX10_give cX10_give 4 (some .boolean) 2 [.ref 0, .int (nI i), .int (nI j), .int z] M (some (.int 1)) (setI (shM M 28 i j z) 0 14 0) := by
  refine Fun.of (own := RX10) ([some (.ref 0), some (.int (nI i)), some (.int (nI j)), some (.int z)]) rfl (by decide +kernel) (Nat.le_of_ble_eq_true rfl) rfl ?_
  have ⟨hn, hn8, hm, hm10, hd⟩ := w
  refine rx_aload_n (i := 0) dX10_give_0 rfl rfl ?_
  refine rx_getR 28 (k := 2) fo_X10_26 kl_0 (by decide) ti_10_2 (by decide) rfl dX10_give_1 ?_
  refine rx_iload_n (i := 1) dX10_give_4 rfl rfl ?_
  refine rx_iload_n (i := 2) dX10_give_5 rfl rfl ?_
  refine rx_iload_n (i := 3) dX10_give_6 rfl rfl ?_
  refine rx_cvI (ci := 8) mo_X8_canGive lk_X10_260 (c_X8_canGive it28 w) (by decide) rfl rfl (Nat.le_of_ble_eq_true rfl) kl_28 rfl dX10_give_7 ?_
  refine rx_top (1) (if_pos ⟨⟨nI_pos' (by omega), by rw [hn]; exact nI_lt hi (by omega)⟩, ⟨nI_pos' (by omega), by rw [hn]; exact nI_lt hj (by omega)⟩, fun q => hij ((nI_eq (by omega) (by omega)).mp q), hz1, by rw [nI_clamp (by omega)]; exact hz2⟩) ?_
  refine rx_if_ne (tgt := 15) dX10_give_10 (by decide) (fun c10 => ?_) (fun c10 => absurd c10 (by decide))
  refine rx_aload_n (i := 0) dX10_give_15 rfl rfl ?_
  refine rx_getR 28 (k := 2) fo_X10_26 kl_0 (by decide) ti_10_2 (by decide) rfl dX10_give_16 ?_
  refine rx_iload_n (i := 1) dX10_give_19 rfl rfl ?_
  refine rx_iload_n (i := 2) dX10_give_20 rfl rfl ?_
  refine rx_iload_n (i := 3) dX10_give_21 rfl rfl ?_
  refine rx_cvN (ci := 8) mo_X8_shift lk_X10_264 (c_X8_shift it28 (by omega) (by omega)) (by decide) rfl rfl (Nat.le_of_ble_eq_true rfl) kl_28 rfl dX10_give_22 ?_
  refine rx_aload_n (i := 0) dX10_give_25 rfl rfl ?_
  refine rx_cvN (ci := 10) mo_X10_forgetPayments lk_X10_110 c_X10_forgetPayments (by decide) rfl rfl (Nat.le_of_ble_eq_true rfl) kl_0 rfl dX10_give_26 ?_
  refine rx_iconst (1) dX10_give_29 rfl ?_
  exact rx_fiZ dX10_give_30 (Or.inr rfl) rfl rfl
set_option maxRecDepth 100000 in
set_option maxHeartbeats 4000000 in
theorem c_X10_give_no {M : Mem} {n m : Nat} (w : TW M 28 n m) {x y z : Int32} (h : ¬ ((0 ≤ x ∧ x < nI n) ∧ (0 ≤ y ∧ y < nI n) ∧ ¬ x = y ∧ 1 ≤ z ∧ z ≤ M.1 29 x.toNatClampNeg - M.1 32 x.toNatClampNeg)) : Fun yX10_give cX10_give 4 (some .boolean) 2 [.ref 0, .int x, .int y, .int z] M (some (.int 0)) (M) := by
  refine Fun.of (own := RX10) ([some (.ref 0), some (.int x), some (.int y), some (.int z)]) rfl (by decide +kernel) (Nat.le_of_ble_eq_true rfl) rfl ?_
  have ⟨hn, hn8, hm, hm10, hd⟩ := w
  refine rx_aload_n (i := 0) dX10_give_0 rfl rfl ?_
  refine rx_getR 28 (k := 2) fo_X10_26 kl_0 (by decide) ti_10_2 (by decide) rfl dX10_give_1 ?_
  refine rx_iload_n (i := 1) dX10_give_4 rfl rfl ?_
  refine rx_iload_n (i := 2) dX10_give_5 rfl rfl ?_
  refine rx_iload_n (i := 3) dX10_give_6 rfl rfl ?_
  refine rx_cvI (ci := 8) mo_X8_canGive lk_X10_260 (c_X8_canGive it28 w) (by decide) rfl rfl (Nat.le_of_ble_eq_true rfl) kl_28 rfl dX10_give_7 ?_
  rw [hn]
  refine rx_if_ne (tgt := 15) dX10_give_10 (by decide) (fun c10 => ?_) (fun c10 => ?_)
  · skip
    exact absurd (ite1n c10) h
    skip
  · skip
    refine rx_iconst (0) dX10_give_13 rfl ?_
    exact rx_fiZ dX10_give_14 (Or.inl rfl) rfl rfl
set_option maxRecDepth 100000 in
set_option maxHeartbeats 4000000 in
theorem c_X10_lend {M : Mem} {n m : Nat} (w : TW M 28 n m) {i j : Nat} {z : Int32} (hi : i < n) (hj : j < n) (hij : i ≠ j) (hz1 : 1 ≤ z) (hz2 : z ≤ M.1 29 i - M.1 32 i) {c : Nat} (ec : M.1 28 17 = nI c) (hc : c < 6) : Fun yX10_lend cX10_lend 4 (some .int) 2 [.ref 0, .int (nI i), .int (nI j), .int z] M (some (.int (nI (c + 1)))) (setI (shM (nlM M 28 c (nI i) (nI j) z) 28 i j z) 0 14 0) := by
  refine Fun.of (own := RX10) ([some (.ref 0), some (.int (nI i)), some (.int (nI j)), some (.int z)]) rfl (by decide +kernel) (Nat.le_of_ble_eq_true rfl) rfl ?_
  have ⟨hn, hn8, hm, hm10, hd⟩ := w
  refine rx_aload_n (i := 0) dX10_lend_0 rfl rfl ?_
  refine rx_getR 28 (k := 2) fo_X10_26 kl_0 (by decide) ti_10_2 (by decide) rfl dX10_lend_1 ?_
  refine rx_iload_n (i := 1) dX10_lend_4 rfl rfl ?_
  refine rx_iload_n (i := 2) dX10_lend_5 rfl rfl ?_
  refine rx_iload_n (i := 3) dX10_lend_6 rfl rfl ?_
  refine rx_cvI (ci := 8) mo_X8_canGive lk_X10_260 (c_X8_canGive it28 w) (by decide) rfl rfl (Nat.le_of_ble_eq_true rfl) kl_28 rfl dX10_lend_7 ?_
  refine rx_top (1) (if_pos ⟨⟨nI_pos' (by omega), by rw [hn]; exact nI_lt hi (by omega)⟩, ⟨nI_pos' (by omega), by rw [hn]; exact nI_lt hj (by omega)⟩, fun q => hij ((nI_eq (by omega) (by omega)).mp q), hz1, by rw [nI_clamp (by omega)]; exact hz2⟩) ?_
  refine rx_if_eq (tgt := 25) dX10_lend_10 (by decide) (fun c10 => absurd c10 (by decide)) (fun c10 => ?_)
  refine rx_aload_n (i := 0) dX10_lend_13 rfl rfl ?_
  refine rx_getR 28 (k := 2) fo_X10_26 kl_0 (by decide) ti_10_2 (by decide) rfl dX10_lend_14 ?_
  refine rx_getI (k := 17) fo_X10_268 kl_28 (by decide) ti_8_17 dX10_lend_17 ?_
  refine rx_top (nI c) (ec) ?_
  refine rx_bipush (6) dX10_lend_20 rfl ?_
  refine rx_icmp_lt (tgt := 27) dX10_lend_22 (by decide) (fun c22 => ?_) (fun c22 => ?_)
  · skip
    refine rx_aload_n (i := 0) dX10_lend_27 rfl rfl ?_
    refine rx_getR 28 (k := 2) fo_X10_26 kl_0 (by decide) ti_10_2 (by decide) rfl dX10_lend_28 ?_
    refine rx_iload_n (i := 1) dX10_lend_31 rfl rfl ?_
    refine rx_iload_n (i := 2) dX10_lend_32 rfl rfl ?_
    refine rx_iload_n (i := 3) dX10_lend_33 rfl rfl ?_
    refine rx_cvN (ci := 8) mo_X8_noteLent lk_X10_271 (c_X8_noteLent it28 hc ec) (by decide) rfl rfl (Nat.le_of_ble_eq_true rfl) kl_28 rfl dX10_lend_34 ?_
    refine rx_aload_n (i := 0) dX10_lend_37 rfl rfl ?_
    refine rx_getR 28 (k := 2) fo_X10_26 kl_0 (by decide) ti_10_2 (by decide) rfl dX10_lend_38 ?_
    refine rx_iload_n (i := 1) dX10_lend_41 rfl rfl ?_
    refine rx_iload_n (i := 2) dX10_lend_42 rfl rfl ?_
    refine rx_iload_n (i := 3) dX10_lend_43 rfl rfl ?_
    refine rx_cvN (ci := 8) mo_X8_shift lk_X10_264 (c_X8_shift it28 (by omega) (by omega)) (by decide) rfl rfl (Nat.le_of_ble_eq_true rfl) kl_28 rfl dX10_lend_44 ?_
    refine rx_aload_n (i := 0) dX10_lend_47 rfl rfl ?_
    refine rx_cvN (ci := 10) mo_X10_forgetPayments lk_X10_110 c_X10_forgetPayments (by decide) rfl rfl (Nat.le_of_ble_eq_true rfl) kl_0 rfl dX10_lend_48 ?_
    refine rx_aload_n (i := 0) dX10_lend_51 rfl rfl ?_
    refine rx_getR 28 (k := 2) fo_X10_26 kl_0 (by decide) ti_10_2 (by decide) rfl dX10_lend_52 ?_
    refine rx_getI (k := 17) fo_X10_268 kl_28 (by decide) ti_8_17 dX10_lend_55 ?_
    exact rx_fiI dX10_lend_58 ((sI_na (by omega)).trans ((shM_o (by omega)).trans sI_eq)) rfl
  · skip
    exact absurd (nI_lt (b := 6) hc (by omega)) c22
    skip
set_option maxRecDepth 100000 in
set_option maxHeartbeats 4000000 in
theorem c_X10_lend_no {M : Mem} {n m : Nat} (w : TW M 28 n m) {x y z : Int32} {c : Nat} (ec : M.1 28 17 = nI c) (hc : c ≤ 6) (h : ¬ ((0 ≤ x ∧ x < nI n) ∧ (0 ≤ y ∧ y < nI n) ∧ ¬ x = y ∧ 1 ≤ z ∧ z ≤ M.1 29 x.toNatClampNeg - M.1 32 x.toNatClampNeg) ∨ c = 6) : Fun yX10_lend cX10_lend 4 (some .int) 2 [.ref 0, .int x, .int y, .int z] M (some (.int (-1))) (M) := by
  refine Fun.of (own := RX10) ([some (.ref 0), some (.int x), some (.int y), some (.int z)]) rfl (by decide +kernel) (Nat.le_of_ble_eq_true rfl) rfl ?_
  have ⟨hn, hn8, hm, hm10, hd⟩ := w
  refine rx_aload_n (i := 0) dX10_lend_0 rfl rfl ?_
  refine rx_getR 28 (k := 2) fo_X10_26 kl_0 (by decide) ti_10_2 (by decide) rfl dX10_lend_1 ?_
  refine rx_iload_n (i := 1) dX10_lend_4 rfl rfl ?_
  refine rx_iload_n (i := 2) dX10_lend_5 rfl rfl ?_
  refine rx_iload_n (i := 3) dX10_lend_6 rfl rfl ?_
  refine rx_cvI (ci := 8) mo_X8_canGive lk_X10_260 (c_X8_canGive it28 w) (by decide) rfl rfl (Nat.le_of_ble_eq_true rfl) kl_28 rfl dX10_lend_7 ?_
  rw [hn]
  refine rx_if_eq (tgt := 25) dX10_lend_10 (by decide) (fun c10 => ?_) (fun c10 => ?_)
  · skip
    refine rx_iconst (-1) dX10_lend_25 rfl ?_
    exact rx_fiI dX10_lend_26 rfl rfl
  · skip
    have e10 := ite1n c10
    refine rx_aload_n (i := 0) dX10_lend_13 rfl rfl ?_
    refine rx_getR 28 (k := 2) fo_X10_26 kl_0 (by decide) ti_10_2 (by decide) rfl dX10_lend_14 ?_
    refine rx_getI (k := 17) fo_X10_268 kl_28 (by decide) ti_8_17 dX10_lend_17 ?_
    refine rx_top (nI c) (ec) ?_
    refine rx_bipush (6) dX10_lend_20 rfl ?_
    refine rx_icmp_lt (tgt := 27) dX10_lend_22 (by decide) (fun c22 => ?_) (fun c22 => ?_)
    · skip
      have hc6 := h.resolve_left (fun q => q e10)
      subst hc6
      exact absurd c22 (by decide)
      skip
    · skip
      refine rx_iconst (-1) dX10_lend_25 rfl ?_
      exact rx_fiI dX10_lend_26 rfl rfl
set_option maxRecDepth 100000 in
set_option maxHeartbeats 4000000 in
theorem c_X10_back {M : Mem} {n m : Nat} (w : TW M 28 n m) {a b c : Nat} {z : Int32} (ha : a < n) (hb : b < n) (hab : a ≠ b) (ec : M.1 28 17 = nI (c + 1)) (hc : c < 6) (e0 : M.1 42 (3 * c) = nI a) (e1 : M.1 42 (3 * c + 1) = nI b) (e2 : M.1 42 (3 * c + 2) = z) (hz1 : 1 ≤ z) (hz : z ≤ M.1 29 b - M.1 32 b) : Fun yX10_back cX10_back 1 (some .int) 3 [.ref 0] M (some (.int (nI c))) (setI (gbM M 28 a b (c + 1) z) 0 14 0) := by
  refine Fun.of (own := RX10) ([some (.ref 0)]) rfl (by decide +kernel) (Nat.le_of_ble_eq_true rfl) rfl ?_
  have ⟨hn, hn8, hm, hm10, hd⟩ := w
  refine rx_aload_n (i := 0) dX10_back_0 rfl rfl ?_
  refine rx_getR 28 (k := 2) fo_X10_26 kl_0 (by decide) ti_10_2 (by decide) rfl dX10_back_1 ?_
  refine rx_getI (k := 17) fo_X10_268 kl_28 (by decide) ti_8_17 dX10_back_4 ?_
  refine rx_top (nI (c + 1)) (ec) ?_
  refine rx_iconst (1) dX10_back_7 rfl ?_
  refine rx_icmp_ge (tgt := 13) dX10_back_8 (by decide) (fun c8 => ?_) (fun c8 => ?_)
  · skip
    refine rx_aload_n (i := 0) dX10_back_13 rfl rfl ?_
    refine rx_getR 28 (k := 2) fo_X10_26 kl_0 (by decide) ti_10_2 (by decide) rfl dX10_back_14 ?_
    refine rx_cvI (ci := 8) mo_X8_giveLastBack lk_X10_274 (c_X8_giveLastBack it28 w ha hb hab (c := c + 1) (by omega) (by omega) ec (by rw [show 3 * (c + 1) - 3 = 3 * c by omega]; exact e0) (by rw [show 3 * (c + 1) - 2 = 3 * c + 1 by omega]; exact e1) (by rw [show 3 * (c + 1) - 1 = 3 * c + 2 by omega]; exact e2) hz1 hz) (by decide) rfl rfl (Nat.le_of_ble_eq_true rfl) kl_28 rfl dX10_back_17 ?_
    refine rx_if_ne (tgt := 26) dX10_back_20 (by decide) (fun c20 => ?_) (fun c20 => absurd c20 (by decide))
    refine rx_aload_n (i := 0) dX10_back_26 rfl rfl ?_
    refine rx_cvN (ci := 10) mo_X10_forgetPayments lk_X10_110 c_X10_forgetPayments (by decide) rfl rfl (Nat.le_of_ble_eq_true rfl) kl_0 rfl dX10_back_27 ?_
    refine rx_aload_n (i := 0) dX10_back_30 rfl rfl ?_
    refine rx_getR 28 (k := 2) fo_X10_26 kl_0 (by decide) ti_10_2 (by decide) rfl dX10_back_31 ?_
    refine rx_getI (k := 17) fo_X10_268 kl_28 (by decide) ti_8_17 dX10_back_34 ?_
    exact rx_fiI dX10_back_37 ((sI_na (by omega)).trans sI_eq) rfl
  · skip
    exact absurd (nI_le (a := 1) (b := c + 1) (by omega) (by omega)) c8
    skip
set_option maxRecDepth 100000 in
set_option maxHeartbeats 4000000 in
theorem c_X10_back_2 {M : Mem} {n m : Nat} (w : TW M 28 n m) {a b c : Nat} {z : Int32} (ha : a < n) (hb : b < n) (hab : a ≠ b) (ec : M.1 28 17 = nI (c + 1)) (hc : c < 6) (e0 : M.1 42 (3 * c) = nI a) (e1 : M.1 42 (3 * c + 1) = nI b) (e2 : M.1 42 (3 * c + 2) = z) (hz : ¬ z ≤ M.1 29 b - M.1 32 b) : Fun yX10_back cX10_back 1 (some .int) 3 [.ref 0] M (some (.int (-2))) (M) := by
  refine Fun.of (own := RX10) ([some (.ref 0)]) rfl (by decide +kernel) (Nat.le_of_ble_eq_true rfl) rfl ?_
  have ⟨hn, hn8, hm, hm10, hd⟩ := w
  refine rx_aload_n (i := 0) dX10_back_0 rfl rfl ?_
  refine rx_getR 28 (k := 2) fo_X10_26 kl_0 (by decide) ti_10_2 (by decide) rfl dX10_back_1 ?_
  refine rx_getI (k := 17) fo_X10_268 kl_28 (by decide) ti_8_17 dX10_back_4 ?_
  refine rx_top (nI (c + 1)) (ec) ?_
  refine rx_iconst (1) dX10_back_7 rfl ?_
  refine rx_icmp_ge (tgt := 13) dX10_back_8 (by decide) (fun c8 => ?_) (fun c8 => ?_)
  · skip
    refine rx_aload_n (i := 0) dX10_back_13 rfl rfl ?_
    refine rx_getR 28 (k := 2) fo_X10_26 kl_0 (by decide) ti_10_2 (by decide) rfl dX10_back_14 ?_
    refine rx_cvI (ci := 8) mo_X8_giveLastBack lk_X10_274 (c_X8_giveLastBack_2 it28 w ha hb hab (c := c + 1) (by omega) (by omega) ec (by rw [show 3 * (c + 1) - 3 = 3 * c by omega]; exact e0) (by rw [show 3 * (c + 1) - 2 = 3 * c + 1 by omega]; exact e1) (by rw [show 3 * (c + 1) - 1 = 3 * c + 2 by omega]; exact e2) hz) (by decide) rfl rfl (Nat.le_of_ble_eq_true rfl) kl_28 rfl dX10_back_17 ?_
    refine rx_if_ne (tgt := 26) dX10_back_20 (by decide) (fun c20 => absurd c20 (by decide)) (fun c20 => ?_)
    refine rx_bipush (-2) dX10_back_23 rfl ?_
    exact rx_fiI dX10_back_25 rfl rfl
  · skip
    exact absurd (nI_le (a := 1) (b := c + 1) (by omega) (by omega)) c8
    skip
set_option maxRecDepth 100000 in
set_option maxHeartbeats 4000000 in
theorem c_X10_back_no {M : Mem} (ec : M.1 28 17 = 0) : Fun yX10_back cX10_back 1 (some .int) 3 [.ref 0] M (some (.int (-1))) (M) := by
  refine Fun.of (own := RX10) ([some (.ref 0)]) rfl (by decide +kernel) (Nat.le_of_ble_eq_true rfl) rfl ?_
  refine rx_aload_n (i := 0) dX10_back_0 rfl rfl ?_
  refine rx_getR 28 (k := 2) fo_X10_26 kl_0 (by decide) ti_10_2 (by decide) rfl dX10_back_1 ?_
  refine rx_getI (k := 17) fo_X10_268 kl_28 (by decide) ti_8_17 dX10_back_4 ?_
  refine rx_top (0) (ec) ?_
  refine rx_iconst (1) dX10_back_7 rfl ?_
  refine rx_icmp_ge (tgt := 13) dX10_back_8 (by decide) (fun c8 => ?_) (fun c8 => ?_)
  · skip
    exact absurd c8 (by decide)
    skip
  · skip
    refine rx_iconst (-1) dX10_back_11 rfl ?_
    exact rx_fiI dX10_back_12 rfl rfl
