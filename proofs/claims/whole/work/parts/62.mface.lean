def t0 (M : Mem) : Mem := setI M 140 21 0
theorem t0_mv {M : Mem} : mv (t0 M) = mv M := mv_I (by omega)
theorem t0_o {M : Mem} {a j : Nat} (h : ¬ (a = 140 ∧ j = 21)) : (t0 M).1 a j = M.1 a j := sI_ne h
theorem MW.t0 {M : Mem} {n m : Nat} (w : MW M n m) : MW (t0 M) n m := w.keep (t0_o (by omega)) (t0_o (by omega)) (fun _ _ => t0_o (by omega)) (fun _ _ => t0_o (by omega))
/-- the byte of v that is stored k from the last -/
def byt (v : Int32) (k : Nat) : Int32 := vp_nar .byte ((v >>> (nI (8 * k) &&& 31)).toInt8.toInt32)
def s4X (M : Mem) (L : Nat) (v : Int32) : Mem :=
  setI (setI (setI (setI (setI (setI (setI (setI (t0 M) 140 18 (nI (L + 1))) 154 L (byt v 3)) 140 18 (nI (L + 2))) 154 (L + 1) (byt v 2)) 140 18 (nI (L + 3))) 154 (L + 2) (byt v 1)) 140 18 (nI (L + 4))) 154 (L + 3) (byt v 0)
set_option maxRecDepth 100000 in
set_option maxHeartbeats 4000000 in
theorem c_X11_sign {M : Mem} {L : Nat} (hL : M.1 140 18 = nI L) (h : L + 4 ≤ 80) {v : Int32} : Fun yX11_sign cX11_sign 3 (some .int) 0 [.ref 140, .int v] M (some (.int (nI (L + 4)))) (s4X M L v) := by
  refine Fun.of (own := RX11) ([some (.ref 140), some (.int v), none]) rfl (by decide +kernel) (Nat.le_of_ble_eq_true rfl) rfl ?_
  refine rx_aload_n (i := 0) dX11_sign_0 rfl rfl ?_
  refine rx_iconst (0) dX11_sign_1 rfl ?_
  refine rx_putI (k := 21) fo_X11_126 fn_11_21 kl_140 (by decide) ty_11_21 dX11_sign_2 ?_
  refine rx_aload_n (i := 0) dX11_sign_5 rfl rfl ?_
  refine rx_getI (k := 18) fo_X11_146 kl_140 (by decide) ti_11_18 dX11_sign_6 ?_
  refine rx_top (nI L) ((t0_o (by omega)).trans hL) ?_
  refine rx_iconst (4) dX11_sign_9 rfl ?_
  refine rx_iadd dX11_sign_10 ?_
  refine rx_top (nI (L + 4)) (by rw [show (4 : Int32) = nI 4 from rfl, nI_add]) ?_
  refine rx_bipush (80) dX11_sign_11 rfl ?_
  refine rx_icmp_le (tgt := 18) dX11_sign_13 (by decide) (fun c13 => ?_) (fun c13 => ?_)
  · skip
    have f13 := Int32.not_lt.mpr c13
    refine rx_iconst (3) dX11_sign_18 rfl ?_
    refine rx_istore_n (i := 2) dX11_sign_19 rfl (by decide) rfl rfl ?_
    refine rx_iload_n (i := 2) dX11_sign_20 rfl rfl ?_
    refine rx_if_lt (tgt := 53) dX11_sign_21 (by decide) (fun c21 => absurd c21 (by decide)) (fun c21 => ?_)
    refine rx_aload_n (i := 0) dX11_sign_24 rfl rfl ?_
    refine rx_getR 154 (k := 17) fo_X11_54 kl_140 (by decide) ti_11_17 (by decide) rfl dX11_sign_25 ?_
    refine rx_aload_n (i := 0) dX11_sign_28 rfl rfl ?_
    refine rx_dup dX11_sign_29 rfl ?_
    refine rx_getI (k := 18) fo_X11_146 kl_140 (by decide) ti_11_18 dX11_sign_30 ?_
    refine rx_top (nI L) ((t0_o (by omega)).trans hL) ?_
    refine rx_dup_x1 dX11_sign_33 rfl rfl ?_
    refine rx_iconst (1) dX11_sign_34 rfl ?_
    refine rx_iadd dX11_sign_35 ?_
    rw [nI_1]
    refine rx_putI (k := 18) fo_X11_146 fn_11_18 kl_140 (by decide) ty_11_18 dX11_sign_36 ?_
    refine rx_iload_n (i := 1) dX11_sign_39 rfl rfl ?_
    refine rx_bipush (8) dX11_sign_40 rfl ?_
    refine rx_iload_n (i := 2) dX11_sign_42 rfl rfl ?_
    refine rx_imul dX11_sign_43 ?_
    refine rx_ishr dX11_sign_44 ?_
    refine rx_i2b dX11_sign_45 rfl ?_
    refine rx_bastN kl_154 (by omega) (by first | decide | omega) dX11_sign_46 ?_
    refine rx_iinc (i := 2) dX11_sign_47 rfl rfl (by decide) rfl rfl ?_
    refine rx_goto (tgt := 20) dX11_sign_50 (by decide) ?_
    refine rx_iload_n (i := 2) dX11_sign_20 rfl rfl ?_
    refine rx_if_lt (tgt := 53) dX11_sign_21 (by decide) (fun c21 => absurd c21 (by decide)) (fun c21 => ?_)
    refine rx_aload_n (i := 0) dX11_sign_24 rfl rfl ?_
    refine rx_getR 154 (k := 17) fo_X11_54 kl_140 (by decide) ti_11_17 (by decide) rfl dX11_sign_25 ?_
    refine rx_aload_n (i := 0) dX11_sign_28 rfl rfl ?_
    refine rx_dup dX11_sign_29 rfl ?_
    refine rx_getI (k := 18) fo_X11_146 kl_140 (by decide) ti_11_18 dX11_sign_30 ?_
    refine rx_top (nI (L + 1)) ((sI_na (by omega)).trans sI_eq) ?_
    refine rx_dup_x1 dX11_sign_33 rfl rfl ?_
    refine rx_iconst (1) dX11_sign_34 rfl ?_
    refine rx_iadd dX11_sign_35 ?_
    rw [nI_1]
    refine rx_putI (k := 18) fo_X11_146 fn_11_18 kl_140 (by decide) ty_11_18 dX11_sign_36 ?_
    refine rx_iload_n (i := 1) dX11_sign_39 rfl rfl ?_
    refine rx_bipush (8) dX11_sign_40 rfl ?_
    refine rx_iload_n (i := 2) dX11_sign_42 rfl rfl ?_
    refine rx_imul dX11_sign_43 ?_
    refine rx_ishr dX11_sign_44 ?_
    refine rx_i2b dX11_sign_45 rfl ?_
    refine rx_bastN kl_154 (by omega) (by first | decide | omega) dX11_sign_46 ?_
    refine rx_iinc (i := 2) dX11_sign_47 rfl rfl (by decide) rfl rfl ?_
    refine rx_goto (tgt := 20) dX11_sign_50 (by decide) ?_
    refine rx_iload_n (i := 2) dX11_sign_20 rfl rfl ?_
    refine rx_if_lt (tgt := 53) dX11_sign_21 (by decide) (fun c21 => absurd c21 (by decide)) (fun c21 => ?_)
    refine rx_aload_n (i := 0) dX11_sign_24 rfl rfl ?_
    refine rx_getR 154 (k := 17) fo_X11_54 kl_140 (by decide) ti_11_17 (by decide) rfl dX11_sign_25 ?_
    refine rx_aload_n (i := 0) dX11_sign_28 rfl rfl ?_
    refine rx_dup dX11_sign_29 rfl ?_
    refine rx_getI (k := 18) fo_X11_146 kl_140 (by decide) ti_11_18 dX11_sign_30 ?_
    refine rx_top (nI (L + 2)) ((sI_na (by omega)).trans sI_eq) ?_
    refine rx_dup_x1 dX11_sign_33 rfl rfl ?_
    refine rx_iconst (1) dX11_sign_34 rfl ?_
    refine rx_iadd dX11_sign_35 ?_
    rw [nI_1]
    refine rx_putI (k := 18) fo_X11_146 fn_11_18 kl_140 (by decide) ty_11_18 dX11_sign_36 ?_
    refine rx_iload_n (i := 1) dX11_sign_39 rfl rfl ?_
    refine rx_bipush (8) dX11_sign_40 rfl ?_
    refine rx_iload_n (i := 2) dX11_sign_42 rfl rfl ?_
    refine rx_imul dX11_sign_43 ?_
    refine rx_ishr dX11_sign_44 ?_
    refine rx_i2b dX11_sign_45 rfl ?_
    refine rx_bastN kl_154 (by omega) (by first | decide | omega) dX11_sign_46 ?_
    refine rx_iinc (i := 2) dX11_sign_47 rfl rfl (by decide) rfl rfl ?_
    refine rx_goto (tgt := 20) dX11_sign_50 (by decide) ?_
    refine rx_iload_n (i := 2) dX11_sign_20 rfl rfl ?_
    refine rx_if_lt (tgt := 53) dX11_sign_21 (by decide) (fun c21 => absurd c21 (by decide)) (fun c21 => ?_)
    refine rx_aload_n (i := 0) dX11_sign_24 rfl rfl ?_
    refine rx_getR 154 (k := 17) fo_X11_54 kl_140 (by decide) ti_11_17 (by decide) rfl dX11_sign_25 ?_
    refine rx_aload_n (i := 0) dX11_sign_28 rfl rfl ?_
    refine rx_dup dX11_sign_29 rfl ?_
    refine rx_getI (k := 18) fo_X11_146 kl_140 (by decide) ti_11_18 dX11_sign_30 ?_
    refine rx_top (nI (L + 3)) ((sI_na (by omega)).trans sI_eq) ?_
    refine rx_dup_x1 dX11_sign_33 rfl rfl ?_
    refine rx_iconst (1) dX11_sign_34 rfl ?_
    refine rx_iadd dX11_sign_35 ?_
    rw [nI_1]
    refine rx_putI (k := 18) fo_X11_146 fn_11_18 kl_140 (by decide) ty_11_18 dX11_sign_36 ?_
    refine rx_iload_n (i := 1) dX11_sign_39 rfl rfl ?_
    refine rx_bipush (8) dX11_sign_40 rfl ?_
    refine rx_iload_n (i := 2) dX11_sign_42 rfl rfl ?_
    refine rx_imul dX11_sign_43 ?_
    refine rx_ishr dX11_sign_44 ?_
    refine rx_i2b dX11_sign_45 rfl ?_
    refine rx_bastN kl_154 (by omega) (by first | decide | omega) dX11_sign_46 ?_
    refine rx_iinc (i := 2) dX11_sign_47 rfl rfl (by decide) rfl rfl ?_
    refine rx_goto (tgt := 20) dX11_sign_50 (by decide) ?_
    refine rx_iload_n (i := 2) dX11_sign_20 rfl rfl ?_
    refine rx_if_lt (tgt := 53) dX11_sign_21 (by decide) (fun c21 => ?_) (fun c21 => absurd c21 (by decide))
    refine rx_aload_n (i := 0) dX11_sign_53 rfl rfl ?_
    refine rx_getI (k := 18) fo_X11_146 kl_140 (by decide) ti_11_18 dX11_sign_54 ?_
    refine rx_top (nI (L + 4)) ((sI_na (by omega)).trans sI_eq) ?_
    exact rx_fiI dX11_sign_57 rfl rfl
  · skip
    have f13 := Int32.not_le.mp c13
    exact absurd (nI_le (show L + 4 ≤ 80 by omega) (by omega)) c13
    skip
set_option maxRecDepth 100000 in
set_option maxHeartbeats 4000000 in
theorem c_X11_sign_no {M : Mem} {L : Nat} (hL : M.1 140 18 = nI L) (h : ¬ L + 4 ≤ 80) (hl : L ≤ 80) {v : Int32} : Fun yX11_sign cX11_sign 3 (some .int) 0 [.ref 140, .int v] M (some (.int (-1))) (t0 M) := by
  refine Fun.of (own := RX11) ([some (.ref 140), some (.int v), none]) rfl (by decide +kernel) (Nat.le_of_ble_eq_true rfl) rfl ?_
  refine rx_aload_n (i := 0) dX11_sign_0 rfl rfl ?_
  refine rx_iconst (0) dX11_sign_1 rfl ?_
  refine rx_putI (k := 21) fo_X11_126 fn_11_21 kl_140 (by decide) ty_11_21 dX11_sign_2 ?_
  refine rx_aload_n (i := 0) dX11_sign_5 rfl rfl ?_
  refine rx_getI (k := 18) fo_X11_146 kl_140 (by decide) ti_11_18 dX11_sign_6 ?_
  refine rx_top (nI L) ((t0_o (by omega)).trans hL) ?_
  refine rx_iconst (4) dX11_sign_9 rfl ?_
  refine rx_iadd dX11_sign_10 ?_
  refine rx_top (nI (L + 4)) (by rw [show (4 : Int32) = nI 4 from rfl, nI_add]) ?_
  refine rx_bipush (80) dX11_sign_11 rfl ?_
  refine rx_icmp_le (tgt := 18) dX11_sign_13 (by decide) (fun c13 => ?_) (fun c13 => ?_)
  · skip
    have f13 := Int32.not_lt.mpr c13
    exact absurd ((nI_leI (b := 80) (by omega) (by omega)).mp c13) h
    skip
  · skip
    have f13 := Int32.not_le.mp c13
    refine rx_iconst (-1) dX11_sign_16 rfl ?_
    exact rx_fiI dX11_sign_17 rfl rfl
set_option maxRecDepth 100000 in
set_option maxHeartbeats 4000000 in
theorem c_X11_end {M : Mem} {x : Int32} : Fun yX11_end cX11_end 2 (some .boolean) 1 [.ref 140, .int x] M (some (.int (if 0 ≤ x ∧ x ≤ M.1 140 18 then 1 else 0))) (if 0 ≤ x ∧ x ≤ M.1 140 18 then setI (t0 M) 140 18 x else t0 M) := by
  refine Fun.of (own := RX11) ([some (.ref 140), some (.int x)]) rfl (by decide +kernel) (Nat.le_of_ble_eq_true rfl) rfl ?_
  refine rx_aload_n (i := 0) dX11_end_0 rfl rfl ?_
  refine rx_iconst (0) dX11_end_1 rfl ?_
  refine rx_putI (k := 21) fo_X11_126 fn_11_21 kl_140 (by decide) ty_11_21 dX11_end_2 ?_
  refine rx_iload_n (i := 1) dX11_end_5 rfl rfl ?_
  refine rx_i2l dX11_end_6 rfl ?_
  refine rx_lconst (0) dX11_end_7 rfl ?_
  refine rx_aload_n (i := 0) dX11_end_8 rfl rfl ?_
  refine rx_getI (k := 18) fo_X11_146 kl_140 (by decide) ti_11_18 dX11_end_9 ?_
  refine rx_top (M.1 140 18) (t0_o (by omega)) ?_
  refine rx_i2l dX11_end_12 rfl ?_
  refine rx_csI mo_X11_in lk_X11_135 (c_X11_in (a := x.toInt64) (b := 0) (c := (M.1 140 18).toInt64)) (by decide) rfl rfl (Nat.le_of_ble_eq_true rfl) dX11_end_13 ?_
  refine rx_top (if 0 ≤ x ∧ x ≤ M.1 140 18 then 1 else 0) (by simp only [l_0, Int32.toInt64_le]) ?_
  refine rx_if_ne (tgt := 21) dX11_end_16 (by decide) (fun c16 => ?_) (fun c16 => ?_)
  · skip
    have e16 : 0 ≤ x ∧ x ≤ M.1 140 18 := ite1n c16
    refine rx_aload_n (i := 0) dX11_end_21 rfl rfl ?_
    refine rx_iload_n (i := 1) dX11_end_22 rfl rfl ?_
    refine rx_putI (k := 18) fo_X11_146 fn_11_18 kl_140 (by decide) ty_11_18 dX11_end_23 ?_
    refine rx_iconst (1) dX11_end_26 rfl ?_
    exact rx_fiZ dX11_end_27 (Or.inr rfl) (if_pos e16).symm (if_pos e16).symm
  · skip
    have e16 : ¬ (0 ≤ x ∧ x ≤ M.1 140 18) := ite1 c16
    refine rx_iconst (0) dX11_end_19 rfl ?_
    exact rx_fiZ dX11_end_20 (Or.inl rfl) (if_neg e16).symm (if_neg e16).symm
/-- what of() tells of one -/
def ofT (T : TT) (n m i : Nat) (x : Int32) : Int32 :=
  if x = 0 then T 0 i else if x = 1 then T 1 i else if x = 2 then T 2 i else if x = 3 then T 3 i else if x = 4 then onT T i else if x = 5 then fsum (fun k => if T 10 k = 0 ∧ T 6 k = nI i then T 8 k else 0) m
  else if x = 6 then fsum (fun k => if T 10 k = 0 ∧ T 7 k = nI i then T 8 k else 0) m else if x = 7 then fsum (fun j => T 12 (8 * i + j)) n else fsum (fun j => T 12 (8 * j + i)) n
theorem one_i {n i : Nat} (hi : i < n) (hn : n < 2 ^ 31) : (if 0 ≤ nI i ∧ nI i < nI n then (1 : Int32) else 0) = 1 := if_pos ⟨nI_pos' (by omega), nI_lt hi hn⟩
theorem l_8 {x : Int32} : x.toInt64 ≤ (8 : Int64) ↔ x ≤ 8 := by rw [show (8 : Int64) = (8 : Int32).toInt64 from rfl]; exact Int32.toInt64_le
theorem l_5 {x : Int32} : x.toInt64 ≤ (5 : Int64) ↔ x ≤ 5 := by rw [show (5 : Int64) = (5 : Int32).toInt64 from rfl]; exact Int32.toInt64_le
theorem l_3 {x : Int32} : x.toInt64 ≤ (3 : Int64) ↔ x ≤ 3 := by rw [show (3 : Int64) = (3 : Int32).toInt64 from rfl]; exact Int32.toInt64_le
theorem l_1 {x : Int32} : x.toInt64 ≤ (1 : Int64) ↔ x ≤ 1 := by rw [show (1 : Int64) = (1 : Int32).toInt64 from rfl]; exact Int32.toInt64_le
theorem l_1b {x : Int32} : (1 : Int64) ≤ x.toInt64 ↔ 1 ≤ x := by rw [show (1 : Int64) = (1 : Int32).toInt64 from rfl]; exact Int32.toInt64_le
theorem l_99 {x : Int32} : x.toInt64 ≤ (99 : Int64) ↔ x ≤ 99 := by rw [show (99 : Int64) = (99 : Int32).toInt64 from rfl]; exact Int32.toInt64_le
theorem l_10 {x : Int32} : x.toInt64 ≤ (10 : Int64) ↔ x ≤ 10 := by rw [show (10 : Int64) = (10 : Int32).toInt64 from rfl]; exact Int32.toInt64_le
theorem l_60 {x : Int32} : x.toInt64 ≤ (60 : Int64) ↔ x ≤ 60 := by rw [show (60 : Int64) = (60 : Int32).toInt64 from rfl]; exact Int32.toInt64_le
theorem l_4 {x : Int32} : x.toInt64 ≤ (4 : Int64) ↔ x ≤ 4 := by rw [show (4 : Int64) = (4 : Int32).toInt64 from rfl]; exact Int32.toInt64_le
set_option maxRecDepth 100000 in
set_option maxHeartbeats 4000000 in
theorem c_X11_of {M : Mem} {n m : Nat} (w : MW M n m) {i : Nat} (hi : i < n) (h01 : M.1 143 i = 0 ∨ M.1 143 i = 1) {x : Int32} (hx : 0 ≤ x ∧ x ≤ 8) : Fun yX11_of cX11_of 3 (some .int) 2 [.ref 140, .int (nI i), .int x] M (some (.int (ofT (mv M) n m i x))) (t0 M) := by
  refine Fun.of (own := RX11) ([some (.ref 140), some (.int (nI i)), some (.int x)]) rfl (by decide +kernel) (Nat.le_of_ble_eq_true rfl) rfl ?_
  have w0 := w.t0
  have ⟨hn, hn8, hm, hm10, hd⟩ := w
  refine rx_aload_n (i := 0) dX11_of_0 rfl rfl ?_
  refine rx_iconst (0) dX11_of_1 rfl ?_
  refine rx_putI (k := 21) fo_X11_126 fn_11_21 kl_140 (by decide) ty_11_21 dX11_of_2 ?_
  refine rx_aload_n (i := 0) dX11_of_5 rfl rfl ?_
  refine rx_iload_n (i := 1) dX11_of_6 rfl rfl ?_
  refine rx_cvI (ci := 11) mo_X11_isOne lk_X11_244 (c_X11_isOne w0.1 (by omega)) (by decide) rfl rfl (Nat.le_of_ble_eq_true rfl) kl_140 rfl dX11_of_7 ?_
  refine rx_top (1) (one_i hi (by omega)) ?_
  refine rx_if_eq (tgt := 25) dX11_of_10 (by decide) (fun c10 => absurd c10 (by decide)) (fun c10 => ?_)
  refine rx_iload_n (i := 2) dX11_of_13 rfl rfl ?_
  refine rx_i2l dX11_of_14 rfl ?_
  refine rx_lconst (0) dX11_of_15 rfl ?_
  refine rx_ldc2 (own := RX11) (v := (8)) (List.mem_of_getElem? (i := 1678) (by decide +kernel)) dX11_of_16 ?_
  refine rx_csI mo_X11_in lk_X11_135 (c_X11_in (a := x.toInt64) (b := 0) (c := 8)) (by decide) rfl rfl (Nat.le_of_ble_eq_true rfl) dX11_of_19 ?_
  refine rx_top (1) (if_pos ⟨l_0.mpr hx.1, l_8.mpr hx.2⟩) ?_
  refine rx_if_ne (tgt := 30) dX11_of_22 (by decide) (fun c22 => ?_) (fun c22 => absurd c22 (by decide))
  refine rx_iload_n (i := 2) dX11_of_30 rfl rfl ?_
  by_cases s0 : x = 0
  · subst s0
    refine rx_tableIn (off := 45) (tgt := 76) dX11_of_31 (by decide) (by decide) rfl (by decide) ?_
    refine rx_aload_n (i := 0) dX11_of_76 rfl rfl ?_
    refine rx_getR 141 (k := 1) fo_X11_9 kl_140 (by decide) ti_11_1 (by decide) rfl dX11_of_77 ?_
    refine rx_iload_n (i := 1) dX11_of_80 rfl rfl ?_
    refine rx_ialdN kl_141 (by omega) (by first | decide | omega) dX11_of_81 ?_
    exact rx_fiI dX11_of_82 rfl rfl
  by_cases s1 : x = 1
  · subst s1
    refine rx_tableIn (off := 52) (tgt := 83) dX11_of_31 (by decide) (by decide) rfl (by decide) ?_
    refine rx_aload_n (i := 0) dX11_of_83 rfl rfl ?_
    refine rx_getR 142 (k := 2) fo_X11_13 kl_140 (by decide) ti_11_2 (by decide) rfl dX11_of_84 ?_
    refine rx_iload_n (i := 1) dX11_of_87 rfl rfl ?_
    refine rx_ialdN kl_142 (by omega) (by first | decide | omega) dX11_of_88 ?_
    exact rx_fiI dX11_of_89 rfl rfl
  by_cases s2 : x = 2
  · subst s2
    refine rx_tableIn (off := 59) (tgt := 90) dX11_of_31 (by decide) (by decide) rfl (by decide) ?_
    refine rx_aload_n (i := 0) dX11_of_90 rfl rfl ?_
    refine rx_getR 143 (k := 3) fo_X11_16 kl_140 (by decide) ti_11_3 (by decide) rfl dX11_of_91 ?_
    refine rx_iload_n (i := 1) dX11_of_94 rfl rfl ?_
    refine rx_zaldN kl_143 (by omega) (by first | decide | omega) dX11_of_95 ?_
    refine rx_if_eq (tgt := 103) dX11_of_96 (by decide) (fun c96 => ?_) (fun c96 => ?_)
    · skip
      have ek : mv M 2 i = 0 := c96
      refine rx_iconst (0) dX11_of_103 rfl ?_
      exact rx_fiI dX11_of_104 (show _ = mv M 2 i by rw [ek]) rfl
    · skip
      have ek : mv M 2 i = 1 := h01.resolve_left c96
      refine rx_iconst (1) dX11_of_99 rfl ?_
      refine rx_goto (tgt := 104) dX11_of_100 (by decide) ?_
      exact rx_fiI dX11_of_104 (show _ = mv M 2 i by rw [ek]) rfl
  by_cases s3 : x = 3
  · subst s3
    refine rx_tableIn (off := 74) (tgt := 105) dX11_of_31 (by decide) (by decide) rfl (by decide) ?_
    refine rx_aload_n (i := 0) dX11_of_105 rfl rfl ?_
    refine rx_getR 144 (k := 4) fo_X11_20 kl_140 (by decide) ti_11_4 (by decide) rfl dX11_of_106 ?_
    refine rx_iload_n (i := 1) dX11_of_109 rfl rfl ?_
    refine rx_ialdN kl_144 (by omega) (by first | decide | omega) dX11_of_110 ?_
    exact rx_fiI dX11_of_111 rfl rfl
  by_cases s4 : x = 4
  · subst s4
    refine rx_tableIn (off := 81) (tgt := 112) dX11_of_31 (by decide) (by decide) rfl (by decide) ?_
    refine rx_aload_n (i := 0) dX11_of_112 rfl rfl ?_
    refine rx_iload_n (i := 1) dX11_of_113 rfl rfl ?_
    refine rx_cvI (ci := 11) mo_X11_onList lk_X11_252 (c_X11_onList (by omega)) (by decide) rfl rfl (Nat.le_of_ble_eq_true rfl) kl_140 rfl dX11_of_114 ?_
    exact rx_fiI dX11_of_117 (by rw [t0_mv]; rfl) rfl
  by_cases s5 : x = 5
  · subst s5
    refine rx_tableIn (off := 87) (tgt := 118) dX11_of_31 (by decide) (by decide) rfl (by decide) ?_
    refine rx_aload_n (i := 0) dX11_of_118 rfl rfl ?_
    refine rx_iload_n (i := 1) dX11_of_119 rfl rfl ?_
    refine rx_cvI (ci := 11) mo_X11_openOf lk_X11_238 (c_X11_openOf w0) (by decide) rfl rfl (Nat.le_of_ble_eq_true rfl) kl_140 rfl dX11_of_120 ?_
    exact rx_fiI dX11_of_123 rfl rfl
  by_cases s6 : x = 6
  · subst s6
    refine rx_tableIn (off := 93) (tgt := 124) dX11_of_31 (by decide) (by decide) rfl (by decide) ?_
    refine rx_aload_n (i := 0) dX11_of_124 rfl rfl ?_
    refine rx_iload_n (i := 1) dX11_of_125 rfl rfl ?_
    refine rx_cvI (ci := 11) mo_X11_openTo lk_X11_255 (c_X11_openTo w0) (by decide) rfl rfl (Nat.le_of_ble_eq_true rfl) kl_140 rfl dX11_of_126 ?_
    exact rx_fiI dX11_of_129 rfl rfl
  by_cases s7 : x = 7
  · subst s7
    refine rx_tableIn (off := 99) (tgt := 130) dX11_of_31 (by decide) (by decide) rfl (by decide) ?_
    refine rx_aload_n (i := 0) dX11_of_130 rfl rfl ?_
    refine rx_iload_n (i := 1) dX11_of_131 rfl rfl ?_
    refine rx_cvI (ci := 11) mo_X11_favoursOwing lk_X11_258 (c_X11_favoursOwing w0 hi) (by decide) rfl rfl (Nat.le_of_ble_eq_true rfl) kl_140 rfl dX11_of_132 ?_
    exact rx_fiI dX11_of_135 rfl rfl
  have e8 : ofT (mv M) n m i x = fsum (fun j => mv M 12 (8 * j + i)) n := by unfold ofT; rw [if_neg s0, if_neg s1, if_neg s2, if_neg s3, if_neg s4, if_neg s5, if_neg s6, if_neg s7]
  refine rx_tableOut (tgt := 136) dX11_of_31 (by have q0 := lv_neT s0 (a := 0) rfl; have q1 := lv_neT s1 (a := 1) rfl; have q2 := lv_neT s2 (a := 2) rfl; have q3 := lv_neT s3 (a := 3) rfl; have q4 := lv_neT s4 (a := 4) rfl; have q5 := lv_neT s5 (a := 5) rfl; have q6 := lv_neT s6 (a := 6) rfl; have q7 := lv_neT s7 (a := 7) rfl; have := x.toInt; omega) (by decide) ?_
  refine rx_aload_n (i := 0) dX11_of_136 rfl rfl ?_
  refine rx_iload_n (i := 1) dX11_of_137 rfl rfl ?_
  refine rx_cvI (ci := 11) mo_X11_favoursOwed lk_X11_235 (c_X11_favoursOwed w0 hi) (by decide) rfl rfl (Nat.le_of_ble_eq_true rfl) kl_140 rfl dX11_of_138 ?_
  exact rx_fiI dX11_of_141 e8.symm rfl
set_option maxRecDepth 100000 in
set_option maxHeartbeats 4000000 in
theorem c_X11_of_no {M : Mem} {n m : Nat} (w : MW M n m) {y x : Int32} (hx : ¬ ((0 ≤ y ∧ y < nI n) ∧ 0 ≤ x ∧ x ≤ 8)) : Fun yX11_of cX11_of 3 (some .int) 2 [.ref 140, .int y, .int x] M (some (.int 0)) (setI (t0 M) 140 21 1) := by
  refine Fun.of (own := RX11) ([some (.ref 140), some (.int y), some (.int x)]) rfl (by decide +kernel) (Nat.le_of_ble_eq_true rfl) rfl ?_
  have w0 := w.t0
  have ⟨hn, hn8, hm, hm10, hd⟩ := w
  refine rx_aload_n (i := 0) dX11_of_0 rfl rfl ?_
  refine rx_iconst (0) dX11_of_1 rfl ?_
  refine rx_putI (k := 21) fo_X11_126 fn_11_21 kl_140 (by decide) ty_11_21 dX11_of_2 ?_
  refine rx_aload_n (i := 0) dX11_of_5 rfl rfl ?_
  refine rx_iload_n (i := 1) dX11_of_6 rfl rfl ?_
  refine rx_cvI (ci := 11) mo_X11_isOne lk_X11_244 (c_X11_isOne w0.1 (by omega)) (by decide) rfl rfl (Nat.le_of_ble_eq_true rfl) kl_140 rfl dX11_of_7 ?_
  refine rx_if_eq (tgt := 25) dX11_of_10 (by decide) (fun c10 => ?_) (fun c10 => ?_)
  · skip
    refine rx_aload_n (i := 0) dX11_of_25 rfl rfl ?_
    refine rx_cvI (ci := 11) mo_X11_lost lk_X11_249 c_X11_lost (by decide) rfl rfl (Nat.le_of_ble_eq_true rfl) kl_140 rfl dX11_of_26 ?_
    exact rx_fiI dX11_of_29 rfl rfl
  · skip
    have e10 : 0 ≤ y ∧ y < nI n := ite1n c10
    refine rx_iload_n (i := 2) dX11_of_13 rfl rfl ?_
    refine rx_i2l dX11_of_14 rfl ?_
    refine rx_lconst (0) dX11_of_15 rfl ?_
    refine rx_ldc2 (own := RX11) (v := (8)) (List.mem_of_getElem? (i := 1678) (by decide +kernel)) dX11_of_16 ?_
    refine rx_csI mo_X11_in lk_X11_135 (c_X11_in (a := x.toInt64) (b := 0) (c := 8)) (by decide) rfl rfl (Nat.le_of_ble_eq_true rfl) dX11_of_19 ?_
    refine rx_if_ne (tgt := 30) dX11_of_22 (by decide) (fun c22 => ?_) (fun c22 => ?_)
    · skip
      exact absurd ⟨e10, l_0.mp (ite1n c22).1, l_8.mp (ite1n c22).2⟩ hx
      skip
    · skip
      refine rx_aload_n (i := 0) dX11_of_25 rfl rfl ?_
      refine rx_cvI (ci := 11) mo_X11_lost lk_X11_249 c_X11_lost (by decide) rfl rfl (Nat.le_of_ble_eq_true rfl) kl_140 rfl dX11_of_26 ?_
      exact rx_fiI dX11_of_29 rfl rfl
def deT (T : TT) (k : Nat) (x : Int32) : Int32 := if x = 0 then T 6 k else if x = 1 then T 7 k else if x = 2 then T 8 k else if x = 3 then T 9 k else if x = 4 then T 10 k else T 11 k
set_option maxRecDepth 100000 in
set_option maxHeartbeats 4000000 in
theorem c_X11_debt {M : Mem} {n m : Nat} (w : MW M n m) {i : Nat} (hi : i < m) {x : Int32} (hx : 0 ≤ x ∧ x ≤ 5) : Fun yX11_debt cX11_debt 3 (some .int) 2 [.ref 140, .int (nI i), .int x] M (some (.int (deT (mv M) i x))) (t0 M) := by
  refine Fun.of (own := RX11) ([some (.ref 140), some (.int (nI i)), some (.int x)]) rfl (by decide +kernel) (Nat.le_of_ble_eq_true rfl) rfl ?_
  have w0 := w.t0
  have ⟨hn, hn8, hm, hm10, hd⟩ := w
  refine rx_aload_n (i := 0) dX11_debt_0 rfl rfl ?_
  refine rx_iconst (0) dX11_debt_1 rfl ?_
  refine rx_putI (k := 21) fo_X11_126 fn_11_21 kl_140 (by decide) ty_11_21 dX11_debt_2 ?_
  refine rx_aload_n (i := 0) dX11_debt_5 rfl rfl ?_
  refine rx_iload_n (i := 1) dX11_debt_6 rfl rfl ?_
  refine rx_cvI (ci := 11) mo_X11_isDebt lk_X11_142 (c_X11_isDebt w0.2.2.1 (by omega)) (by decide) rfl rfl (Nat.le_of_ble_eq_true rfl) kl_140 rfl dX11_debt_7 ?_
  refine rx_top (1) (one_i hi (by omega)) ?_
  refine rx_if_eq (tgt := 25) dX11_debt_10 (by decide) (fun c10 => absurd c10 (by decide)) (fun c10 => ?_)
  refine rx_iload_n (i := 2) dX11_debt_13 rfl rfl ?_
  refine rx_i2l dX11_debt_14 rfl ?_
  refine rx_lconst (0) dX11_debt_15 rfl ?_
  refine rx_ldc2 (own := RX11) (v := (5)) (List.mem_of_getElem? (i := 1703) (by decide +kernel)) dX11_debt_16 ?_
  refine rx_csI mo_X11_in lk_X11_135 (c_X11_in (a := x.toInt64) (b := 0) (c := 5)) (by decide) rfl rfl (Nat.le_of_ble_eq_true rfl) dX11_debt_19 ?_
  refine rx_top (1) (if_pos ⟨l_0.mpr hx.1, l_5.mpr hx.2⟩) ?_
  refine rx_if_ne (tgt := 30) dX11_debt_22 (by decide) (fun c22 => ?_) (fun c22 => absurd c22 (by decide))
  refine rx_iload_n (i := 2) dX11_debt_30 rfl rfl ?_
  by_cases s0 : x = 0
  · subst s0
    refine rx_tableIn (off := 33) (tgt := 64) dX11_debt_31 (by decide) (by decide) rfl (by decide) ?_
    refine rx_aload_n (i := 0) dX11_debt_64 rfl rfl ?_
    refine rx_getR 147 (k := 8) fo_X11_29 kl_140 (by decide) ti_11_8 (by decide) rfl dX11_debt_65 ?_
    refine rx_iload_n (i := 1) dX11_debt_68 rfl rfl ?_
    refine rx_ialdN kl_147 (by omega) (by first | decide | omega) dX11_debt_69 ?_
    exact rx_fiI dX11_debt_70 (by first | rfl | exact e5.symm) rfl
  by_cases s1 : x = 1
  · subst s1
    refine rx_tableIn (off := 40) (tgt := 71) dX11_debt_31 (by decide) (by decide) rfl (by decide) ?_
    refine rx_aload_n (i := 0) dX11_debt_71 rfl rfl ?_
    refine rx_getR 148 (k := 9) fo_X11_32 kl_140 (by decide) ti_11_9 (by decide) rfl dX11_debt_72 ?_
    refine rx_iload_n (i := 1) dX11_debt_75 rfl rfl ?_
    refine rx_ialdN kl_148 (by omega) (by first | decide | omega) dX11_debt_76 ?_
    exact rx_fiI dX11_debt_77 (by first | rfl | exact e5.symm) rfl
  by_cases s2 : x = 2
  · subst s2
    refine rx_tableIn (off := 47) (tgt := 78) dX11_debt_31 (by decide) (by decide) rfl (by decide) ?_
    refine rx_aload_n (i := 0) dX11_debt_78 rfl rfl ?_
    refine rx_getR 149 (k := 10) fo_X11_35 kl_140 (by decide) ti_11_10 (by decide) rfl dX11_debt_79 ?_
    refine rx_iload_n (i := 1) dX11_debt_82 rfl rfl ?_
    refine rx_ialdN kl_149 (by omega) (by first | decide | omega) dX11_debt_83 ?_
    exact rx_fiI dX11_debt_84 (by first | rfl | exact e5.symm) rfl
  by_cases s3 : x = 3
  · subst s3
    refine rx_tableIn (off := 54) (tgt := 85) dX11_debt_31 (by decide) (by decide) rfl (by decide) ?_
    refine rx_aload_n (i := 0) dX11_debt_85 rfl rfl ?_
    refine rx_getR 150 (k := 11) fo_X11_38 kl_140 (by decide) ti_11_11 (by decide) rfl dX11_debt_86 ?_
    refine rx_iload_n (i := 1) dX11_debt_89 rfl rfl ?_
    refine rx_ialdN kl_150 (by omega) (by first | decide | omega) dX11_debt_90 ?_
    exact rx_fiI dX11_debt_91 (by first | rfl | exact e5.symm) rfl
  by_cases s4 : x = 4
  · subst s4
    refine rx_tableIn (off := 61) (tgt := 92) dX11_debt_31 (by decide) (by decide) rfl (by decide) ?_
    refine rx_aload_n (i := 0) dX11_debt_92 rfl rfl ?_
    refine rx_getR 151 (k := 12) fo_X11_41 kl_140 (by decide) ti_11_12 (by decide) rfl dX11_debt_93 ?_
    refine rx_iload_n (i := 1) dX11_debt_96 rfl rfl ?_
    refine rx_ialdN kl_151 (by omega) (by first | decide | omega) dX11_debt_97 ?_
    exact rx_fiI dX11_debt_98 (by first | rfl | exact e5.symm) rfl
  have e5 : deT (mv M) i x = mv M 11 i := by unfold deT; rw [if_neg s0, if_neg s1, if_neg s2, if_neg s3, if_neg s4]
  refine rx_tableOut (tgt := 99) dX11_debt_31 (by have q0 := lv_neT s0 (a := 0) rfl; have q1 := lv_neT s1 (a := 1) rfl; have q2 := lv_neT s2 (a := 2) rfl; have q3 := lv_neT s3 (a := 3) rfl; have q4 := lv_neT s4 (a := 4) rfl; have := x.toInt; omega) (by decide) ?_
  refine rx_aload_n (i := 0) dX11_debt_99 rfl rfl ?_
  refine rx_getR 152 (k := 13) fo_X11_44 kl_140 (by decide) ti_11_13 (by decide) rfl dX11_debt_100 ?_
  refine rx_iload_n (i := 1) dX11_debt_103 rfl rfl ?_
  refine rx_ialdN kl_152 (by omega) (by first | decide | omega) dX11_debt_104 ?_
  exact rx_fiI dX11_debt_105 (by first | rfl | exact e5.symm) rfl
set_option maxRecDepth 100000 in
set_option maxHeartbeats 4000000 in
theorem c_X11_debt_no {M : Mem} {n m : Nat} (w : MW M n m) {y x : Int32} (hx : ¬ ((0 ≤ y ∧ y < nI m) ∧ 0 ≤ x ∧ x ≤ 5)) : Fun yX11_debt cX11_debt 3 (some .int) 2 [.ref 140, .int y, .int x] M (some (.int 0)) (setI (t0 M) 140 21 1) := by
  refine Fun.of (own := RX11) ([some (.ref 140), some (.int y), some (.int x)]) rfl (by decide +kernel) (Nat.le_of_ble_eq_true rfl) rfl ?_
  have w0 := w.t0
  have ⟨hn, hn8, hm, hm10, hd⟩ := w
  refine rx_aload_n (i := 0) dX11_debt_0 rfl rfl ?_
  refine rx_iconst (0) dX11_debt_1 rfl ?_
  refine rx_putI (k := 21) fo_X11_126 fn_11_21 kl_140 (by decide) ty_11_21 dX11_debt_2 ?_
  refine rx_aload_n (i := 0) dX11_debt_5 rfl rfl ?_
  refine rx_iload_n (i := 1) dX11_debt_6 rfl rfl ?_
  refine rx_cvI (ci := 11) mo_X11_isDebt lk_X11_142 (c_X11_isDebt w0.2.2.1 (by omega)) (by decide) rfl rfl (Nat.le_of_ble_eq_true rfl) kl_140 rfl dX11_debt_7 ?_
  refine rx_if_eq (tgt := 25) dX11_debt_10 (by decide) (fun c10 => ?_) (fun c10 => ?_)
  · skip
    refine rx_aload_n (i := 0) dX11_debt_25 rfl rfl ?_
    refine rx_cvI (ci := 11) mo_X11_lost lk_X11_249 c_X11_lost (by decide) rfl rfl (Nat.le_of_ble_eq_true rfl) kl_140 rfl dX11_debt_26 ?_
    exact rx_fiI dX11_debt_29 rfl rfl
  · skip
    have e10 : 0 ≤ y ∧ y < nI m := ite1n c10
    refine rx_iload_n (i := 2) dX11_debt_13 rfl rfl ?_
    refine rx_i2l dX11_debt_14 rfl ?_
    refine rx_lconst (0) dX11_debt_15 rfl ?_
    refine rx_ldc2 (own := RX11) (v := (5)) (List.mem_of_getElem? (i := 1703) (by decide +kernel)) dX11_debt_16 ?_
    refine rx_csI mo_X11_in lk_X11_135 (c_X11_in (a := x.toInt64) (b := 0) (c := 5)) (by decide) rfl rfl (Nat.le_of_ble_eq_true rfl) dX11_debt_19 ?_
    refine rx_if_ne (tgt := 30) dX11_debt_22 (by decide) (fun c22 => ?_) (fun c22 => ?_)
    · skip
      exact absurd ⟨e10, l_0.mp (ite1n c22).1, l_5.mp (ite1n c22).2⟩ hx
      skip
    · skip
      refine rx_aload_n (i := 0) dX11_debt_25 rfl rfl ?_
      refine rx_cvI (ci := 11) mo_X11_lost lk_X11_249 c_X11_lost (by decide) rfl rfl (Nat.le_of_ble_eq_true rfl) kl_140 rfl dX11_debt_26 ?_
      exact rx_fiI dX11_debt_29 rfl rfl
def lawG (x : Int32) : Int32 := if x = 0 then 3 else if x = 2 then 1 else 99
def lawOK (x v : Int32) : Prop := (0 ≤ x ∧ x ≤ 3) ∧ 0 ≤ v ∧ v ≤ lawG x
set_option maxRecDepth 100000 in
set_option maxHeartbeats 4000000 in
theorem c_X11_law_no {M : Mem} {x v : Int32} (h : ¬ lawOK x v) : Fun yX11_law cX11_law 4 (some .int) 1 [.ref 140, .int x, .int v] M (some (.int (-1))) (t0 M) := by
  refine Fun.of (own := RX11) ([some (.ref 140), some (.int x), some (.int v), none]) rfl (by decide +kernel) (Nat.le_of_ble_eq_true rfl) rfl ?_
  refine rx_aload_n (i := 0) dX11_law_0 rfl rfl ?_
  refine rx_iconst (0) dX11_law_1 rfl ?_
  refine rx_putI (k := 21) fo_X11_126 fn_11_21 kl_140 (by decide) ty_11_21 dX11_law_2 ?_
  refine rx_iload_n (i := 1) dX11_law_5 rfl rfl ?_
  refine rx_i2l dX11_law_6 rfl ?_
  refine rx_lconst (0) dX11_law_7 rfl ?_
  refine rx_ldc2 (own := RX11) (v := (3)) (List.mem_of_getElem? (i := 1708) (by decide +kernel)) dX11_law_8 ?_
  refine rx_csI mo_X11_in lk_X11_135 (c_X11_in (a := x.toInt64) (b := 0) (c := 3)) (by decide) rfl rfl (Nat.le_of_ble_eq_true rfl) dX11_law_11 ?_
  refine rx_if_eq (tgt := 48) dX11_law_14 (by decide) (fun c14 => ?_) (fun c14 => ?_)
  · skip
    refine rx_iconst (-1) dX11_law_48 rfl ?_
    exact rx_fiI dX11_law_49 rfl rfl
  · skip
    have e14 : 0 ≤ x ∧ x ≤ 3 := ⟨l_0.mp (ite1n c14).1, l_3.mp (ite1n c14).2⟩
    refine rx_iload_n (i := 2) dX11_law_17 rfl rfl ?_
    refine rx_i2l dX11_law_18 rfl ?_
    refine rx_lconst (0) dX11_law_19 rfl ?_
    refine rx_iload_n (i := 1) dX11_law_20 rfl rfl ?_
    refine rx_if_ne (tgt := 30) dX11_law_21 (by decide) (fun c21 => ?_) (fun c21 => ?_)
    · skip
      refine rx_iload_n (i := 1) dX11_law_30 rfl rfl ?_
      refine rx_iconst (2) dX11_law_31 rfl ?_
      refine rx_icmp_ne (tgt := 39) dX11_law_32 (by decide) (fun c32 => ?_) (fun c32 => ?_)
      · skip
        refine rx_ldc2 (own := RX11) (v := (99)) (List.mem_of_getElem? (i := 1709) (by decide +kernel)) dX11_law_39 ?_
        refine rx_csI mo_X11_in lk_X11_135 c_X11_in (by decide) rfl rfl (Nat.le_of_ble_eq_true rfl) dX11_law_42 ?_
        refine rx_if_ne (tgt := 50) dX11_law_45 (by decide) (fun c45 => ?_) (fun c45 => ?_)
        · skip
          exact absurd ⟨e14, l_0.mp (ite1n c45).1, by
            have q := (ite1n c45).2
            unfold lawG
            first
            | (rw [if_pos c21]; exact l_3.mp q)
            | (rw [if_neg c21, if_pos c32]; exact l_1.mp q)
            | (rw [if_neg c21, if_neg c32]; exact l_99.mp q)⟩ h
          skip
        · skip
          refine rx_iconst (-1) dX11_law_48 rfl ?_
          exact rx_fiI dX11_law_49 rfl rfl
      · skip
        refine rx_lconst (1) dX11_law_35 rfl ?_
        refine rx_goto (tgt := 42) dX11_law_36 (by decide) ?_
        refine rx_csI mo_X11_in lk_X11_135 c_X11_in (by decide) rfl rfl (Nat.le_of_ble_eq_true rfl) dX11_law_42 ?_
        refine rx_if_ne (tgt := 50) dX11_law_45 (by decide) (fun c45 => ?_) (fun c45 => ?_)
        · skip
          exact absurd ⟨e14, l_0.mp (ite1n c45).1, by
            have q := (ite1n c45).2
            unfold lawG
            first
            | (rw [if_pos c21]; exact l_3.mp q)
            | (rw [if_neg c21, if_pos c32]; exact l_1.mp q)
            | (rw [if_neg c21, if_neg c32]; exact l_99.mp q)⟩ h
          skip
        · skip
          refine rx_iconst (-1) dX11_law_48 rfl ?_
          exact rx_fiI dX11_law_49 rfl rfl
    · skip
      refine rx_ldc2 (own := RX11) (v := (3)) (List.mem_of_getElem? (i := 1708) (by decide +kernel)) dX11_law_24 ?_
      refine rx_goto (tgt := 42) dX11_law_27 (by decide) ?_
      refine rx_csI mo_X11_in lk_X11_135 c_X11_in (by decide) rfl rfl (Nat.le_of_ble_eq_true rfl) dX11_law_42 ?_
      refine rx_if_ne (tgt := 50) dX11_law_45 (by decide) (fun c45 => ?_) (fun c45 => ?_)
      · skip
        exact absurd ⟨e14, l_0.mp (ite1n c45).1, by
          have q := (ite1n c45).2
          unfold lawG
          first
          | (rw [if_pos c21]; exact l_3.mp q)
          | (rw [if_neg c21, if_pos c32]; exact l_1.mp q)
          | (rw [if_neg c21, if_neg c32]; exact l_99.mp q)⟩ h
        skip
      · skip
        refine rx_iconst (-1) dX11_law_48 rfl ?_
        exact rx_fiI dX11_law_49 rfl rfl
set_option maxRecDepth 100000 in
set_option maxHeartbeats 4000000 in
theorem c_X11_law {M : Mem} {j : Nat} (hj : j < 4) {v : Int32} (h : lawOK (nI j) v) : Fun yX11_law cX11_law 4 (some .int) 1 [.ref 140, .int (nI j), .int v] M (some (.int (M.1 153 j))) (setI (t0 M) 153 j v) := by
  refine Fun.of (own := RX11) ([some (.ref 140), some (.int (nI j)), some (.int v), none]) rfl (by decide +kernel) (Nat.le_of_ble_eq_true rfl) rfl ?_
  refine rx_aload_n (i := 0) dX11_law_0 rfl rfl ?_
  refine rx_iconst (0) dX11_law_1 rfl ?_
  refine rx_putI (k := 21) fo_X11_126 fn_11_21 kl_140 (by decide) ty_11_21 dX11_law_2 ?_
  refine rx_iload_n (i := 1) dX11_law_5 rfl rfl ?_
  refine rx_i2l dX11_law_6 rfl ?_
  refine rx_lconst (0) dX11_law_7 rfl ?_
  refine rx_ldc2 (own := RX11) (v := (3)) (List.mem_of_getElem? (i := 1708) (by decide +kernel)) dX11_law_8 ?_
  refine rx_csI mo_X11_in lk_X11_135 (c_X11_in (a := (nI j).toInt64) (b := 0) (c := 3)) (by decide) rfl rfl (Nat.le_of_ble_eq_true rfl) dX11_law_11 ?_
  refine rx_top (1) (if_pos ⟨l_0.mpr h.1.1, l_3.mpr h.1.2⟩) ?_
  refine rx_if_eq (tgt := 48) dX11_law_14 (by decide) (fun c14 => absurd c14 (by decide)) (fun c14 => ?_)
  refine rx_iload_n (i := 2) dX11_law_17 rfl rfl ?_
  refine rx_i2l dX11_law_18 rfl ?_
  refine rx_lconst (0) dX11_law_19 rfl ?_
  refine rx_iload_n (i := 1) dX11_law_20 rfl rfl ?_
  refine rx_if_ne (tgt := 30) dX11_law_21 (by decide) (fun c21 => ?_) (fun c21 => ?_)
  · skip
    refine rx_iload_n (i := 1) dX11_law_30 rfl rfl ?_
    refine rx_iconst (2) dX11_law_31 rfl ?_
    refine rx_icmp_ne (tgt := 39) dX11_law_32 (by decide) (fun c32 => ?_) (fun c32 => ?_)
    · skip
      refine rx_ldc2 (own := RX11) (v := (99)) (List.mem_of_getElem? (i := 1709) (by decide +kernel)) dX11_law_39 ?_
      refine rx_csI mo_X11_in lk_X11_135 c_X11_in (by decide) rfl rfl (Nat.le_of_ble_eq_true rfl) dX11_law_42 ?_
      refine rx_top 1 (if_pos ⟨l_0.mpr h.2.1, by
        have q := h.2.2
        unfold lawG at q
        first
        | (rw [if_pos c21] at q; exact l_3.mpr q)
        | (rw [if_neg c21, if_pos c32] at q; exact l_1.mpr q)
        | (rw [if_neg c21, if_neg c32] at q; exact l_99.mpr q)⟩) ?_
      refine rx_if_ne (tgt := 50) dX11_law_45 (by decide) (fun c45 => ?_) (fun c45 => absurd c45 (by decide))
      refine rx_aload_n (i := 0) dX11_law_50 rfl rfl ?_
      refine rx_getR 153 (k := 14) fo_X11_47 kl_140 (by decide) ti_11_14 (by decide) rfl dX11_law_51 ?_
      refine rx_iload_n (i := 1) dX11_law_54 rfl rfl ?_
      refine rx_ialdN kl_153 (by omega) (by first | decide | omega) dX11_law_55 ?_
      refine rx_istore_n (i := 3) dX11_law_56 rfl (by decide) rfl rfl ?_
      refine rx_aload_n (i := 0) dX11_law_57 rfl rfl ?_
      refine rx_getR 153 (k := 14) fo_X11_47 kl_140 (by decide) ti_11_14 (by decide) rfl dX11_law_58 ?_
      refine rx_iload_n (i := 1) dX11_law_61 rfl rfl ?_
      refine rx_iload_n (i := 2) dX11_law_62 rfl rfl ?_
      refine rx_iastN kl_153 (by omega) (by first | decide | omega) dX11_law_63 ?_
      refine rx_iload_n (i := 3) dX11_law_64 rfl rfl ?_
      exact rx_fiI dX11_law_65 rfl rfl
    · skip
      refine rx_lconst (1) dX11_law_35 rfl ?_
      refine rx_goto (tgt := 42) dX11_law_36 (by decide) ?_
      refine rx_csI mo_X11_in lk_X11_135 c_X11_in (by decide) rfl rfl (Nat.le_of_ble_eq_true rfl) dX11_law_42 ?_
      refine rx_top 1 (if_pos ⟨l_0.mpr h.2.1, by
        have q := h.2.2
        unfold lawG at q
        first
        | (rw [if_pos c21] at q; exact l_3.mpr q)
        | (rw [if_neg c21, if_pos c32] at q; exact l_1.mpr q)
        | (rw [if_neg c21, if_neg c32] at q; exact l_99.mpr q)⟩) ?_
      refine rx_if_ne (tgt := 50) dX11_law_45 (by decide) (fun c45 => ?_) (fun c45 => absurd c45 (by decide))
      refine rx_aload_n (i := 0) dX11_law_50 rfl rfl ?_
      refine rx_getR 153 (k := 14) fo_X11_47 kl_140 (by decide) ti_11_14 (by decide) rfl dX11_law_51 ?_
      refine rx_iload_n (i := 1) dX11_law_54 rfl rfl ?_
      refine rx_ialdN kl_153 (by omega) (by first | decide | omega) dX11_law_55 ?_
      refine rx_istore_n (i := 3) dX11_law_56 rfl (by decide) rfl rfl ?_
      refine rx_aload_n (i := 0) dX11_law_57 rfl rfl ?_
      refine rx_getR 153 (k := 14) fo_X11_47 kl_140 (by decide) ti_11_14 (by decide) rfl dX11_law_58 ?_
      refine rx_iload_n (i := 1) dX11_law_61 rfl rfl ?_
      refine rx_iload_n (i := 2) dX11_law_62 rfl rfl ?_
      refine rx_iastN kl_153 (by omega) (by first | decide | omega) dX11_law_63 ?_
      refine rx_iload_n (i := 3) dX11_law_64 rfl rfl ?_
      exact rx_fiI dX11_law_65 rfl rfl
  · skip
    refine rx_ldc2 (own := RX11) (v := (3)) (List.mem_of_getElem? (i := 1708) (by decide +kernel)) dX11_law_24 ?_
    refine rx_goto (tgt := 42) dX11_law_27 (by decide) ?_
    refine rx_csI mo_X11_in lk_X11_135 c_X11_in (by decide) rfl rfl (Nat.le_of_ble_eq_true rfl) dX11_law_42 ?_
    refine rx_top 1 (if_pos ⟨l_0.mpr h.2.1, by
      have q := h.2.2
      unfold lawG at q
      first
      | (rw [if_pos c21] at q; exact l_3.mpr q)
      | (rw [if_neg c21, if_pos c32] at q; exact l_1.mpr q)
      | (rw [if_neg c21, if_neg c32] at q; exact l_99.mpr q)⟩) ?_
    refine rx_if_ne (tgt := 50) dX11_law_45 (by decide) (fun c45 => ?_) (fun c45 => absurd c45 (by decide))
    refine rx_aload_n (i := 0) dX11_law_50 rfl rfl ?_
    refine rx_getR 153 (k := 14) fo_X11_47 kl_140 (by decide) ti_11_14 (by decide) rfl dX11_law_51 ?_
    refine rx_iload_n (i := 1) dX11_law_54 rfl rfl ?_
    refine rx_ialdN kl_153 (by omega) (by first | decide | omega) dX11_law_55 ?_
    refine rx_istore_n (i := 3) dX11_law_56 rfl (by decide) rfl rfl ?_
    refine rx_aload_n (i := 0) dX11_law_57 rfl rfl ?_
    refine rx_getR 153 (k := 14) fo_X11_47 kl_140 (by decide) ti_11_14 (by decide) rfl dX11_law_58 ?_
    refine rx_iload_n (i := 1) dX11_law_61 rfl rfl ?_
    refine rx_iload_n (i := 2) dX11_law_62 rfl rfl ?_
    refine rx_iastN kl_153 (by omega) (by first | decide | omega) dX11_law_63 ?_
    refine rx_iload_n (i := 3) dX11_law_64 rfl rfl ?_
    exact rx_fiI dX11_law_65 rfl rfl
set_option maxRecDepth 100000 in
set_option maxHeartbeats 4000000 in
theorem l_X11_noon {M : Mem} {n : Nat} (hn2 : M.1 140 0 = nI n) (hn8 : n ≤ 8) : ∀ (N : Nat) (i : Nat) (s : Int32), (i ≤ n) → (s = fsum (M.1 145) i) → n - i < N → Reach cX11_noon RX11 3 2 (FQ cX11_noon (some .int) (some (.int (fsum (M.1 145) n))) M) 18 [some (.ref 140), some (.int s), some (.int (nI i))] [] (M) := by
  intro N
  induction N with
  | zero => intro i s hi hs hm; exact absurd ‹_ < 0› (Nat.not_lt_zero _)
  | succ N ih =>
    intro i s hi hs hm
    refine rx_iload_n (i := 2) dX11_noon_18 rfl rfl ?_
    refine rx_aload_n (i := 0) dX11_noon_19 rfl rfl ?_
    refine rx_getI (k := 0) fo_X11_132 kl_140 (by decide) ti_11_0 dX11_noon_20 ?_
    refine rx_top (nI n) hn2 ?_
    refine rx_icmp_ge (tgt := 41) dX11_noon_23 (by decide) (fun c23 => ?_) (fun c23 => ?_)
    · skip
      have f23 := Int32.not_lt.mpr c23
      have e23 : i = n := by have := (nI_leI (by omega) (by omega)).mp c23; omega
      subst e23
      refine rx_iload_n (i := 1) dX11_noon_41 rfl rfl ?_
      exact rx_fiI dX11_noon_42 hs rfl
    · skip
      have f23 := Int32.not_le.mp c23
      have e23 : i < n := Nat.lt_of_not_le fun q => c23 (nI_le q (by omega))
      refine rx_iload_n (i := 1) dX11_noon_26 rfl rfl ?_
      refine rx_aload_n (i := 0) dX11_noon_27 rfl rfl ?_
      refine rx_getR 145 (k := 5) fo_X11_23 kl_140 (by decide) ti_11_5 (by decide) rfl dX11_noon_28 ?_
      refine rx_iload_n (i := 2) dX11_noon_31 rfl rfl ?_
      refine rx_ialdN kl_145 (by omega) (by first | decide | omega) dX11_noon_32 ?_
      refine rx_iadd dX11_noon_33 ?_
      refine rx_istore_n (i := 1) dX11_noon_34 rfl (by decide) rfl rfl ?_
      first | refine rx_iincN (i := 2) dX11_noon_35 rfl (by decide) rfl rfl ?_ | refine rx_iinc (i := 2) dX11_noon_35 rfl rfl (by decide) rfl rfl ?_
      refine rx_goto (tgt := 18) dX11_noon_38 (by decide) ?_
      exact ih (i + 1) _ (by omega) (by rw [hs]; rfl) (by omega)
def nnM (M : Mem) (n : Nat) : Mem := setI (tkM (t0 M) n) 140 32 0
theorem tk_145 {M : Mem} {n j : Nat} (h : j < n) : (tkM M n).1 145 j = M.1 141 j - M.1 144 j := if_pos ⟨rfl, h⟩
set_option maxRecDepth 100000 in
set_option maxHeartbeats 4000000 in
theorem c_X11_noon {M : Mem} {n m : Nat} (w : MW M n m) : Fun yX11_noon cX11_noon 3 (some .int) 2 [.ref 140] M (some (.int (fsum (fun j => M.1 141 j - M.1 144 j) n))) (nnM M n) := by
  refine Fun.of (own := RX11) ([some (.ref 140), none, none]) rfl (by decide +kernel) (Nat.le_of_ble_eq_true rfl) rfl ?_
  have w0 := w.t0
  have ⟨hn, hn8, hm, hm10, hd⟩ := w
  refine rx_aload_n (i := 0) dX11_noon_0 rfl rfl ?_
  refine rx_iconst (0) dX11_noon_1 rfl ?_
  refine rx_putI (k := 21) fo_X11_126 fn_11_21 kl_140 (by decide) ty_11_21 dX11_noon_2 ?_
  refine rx_aload_n (i := 0) dX11_noon_5 rfl rfl ?_
  refine rx_cvN (ci := 11) mo_X11_takeNoon lk_X11_275 (c_X11_takeNoon w0) (by decide) rfl rfl (Nat.le_of_ble_eq_true rfl) kl_140 rfl dX11_noon_6 ?_
  refine rx_aload_n (i := 0) dX11_noon_9 rfl rfl ?_
  refine rx_iconst (0) dX11_noon_10 rfl ?_
  refine rx_putI (k := 32) fo_X11_198 fn_11_32 kl_140 (by decide) ty_11_32 dX11_noon_11 ?_
  refine rx_iconst (0) dX11_noon_14 rfl ?_
  refine rx_istore_n (i := 1) dX11_noon_15 rfl (by decide) rfl rfl ?_
  refine rx_iconst (0) dX11_noon_16 rfl ?_
  refine rx_istore_n (i := 2) dX11_noon_17 rfl (by decide) rfl rfl ?_
  have e : fsum ((nnM M n).1 145) n = fsum (fun j => M.1 141 j - M.1 144 j) n := fsum_congr fun j hj => by rw [show (nnM M n).1 145 j = (tkM (t0 M) n).1 145 j from sI_na (by omega), tk_145 hj, t0_o (by omega), t0_o (by omega)]
  rw [← e]
  exact l_X11_noon (M := nnM M n) ((sI_ne (by omega)).trans ((tk_o (by omega)).trans ((t0_o (by omega)).trans hn))) hn8 (n + 1) 0 0 (Nat.zero_le _) rfl (by omega)
set_option maxRecDepth 100000 in
set_option maxHeartbeats 4000000 in
theorem c_X11_hide {M : Mem} {n m : Nat} (w : MW M n m) {i : Nat} (hi : i < n) {x : Int32} (hx : 0 ≤ x ∧ x ≤ M.1 141 i) : Fun yX11_hide cX11_hide 4 (some .int) 2 [.ref 140, .int (nI i), .int x] M (some (.int (M.1 144 i))) (setI (setI (t0 M) 144 i x) 140 32 0) := by
  refine Fun.of (own := RX11) ([some (.ref 140), some (.int (nI i)), some (.int x), none]) rfl (by decide +kernel) (Nat.le_of_ble_eq_true rfl) rfl ?_
  have w0 := w.t0
  have ⟨hn, hn8, hm, hm10, hd⟩ := w
  refine rx_aload_n (i := 0) dX11_hide_0 rfl rfl ?_
  refine rx_iconst (0) dX11_hide_1 rfl ?_
  refine rx_putI (k := 21) fo_X11_126 fn_11_21 kl_140 (by decide) ty_11_21 dX11_hide_2 ?_
  refine rx_aload_n (i := 0) dX11_hide_5 rfl rfl ?_
  refine rx_iload_n (i := 1) dX11_hide_6 rfl rfl ?_
  refine rx_cvI (ci := 11) mo_X11_isOne lk_X11_244 (c_X11_isOne w0.1 (by omega)) (by decide) rfl rfl (Nat.le_of_ble_eq_true rfl) kl_140 rfl dX11_hide_7 ?_
  refine rx_top (1) (one_i hi (by omega)) ?_
  refine rx_if_eq (tgt := 29) dX11_hide_10 (by decide) (fun c10 => absurd c10 (by decide)) (fun c10 => ?_)
  refine rx_iload_n (i := 2) dX11_hide_13 rfl rfl ?_
  refine rx_i2l dX11_hide_14 rfl ?_
  refine rx_lconst (0) dX11_hide_15 rfl ?_
  refine rx_aload_n (i := 0) dX11_hide_16 rfl rfl ?_
  refine rx_getR 141 (k := 1) fo_X11_9 kl_140 (by decide) ti_11_1 (by decide) rfl dX11_hide_17 ?_
  refine rx_iload_n (i := 1) dX11_hide_20 rfl rfl ?_
  refine rx_ialdN kl_141 (by omega) (by first | decide | omega) dX11_hide_21 ?_
  refine rx_top (M.1 141 i) (t0_o (by omega)) ?_
  refine rx_i2l dX11_hide_22 rfl ?_
  refine rx_csI mo_X11_in lk_X11_135 (c_X11_in (a := x.toInt64) (b := 0) (c := (M.1 141 i).toInt64)) (by decide) rfl rfl (Nat.le_of_ble_eq_true rfl) dX11_hide_23 ?_
  refine rx_top (1) (if_pos ⟨l_0.mpr hx.1, Int32.toInt64_le.mpr hx.2⟩) ?_
  refine rx_if_ne (tgt := 31) dX11_hide_26 (by decide) (fun c26 => ?_) (fun c26 => absurd c26 (by decide))
  refine rx_aload_n (i := 0) dX11_hide_31 rfl rfl ?_
  refine rx_getR 144 (k := 4) fo_X11_20 kl_140 (by decide) ti_11_4 (by decide) rfl dX11_hide_32 ?_
  refine rx_iload_n (i := 1) dX11_hide_35 rfl rfl ?_
  refine rx_ialdN kl_144 (by omega) (by first | decide | omega) dX11_hide_36 ?_
  refine rx_istore_n (i := 3) dX11_hide_37 rfl (by decide) rfl rfl ?_
  refine rx_aload_n (i := 0) dX11_hide_38 rfl rfl ?_
  refine rx_getR 144 (k := 4) fo_X11_20 kl_140 (by decide) ti_11_4 (by decide) rfl dX11_hide_39 ?_
  refine rx_iload_n (i := 1) dX11_hide_42 rfl rfl ?_
  refine rx_iload_n (i := 2) dX11_hide_43 rfl rfl ?_
  refine rx_iastN kl_144 (by omega) (by first | decide | omega) dX11_hide_44 ?_
  refine rx_aload_n (i := 0) dX11_hide_45 rfl rfl ?_
  refine rx_iconst (0) dX11_hide_46 rfl ?_
  refine rx_putI (k := 32) fo_X11_198 fn_11_32 kl_140 (by decide) ty_11_32 dX11_hide_47 ?_
  refine rx_iload_n (i := 3) dX11_hide_50 rfl rfl ?_
  exact rx_fiI dX11_hide_51 rfl rfl
set_option maxRecDepth 100000 in
set_option maxHeartbeats 4000000 in
theorem c_X11_hide_no {M : Mem} {n m : Nat} (w : MW M n m) {y x : Int32} (hx : ¬ ((0 ≤ y ∧ y < nI n) ∧ 0 ≤ x ∧ x ≤ M.1 141 y.toNatClampNeg)) : Fun yX11_hide cX11_hide 4 (some .int) 2 [.ref 140, .int y, .int x] M (some (.int (-1))) (t0 M) := by
  refine Fun.of (own := RX11) ([some (.ref 140), some (.int y), some (.int x), none]) rfl (by decide +kernel) (Nat.le_of_ble_eq_true rfl) rfl ?_
  have w0 := w.t0
  have ⟨hn, hn8, hm, hm10, hd⟩ := w
  refine rx_aload_n (i := 0) dX11_hide_0 rfl rfl ?_
  refine rx_iconst (0) dX11_hide_1 rfl ?_
  refine rx_putI (k := 21) fo_X11_126 fn_11_21 kl_140 (by decide) ty_11_21 dX11_hide_2 ?_
  refine rx_aload_n (i := 0) dX11_hide_5 rfl rfl ?_
  refine rx_iload_n (i := 1) dX11_hide_6 rfl rfl ?_
  refine rx_cvI (ci := 11) mo_X11_isOne lk_X11_244 (c_X11_isOne w0.1 (by omega)) (by decide) rfl rfl (Nat.le_of_ble_eq_true rfl) kl_140 rfl dX11_hide_7 ?_
  refine rx_if_eq (tgt := 29) dX11_hide_10 (by decide) (fun c10 => ?_) (fun c10 => ?_)
  · skip
    refine rx_iconst (-1) dX11_hide_29 rfl ?_
    exact rx_fiI dX11_hide_30 rfl rfl
  · skip
    have e10 : 0 ≤ y ∧ y < nI n := ite1n c10
    obtain ⟨i, hi31, rfl⟩ := nI_of (Int32.not_lt.mpr e10.1)
    have hi : i < n := (nI_ltI hi31 (by omega)).mp e10.2
    rw [nI_clamp hi31] at hx
    refine rx_iload_n (i := 2) dX11_hide_13 rfl rfl ?_
    refine rx_i2l dX11_hide_14 rfl ?_
    refine rx_lconst (0) dX11_hide_15 rfl ?_
    refine rx_aload_n (i := 0) dX11_hide_16 rfl rfl ?_
    refine rx_getR 141 (k := 1) fo_X11_9 kl_140 (by decide) ti_11_1 (by decide) rfl dX11_hide_17 ?_
    refine rx_iload_n (i := 1) dX11_hide_20 rfl rfl ?_
    refine rx_ialdN kl_141 (by omega) (by first | decide | omega) dX11_hide_21 ?_
    refine rx_top (M.1 141 i) (t0_o (by omega)) ?_
    refine rx_i2l dX11_hide_22 rfl ?_
    refine rx_csI mo_X11_in lk_X11_135 c_X11_in (by decide) rfl rfl (Nat.le_of_ble_eq_true rfl) dX11_hide_23 ?_
    refine rx_if_ne (tgt := 31) dX11_hide_26 (by decide) (fun c26 => ?_) (fun c26 => ?_)
    · skip
      exact absurd ⟨e10, l_0.mp (ite1n c26).1, Int32.toInt64_le.mp (ite1n c26).2⟩ hx
      skip
    · skip
      refine rx_iconst (-1) dX11_hide_29 rfl ?_
      exact rx_fiI dX11_hide_30 rfl rfl
def srM (M : Mem) : Mem := setI (setI (t0 M) 140 16 (rnd (M.1 140 16))) 140 32 0
set_option maxRecDepth 100000 in
set_option maxHeartbeats 4000000 in
theorem c_X11_search {M : Mem} {n m : Nat} (w : MW M n m) {i : Nat} (hi : i < n) {x : Int32} (hx : 0 ≤ x ∧ x ≤ 10) : Fun yX11_search cX11_search 4 (some .int) 2 [.ref 140, .int (nI i), .int x] M (some (.int (if drw (M.1 140 16) < x then M.1 144 i else 0))) (if drw (M.1 140 16) < x then setI (setI (srM M) 141 i (M.1 141 i - M.1 144 i)) 144 i 0 else srM M) := by
  refine Fun.of (own := RX11) ([some (.ref 140), some (.int (nI i)), some (.int x), none]) rfl (by decide +kernel) (Nat.le_of_ble_eq_true rfl) rfl ?_
  have w0 := w.t0
  have ⟨hn, hn8, hm, hm10, hd⟩ := w
  refine rx_aload_n (i := 0) dX11_search_0 rfl rfl ?_
  refine rx_iconst (0) dX11_search_1 rfl ?_
  refine rx_putI (k := 21) fo_X11_126 fn_11_21 kl_140 (by decide) ty_11_21 dX11_search_2 ?_
  refine rx_aload_n (i := 0) dX11_search_5 rfl rfl ?_
  refine rx_iload_n (i := 1) dX11_search_6 rfl rfl ?_
  refine rx_cvI (ci := 11) mo_X11_isOne lk_X11_244 (c_X11_isOne w0.1 (by omega)) (by decide) rfl rfl (Nat.le_of_ble_eq_true rfl) kl_140 rfl dX11_search_7 ?_
  refine rx_top (1) (one_i hi (by omega)) ?_
  refine rx_if_eq (tgt := 25) dX11_search_10 (by decide) (fun c10 => absurd c10 (by decide)) (fun c10 => ?_)
  refine rx_iload_n (i := 2) dX11_search_13 rfl rfl ?_
  refine rx_i2l dX11_search_14 rfl ?_
  refine rx_lconst (0) dX11_search_15 rfl ?_
  refine rx_ldc2 (own := RX11) (v := (10)) (List.mem_of_getElem? (i := 1732) (by decide +kernel)) dX11_search_16 ?_
  refine rx_csI mo_X11_in lk_X11_135 (c_X11_in (a := x.toInt64) (b := 0) (c := 10)) (by decide) rfl rfl (Nat.le_of_ble_eq_true rfl) dX11_search_19 ?_
  refine rx_top (1) (if_pos ⟨l_0.mpr hx.1, l_10.mpr hx.2⟩) ?_
  refine rx_if_ne (tgt := 27) dX11_search_22 (by decide) (fun c22 => ?_) (fun c22 => absurd c22 (by decide))
  refine rx_aload_n (i := 0) dX11_search_27 rfl rfl ?_
  refine rx_aload_n (i := 0) dX11_search_28 rfl rfl ?_
  refine rx_getI (k := 16) fo_X11_50 kl_140 (by decide) ti_11_16 dX11_search_29 ?_
  refine rx_ldcw (own := RX11) (v := (1103515245)) (List.mem_of_getElem? (i := 1733) (by decide +kernel)) dX11_search_32 ?_
  refine rx_imul dX11_search_35 ?_
  refine rx_sipush (12345) dX11_search_36 rfl ?_
  refine rx_iadd dX11_search_39 ?_
  refine rx_top (rnd (M.1 140 16)) (rfl) ?_
  refine rx_putI (k := 16) fo_X11_50 fn_11_16 kl_140 (by decide) ty_11_16 dX11_search_40 ?_
  refine rx_aload_n (i := 0) dX11_search_43 rfl rfl ?_
  refine rx_iconst (0) dX11_search_44 rfl ?_
  refine rx_putI (k := 32) fo_X11_198 fn_11_32 kl_140 (by decide) ty_11_32 dX11_search_45 ?_
  refine rx_aload_n (i := 0) dX11_search_48 rfl rfl ?_
  refine rx_getI (k := 16) fo_X11_50 kl_140 (by decide) ti_11_16 dX11_search_49 ?_
  refine rx_top (rnd (M.1 140 16)) ((sI_ne (by omega)).trans sI_eq) ?_
  refine rx_bipush (16) dX11_search_52 rfl ?_
  refine rx_iushr dX11_search_54 rfl ?_
  refine rx_bipush (10) dX11_search_55 rfl ?_
  refine rx_irem dX11_search_57 (by decide) ?_
  refine rx_top (drw (M.1 140 16)) (rfl) ?_
  refine rx_iload_n (i := 2) dX11_search_58 rfl rfl ?_
  refine rx_icmp_lt (tgt := 64) dX11_search_59 (by decide) (fun c59 => ?_) (fun c59 => ?_)
  · skip
    have e59 : drw (M.1 140 16) < x := c59
    refine rx_aload_n (i := 0) dX11_search_64 rfl rfl ?_
    refine rx_getR 144 (k := 4) fo_X11_20 kl_140 (by decide) ti_11_4 (by decide) rfl dX11_search_65 ?_
    refine rx_iload_n (i := 1) dX11_search_68 rfl rfl ?_
    refine rx_ialdN kl_144 (by omega) (by first | decide | omega) dX11_search_69 ?_
    refine rx_top (M.1 144 i) (rfl) ?_
    refine rx_istore_n (i := 3) dX11_search_70 rfl (by decide) rfl rfl ?_
    refine rx_aload_n (i := 0) dX11_search_71 rfl rfl ?_
    refine rx_getR 141 (k := 1) fo_X11_9 kl_140 (by decide) ti_11_1 (by decide) rfl dX11_search_72 ?_
    refine rx_iload_n (i := 1) dX11_search_75 rfl rfl ?_
    refine rx_dup2_11 dX11_search_76 rfl rfl ?_
    refine rx_ialdN kl_141 (by omega) (by first | decide | omega) dX11_search_77 ?_
    refine rx_top (M.1 141 i) (rfl) ?_
    refine rx_iload_n (i := 3) dX11_search_78 rfl rfl ?_
    refine rx_isub dX11_search_79 ?_
    refine rx_iastN kl_141 (by omega) (by first | decide | omega) dX11_search_80 ?_
    refine rx_aload_n (i := 0) dX11_search_81 rfl rfl ?_
    refine rx_getR 144 (k := 4) fo_X11_20 kl_140 (by decide) ti_11_4 (by decide) rfl dX11_search_82 ?_
    refine rx_iload_n (i := 1) dX11_search_85 rfl rfl ?_
    refine rx_iconst (0) dX11_search_86 rfl ?_
    refine rx_iastN kl_144 (by omega) (by first | decide | omega) dX11_search_87 ?_
    refine rx_iload_n (i := 3) dX11_search_88 rfl rfl ?_
    exact rx_fiI dX11_search_89 (if_pos e59).symm (if_pos e59).symm
  · skip
    have e59 : ¬ drw (M.1 140 16) < x := c59
    refine rx_iconst (0) dX11_search_62 rfl ?_
    exact rx_fiI dX11_search_63 (if_neg e59).symm (if_neg e59).symm
set_option maxRecDepth 100000 in
set_option maxHeartbeats 4000000 in
theorem c_X11_search_no {M : Mem} {n m : Nat} (w : MW M n m) {y x : Int32} (hx : ¬ ((0 ≤ y ∧ y < nI n) ∧ 0 ≤ x ∧ x ≤ 10)) : Fun yX11_search cX11_search 4 (some .int) 2 [.ref 140, .int y, .int x] M (some (.int (-1))) (t0 M) := by
  refine Fun.of (own := RX11) ([some (.ref 140), some (.int y), some (.int x), none]) rfl (by decide +kernel) (Nat.le_of_ble_eq_true rfl) rfl ?_
  have w0 := w.t0
  have ⟨hn, hn8, hm, hm10, hd⟩ := w
  refine rx_aload_n (i := 0) dX11_search_0 rfl rfl ?_
  refine rx_iconst (0) dX11_search_1 rfl ?_
  refine rx_putI (k := 21) fo_X11_126 fn_11_21 kl_140 (by decide) ty_11_21 dX11_search_2 ?_
  refine rx_aload_n (i := 0) dX11_search_5 rfl rfl ?_
  refine rx_iload_n (i := 1) dX11_search_6 rfl rfl ?_
  refine rx_cvI (ci := 11) mo_X11_isOne lk_X11_244 (c_X11_isOne w0.1 (by omega)) (by decide) rfl rfl (Nat.le_of_ble_eq_true rfl) kl_140 rfl dX11_search_7 ?_
  refine rx_if_eq (tgt := 25) dX11_search_10 (by decide) (fun c10 => ?_) (fun c10 => ?_)
  · skip
    refine rx_iconst (-1) dX11_search_25 rfl ?_
    exact rx_fiI dX11_search_26 rfl rfl
  · skip
    have e10 : 0 ≤ y ∧ y < nI n := ite1n c10
    refine rx_iload_n (i := 2) dX11_search_13 rfl rfl ?_
    refine rx_i2l dX11_search_14 rfl ?_
    refine rx_lconst (0) dX11_search_15 rfl ?_
    refine rx_ldc2 (own := RX11) (v := (10)) (List.mem_of_getElem? (i := 1732) (by decide +kernel)) dX11_search_16 ?_
    refine rx_csI mo_X11_in lk_X11_135 (c_X11_in (a := x.toInt64) (b := 0) (c := 10)) (by decide) rfl rfl (Nat.le_of_ble_eq_true rfl) dX11_search_19 ?_
    refine rx_if_ne (tgt := 27) dX11_search_22 (by decide) (fun c22 => ?_) (fun c22 => ?_)
    · skip
      exact absurd ⟨e10, l_0.mp (ite1n c22).1, l_10.mp (ite1n c22).2⟩ hx
      skip
    · skip
      refine rx_iconst (-1) dX11_search_25 rfl ?_
      exact rx_fiI dX11_search_26 rfl rfl
set_option maxRecDepth 100000 in
set_option maxHeartbeats 4000000 in
theorem l_X11_below {M : Mem} {n m : Nat} (w : MW M n m) (hs : sortOK (M.1 153 0)) {i : Nat} (hii : i < n) : ∀ (N : Nat) (o : Nat) (s : Int32), (o ≤ n) → (s = fbor (fun o => !(decide (o = i)) && blw (mv M 14 0) (mv M 14 1) n (onT (mv M)) i o) o) → n - o < N → Reach cX11_below RX11 4 3 (FQ cX11_below (some .int) (some (.int (fbor (fun o => !(decide (o = i)) && blw (mv M 14 0) (mv M 14 1) n (onT (mv M)) i o) n))) M) 19 [some (.ref 140), some (.int (nI i)), some (.int s), some (.int (nI o))] [] (M) := by
  intro N
  induction N with
  | zero => intro o s hi hs2 hm; exact absurd ‹_ < 0› (Nat.not_lt_zero _)
  | succ N ih =>
    intro o s hi hs2 hm
    have hn8 := w.2.1
    refine rx_iload_n (i := 3) dX11_below_19 rfl rfl ?_
    refine rx_aload_n (i := 0) dX11_below_20 rfl rfl ?_
    refine rx_getI (k := 0) fo_X11_132 kl_140 (by decide) ti_11_0 dX11_below_21 ?_
    refine rx_top (nI n) w.1 ?_
    refine rx_icmp_ge (tgt := 57) dX11_below_24 (by decide) (fun c24 => ?_) (fun c24 => ?_)
    · skip
      have f24 := Int32.not_lt.mpr c24
      have e24 : o = n := by have := (nI_leI (by omega) (by omega)).mp c24; omega
      subst e24
      refine rx_iload_n (i := 2) dX11_below_57 rfl rfl ?_
      exact rx_fiI dX11_below_58 hs2 rfl
    · skip
      have f24 := Int32.not_le.mp c24
      have e24 : o < n := Nat.lt_of_not_le fun q => c24 (nI_le q (by omega))
      refine rx_iload_n (i := 2) dX11_below_27 rfl rfl ?_
      refine rx_iload_n (i := 3) dX11_below_28 rfl rfl ?_
      refine rx_iload_n (i := 1) dX11_below_29 rfl rfl ?_
      refine rx_icmp_eq (tgt := 48) dX11_below_30 (by decide) (fun c30 => ?_) (fun c30 => ?_)
      · skip
        have e30 : o = i := (nI_eq (by omega) (by omega)).mp c30
        refine rx_iconst (0) dX11_below_48 rfl ?_
        refine rx_ior dX11_below_49 ?_
        refine rx_istore_n (i := 2) dX11_below_50 rfl (by decide) rfl rfl ?_
        first | refine rx_iincN (i := 3) dX11_below_51 rfl (by decide) rfl rfl ?_ | refine rx_iinc (i := 3) dX11_below_51 rfl rfl (by decide) rfl rfl ?_
        refine rx_goto (tgt := 19) dX11_below_54 (by decide) ?_
        exact ih (o + 1) _ (by omega) (by rw [hs2]; simp only [fbor]; rw [if_neg (by rw [decide_eq_true e30]; simp), or_0]) (by omega)
      · skip
        have e30 : ¬ o = i := fun q => c30 (by rw [q])
        refine rx_aload_n (i := 0) dX11_below_33 rfl rfl ?_
        refine rx_iload_n (i := 3) dX11_below_34 rfl rfl ?_
        refine rx_iload_n (i := 1) dX11_below_35 rfl rfl ?_
        refine rx_cvI (ci := 11) mo_X11_isBelow lk_X11_281 (c_X11_isBelow w (by omega) hii hs) (by decide) rfl rfl (Nat.le_of_ble_eq_true rfl) kl_140 rfl dX11_below_36 ?_
        refine rx_if_eq (tgt := 48) dX11_below_39 (by decide) (fun c39 => ?_) (fun c39 => ?_)
        · skip
          have e39 : blw (mv M 14 0) (mv M 14 1) n (onT (mv M)) i o = false := zI_0.mp c39
          refine rx_iconst (0) dX11_below_48 rfl ?_
          refine rx_ior dX11_below_49 ?_
          refine rx_istore_n (i := 2) dX11_below_50 rfl (by decide) rfl rfl ?_
          first | refine rx_iincN (i := 3) dX11_below_51 rfl (by decide) rfl rfl ?_ | refine rx_iinc (i := 3) dX11_below_51 rfl rfl (by decide) rfl rfl ?_
          refine rx_goto (tgt := 19) dX11_below_54 (by decide) ?_
          exact ih (o + 1) _ (by omega) (by rw [hs2]; simp only [fbor]; rw [if_neg (by rw [e39, Bool.and_false]; decide), or_0]) (by omega)
        · skip
          have e39 : blw (mv M 14 0) (mv M 14 1) n (onT (mv M)) i o = true := zI_n c39
          refine rx_iconst (1) dX11_below_42 rfl ?_
          refine rx_iload_n (i := 3) dX11_below_43 rfl rfl ?_
          refine rx_ishl dX11_below_44 ?_
          refine rx_goto (tgt := 49) dX11_below_45 (by decide) ?_
          refine rx_ior dX11_below_49 ?_
          refine rx_istore_n (i := 2) dX11_below_50 rfl (by decide) rfl rfl ?_
          first | refine rx_iincN (i := 3) dX11_below_51 rfl (by decide) rfl rfl ?_ | refine rx_iinc (i := 3) dX11_below_51 rfl rfl (by decide) rfl rfl ?_
          refine rx_goto (tgt := 19) dX11_below_54 (by decide) ?_
          exact ih (o + 1) _ (by omega) (by rw [hs2]; simp only [fbor]; rw [if_pos (by rw [decide_eq_false e30, e39]; rfl)]; rfl) (by omega)
set_option maxRecDepth 100000 in
set_option maxHeartbeats 4000000 in
theorem c_X11_below {M : Mem} {n m : Nat} (w : MW M n m) (hs : sortOK (M.1 153 0)) {i : Nat} (hi : i < n) : Fun yX11_below cX11_below 4 (some .int) 3 [.ref 140, .int (nI i)] M (some (.int (fbor (fun o => !(decide (o = i)) && blw (mv M 14 0) (mv M 14 1) n (onT (mv M)) i o) n))) (t0 M) := by
  refine Fun.of (own := RX11) ([some (.ref 140), some (.int (nI i)), none, none]) rfl (by decide +kernel) (Nat.le_of_ble_eq_true rfl) rfl ?_
  have w0 := w.t0
  have ⟨hn, hn8, hm, hm10, hd⟩ := w
  refine rx_aload_n (i := 0) dX11_below_0 rfl rfl ?_
  refine rx_iconst (0) dX11_below_1 rfl ?_
  refine rx_putI (k := 21) fo_X11_126 fn_11_21 kl_140 (by decide) ty_11_21 dX11_below_2 ?_
  refine rx_aload_n (i := 0) dX11_below_5 rfl rfl ?_
  refine rx_iload_n (i := 1) dX11_below_6 rfl rfl ?_
  refine rx_cvI (ci := 11) mo_X11_isOne lk_X11_244 (c_X11_isOne w0.1 (by omega)) (by decide) rfl rfl (Nat.le_of_ble_eq_true rfl) kl_140 rfl dX11_below_7 ?_
  refine rx_top (1) (one_i hi (by omega)) ?_
  refine rx_if_ne (tgt := 15) dX11_below_10 (by decide) (fun c10 => ?_) (fun c10 => absurd c10 (by decide))
  refine rx_iconst (0) dX11_below_15 rfl ?_
  refine rx_istore_n (i := 2) dX11_below_16 rfl (by decide) rfl rfl ?_
  refine rx_iconst (0) dX11_below_17 rfl ?_
  refine rx_istore_n (i := 3) dX11_below_18 rfl (by decide) rfl rfl ?_
  have h := l_X11_below w0 (show sortOK ((t0 M).1 153 0) from hs) hi (n + 1) 0 0 (Nat.zero_le _) rfl (by omega)
  rw [t0_mv] at h
  exact h
set_option maxRecDepth 100000 in
set_option maxHeartbeats 4000000 in
theorem c_X11_below_no {M : Mem} {n m : Nat} (w : MW M n m) {y : Int32} (hx : ¬ (0 ≤ y ∧ y < nI n)) : Fun yX11_below cX11_below 4 (some .int) 3 [.ref 140, .int y] M (some (.int (-1))) (t0 M) := by
  refine Fun.of (own := RX11) ([some (.ref 140), some (.int y), none, none]) rfl (by decide +kernel) (Nat.le_of_ble_eq_true rfl) rfl ?_
  have w0 := w.t0
  have ⟨hn, hn8, hm, hm10, hd⟩ := w
  refine rx_aload_n (i := 0) dX11_below_0 rfl rfl ?_
  refine rx_iconst (0) dX11_below_1 rfl ?_
  refine rx_putI (k := 21) fo_X11_126 fn_11_21 kl_140 (by decide) ty_11_21 dX11_below_2 ?_
  refine rx_aload_n (i := 0) dX11_below_5 rfl rfl ?_
  refine rx_iload_n (i := 1) dX11_below_6 rfl rfl ?_
  refine rx_cvI (ci := 11) mo_X11_isOne lk_X11_244 (c_X11_isOne w0.1 (by omega)) (by decide) rfl rfl (Nat.le_of_ble_eq_true rfl) kl_140 rfl dX11_below_7 ?_
  refine rx_if_ne (tgt := 15) dX11_below_10 (by decide) (fun c10 => ?_) (fun c10 => ?_)
  · skip
    exact absurd (ite1n c10) hx
    skip
  · skip
    refine rx_iconst (-1) dX11_below_13 rfl ?_
    exact rx_fiI dX11_below_14 rfl rfl
set_option maxRecDepth 100000 in
set_option maxHeartbeats 4000000 in
theorem c_X11_favour {M : Mem} {n m : Nat} (w : MW M n m) {i j : Nat} (hi : i < n) (hj : j < n) (hij : i ≠ j) : Fun yX11_favour cX11_favour 3 (some .int) 2 [.ref 140, .int (nI i), .int (nI j)] M (some (.int (M.1 146 (8 * i + j)))) (t0 M) := by
  refine Fun.of (own := RX11) ([some (.ref 140), some (.int (nI i)), some (.int (nI j))]) rfl (by decide +kernel) (Nat.le_of_ble_eq_true rfl) rfl ?_
  have w0 := w.t0
  have ⟨hn, hn8, hm, hm10, hd⟩ := w
  refine rx_aload_n (i := 0) dX11_favour_0 rfl rfl ?_
  refine rx_iconst (0) dX11_favour_1 rfl ?_
  refine rx_putI (k := 21) fo_X11_126 fn_11_21 kl_140 (by decide) ty_11_21 dX11_favour_2 ?_
  refine rx_aload_n (i := 0) dX11_favour_5 rfl rfl ?_
  refine rx_iload_n (i := 1) dX11_favour_6 rfl rfl ?_
  refine rx_cvI (ci := 11) mo_X11_isOne lk_X11_244 (c_X11_isOne w0.1 (by omega)) (by decide) rfl rfl (Nat.le_of_ble_eq_true rfl) kl_140 rfl dX11_favour_7 ?_
  refine rx_top (1) (one_i hi (by omega)) ?_
  refine rx_if_eq (tgt := 40) dX11_favour_10 (by decide) (fun c10 => absurd c10 (by decide)) (fun c10 => ?_)
  refine rx_aload_n (i := 0) dX11_favour_13 rfl rfl ?_
  refine rx_iload_n (i := 2) dX11_favour_14 rfl rfl ?_
  refine rx_cvI (ci := 11) mo_X11_isOne lk_X11_244 (c_X11_isOne w0.1 (by omega)) (by decide) rfl rfl (Nat.le_of_ble_eq_true rfl) kl_140 rfl dX11_favour_15 ?_
  refine rx_top (1) (one_i hj (by omega)) ?_
  refine rx_if_eq (tgt := 40) dX11_favour_18 (by decide) (fun c18 => absurd c18 (by decide)) (fun c18 => ?_)
  refine rx_iload_n (i := 1) dX11_favour_21 rfl rfl ?_
  refine rx_iload_n (i := 2) dX11_favour_22 rfl rfl ?_
  refine rx_icmp_eq (tgt := 40) dX11_favour_23 (by decide) (fun c23 => ?_) (fun c23 => ?_)
  · skip
    exact absurd ((nI_eq (by omega) (by omega)).mp c23) hij
    skip
  · skip
    refine rx_aload_n (i := 0) dX11_favour_26 rfl rfl ?_
    refine rx_getR 146 (k := 6) fo_X11_26 kl_140 (by decide) ti_11_6 (by decide) rfl dX11_favour_27 ?_
    refine rx_bipush (8) dX11_favour_30 rfl ?_
    refine rx_iload_n (i := 1) dX11_favour_32 rfl rfl ?_
    refine rx_imul dX11_favour_33 ?_
    refine rx_iload_n (i := 2) dX11_favour_34 rfl rfl ?_
    refine rx_iadd dX11_favour_35 ?_
    refine rx_top (nI (8 * i + j)) (by rw [show (8 : Int32) = nI 8 from rfl, pk_mul, nI_add]) ?_
    refine rx_ialdN kl_146 (by omega) (by first | decide | omega) dX11_favour_36 ?_
    refine rx_goto (tgt := 41) dX11_favour_37 (by decide) ?_
    exact rx_fiI dX11_favour_41 rfl rfl
set_option maxRecDepth 100000 in
set_option maxHeartbeats 4000000 in
theorem c_X11_favour_no {M : Mem} {n m : Nat} (w : MW M n m) {y x : Int32} (hx : ¬ ((0 ≤ y ∧ y < nI n) ∧ (0 ≤ x ∧ x < nI n) ∧ ¬ y = x)) : Fun yX11_favour cX11_favour 3 (some .int) 2 [.ref 140, .int y, .int x] M (some (.int (-1))) (t0 M) := by
  refine Fun.of (own := RX11) ([some (.ref 140), some (.int y), some (.int x)]) rfl (by decide +kernel) (Nat.le_of_ble_eq_true rfl) rfl ?_
  have w0 := w.t0
  have ⟨hn, hn8, hm, hm10, hd⟩ := w
  refine rx_aload_n (i := 0) dX11_favour_0 rfl rfl ?_
  refine rx_iconst (0) dX11_favour_1 rfl ?_
  refine rx_putI (k := 21) fo_X11_126 fn_11_21 kl_140 (by decide) ty_11_21 dX11_favour_2 ?_
  refine rx_aload_n (i := 0) dX11_favour_5 rfl rfl ?_
  refine rx_iload_n (i := 1) dX11_favour_6 rfl rfl ?_
  refine rx_cvI (ci := 11) mo_X11_isOne lk_X11_244 (c_X11_isOne w0.1 (by omega)) (by decide) rfl rfl (Nat.le_of_ble_eq_true rfl) kl_140 rfl dX11_favour_7 ?_
  refine rx_if_eq (tgt := 40) dX11_favour_10 (by decide) (fun c10 => ?_) (fun c10 => ?_)
  · skip
    refine rx_iconst (-1) dX11_favour_40 rfl ?_
    exact rx_fiI dX11_favour_41 rfl rfl
  · skip
    have e10 := ite1n c10
    refine rx_aload_n (i := 0) dX11_favour_13 rfl rfl ?_
    refine rx_iload_n (i := 2) dX11_favour_14 rfl rfl ?_
    refine rx_cvI (ci := 11) mo_X11_isOne lk_X11_244 (c_X11_isOne w0.1 (by omega)) (by decide) rfl rfl (Nat.le_of_ble_eq_true rfl) kl_140 rfl dX11_favour_15 ?_
    refine rx_if_eq (tgt := 40) dX11_favour_18 (by decide) (fun c18 => ?_) (fun c18 => ?_)
    · skip
      refine rx_iconst (-1) dX11_favour_40 rfl ?_
      exact rx_fiI dX11_favour_41 rfl rfl
    · skip
      have e18 := ite1n c18
      refine rx_iload_n (i := 1) dX11_favour_21 rfl rfl ?_
      refine rx_iload_n (i := 2) dX11_favour_22 rfl rfl ?_
      refine rx_icmp_eq (tgt := 40) dX11_favour_23 (by decide) (fun c23 => ?_) (fun c23 => ?_)
      · skip
        refine rx_iconst (-1) dX11_favour_40 rfl ?_
        exact rx_fiI dX11_favour_41 rfl rfl
      · skip
        exact absurd ⟨e10, e18, c23⟩ hx
        skip
set_option maxRecDepth 100000 in
set_option maxHeartbeats 4000000 in
theorem c_X11_canGive {M : Mem} {n m : Nat} (w : MW M n m) {x y z : Int32} : Fun yX11_canGive cX11_canGive 4 (some .boolean) 2 [.ref 140, .int x, .int y, .int z] M (some (.int (if ((0 ≤ x ∧ x < nI n) ∧ (0 ≤ y ∧ y < nI n) ∧ ¬ x = y ∧ 1 ≤ z ∧ z ≤ M.1 141 x.toNatClampNeg - M.1 144 x.toNatClampNeg) then 1 else 0))) (M) := by
  refine Fun.of (own := RX11) ([some (.ref 140), some (.int x), some (.int y), some (.int z)]) rfl (by decide +kernel) (Nat.le_of_ble_eq_true rfl) rfl ?_
  have ⟨hn, hn8, hm, hm10, hd⟩ := w
  refine rx_aload_n (i := 0) dX11_canGive_0 rfl rfl ?_
  refine rx_iload_n (i := 1) dX11_canGive_1 rfl rfl ?_
  refine rx_cvI (ci := 11) mo_X11_isOne lk_X11_244 (c_X11_isOne w.1 (by omega)) (by decide) rfl rfl (Nat.le_of_ble_eq_true rfl) kl_140 rfl dX11_canGive_2 ?_
  refine rx_if_eq (tgt := 40) dX11_canGive_5 (by decide) (fun c5 => ?_) (fun c5 => ?_)
  · skip
    have eg : ¬ ((0 ≤ x ∧ x < nI n) ∧ (0 ≤ y ∧ y < nI n) ∧ ¬ x = y ∧ 1 ≤ z ∧ z ≤ M.1 141 x.toNatClampNeg - M.1 144 x.toNatClampNeg) := fun q => ite1 c5 q.1
    refine rx_iconst (0) dX11_canGive_40 rfl ?_
    exact rx_fiZ dX11_canGive_41 (by first | exact Or.inl rfl | exact Or.inr rfl) (if_neg eg).symm rfl
  · skip
    have e5 := ite1n c5
    obtain ⟨i, hi31, rfl⟩ := nI_of (Int32.not_lt.mpr e5.1)
    have hi : i < n := (nI_ltI hi31 (by omega)).mp e5.2
    rw [nI_clamp hi31]
    refine rx_aload_n (i := 0) dX11_canGive_8 rfl rfl ?_
    refine rx_iload_n (i := 2) dX11_canGive_9 rfl rfl ?_
    refine rx_cvI (ci := 11) mo_X11_isOne lk_X11_244 (c_X11_isOne w.1 (by omega)) (by decide) rfl rfl (Nat.le_of_ble_eq_true rfl) kl_140 rfl dX11_canGive_10 ?_
    refine rx_if_eq (tgt := 40) dX11_canGive_13 (by decide) (fun c13 => ?_) (fun c13 => ?_)
    · skip
      have eg : ¬ ((0 ≤ nI i ∧ nI i < nI n) ∧ (0 ≤ y ∧ y < nI n) ∧ ¬ nI i = y ∧ 1 ≤ z ∧ z ≤ M.1 141 i - M.1 144 i) := fun q => ite1 c13 q.2.1
      refine rx_iconst (0) dX11_canGive_40 rfl ?_
      exact rx_fiZ dX11_canGive_41 (by first | exact Or.inl rfl | exact Or.inr rfl) (if_neg eg).symm rfl
    · skip
      have e13 := ite1n c13
      refine rx_iload_n (i := 1) dX11_canGive_16 rfl rfl ?_
      refine rx_iload_n (i := 2) dX11_canGive_17 rfl rfl ?_
      refine rx_icmp_eq (tgt := 40) dX11_canGive_18 (by decide) (fun c18 => ?_) (fun c18 => ?_)
      · skip
        have eg : ¬ ((0 ≤ nI i ∧ nI i < nI n) ∧ (0 ≤ y ∧ y < nI n) ∧ ¬ nI i = y ∧ 1 ≤ z ∧ z ≤ M.1 141 i - M.1 144 i) := fun q => q.2.2.1 c18
        refine rx_iconst (0) dX11_canGive_40 rfl ?_
        exact rx_fiZ dX11_canGive_41 (by first | exact Or.inl rfl | exact Or.inr rfl) (if_neg eg).symm rfl
      · skip
        refine rx_iload_n (i := 3) dX11_canGive_21 rfl rfl ?_
        refine rx_i2l dX11_canGive_22 rfl ?_
        refine rx_lconst (1) dX11_canGive_23 rfl ?_
        refine rx_aload_n (i := 0) dX11_canGive_24 rfl rfl ?_
        refine rx_iload_n (i := 1) dX11_canGive_25 rfl rfl ?_
        refine rx_cvI (ci := 11) mo_X11_counted lk_X11_225 (c_X11_counted (by omega)) (by decide) rfl rfl (Nat.le_of_ble_eq_true rfl) kl_140 rfl dX11_canGive_26 ?_
        refine rx_i2l dX11_canGive_29 rfl ?_
        refine rx_csI mo_X11_in lk_X11_135 (c_X11_in (a := z.toInt64) (b := 1) (c := (M.1 141 i - M.1 144 i).toInt64)) (by decide) rfl rfl (Nat.le_of_ble_eq_true rfl) dX11_canGive_30 ?_
        refine rx_if_eq (tgt := 40) dX11_canGive_33 (by decide) (fun c33 => ?_) (fun c33 => ?_)
        · skip
          have eg : ¬ ((0 ≤ nI i ∧ nI i < nI n) ∧ (0 ≤ y ∧ y < nI n) ∧ ¬ nI i = y ∧ 1 ≤ z ∧ z ≤ M.1 141 i - M.1 144 i) := fun q => ite1 c33 ⟨l_1b.mpr q.2.2.2.1, Int32.toInt64_le.mpr q.2.2.2.2⟩
          refine rx_iconst (0) dX11_canGive_40 rfl ?_
          exact rx_fiZ dX11_canGive_41 (by first | exact Or.inl rfl | exact Or.inr rfl) (if_neg eg).symm rfl
        · skip
          have e33 := ite1n c33
          have eg : ((0 ≤ nI i ∧ nI i < nI n) ∧ (0 ≤ y ∧ y < nI n) ∧ ¬ nI i = y ∧ 1 ≤ z ∧ z ≤ M.1 141 i - M.1 144 i) := ⟨e5, e13, c18, l_1b.mp e33.1, Int32.toInt64_le.mp e33.2⟩
          refine rx_iconst (1) dX11_canGive_36 rfl ?_
          refine rx_goto (tgt := 41) dX11_canGive_37 (by decide) ?_
          exact rx_fiZ dX11_canGive_41 (by first | exact Or.inl rfl | exact Or.inr rfl) (if_pos eg).symm rfl
set_option maxRecDepth 100000 in
set_option maxHeartbeats 4000000 in
theorem c_X11_give {M : Mem} {n m : Nat} (w : MW M n m) {i j : Nat} {z : Int32} (hi : i < n) (hj : j < n) (hij : i ≠ j) (hz1 : 1 ≤ z) (hz2 : z ≤ M.1 141 i - M.1 144 i) : Fun yX11_give cX11_give 4 (some .boolean) 3 [.ref 140, .int (nI i), .int (nI j), .int z] M (some (.int 1)) (setI (shX (t0 M) i j z) 140 32 0) := by
  refine Fun.of (own := RX11) ([some (.ref 140), some (.int (nI i)), some (.int (nI j)), some (.int z)]) rfl (by decide +kernel) (Nat.le_of_ble_eq_true rfl) rfl ?_
  have w0 := w.t0
  have ⟨hn, hn8, hm, hm10, hd⟩ := w
  have hg : (if (0 ≤ nI i ∧ nI i < nI n) ∧ (0 ≤ nI j ∧ nI j < nI n) ∧ ¬ nI i = nI j ∧ 1 ≤ z ∧ z ≤ (t0 M).1 141 (nI i).toNatClampNeg - (t0 M).1 144 (nI i).toNatClampNeg then (1 : Int32) else 0) = 1 := if_pos ⟨⟨nI_pos' (by omega), nI_lt hi (by omega)⟩, ⟨nI_pos' (by omega), nI_lt hj (by omega)⟩, fun q => hij ((nI_eq (by omega) (by omega)).mp q), hz1, by rw [nI_clamp (by omega), t0_o (by omega), t0_o (by omega)]; exact hz2⟩
  refine rx_aload_n (i := 0) dX11_give_0 rfl rfl ?_
  refine rx_iconst (0) dX11_give_1 rfl ?_
  refine rx_putI (k := 21) fo_X11_126 fn_11_21 kl_140 (by decide) ty_11_21 dX11_give_2 ?_
  refine rx_aload_n (i := 0) dX11_give_5 rfl rfl ?_
  refine rx_iload_n (i := 1) dX11_give_6 rfl rfl ?_
  refine rx_iload_n (i := 2) dX11_give_7 rfl rfl ?_
  refine rx_iload_n (i := 3) dX11_give_8 rfl rfl ?_
  refine rx_cvI (ci := 11) mo_X11_canGive lk_X11_315 (c_X11_canGive w0) (by decide) rfl rfl (Nat.le_of_ble_eq_true rfl) kl_140 rfl dX11_give_9 ?_
  refine rx_top (1) (hg) ?_
  refine rx_if_ne (tgt := 17) dX11_give_12 (by decide) (fun c12 => ?_) (fun c12 => absurd c12 (by decide))
  refine rx_aload_n (i := 0) dX11_give_17 rfl rfl ?_
  refine rx_getR 141 (k := 1) fo_X11_9 kl_140 (by decide) ti_11_1 (by decide) rfl dX11_give_18 ?_
  refine rx_iload_n (i := 1) dX11_give_21 rfl rfl ?_
  refine rx_dup2_11 dX11_give_22 rfl rfl ?_
  refine rx_ialdN kl_141 (by omega) (by first | decide | omega) dX11_give_23 ?_
  refine rx_iload_n (i := 3) dX11_give_24 rfl rfl ?_
  refine rx_isub dX11_give_25 ?_
  refine rx_iastN kl_141 (by omega) (by first | decide | omega) dX11_give_26 ?_
  refine rx_aload_n (i := 0) dX11_give_27 rfl rfl ?_
  refine rx_getR 141 (k := 1) fo_X11_9 kl_140 (by decide) ti_11_1 (by decide) rfl dX11_give_28 ?_
  refine rx_iload_n (i := 2) dX11_give_31 rfl rfl ?_
  refine rx_dup2_11 dX11_give_32 rfl rfl ?_
  refine rx_ialdN kl_141 (by omega) (by first | decide | omega) dX11_give_33 ?_
  refine rx_iload_n (i := 3) dX11_give_34 rfl rfl ?_
  refine rx_iadd dX11_give_35 ?_
  refine rx_iastN kl_141 (by omega) (by first | decide | omega) dX11_give_36 ?_
  refine rx_aload_n (i := 0) dX11_give_37 rfl rfl ?_
  refine rx_iconst (0) dX11_give_38 rfl ?_
  refine rx_putI (k := 32) fo_X11_198 fn_11_32 kl_140 (by decide) ty_11_32 dX11_give_39 ?_
  refine rx_iconst (1) dX11_give_42 rfl ?_
  exact rx_fiZ dX11_give_43 (Or.inr rfl) rfl rfl
set_option maxRecDepth 100000 in
set_option maxHeartbeats 4000000 in
theorem c_X11_give_no {M : Mem} {n m : Nat} (w : MW M n m) {x y z : Int32} (h : ¬ ((0 ≤ x ∧ x < nI n) ∧ (0 ≤ y ∧ y < nI n) ∧ ¬ x = y ∧ 1 ≤ z ∧ z ≤ M.1 141 x.toNatClampNeg - M.1 144 x.toNatClampNeg)) : Fun yX11_give cX11_give 4 (some .boolean) 3 [.ref 140, .int x, .int y, .int z] M (some (.int 0)) (t0 M) := by
  refine Fun.of (own := RX11) ([some (.ref 140), some (.int x), some (.int y), some (.int z)]) rfl (by decide +kernel) (Nat.le_of_ble_eq_true rfl) rfl ?_
  have w0 := w.t0
  have ⟨hn, hn8, hm, hm10, hd⟩ := w
  have hg : (if (0 ≤ x ∧ x < nI n) ∧ (0 ≤ y ∧ y < nI n) ∧ ¬ x = y ∧ 1 ≤ z ∧ z ≤ (t0 M).1 141 x.toNatClampNeg - (t0 M).1 144 x.toNatClampNeg then (1 : Int32) else 0) = 0 := if_neg h
  refine rx_aload_n (i := 0) dX11_give_0 rfl rfl ?_
  refine rx_iconst (0) dX11_give_1 rfl ?_
  refine rx_putI (k := 21) fo_X11_126 fn_11_21 kl_140 (by decide) ty_11_21 dX11_give_2 ?_
  refine rx_aload_n (i := 0) dX11_give_5 rfl rfl ?_
  refine rx_iload_n (i := 1) dX11_give_6 rfl rfl ?_
  refine rx_iload_n (i := 2) dX11_give_7 rfl rfl ?_
  refine rx_iload_n (i := 3) dX11_give_8 rfl rfl ?_
  refine rx_cvI (ci := 11) mo_X11_canGive lk_X11_315 (c_X11_canGive w0) (by decide) rfl rfl (Nat.le_of_ble_eq_true rfl) kl_140 rfl dX11_give_9 ?_
  refine rx_top (0) (hg) ?_
  refine rx_if_ne (tgt := 17) dX11_give_12 (by decide) (fun c12 => absurd c12 (by decide)) (fun c12 => ?_)
  refine rx_iconst (0) dX11_give_15 rfl ?_
  exact rx_fiZ dX11_give_16 (Or.inl rfl) rfl rfl
def ldX (M : Mem) (c i j : Nat) (z : Int32) : Mem := setI (setI (setI (setI (setI (shX (t0 M) i j z) 158 (3 * c) (nI i)) 158 (3 * c + 1) (nI j)) 158 (3 * c + 2) z) 140 34 (nI (c + 1))) 140 32 0
set_option maxRecDepth 100000 in
set_option maxHeartbeats 4000000 in
theorem c_X11_lend {M : Mem} {n m : Nat} (w : MW M n m) {i j : Nat} {z : Int32} (hi : i < n) (hj : j < n) (hij : i ≠ j) (hz1 : 1 ≤ z) (hz2 : z ≤ M.1 141 i - M.1 144 i) {c : Nat} (ec : M.1 140 34 = nI c) (hc : c < 6) : Fun yX11_lend cX11_lend 4 (some .int) 3 [.ref 140, .int (nI i), .int (nI j), .int z] M (some (.int (nI (c + 1)))) (ldX M c i j z) := by
  refine Fun.of (own := RX11) ([some (.ref 140), some (.int (nI i)), some (.int (nI j)), some (.int z)]) rfl (by decide +kernel) (Nat.le_of_ble_eq_true rfl) rfl ?_
  have w0 := w.t0
  have ⟨hn, hn8, hm, hm10, hd⟩ := w
  have hg : (if (0 ≤ nI i ∧ nI i < nI n) ∧ (0 ≤ nI j ∧ nI j < nI n) ∧ ¬ nI i = nI j ∧ 1 ≤ z ∧ z ≤ (t0 M).1 141 (nI i).toNatClampNeg - (t0 M).1 144 (nI i).toNatClampNeg then (1 : Int32) else 0) = 1 := if_pos ⟨⟨nI_pos' (by omega), nI_lt hi (by omega)⟩, ⟨nI_pos' (by omega), nI_lt hj (by omega)⟩, fun q => hij ((nI_eq (by omega) (by omega)).mp q), hz1, by rw [nI_clamp (by omega), t0_o (by omega), t0_o (by omega)]; exact hz2⟩
  refine rx_aload_n (i := 0) dX11_lend_0 rfl rfl ?_
  refine rx_iconst (0) dX11_lend_1 rfl ?_
  refine rx_putI (k := 21) fo_X11_126 fn_11_21 kl_140 (by decide) ty_11_21 dX11_lend_2 ?_
  refine rx_aload_n (i := 0) dX11_lend_5 rfl rfl ?_
  refine rx_iload_n (i := 1) dX11_lend_6 rfl rfl ?_
  refine rx_iload_n (i := 2) dX11_lend_7 rfl rfl ?_
  refine rx_iload_n (i := 3) dX11_lend_8 rfl rfl ?_
  refine rx_cvI (ci := 11) mo_X11_canGive lk_X11_315 (c_X11_canGive w0) (by decide) rfl rfl (Nat.le_of_ble_eq_true rfl) kl_140 rfl dX11_lend_9 ?_
  refine rx_top (1) (hg) ?_
  refine rx_if_eq (tgt := 24) dX11_lend_12 (by decide) (fun c12 => absurd c12 (by decide)) (fun c12 => ?_)
  refine rx_aload_n (i := 0) dX11_lend_15 rfl rfl ?_
  refine rx_getI (k := 34) fo_X11_319 kl_140 (by decide) ti_11_34 dX11_lend_16 ?_
  refine rx_top (nI c) ((t0_o (by omega)).trans ec) ?_
  refine rx_bipush (6) dX11_lend_19 rfl ?_
  refine rx_icmp_ne (tgt := 26) dX11_lend_21 (by decide) (fun c21 => ?_) (fun c21 => ?_)
  · skip
    refine rx_aload_n (i := 0) dX11_lend_26 rfl rfl ?_
    refine rx_getR 141 (k := 1) fo_X11_9 kl_140 (by decide) ti_11_1 (by decide) rfl dX11_lend_27 ?_
    refine rx_iload_n (i := 1) dX11_lend_30 rfl rfl ?_
    refine rx_dup2_11 dX11_lend_31 rfl rfl ?_
    refine rx_ialdN kl_141 (by omega) (by first | decide | omega) dX11_lend_32 ?_
    refine rx_iload_n (i := 3) dX11_lend_33 rfl rfl ?_
    refine rx_isub dX11_lend_34 ?_
    refine rx_iastN kl_141 (by omega) (by first | decide | omega) dX11_lend_35 ?_
    refine rx_aload_n (i := 0) dX11_lend_36 rfl rfl ?_
    refine rx_getR 141 (k := 1) fo_X11_9 kl_140 (by decide) ti_11_1 (by decide) rfl dX11_lend_37 ?_
    refine rx_iload_n (i := 2) dX11_lend_40 rfl rfl ?_
    refine rx_dup2_11 dX11_lend_41 rfl rfl ?_
    refine rx_ialdN kl_141 (by omega) (by first | decide | omega) dX11_lend_42 ?_
    refine rx_iload_n (i := 3) dX11_lend_43 rfl rfl ?_
    refine rx_iadd dX11_lend_44 ?_
    refine rx_iastN kl_141 (by omega) (by first | decide | omega) dX11_lend_45 ?_
    refine rx_aload_n (i := 0) dX11_lend_46 rfl rfl ?_
    refine rx_getR 158 (k := 33) fo_X11_71 kl_140 (by decide) ti_11_33 (by decide) rfl dX11_lend_47 ?_
    refine rx_iconst (3) dX11_lend_50 rfl ?_
    refine rx_aload_n (i := 0) dX11_lend_51 rfl rfl ?_
    refine rx_getI (k := 34) fo_X11_319 kl_140 (by decide) ti_11_34 dX11_lend_52 ?_
    refine rx_top (nI c) (((sI_na (by omega)).trans (sI_na (by omega))).trans ((t0_o (by omega)).trans ec)) ?_
    refine rx_imul dX11_lend_55 ?_
    refine rx_top (nI (3 * c)) (by rw [show (3 : Int32) = nI 3 from rfl, pk_mul]) ?_
    refine rx_iload_n (i := 1) dX11_lend_56 rfl rfl ?_
    refine rx_iastN kl_158 (by omega) (by first | decide | omega) dX11_lend_57 ?_
    refine rx_aload_n (i := 0) dX11_lend_58 rfl rfl ?_
    refine rx_getR 158 (k := 33) fo_X11_71 kl_140 (by decide) ti_11_33 (by decide) rfl dX11_lend_59 ?_
    refine rx_iconst (3) dX11_lend_62 rfl ?_
    refine rx_aload_n (i := 0) dX11_lend_63 rfl rfl ?_
    refine rx_getI (k := 34) fo_X11_319 kl_140 (by decide) ti_11_34 dX11_lend_64 ?_
    refine rx_top (nI c) (((sI_na (by omega)).trans ((sI_na (by omega)).trans (sI_na (by omega)))).trans ((t0_o (by omega)).trans ec)) ?_
    refine rx_imul dX11_lend_67 ?_
    refine rx_top (nI (3 * c)) (by rw [show (3 : Int32) = nI 3 from rfl, pk_mul]) ?_
    refine rx_iconst (1) dX11_lend_68 rfl ?_
    refine rx_iadd dX11_lend_69 ?_
    rw [nI_1]
    refine rx_iload_n (i := 2) dX11_lend_70 rfl rfl ?_
    refine rx_iastN kl_158 (by omega) (by first | decide | omega) dX11_lend_71 ?_
    refine rx_aload_n (i := 0) dX11_lend_72 rfl rfl ?_
    refine rx_getR 158 (k := 33) fo_X11_71 kl_140 (by decide) ti_11_33 (by decide) rfl dX11_lend_73 ?_
    refine rx_iconst (3) dX11_lend_76 rfl ?_
    refine rx_aload_n (i := 0) dX11_lend_77 rfl rfl ?_
    refine rx_getI (k := 34) fo_X11_319 kl_140 (by decide) ti_11_34 dX11_lend_78 ?_
    refine rx_top (nI c) (((sI_na (by omega)).trans ((sI_na (by omega)).trans ((sI_na (by omega)).trans (sI_na (by omega))))).trans ((t0_o (by omega)).trans ec)) ?_
    refine rx_imul dX11_lend_81 ?_
    refine rx_top (nI (3 * c)) (by rw [show (3 : Int32) = nI 3 from rfl, pk_mul]) ?_
    refine rx_iconst (2) dX11_lend_82 rfl ?_
    refine rx_iadd dX11_lend_83 ?_
    refine rx_top (nI (3 * c + 2)) (by rw [show (2 : Int32) = nI 2 from rfl, nI_add]) ?_
    refine rx_iload_n (i := 3) dX11_lend_84 rfl rfl ?_
    refine rx_iastN kl_158 (by omega) (by first | decide | omega) dX11_lend_85 ?_
    refine rx_aload_n (i := 0) dX11_lend_86 rfl rfl ?_
    refine rx_dup dX11_lend_87 rfl ?_
    refine rx_getI (k := 34) fo_X11_319 kl_140 (by decide) ti_11_34 dX11_lend_88 ?_
    refine rx_top (nI c) (((sI_na (by omega)).trans ((sI_na (by omega)).trans ((sI_na (by omega)).trans ((sI_na (by omega)).trans (sI_na (by omega)))))).trans ((t0_o (by omega)).trans ec)) ?_
    refine rx_iconst (1) dX11_lend_91 rfl ?_
    refine rx_iadd dX11_lend_92 ?_
    rw [nI_1]
    refine rx_putI (k := 34) fo_X11_319 fn_11_34 kl_140 (by decide) ty_11_34 dX11_lend_93 ?_
    refine rx_aload_n (i := 0) dX11_lend_96 rfl rfl ?_
    refine rx_iconst (0) dX11_lend_97 rfl ?_
    refine rx_putI (k := 32) fo_X11_198 fn_11_32 kl_140 (by decide) ty_11_32 dX11_lend_98 ?_
    refine rx_aload_n (i := 0) dX11_lend_101 rfl rfl ?_
    refine rx_getI (k := 34) fo_X11_319 kl_140 (by decide) ti_11_34 dX11_lend_102 ?_
    refine rx_top (nI (c + 1)) ((sI_ne (by omega)).trans sI_eq) ?_
    exact rx_fiI dX11_lend_105 rfl rfl
  · skip
    exact absurd ((nI_eq (b := 6) (by omega) (by omega)).mp c21) (by omega)
    skip
set_option maxRecDepth 100000 in
set_option maxHeartbeats 4000000 in
theorem c_X11_lend_no {M : Mem} {n m : Nat} (w : MW M n m) {x y z : Int32} (h : ¬ ((0 ≤ x ∧ x < nI n) ∧ (0 ≤ y ∧ y < nI n) ∧ ¬ x = y ∧ 1 ≤ z ∧ z ≤ M.1 141 x.toNatClampNeg - M.1 144 x.toNatClampNeg) ∨ M.1 140 34 = 6) : Fun yX11_lend cX11_lend 4 (some .int) 3 [.ref 140, .int x, .int y, .int z] M (some (.int (-1))) (t0 M) := by
  refine Fun.of (own := RX11) ([some (.ref 140), some (.int x), some (.int y), some (.int z)]) rfl (by decide +kernel) (Nat.le_of_ble_eq_true rfl) rfl ?_
  have w0 := w.t0
  have ⟨hn, hn8, hm, hm10, hd⟩ := w
  refine rx_aload_n (i := 0) dX11_lend_0 rfl rfl ?_
  refine rx_iconst (0) dX11_lend_1 rfl ?_
  refine rx_putI (k := 21) fo_X11_126 fn_11_21 kl_140 (by decide) ty_11_21 dX11_lend_2 ?_
  refine rx_aload_n (i := 0) dX11_lend_5 rfl rfl ?_
  refine rx_iload_n (i := 1) dX11_lend_6 rfl rfl ?_
  refine rx_iload_n (i := 2) dX11_lend_7 rfl rfl ?_
  refine rx_iload_n (i := 3) dX11_lend_8 rfl rfl ?_
  refine rx_cvI (ci := 11) mo_X11_canGive lk_X11_315 (c_X11_canGive w0) (by decide) rfl rfl (Nat.le_of_ble_eq_true rfl) kl_140 rfl dX11_lend_9 ?_
  refine rx_if_eq (tgt := 24) dX11_lend_12 (by decide) (fun c12 => ?_) (fun c12 => ?_)
  · skip
    refine rx_iconst (-1) dX11_lend_24 rfl ?_
    exact rx_fiI dX11_lend_25 rfl rfl
  · skip
    have e12 := ite1n c12
    have h6 : M.1 140 34 = 6 := h.resolve_left (fun q => q e12)
    refine rx_aload_n (i := 0) dX11_lend_15 rfl rfl ?_
    refine rx_getI (k := 34) fo_X11_319 kl_140 (by decide) ti_11_34 dX11_lend_16 ?_
    refine rx_bipush (6) dX11_lend_19 rfl ?_
    refine rx_icmp_ne (tgt := 26) dX11_lend_21 (by decide) (fun c21 => ?_) (fun c21 => ?_)
    · skip
      exact absurd h6 c21
      skip
    · skip
      refine rx_iconst (-1) dX11_lend_24 rfl ?_
      exact rx_fiI dX11_lend_25 rfl rfl
def bkX (M : Mem) (c a b : Nat) (z : Int32) : Mem := setI (setI (shX (t0 M) b a z) 140 34 (nI c)) 140 32 0
set_option maxRecDepth 100000 in
set_option maxHeartbeats 4000000 in
theorem c_X11_back {M : Mem} {c a b : Nat} {z : Int32} (ec : M.1 140 34 = nI (c + 1)) (hc : c < 6) (ha : a < 8) (hb : b < 8) (e0 : M.1 158 (3 * c) = nI a) (e1 : M.1 158 (3 * c + 1) = nI b) (e2 : M.1 158 (3 * c + 2) = z) (h : z ≤ M.1 141 b - M.1 144 b) : Fun yX11_back cX11_back 2 (some .int) 1 [.ref 140] M (some (.int (nI c))) (bkX M c a b z) := by
  refine Fun.of (own := RX11) ([some (.ref 140), none]) rfl (by decide +kernel) (Nat.le_of_ble_eq_true rfl) rfl ?_
  refine rx_aload_n (i := 0) dX11_back_0 rfl rfl ?_
  refine rx_iconst (0) dX11_back_1 rfl ?_
  refine rx_putI (k := 21) fo_X11_126 fn_11_21 kl_140 (by decide) ty_11_21 dX11_back_2 ?_
  refine rx_aload_n (i := 0) dX11_back_5 rfl rfl ?_
  refine rx_getI (k := 34) fo_X11_319 kl_140 (by decide) ti_11_34 dX11_back_6 ?_
  refine rx_top (nI (c + 1)) ((t0_o (by omega)).trans ec) ?_
  refine rx_if_ne (tgt := 14) dX11_back_9 (by decide) (fun c9 => ?_) (fun c9 => ?_)
  · skip
    refine rx_iconst (3) dX11_back_14 rfl ?_
    refine rx_aload_n (i := 0) dX11_back_15 rfl rfl ?_
    refine rx_getI (k := 34) fo_X11_319 kl_140 (by decide) ti_11_34 dX11_back_16 ?_
    refine rx_top (nI (c + 1)) ((t0_o (by omega)).trans ec) ?_
    refine rx_iconst (1) dX11_back_19 rfl ?_
    refine rx_isub dX11_back_20 ?_
    refine rx_top (nI c) (by rw [show (1 : Int32) = nI 1 from rfl, pk_sub (by omega), Nat.add_sub_cancel]) ?_
    refine rx_imul dX11_back_21 ?_
    refine rx_top (nI (3 * c)) (by rw [show (3 : Int32) = nI 3 from rfl, pk_mul]) ?_
    refine rx_istore_n (i := 1) dX11_back_22 rfl (by decide) rfl rfl ?_
    refine rx_aload_n (i := 0) dX11_back_23 rfl rfl ?_
    refine rx_aload_n (i := 0) dX11_back_24 rfl rfl ?_
    refine rx_getR 158 (k := 33) fo_X11_71 kl_140 (by decide) ti_11_33 (by decide) rfl dX11_back_25 ?_
    refine rx_iload_n (i := 1) dX11_back_28 rfl rfl ?_
    refine rx_iconst (1) dX11_back_29 rfl ?_
    refine rx_iadd dX11_back_30 ?_
    rw [nI_1]
    refine rx_ialdN kl_158 (by omega) (by first | decide | omega) dX11_back_31 ?_
    refine rx_top (nI b) (e1) ?_
    refine rx_cvI (ci := 11) mo_X11_counted lk_X11_225 (c_X11_counted (by omega)) (by decide) rfl rfl (Nat.le_of_ble_eq_true rfl) kl_140 rfl dX11_back_32 ?_
    refine rx_aload_n (i := 0) dX11_back_35 rfl rfl ?_
    refine rx_getR 158 (k := 33) fo_X11_71 kl_140 (by decide) ti_11_33 (by decide) rfl dX11_back_36 ?_
    refine rx_iload_n (i := 1) dX11_back_39 rfl rfl ?_
    refine rx_iconst (2) dX11_back_40 rfl ?_
    refine rx_iadd dX11_back_41 ?_
    refine rx_top (nI (3 * c + 2)) (by rw [show (2 : Int32) = nI 2 from rfl, nI_add]) ?_
    refine rx_ialdN kl_158 (by omega) (by first | decide | omega) dX11_back_42 ?_
    refine rx_top (z) (e2) ?_
    refine rx_icmp_ge (tgt := 49) dX11_back_43 (by decide) (fun c43 => ?_) (fun c43 => ?_)
    · skip
      refine rx_aload_n (i := 0) dX11_back_49 rfl rfl ?_
      refine rx_getR 141 (k := 1) fo_X11_9 kl_140 (by decide) ti_11_1 (by decide) rfl dX11_back_50 ?_
      refine rx_aload_n (i := 0) dX11_back_53 rfl rfl ?_
      refine rx_getR 158 (k := 33) fo_X11_71 kl_140 (by decide) ti_11_33 (by decide) rfl dX11_back_54 ?_
      refine rx_iload_n (i := 1) dX11_back_57 rfl rfl ?_
      refine rx_iconst (1) dX11_back_58 rfl ?_
      refine rx_iadd dX11_back_59 ?_
      rw [nI_1]
      refine rx_ialdN kl_158 (by omega) (by first | decide | omega) dX11_back_60 ?_
      refine rx_top (nI b) (e1) ?_
      refine rx_dup2_11 dX11_back_61 rfl rfl ?_
      refine rx_ialdN kl_141 (by omega) (by first | decide | omega) dX11_back_62 ?_
      refine rx_aload_n (i := 0) dX11_back_63 rfl rfl ?_
      refine rx_getR 158 (k := 33) fo_X11_71 kl_140 (by decide) ti_11_33 (by decide) rfl dX11_back_64 ?_
      refine rx_iload_n (i := 1) dX11_back_67 rfl rfl ?_
      refine rx_iconst (2) dX11_back_68 rfl ?_
      refine rx_iadd dX11_back_69 ?_
      refine rx_top (nI (3 * c + 2)) (by rw [show (2 : Int32) = nI 2 from rfl, nI_add]) ?_
      refine rx_ialdN kl_158 (by omega) (by first | decide | omega) dX11_back_70 ?_
      refine rx_top (z) (e2) ?_
      refine rx_isub dX11_back_71 ?_
      refine rx_iastN kl_141 (by omega) (by first | decide | omega) dX11_back_72 ?_
      refine rx_aload_n (i := 0) dX11_back_73 rfl rfl ?_
      refine rx_getR 141 (k := 1) fo_X11_9 kl_140 (by decide) ti_11_1 (by decide) rfl dX11_back_74 ?_
      refine rx_aload_n (i := 0) dX11_back_77 rfl rfl ?_
      refine rx_getR 158 (k := 33) fo_X11_71 kl_140 (by decide) ti_11_33 (by decide) rfl dX11_back_78 ?_
      refine rx_iload_n (i := 1) dX11_back_81 rfl rfl ?_
      refine rx_ialdN kl_158 (by omega) (by first | decide | omega) dX11_back_82 ?_
      refine rx_top (nI a) ((sI_na (by omega)).trans e0) ?_
      refine rx_dup2_11 dX11_back_83 rfl rfl ?_
      refine rx_ialdN kl_141 (by omega) (by first | decide | omega) dX11_back_84 ?_
      refine rx_aload_n (i := 0) dX11_back_85 rfl rfl ?_
      refine rx_getR 158 (k := 33) fo_X11_71 kl_140 (by decide) ti_11_33 (by decide) rfl dX11_back_86 ?_
      refine rx_iload_n (i := 1) dX11_back_89 rfl rfl ?_
      refine rx_iconst (2) dX11_back_90 rfl ?_
      refine rx_iadd dX11_back_91 ?_
      refine rx_top (nI (3 * c + 2)) (by rw [show (2 : Int32) = nI 2 from rfl, nI_add]) ?_
      refine rx_ialdN kl_158 (by omega) (by first | decide | omega) dX11_back_92 ?_
      refine rx_top (z) ((sI_na (by omega)).trans e2) ?_
      refine rx_iadd dX11_back_93 ?_
      refine rx_iastN kl_141 (by omega) (by first | decide | omega) dX11_back_94 ?_
      refine rx_aload_n (i := 0) dX11_back_95 rfl rfl ?_
      refine rx_dup dX11_back_96 rfl ?_
      refine rx_getI (k := 34) fo_X11_319 kl_140 (by decide) ti_11_34 dX11_back_97 ?_
      refine rx_top (nI (c + 1)) (((sI_na (by omega)).trans (sI_na (by omega))).trans ((t0_o (by omega)).trans ec)) ?_
      refine rx_iconst (1) dX11_back_100 rfl ?_
      refine rx_isub dX11_back_101 ?_
      refine rx_top (nI c) (by rw [show (1 : Int32) = nI 1 from rfl, pk_sub (by omega), Nat.add_sub_cancel]) ?_
      refine rx_putI (k := 34) fo_X11_319 fn_11_34 kl_140 (by decide) ty_11_34 dX11_back_102 ?_
      refine rx_aload_n (i := 0) dX11_back_105 rfl rfl ?_
      refine rx_iconst (0) dX11_back_106 rfl ?_
      refine rx_putI (k := 32) fo_X11_198 fn_11_32 kl_140 (by decide) ty_11_32 dX11_back_107 ?_
      refine rx_aload_n (i := 0) dX11_back_110 rfl rfl ?_
      refine rx_getI (k := 34) fo_X11_319 kl_140 (by decide) ti_11_34 dX11_back_111 ?_
      refine rx_top (nI c) ((sI_ne (by omega)).trans sI_eq) ?_
      exact rx_fiI dX11_back_114 rfl rfl
    · skip
      exact absurd h (Int32.not_le.mpr (Int32.not_le.mp c43))
      skip
  · skip
    exact absurd c9 (nI_ne0 (by omega) (by omega))
    skip
set_option maxRecDepth 100000 in
set_option maxHeartbeats 4000000 in
theorem c_X11_back_2 {M : Mem} {c a b : Nat} {z : Int32} (ec : M.1 140 34 = nI (c + 1)) (hc : c < 6) (ha : a < 8) (hb : b < 8) (e0 : M.1 158 (3 * c) = nI a) (e1 : M.1 158 (3 * c + 1) = nI b) (e2 : M.1 158 (3 * c + 2) = z) (h : ¬ z ≤ M.1 141 b - M.1 144 b) : Fun yX11_back cX11_back 2 (some .int) 1 [.ref 140] M (some (.int (-2))) (t0 M) := by
  refine Fun.of (own := RX11) ([some (.ref 140), none]) rfl (by decide +kernel) (Nat.le_of_ble_eq_true rfl) rfl ?_
  refine rx_aload_n (i := 0) dX11_back_0 rfl rfl ?_
  refine rx_iconst (0) dX11_back_1 rfl ?_
  refine rx_putI (k := 21) fo_X11_126 fn_11_21 kl_140 (by decide) ty_11_21 dX11_back_2 ?_
  refine rx_aload_n (i := 0) dX11_back_5 rfl rfl ?_
  refine rx_getI (k := 34) fo_X11_319 kl_140 (by decide) ti_11_34 dX11_back_6 ?_
  refine rx_top (nI (c + 1)) ((t0_o (by omega)).trans ec) ?_
  refine rx_if_ne (tgt := 14) dX11_back_9 (by decide) (fun c9 => ?_) (fun c9 => ?_)
  · skip
    refine rx_iconst (3) dX11_back_14 rfl ?_
    refine rx_aload_n (i := 0) dX11_back_15 rfl rfl ?_
    refine rx_getI (k := 34) fo_X11_319 kl_140 (by decide) ti_11_34 dX11_back_16 ?_
    refine rx_top (nI (c + 1)) ((t0_o (by omega)).trans ec) ?_
    refine rx_iconst (1) dX11_back_19 rfl ?_
    refine rx_isub dX11_back_20 ?_
    refine rx_top (nI c) (by rw [show (1 : Int32) = nI 1 from rfl, pk_sub (by omega), Nat.add_sub_cancel]) ?_
    refine rx_imul dX11_back_21 ?_
    refine rx_top (nI (3 * c)) (by rw [show (3 : Int32) = nI 3 from rfl, pk_mul]) ?_
    refine rx_istore_n (i := 1) dX11_back_22 rfl (by decide) rfl rfl ?_
    refine rx_aload_n (i := 0) dX11_back_23 rfl rfl ?_
    refine rx_aload_n (i := 0) dX11_back_24 rfl rfl ?_
    refine rx_getR 158 (k := 33) fo_X11_71 kl_140 (by decide) ti_11_33 (by decide) rfl dX11_back_25 ?_
    refine rx_iload_n (i := 1) dX11_back_28 rfl rfl ?_
    refine rx_iconst (1) dX11_back_29 rfl ?_
    refine rx_iadd dX11_back_30 ?_
    rw [nI_1]
    refine rx_ialdN kl_158 (by omega) (by first | decide | omega) dX11_back_31 ?_
    refine rx_top (nI b) (e1) ?_
    refine rx_cvI (ci := 11) mo_X11_counted lk_X11_225 (c_X11_counted (by omega)) (by decide) rfl rfl (Nat.le_of_ble_eq_true rfl) kl_140 rfl dX11_back_32 ?_
    refine rx_aload_n (i := 0) dX11_back_35 rfl rfl ?_
    refine rx_getR 158 (k := 33) fo_X11_71 kl_140 (by decide) ti_11_33 (by decide) rfl dX11_back_36 ?_
    refine rx_iload_n (i := 1) dX11_back_39 rfl rfl ?_
    refine rx_iconst (2) dX11_back_40 rfl ?_
    refine rx_iadd dX11_back_41 ?_
    refine rx_top (nI (3 * c + 2)) (by rw [show (2 : Int32) = nI 2 from rfl, nI_add]) ?_
    refine rx_ialdN kl_158 (by omega) (by first | decide | omega) dX11_back_42 ?_
    refine rx_top (z) (e2) ?_
    refine rx_icmp_ge (tgt := 49) dX11_back_43 (by decide) (fun c43 => ?_) (fun c43 => ?_)
    · skip
      exact absurd c43 h
      skip
    · skip
      refine rx_bipush (-2) dX11_back_46 rfl ?_
      exact rx_fiI dX11_back_48 rfl rfl
  · skip
    exact absurd c9 (nI_ne0 (by omega) (by omega))
    skip
set_option maxRecDepth 100000 in
set_option maxHeartbeats 4000000 in
theorem c_X11_back_no {M : Mem} (ec : M.1 140 34 = 0) : Fun yX11_back cX11_back 2 (some .int) 1 [.ref 140] M (some (.int (-1))) (t0 M) := by
  refine Fun.of (own := RX11) ([some (.ref 140), none]) rfl (by decide +kernel) (Nat.le_of_ble_eq_true rfl) rfl ?_
  refine rx_aload_n (i := 0) dX11_back_0 rfl rfl ?_
  refine rx_iconst (0) dX11_back_1 rfl ?_
  refine rx_putI (k := 21) fo_X11_126 fn_11_21 kl_140 (by decide) ty_11_21 dX11_back_2 ?_
  refine rx_aload_n (i := 0) dX11_back_5 rfl rfl ?_
  refine rx_getI (k := 34) fo_X11_319 kl_140 (by decide) ti_11_34 dX11_back_6 ?_
  refine rx_if_ne (tgt := 14) dX11_back_9 (by decide) (fun c9 => ?_) (fun c9 => ?_)
  · skip
    exact absurd ec c9
    skip
  · skip
    refine rx_iconst (-1) dX11_back_12 rfl ?_
    exact rx_fiI dX11_back_13 rfl rfl
set_option maxRecDepth 100000 in
set_option maxHeartbeats 4000000 in
theorem c_X11_today {M : Mem} : Fun yX11_today cX11_today 1 (some .int) 0 [.ref 140] M (some (.int (M.1 140 15))) (t0 M) := by
  refine Fun.of (own := RX11) ([some (.ref 140)]) rfl (by decide +kernel) (Nat.le_of_ble_eq_true rfl) rfl ?_
  refine rx_aload_n (i := 0) dX11_today_0 rfl rfl ?_
  refine rx_iconst (0) dX11_today_1 rfl ?_
  refine rx_putI (k := 21) fo_X11_126 fn_11_21 kl_140 (by decide) ty_11_21 dX11_today_2 ?_
  refine rx_aload_n (i := 0) dX11_today_5 rfl rfl ?_
  refine rx_getI (k := 15) fo_X11_402 kl_140 (by decide) ti_11_15 dX11_today_6 ?_
  exact rx_fiI dX11_today_9 rfl rfl
set_option maxRecDepth 100000 in
set_option maxHeartbeats 4000000 in
theorem c_X11_seed {M : Mem} {x : Int32} : Fun yX11_seed cX11_seed 3 (some .int) 0 [.ref 140, .int x] M (some (.int (M.1 140 16))) (setI (t0 M) 140 16 x) := by
  refine Fun.of (own := RX11) ([some (.ref 140), some (.int x), none]) rfl (by decide +kernel) (Nat.le_of_ble_eq_true rfl) rfl ?_
  refine rx_aload_n (i := 0) dX11_seed_0 rfl rfl ?_
  refine rx_iconst (0) dX11_seed_1 rfl ?_
  refine rx_putI (k := 21) fo_X11_126 fn_11_21 kl_140 (by decide) ty_11_21 dX11_seed_2 ?_
  refine rx_aload_n (i := 0) dX11_seed_5 rfl rfl ?_
  refine rx_getI (k := 16) fo_X11_50 kl_140 (by decide) ti_11_16 dX11_seed_6 ?_
  refine rx_istore_n (i := 2) dX11_seed_9 rfl (by decide) rfl rfl ?_
  refine rx_aload_n (i := 0) dX11_seed_10 rfl rfl ?_
  refine rx_iload_n (i := 1) dX11_seed_11 rfl rfl ?_
  refine rx_putI (k := 16) fo_X11_50 fn_11_16 kl_140 (by decide) ty_11_16 dX11_seed_12 ?_
  refine rx_iload_n (i := 2) dX11_seed_15 rfl rfl ?_
  exact rx_fiI dX11_seed_16 rfl rfl
