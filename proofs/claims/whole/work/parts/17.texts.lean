/-- four signs behind L others -/
def sg (v : Int32) (i : Nat) : Int32 := ush v (nI (24 - 8 * i)) &&& 255
def t4M (M : Mem) (L : Nat) (v : Int32) : Mem := setI (setI (setI (setI (setI M 3 L (sg v 0)) 3 (L + 1) (sg v 1)) 3 (L + 2) (sg v 2)) 3 (L + 3) (sg v 3)) 2 1 (nI (L + 4))
set_option maxRecDepth 100000 in
set_option maxHeartbeats 4000000 in
theorem c_X6_addFour {M : Mem} {L : Nat} (hL : M.1 2 1 = nI L) (h : L + 4 ≤ 80) {v : Int32} : Fun yX6_addFour cX6_addFour 3 (some .boolean) 0 [.ref 2, .int v] M (some (.int 1)) (t4M M L v) := by
  refine Fun.of (own := RX6) ([some (.ref 2), some (.int v), none]) rfl (by decide +kernel) (Nat.le_of_ble_eq_true rfl) rfl ?_
  refine rx_aload_n (i := 0) dX6_addFour_0 rfl rfl ?_
  refine rx_getI (k := 1) fo_X6_15 kl_2 (by decide) ti_6_1 dX6_addFour_1 ?_
  refine rx_top (nI L) hL ?_
  refine rx_iconst (4) dX6_addFour_4 rfl ?_
  refine rx_iadd dX6_addFour_5 ?_
  refine rx_top (nI (L + 4)) (nI_p _ 4 _ rfl) ?_
  refine rx_bipush (80) dX6_addFour_6 rfl ?_
  refine rx_icmp_le (tgt := 13) dX6_addFour_8 (by decide) (fun c8 => ?_) (fun c8 => ?_)
  · skip
    have f8 := Int32.not_lt.mpr c8
    refine rx_iconst (0) dX6_addFour_13 rfl ?_
    refine rx_istore_n (i := 2) dX6_addFour_14 rfl (by decide) rfl rfl ?_
    refine rx_iload_n (i := 2) dX6_addFour_15 rfl rfl ?_
    refine rx_iconst (4) dX6_addFour_16 rfl ?_
    refine rx_icmp_ge (tgt := 50) dX6_addFour_17 (by decide) (fun c17 => absurd c17 (by decide)) (fun c17 => ?_)
    refine rx_aload_n (i := 0) dX6_addFour_20 rfl rfl ?_
    refine rx_getR 3 (k := 0) fo_X6_11 kl_2 (by decide) ti_6_0 (by decide) rfl dX6_addFour_21 ?_
    refine rx_aload_n (i := 0) dX6_addFour_24 rfl rfl ?_
    refine rx_getI (k := 1) fo_X6_15 kl_2 (by decide) ti_6_1 dX6_addFour_25 ?_
    refine rx_top (nI L) (by first | exact hL | (simp only [sI]; simp; exact hL)) ?_
    refine rx_iload_n (i := 2) dX6_addFour_28 rfl rfl ?_
    refine rx_iadd dX6_addFour_29 ?_
    refine rx_top (nI (L + 0)) (nI_p _ 0 _ rfl) ?_
    refine rx_iload_n (i := 1) dX6_addFour_30 rfl rfl ?_
    refine rx_bipush (24) dX6_addFour_31 rfl ?_
    refine rx_bipush (8) dX6_addFour_33 rfl ?_
    refine rx_iload_n (i := 2) dX6_addFour_35 rfl rfl ?_
    refine rx_imul dX6_addFour_36 ?_
    refine rx_isub dX6_addFour_37 ?_
    refine rx_iushr dX6_addFour_38 rfl ?_
    refine rx_sipush (255) dX6_addFour_39 rfl ?_
    refine rx_iand dX6_addFour_42 ?_
    refine rx_iastN kl_3 (by omega) (by first | decide | omega) dX6_addFour_43 ?_
    first | refine rx_iincN (i := 2) dX6_addFour_44 rfl (by decide) rfl rfl ?_ | refine rx_iinc (i := 2) dX6_addFour_44 rfl rfl (by decide) rfl rfl ?_
    refine rx_goto (tgt := 15) dX6_addFour_47 (by decide) ?_
    refine rx_iload_n (i := 2) dX6_addFour_15 rfl rfl ?_
    refine rx_iconst (4) dX6_addFour_16 rfl ?_
    refine rx_icmp_ge (tgt := 50) dX6_addFour_17 (by decide) (fun c17 => absurd c17 (by decide)) (fun c17 => ?_)
    refine rx_aload_n (i := 0) dX6_addFour_20 rfl rfl ?_
    refine rx_getR 3 (k := 0) fo_X6_11 kl_2 (by decide) ti_6_0 (by decide) rfl dX6_addFour_21 ?_
    refine rx_aload_n (i := 0) dX6_addFour_24 rfl rfl ?_
    refine rx_getI (k := 1) fo_X6_15 kl_2 (by decide) ti_6_1 dX6_addFour_25 ?_
    refine rx_top (nI L) (by first | exact hL | (simp only [sI]; simp; exact hL)) ?_
    refine rx_iload_n (i := 2) dX6_addFour_28 rfl rfl ?_
    refine rx_iadd dX6_addFour_29 ?_
    refine rx_top (nI (L + 1)) (nI_p _ 1 _ rfl) ?_
    refine rx_iload_n (i := 1) dX6_addFour_30 rfl rfl ?_
    refine rx_bipush (24) dX6_addFour_31 rfl ?_
    refine rx_bipush (8) dX6_addFour_33 rfl ?_
    refine rx_iload_n (i := 2) dX6_addFour_35 rfl rfl ?_
    refine rx_imul dX6_addFour_36 ?_
    refine rx_isub dX6_addFour_37 ?_
    refine rx_iushr dX6_addFour_38 rfl ?_
    refine rx_sipush (255) dX6_addFour_39 rfl ?_
    refine rx_iand dX6_addFour_42 ?_
    refine rx_iastN kl_3 (by omega) (by first | decide | omega) dX6_addFour_43 ?_
    first | refine rx_iincN (i := 2) dX6_addFour_44 rfl (by decide) rfl rfl ?_ | refine rx_iinc (i := 2) dX6_addFour_44 rfl rfl (by decide) rfl rfl ?_
    refine rx_goto (tgt := 15) dX6_addFour_47 (by decide) ?_
    refine rx_iload_n (i := 2) dX6_addFour_15 rfl rfl ?_
    refine rx_iconst (4) dX6_addFour_16 rfl ?_
    refine rx_icmp_ge (tgt := 50) dX6_addFour_17 (by decide) (fun c17 => absurd c17 (by decide)) (fun c17 => ?_)
    refine rx_aload_n (i := 0) dX6_addFour_20 rfl rfl ?_
    refine rx_getR 3 (k := 0) fo_X6_11 kl_2 (by decide) ti_6_0 (by decide) rfl dX6_addFour_21 ?_
    refine rx_aload_n (i := 0) dX6_addFour_24 rfl rfl ?_
    refine rx_getI (k := 1) fo_X6_15 kl_2 (by decide) ti_6_1 dX6_addFour_25 ?_
    refine rx_top (nI L) (by first | exact hL | (simp only [sI]; simp; exact hL)) ?_
    refine rx_iload_n (i := 2) dX6_addFour_28 rfl rfl ?_
    refine rx_iadd dX6_addFour_29 ?_
    refine rx_top (nI (L + 2)) (nI_p _ 2 _ rfl) ?_
    refine rx_iload_n (i := 1) dX6_addFour_30 rfl rfl ?_
    refine rx_bipush (24) dX6_addFour_31 rfl ?_
    refine rx_bipush (8) dX6_addFour_33 rfl ?_
    refine rx_iload_n (i := 2) dX6_addFour_35 rfl rfl ?_
    refine rx_imul dX6_addFour_36 ?_
    refine rx_isub dX6_addFour_37 ?_
    refine rx_iushr dX6_addFour_38 rfl ?_
    refine rx_sipush (255) dX6_addFour_39 rfl ?_
    refine rx_iand dX6_addFour_42 ?_
    refine rx_iastN kl_3 (by omega) (by first | decide | omega) dX6_addFour_43 ?_
    first | refine rx_iincN (i := 2) dX6_addFour_44 rfl (by decide) rfl rfl ?_ | refine rx_iinc (i := 2) dX6_addFour_44 rfl rfl (by decide) rfl rfl ?_
    refine rx_goto (tgt := 15) dX6_addFour_47 (by decide) ?_
    refine rx_iload_n (i := 2) dX6_addFour_15 rfl rfl ?_
    refine rx_iconst (4) dX6_addFour_16 rfl ?_
    refine rx_icmp_ge (tgt := 50) dX6_addFour_17 (by decide) (fun c17 => absurd c17 (by decide)) (fun c17 => ?_)
    refine rx_aload_n (i := 0) dX6_addFour_20 rfl rfl ?_
    refine rx_getR 3 (k := 0) fo_X6_11 kl_2 (by decide) ti_6_0 (by decide) rfl dX6_addFour_21 ?_
    refine rx_aload_n (i := 0) dX6_addFour_24 rfl rfl ?_
    refine rx_getI (k := 1) fo_X6_15 kl_2 (by decide) ti_6_1 dX6_addFour_25 ?_
    refine rx_top (nI L) (by first | exact hL | (simp only [sI]; simp; exact hL)) ?_
    refine rx_iload_n (i := 2) dX6_addFour_28 rfl rfl ?_
    refine rx_iadd dX6_addFour_29 ?_
    refine rx_top (nI (L + 3)) (nI_p _ 3 _ rfl) ?_
    refine rx_iload_n (i := 1) dX6_addFour_30 rfl rfl ?_
    refine rx_bipush (24) dX6_addFour_31 rfl ?_
    refine rx_bipush (8) dX6_addFour_33 rfl ?_
    refine rx_iload_n (i := 2) dX6_addFour_35 rfl rfl ?_
    refine rx_imul dX6_addFour_36 ?_
    refine rx_isub dX6_addFour_37 ?_
    refine rx_iushr dX6_addFour_38 rfl ?_
    refine rx_sipush (255) dX6_addFour_39 rfl ?_
    refine rx_iand dX6_addFour_42 ?_
    refine rx_iastN kl_3 (by omega) (by first | decide | omega) dX6_addFour_43 ?_
    first | refine rx_iincN (i := 2) dX6_addFour_44 rfl (by decide) rfl rfl ?_ | refine rx_iinc (i := 2) dX6_addFour_44 rfl rfl (by decide) rfl rfl ?_
    refine rx_goto (tgt := 15) dX6_addFour_47 (by decide) ?_
    refine rx_iload_n (i := 2) dX6_addFour_15 rfl rfl ?_
    refine rx_iconst (4) dX6_addFour_16 rfl ?_
    refine rx_icmp_ge (tgt := 50) dX6_addFour_17 (by decide) (fun c17 => ?_) (fun c17 => absurd c17 (by decide))
    refine rx_aload_n (i := 0) dX6_addFour_50 rfl rfl ?_
    refine rx_dup dX6_addFour_51 rfl ?_
    refine rx_getI (k := 1) fo_X6_15 kl_2 (by decide) ti_6_1 dX6_addFour_52 ?_
    refine rx_top (nI L) (by first | exact hL | (simp only [sI]; simp; exact hL)) ?_
    refine rx_iconst (4) dX6_addFour_55 rfl ?_
    refine rx_iadd dX6_addFour_56 ?_
    refine rx_top (nI (L + 4)) (nI_p _ 4 _ rfl) ?_
    refine rx_putI (k := 1) fo_X6_15 fn_6_1 kl_2 (by decide) ty_6_1 dX6_addFour_57 ?_
    refine rx_iconst (1) dX6_addFour_60 rfl ?_
    exact rx_fiZ dX6_addFour_61 (Or.inr rfl) rfl rfl
  · skip
    have f8 := Int32.not_le.mp c8
    exact absurd ((nI_leI (b := 80) (by omega) (by omega)).mpr h) c8
set_option maxRecDepth 100000 in
set_option maxHeartbeats 4000000 in
theorem c_X6_addFour_no {M : Mem} {L : Nat} (hL : M.1 2 1 = nI L) (h : ¬ L + 4 ≤ 80) (hl : L ≤ 80) {v : Int32} : Fun yX6_addFour cX6_addFour 3 (some .boolean) 0 [.ref 2, .int v] M (some (.int 0)) (M) := by
  refine Fun.of (own := RX6) ([some (.ref 2), some (.int v), none]) rfl (by decide +kernel) (Nat.le_of_ble_eq_true rfl) rfl ?_
  refine rx_aload_n (i := 0) dX6_addFour_0 rfl rfl ?_
  refine rx_getI (k := 1) fo_X6_15 kl_2 (by decide) ti_6_1 dX6_addFour_1 ?_
  refine rx_top (nI L) hL ?_
  refine rx_iconst (4) dX6_addFour_4 rfl ?_
  refine rx_iadd dX6_addFour_5 ?_
  refine rx_top (nI (L + 4)) (nI_p _ 4 _ rfl) ?_
  refine rx_bipush (80) dX6_addFour_6 rfl ?_
  refine rx_icmp_le (tgt := 13) dX6_addFour_8 (by decide) (fun c8 => ?_) (fun c8 => ?_)
  · skip
    have f8 := Int32.not_lt.mpr c8
    exact absurd ((nI_leI (b := 80) (by omega) (by omega)).mp c8) h
  · skip
    have f8 := Int32.not_le.mp c8
    refine rx_iconst (0) dX6_addFour_11 rfl ?_
    exact rx_fiZ dX6_addFour_12 (by first | exact Or.inl rfl | exact Or.inr rfl) rfl rfl
set_option maxRecDepth 100000 in
set_option maxHeartbeats 4000000 in
theorem c_X6_cut {M : Mem} {x : Int32} : Fun yX6_cut cX6_cut 2 (some .boolean) 0 [.ref 2, .int x] M (some (.int (if 0 ≤ x ∧ x ≤ M.1 2 1 then 1 else 0))) (if 0 ≤ x ∧ x ≤ M.1 2 1 then setI M 2 1 x else M) := by
  refine Fun.of (own := RX6) ([some (.ref 2), some (.int x)]) rfl (by decide +kernel) (Nat.le_of_ble_eq_true rfl) rfl ?_
  refine rx_iload_n (i := 1) dX6_cut_0 rfl rfl ?_
  refine rx_if_lt (tgt := 12) dX6_cut_1 (by decide) (fun c1 => ?_) (fun c1 => ?_)
  · skip
    have f1 := Int32.not_le.mpr c1
    rw [if_neg (fun h => Int32.not_lt.mpr h.1 c1), if_neg (fun h => Int32.not_lt.mpr h.1 c1)]
    refine rx_iconst (0) dX6_cut_12 rfl ?_
    exact rx_fiZ dX6_cut_13 (by first | exact Or.inl rfl | exact Or.inr rfl) rfl rfl
  · skip
    have f1 := Int32.not_lt.mp c1
    refine rx_iload_n (i := 1) dX6_cut_4 rfl rfl ?_
    refine rx_aload_n (i := 0) dX6_cut_5 rfl rfl ?_
    refine rx_getI (k := 1) fo_X6_15 kl_2 (by decide) ti_6_1 dX6_cut_6 ?_
    refine rx_icmp_le (tgt := 14) dX6_cut_9 (by decide) (fun c9 => ?_) (fun c9 => ?_)
    · skip
      have f9 := Int32.not_lt.mpr c9
      rw [if_pos ⟨Int32.not_lt.mp c1, c9⟩, if_pos ⟨Int32.not_lt.mp c1, c9⟩]
      refine rx_aload_n (i := 0) dX6_cut_14 rfl rfl ?_
      refine rx_iload_n (i := 1) dX6_cut_15 rfl rfl ?_
      refine rx_putI (k := 1) fo_X6_15 fn_6_1 kl_2 (by decide) ty_6_1 dX6_cut_16 ?_
      refine rx_iconst (1) dX6_cut_19 rfl ?_
      exact rx_fiZ dX6_cut_20 (by first | exact Or.inl rfl | exact Or.inr rfl) rfl rfl
    · skip
      have f9 := Int32.not_le.mp c9
      rw [if_neg (fun h => c9 h.2), if_neg (fun h => c9 h.2)]
      refine rx_iconst (0) dX6_cut_12 rfl ?_
      exact rx_fiZ dX6_cut_13 (by first | exact Or.inl rfl | exact Or.inr rfl) rfl rfl
set_option maxRecDepth 100000 in
set_option maxHeartbeats 4000000 in
theorem c_X6_clear {M : Mem} : Fun yX6_clear cX6_clear 1 none 0 [.ref 2] M (none) (setI M 2 1 0) := by
  refine Fun.of (own := RX6) ([some (.ref 2)]) rfl (by decide +kernel) (Nat.le_of_ble_eq_true rfl) rfl ?_
  refine rx_aload_n (i := 0) dX6_clear_0 rfl rfl ?_
  refine rx_iconst (0) dX6_clear_1 rfl ?_
  refine rx_putI (k := 1) fo_X6_15 fn_6_1 kl_2 (by decide) ty_6_1 dX6_clear_2 ?_
  exact rx_fiV dX6_clear_5 rfl
set_option maxRecDepth 100000 in
set_option maxHeartbeats 4000000 in
theorem c_X6_length {M : Mem} : Fun yX6_length cX6_length 1 (some .int) 0 [.ref 2] M (some (.int (M.1 2 1))) (M) := by
  refine Fun.of (own := RX6) ([some (.ref 2)]) rfl (by decide +kernel) (Nat.le_of_ble_eq_true rfl) rfl ?_
  refine rx_aload_n (i := 0) dX6_length_0 rfl rfl ?_
  refine rx_getI (k := 1) fo_X6_15 kl_2 (by decide) ti_6_1 dX6_length_1 ?_
  exact rx_fiI dX6_length_4 rfl rfl
set_option maxRecDepth 100000 in
set_option maxHeartbeats 4000000 in
theorem c_X6_at {M : Mem} {L : Nat} (hL : M.1 2 1 = nI L) (hl : L ≤ 80) {k : Nat} (hk : k < L) : Fun yX6_at cX6_at 2 (some .int) 0 [.ref 2, .int (nI k)] M (some (.int (M.1 3 k))) (M) := by
  refine Fun.of (own := RX6) ([some (.ref 2), some (.int (nI k))]) rfl (by decide +kernel) (Nat.le_of_ble_eq_true rfl) rfl ?_
  refine rx_iload_n (i := 1) dX6_at_0 rfl rfl ?_
  refine rx_if_lt (tgt := 12) dX6_at_1 (by decide) (fun c1 => ?_) (fun c1 => ?_)
  · skip
    have f1 := Int32.not_le.mpr c1
    exact absurd c1 (nI_pos (by omega))
  · skip
    have f1 := Int32.not_lt.mp c1
    refine rx_iload_n (i := 1) dX6_at_4 rfl rfl ?_
    refine rx_aload_n (i := 0) dX6_at_5 rfl rfl ?_
    refine rx_getI (k := 1) fo_X6_15 kl_2 (by decide) ti_6_1 dX6_at_6 ?_
    refine rx_icmp_lt (tgt := 16) dX6_at_9 (by decide) (fun c9 => ?_) (fun c9 => ?_)
    · skip
      have f9 := Int32.not_le.mpr c9
      refine rx_aload_n (i := 0) dX6_at_16 rfl rfl ?_
      refine rx_getR 3 (k := 0) fo_X6_11 kl_2 (by decide) ti_6_0 (by decide) rfl dX6_at_17 ?_
      refine rx_iload_n (i := 1) dX6_at_20 rfl rfl ?_
      refine rx_ialdN kl_3 (by omega) (by first | decide | omega) dX6_at_21 ?_
      exact rx_fiI dX6_at_22 rfl rfl
    · skip
      have f9 := Int32.not_lt.mp c9
      exact absurd (hL ▸ nI_lt hk (by omega)) c9
set_option maxRecDepth 100000 in
set_option maxHeartbeats 4000000 in
theorem c_X7_clear {M : Mem} : Fun yX7_clear cX7_clear 1 none 0 [.ref 4] M (none) (setI M 4 1 0) := by
  refine Fun.of (own := RX7) ([some (.ref 4)]) rfl (by decide +kernel) (Nat.le_of_ble_eq_true rfl) rfl ?_
  refine rx_aload_n (i := 0) dX7_clear_0 rfl rfl ?_
  refine rx_iconst (0) dX7_clear_1 rfl ?_
  refine rx_putI (k := 1) fo_X7_15 fn_7_1 kl_4 (by decide) ty_7_1 dX7_clear_2 ?_
  exact rx_fiV dX7_clear_5 rfl
def adR (M : Mem) (s : Nat) (v : Int64) : Mem := setI (setJ M 5 s v) 4 1 (nI (s + 1))
set_option maxRecDepth 100000 in
set_option maxHeartbeats 4000000 in
theorem c_X7_add {M : Mem} {s : Nat} (hs : M.1 4 1 = nI s) (h : s < 10) {v : Int64} : Fun yX7_add cX7_add 3 none 0 [.ref 4, .long v] M (none) (adR M s v) := by
  refine Fun.of (own := RX7) ([some (.ref 4), some (.long v), none]) rfl (by decide +kernel) (Nat.le_of_ble_eq_true rfl) rfl ?_
  refine rx_aload_n (i := 0) dX7_add_0 rfl rfl ?_
  refine rx_getI (k := 1) fo_X7_15 kl_4 (by decide) ti_7_1 dX7_add_1 ?_
  refine rx_top (nI s) hs ?_
  refine rx_aload_n (i := 0) dX7_add_4 rfl rfl ?_
  refine rx_getR 5 (k := 0) fo_X7_9 kl_4 (by decide) ti_7_0 (by decide) rfl dX7_add_5 ?_
  refine rx_alen (ty := .int) kl_5 (by decide) dX7_add_8 ?_
  refine rx_icmp_ge (tgt := 32) dX7_add_9 (by decide) (fun c9 => ?_) (fun c9 => ?_)
  · skip
    have f9 := Int32.not_lt.mpr c9
    exact absurd ((nI_leI (a := 10) (by omega) (by omega)).mp c9) (by omega)
  · skip
    have f9 := Int32.not_le.mp c9
    refine rx_aload_n (i := 0) dX7_add_12 rfl rfl ?_
    refine rx_getR 5 (k := 0) fo_X7_9 kl_4 (by decide) ti_7_0 (by decide) rfl dX7_add_13 ?_
    refine rx_aload_n (i := 0) dX7_add_16 rfl rfl ?_
    refine rx_getI (k := 1) fo_X7_15 kl_4 (by decide) ti_7_1 dX7_add_17 ?_
    refine rx_top (nI s) hs ?_
    refine rx_lload_n (i := 1) dX7_add_20 rfl rfl ?_
    refine rx_lastN kl_5 (by omega) (by first | decide | omega) dX7_add_21 ?_
    refine rx_aload_n (i := 0) dX7_add_22 rfl rfl ?_
    refine rx_dup dX7_add_23 rfl ?_
    refine rx_getI (k := 1) fo_X7_15 kl_4 (by decide) ti_7_1 dX7_add_24 ?_
    refine rx_top (nI s) hs ?_
    refine rx_iconst (1) dX7_add_27 rfl ?_
    refine rx_iadd dX7_add_28 ?_
    refine rx_top (nI (s + 1)) (nI_succ s).symm ?_
    refine rx_putI (k := 1) fo_X7_15 fn_7_1 kl_4 (by decide) ty_7_1 dX7_add_29 ?_
    exact rx_fiV dX7_add_32 rfl
def r1M (M : Mem) (a : Int64) : Mem := adR (setI M 4 1 0) 0 a
def r2M (M : Mem) (a b : Int64) : Mem := adR (adR (setI M 4 1 0) 0 a) 1 b
set_option maxRecDepth 100000 in
set_option maxHeartbeats 4000000 in
theorem c_X7_tell {M : Mem} {a : Int64} : Fun yX7_tell cX7_tell 3 none 1 [.ref 4, .long a] M (none) (r1M M a) := by
  refine Fun.of (own := RX7) ([some (.ref 4), some (.long a), none]) rfl (by decide +kernel) (Nat.le_of_ble_eq_true rfl) rfl ?_
  refine rx_aload_n (i := 0) dX7_tell_0 rfl rfl ?_
  refine rx_cvN (ci := 7) mo_X7_clear lk_X7_19 c_X7_clear (by decide) rfl rfl (Nat.le_of_ble_eq_true rfl) kl_4 rfl dX7_tell_1 ?_
  refine rx_aload_n (i := 0) dX7_tell_4 rfl rfl ?_
  refine rx_lload_n (i := 1) dX7_tell_5 rfl rfl ?_
  refine rx_cvN (ci := 7) mo_X7_add lk_X7_22 (c_X7_add (s := 0) sI_eq (by decide)) (by decide) rfl rfl (Nat.le_of_ble_eq_true rfl) kl_4 rfl dX7_tell_6 ?_
  exact rx_fiV dX7_tell_9 rfl
set_option maxRecDepth 100000 in
set_option maxHeartbeats 4000000 in
theorem c_X7_tell_ {M : Mem} {a b : Int64} : Fun yX7_tell_ cX7_tell_ 5 none 1 [.ref 4, .long a, .long b] M (none) (r2M M a b) := by
  refine Fun.of (own := RX7) ([some (.ref 4), some (.long a), none, some (.long b), none]) rfl (by decide +kernel) (Nat.le_of_ble_eq_true rfl) rfl ?_
  refine rx_aload_n (i := 0) dX7_tell__0 rfl rfl ?_
  refine rx_cvN (ci := 7) mo_X7_clear lk_X7_19 c_X7_clear (by decide) rfl rfl (Nat.le_of_ble_eq_true rfl) kl_4 rfl dX7_tell__1 ?_
  refine rx_aload_n (i := 0) dX7_tell__4 rfl rfl ?_
  refine rx_lload_n (i := 1) dX7_tell__5 rfl rfl ?_
  refine rx_cvN (ci := 7) mo_X7_add lk_X7_22 (c_X7_add (s := 0) sI_eq (by decide)) (by decide) rfl rfl (Nat.le_of_ble_eq_true rfl) kl_4 rfl dX7_tell__6 ?_
  refine rx_aload_n (i := 0) dX7_tell__9 rfl rfl ?_
  refine rx_lload_n (i := 3) dX7_tell__10 rfl rfl ?_
  refine rx_cvN (ci := 7) mo_X7_add lk_X7_22 (c_X7_add (s := 1) sI_eq (by decide)) (by decide) rfl rfl (Nat.le_of_ble_eq_true rfl) kl_4 rfl dX7_tell__11 ?_
  exact rx_fiV dX7_tell__14 rfl
