
/-- coin from i to j -/
def shM (M : Mem) (t i j : Nat) (x : Int32) : Mem := setI (setI M (t + 1) i (M.1 (t + 1) i - x)) (t + 1) j ((setI M (t + 1) i (M.1 (t + 1) i - x)).1 (t + 1) j + x)
theorem shM_o {M : Mem} {t i j a k : Nat} {x : Int32} (h : a ≠ t + 1) : (shM M t i j x).1 a k = M.1 a k := by unfold shM; rw [sI_na h, sI_na h]
def priceM (M : Mem) (t i k : Nat) : Int32 := if M.1 (t + 3) i = 1 then 0 else M.1 (t + 9) k + M.1 (t + 9) k * M.1 (t + 2) i / 100
/-- a PAYMENT: i pays k, which o owes to g -/
def pyM (M : Mem) (t o g i k : Nat) : Mem :=
  let M1 := shM M t i g (M.1 (t + 9) k)
  setI (setI (setI M1 (t + 13) (8 * o + i) (M.1 (t + 13) (8 * o + i) + priceM M t i k)) (t + 11) k 1) (t + 12) k (nI i)
/-- a PAYMENT undone -/
def upM (M : Mem) (t o g i k : Nat) : Mem :=
  let M1 := shM M t g i (M.1 (t + 9) k)
  setI (setI (setI M1 (t + 13) (8 * o + i) (M.1 (t + 13) (8 * o + i) - priceM M t i k)) (t + 11) k 0) (t + 12) k (-1)

set_option maxRecDepth 100000 in
set_option maxHeartbeats 4000000 in
theorem c_X8_shift {t : Nat} (ht : isTown t) {M : Mem} {i j : Nat} (hi : i < 8) (hj : j < 8) {x : Int32} : Fun yX8_shift cX8_shift 4 none 0 [.ref t, .int (nI i), .int (nI j), .int x] M (none) (shM M t i j x) := by
  refine Fun.of (own := RX8) ([some (.ref t), some (.int (nI i)), some (.int (nI j)), some (.int x)]) rfl (by decide +kernel) (Nat.le_of_ble_eq_true rfl) rfl ?_
  refine rx_aload_n (i := 0) dX8_shift_0 rfl rfl ?_
  refine rx_getR (t + 1) (k := 0) fo_X8_9 (kt_0 ht) (by decide) ti_8_0 (by rintro ⟨-, h⟩; omega) (rt_T ht 0 _ (by omega)) dX8_shift_1 ?_
  refine rx_iload_n (i := 1) dX8_shift_4 rfl rfl ?_
  refine rx_dup2_11 dX8_shift_5 rfl rfl ?_
  refine rx_ialdN (kt_1 ht) (by omega) (by first | decide | omega) dX8_shift_6 ?_
  refine rx_iload_n (i := 3) dX8_shift_7 rfl rfl ?_
  refine rx_isub dX8_shift_8 ?_
  refine rx_iastN (kt_1 ht) (by omega) (by first | decide | omega) dX8_shift_9 ?_
  refine rx_aload_n (i := 0) dX8_shift_10 rfl rfl ?_
  refine rx_getR (t + 1) (k := 0) fo_X8_9 (kt_0 ht) (by decide) ti_8_0 (by rintro ⟨-, h⟩; omega) (rt_T ht 0 _ (by omega)) dX8_shift_11 ?_
  refine rx_iload_n (i := 2) dX8_shift_14 rfl rfl ?_
  refine rx_dup2_11 dX8_shift_15 rfl rfl ?_
  refine rx_ialdN (kt_1 ht) (by omega) (by first | decide | omega) dX8_shift_16 ?_
  refine rx_iload_n (i := 3) dX8_shift_17 rfl rfl ?_
  refine rx_iadd dX8_shift_18 ?_
  refine rx_iastN (kt_1 ht) (by omega) (by first | decide | omega) dX8_shift_19 ?_
  exact rx_fiV dX8_shift_20 rfl
set_option maxRecDepth 100000 in
set_option maxHeartbeats 4000000 in
theorem c_X8_makePayment {t : Nat} (ht : isTown t) {M : Mem} {n m : Nat} (w : TW M t n m) {i k o g : Nat} (hi : i < n) (hk : k < m) (ho : o < n) (hg : g < n) (eo : M.1 (t + 7) k = nI o) (eg : M.1 (t + 8) k = nI g) : Fun yX8_makePayment cX8_makePayment 4 (some .int) 1 [.ref t, .int (nI i), .int (nI k)] M (some (.int (priceM M t i k))) (pyM M t o g i k) := by
  refine Fun.of (own := RX8) ([some (.ref t), some (.int (nI i)), some (.int (nI k)), none]) rfl (by decide +kernel) (Nat.le_of_ble_eq_true rfl) rfl ?_
  have ⟨hn, hn8, hm, hm10, hd⟩ := w
  refine rx_aload_n (i := 0) dX8_makePayment_0 rfl rfl ?_
  refine rx_iload_n (i := 1) dX8_makePayment_1 rfl rfl ?_
  refine rx_iload_n (i := 2) dX8_makePayment_2 rfl rfl ?_
  refine rx_cvI (ci := 8) mo_X8_price lk_X8_114 (c_X8_price ht (by omega) (by omega)) (by decide) rfl rfl (Nat.le_of_ble_eq_true rfl) (kt_0 ht) rfl dX8_makePayment_3 ?_
  refine rx_istore_n (i := 3) dX8_makePayment_6 rfl (by decide) rfl rfl ?_
  refine rx_aload_n (i := 0) dX8_makePayment_7 rfl rfl ?_
  refine rx_iload_n (i := 1) dX8_makePayment_8 rfl rfl ?_
  refine rx_aload_n (i := 0) dX8_makePayment_9 rfl rfl ?_
  refine rx_getR (t + 8) (k := 7) fo_X8_33 (kt_0 ht) (by decide) ti_8_7 (by rintro ⟨-, h⟩; omega) (rt_T ht 7 _ (by omega)) dX8_makePayment_10 ?_
  refine rx_iload_n (i := 2) dX8_makePayment_13 rfl rfl ?_
  refine rx_ialdN (kt_8 ht) (by omega) (by first | decide | omega) dX8_makePayment_14 ?_
  refine rx_top (nI g) eg ?_
  refine rx_aload_n (i := 0) dX8_makePayment_15 rfl rfl ?_
  refine rx_getR (t + 9) (k := 8) fo_X8_36 (kt_0 ht) (by decide) ti_8_8 (by rintro ⟨-, h⟩; omega) (rt_T ht 8 _ (by omega)) dX8_makePayment_16 ?_
  refine rx_iload_n (i := 2) dX8_makePayment_19 rfl rfl ?_
  refine rx_ialdN (kt_9 ht) (by omega) (by first | decide | omega) dX8_makePayment_20 ?_
  refine rx_cvN (ci := 8) mo_X8_shift lk_X8_118 (c_X8_shift ht (by omega) (by omega)) (by decide) rfl rfl (Nat.le_of_ble_eq_true rfl) (kt_0 ht) rfl dX8_makePayment_21 ?_
  refine rx_aload_n (i := 0) dX8_makePayment_24 rfl rfl ?_
  refine rx_getR (t + 13) (k := 12) fo_X8_48 (kt_0 ht) (by decide) ti_8_12 (by rintro ⟨-, h⟩; omega) (rt_T ht 12 _ (by omega)) dX8_makePayment_25 ?_
  refine rx_aload_n (i := 0) dX8_makePayment_28 rfl rfl ?_
  refine rx_getR (t + 7) (k := 6) fo_X8_30 (kt_0 ht) (by decide) ti_8_6 (by rintro ⟨-, h⟩; omega) (rt_T ht 6 _ (by omega)) dX8_makePayment_29 ?_
  refine rx_iload_n (i := 2) dX8_makePayment_32 rfl rfl ?_
  refine rx_ialdN (kt_7 ht) (by omega) (by first | decide | omega) dX8_makePayment_33 ?_
  refine rx_top (nI o) (by rw [shM_o (by omega)]; exact eo) ?_
  refine rx_bipush (8) dX8_makePayment_34 rfl ?_
  refine rx_imul dX8_makePayment_36 ?_
  refine rx_iload_n (i := 1) dX8_makePayment_37 rfl rfl ?_
  refine rx_iadd dX8_makePayment_38 ?_
  refine rx_top (nI (8 * o + i)) (ix8 o i) ?_
  refine rx_dup2_11 dX8_makePayment_39 rfl rfl ?_
  refine rx_ialdN (kt_13 ht) (by omega) (by first | decide | omega) dX8_makePayment_40 ?_
  refine rx_iload_n (i := 3) dX8_makePayment_41 rfl rfl ?_
  refine rx_iadd dX8_makePayment_42 ?_
  refine rx_iastN (kt_13 ht) (by omega) (by first | decide | omega) dX8_makePayment_43 ?_
  refine rx_aload_n (i := 0) dX8_makePayment_44 rfl rfl ?_
  refine rx_getR (t + 11) (k := 10) fo_X8_42 (kt_0 ht) (by decide) ti_8_10 (by rintro ⟨-, h⟩; omega) (rt_T ht 10 _ (by omega)) dX8_makePayment_45 ?_
  refine rx_iload_n (i := 2) dX8_makePayment_48 rfl rfl ?_
  refine rx_iconst (1) dX8_makePayment_49 rfl ?_
  refine rx_iastN (kt_11 ht) (by omega) (by first | decide | omega) dX8_makePayment_50 ?_
  refine rx_aload_n (i := 0) dX8_makePayment_51 rfl rfl ?_
  refine rx_getR (t + 12) (k := 11) fo_X8_45 (kt_0 ht) (by decide) ti_8_11 (by rintro ⟨-, h⟩; omega) (rt_T ht 11 _ (by omega)) dX8_makePayment_52 ?_
  refine rx_iload_n (i := 2) dX8_makePayment_55 rfl rfl ?_
  refine rx_iload_n (i := 1) dX8_makePayment_56 rfl rfl ?_
  refine rx_iastN (kt_12 ht) (by omega) (by first | decide | omega) dX8_makePayment_57 ?_
  refine rx_iload_n (i := 3) dX8_makePayment_58 rfl rfl ?_
  exact rx_fiI dX8_makePayment_59 rfl (by rw [shM_o (by omega)]; rfl)
set_option maxRecDepth 100000 in
set_option maxHeartbeats 4000000 in
theorem c_X8_unmakePayment {t : Nat} (ht : isTown t) {M : Mem} {n m : Nat} (w : TW M t n m) {i k o g : Nat} (hi : i < n) (hk : k < m) (ho : o < n) (hg : g < n) (eo : M.1 (t + 7) k = nI o) (eg : M.1 (t + 8) k = nI g) (ep : M.1 (t + 12) k = nI i) : Fun yX8_unmakePayment cX8_unmakePayment 3 none 1 [.ref t, .int (nI k)] M (none) (upM M t o g i k) := by
  refine Fun.of (own := RX8) ([some (.ref t), some (.int (nI k)), none]) rfl (by decide +kernel) (Nat.le_of_ble_eq_true rfl) rfl ?_
  have ⟨hn, hn8, hm, hm10, hd⟩ := w
  refine rx_aload_n (i := 0) dX8_unmakePayment_0 rfl rfl ?_
  refine rx_iload_n (i := 1) dX8_unmakePayment_1 rfl rfl ?_
  refine rx_cvI (ci := 8) mo_X8_isDebt lk_X8_79 ((c_X8_isDebt ht).conv (by rw [isD_t w hk]) rfl) (by decide) rfl rfl (Nat.le_of_ble_eq_true rfl) (kt_0 ht) rfl dX8_unmakePayment_2 ?_
  refine rx_if_eq (tgt := 21) dX8_unmakePayment_5 (by decide) (fun c5 => ?_) (fun c5 => ?_)
  · skip
    exact absurd c5 (by decide)
  · skip
    refine rx_aload_n (i := 0) dX8_unmakePayment_8 rfl rfl ?_
    refine rx_aload_n (i := 0) dX8_unmakePayment_9 rfl rfl ?_
    refine rx_getR (t + 12) (k := 11) fo_X8_45 (kt_0 ht) (by decide) ti_8_11 (by rintro ⟨-, h⟩; omega) (rt_T ht 11 _ (by omega)) dX8_unmakePayment_10 ?_
    refine rx_iload_n (i := 1) dX8_unmakePayment_13 rfl rfl ?_
    refine rx_ialdN (kt_12 ht) (by omega) (by first | decide | omega) dX8_unmakePayment_14 ?_
    refine rx_top (nI i) ep ?_
    refine rx_cvI (ci := 8) mo_X8_isPerson lk_X8_105 ((c_X8_isPerson ht).conv (by rw [isP_t w hi]) rfl) (by decide) rfl rfl (Nat.le_of_ble_eq_true rfl) (kt_0 ht) rfl dX8_unmakePayment_15 ?_
    refine rx_if_ne (tgt := 22) dX8_unmakePayment_18 (by decide) (fun c18 => ?_) (fun c18 => ?_)
    · skip
      refine rx_aload_n (i := 0) dX8_unmakePayment_22 rfl rfl ?_
      refine rx_getR (t + 12) (k := 11) fo_X8_45 (kt_0 ht) (by decide) ti_8_11 (by rintro ⟨-, h⟩; omega) (rt_T ht 11 _ (by omega)) dX8_unmakePayment_23 ?_
      refine rx_iload_n (i := 1) dX8_unmakePayment_26 rfl rfl ?_
      refine rx_ialdN (kt_12 ht) (by omega) (by first | decide | omega) dX8_unmakePayment_27 ?_
      refine rx_top (nI i) ep ?_
      refine rx_istore_n (i := 2) dX8_unmakePayment_28 rfl (by decide) rfl rfl ?_
      refine rx_aload_n (i := 0) dX8_unmakePayment_29 rfl rfl ?_
      refine rx_aload_n (i := 0) dX8_unmakePayment_30 rfl rfl ?_
      refine rx_getR (t + 8) (k := 7) fo_X8_33 (kt_0 ht) (by decide) ti_8_7 (by rintro ⟨-, h⟩; omega) (rt_T ht 7 _ (by omega)) dX8_unmakePayment_31 ?_
      refine rx_iload_n (i := 1) dX8_unmakePayment_34 rfl rfl ?_
      refine rx_ialdN (kt_8 ht) (by omega) (by first | decide | omega) dX8_unmakePayment_35 ?_
      refine rx_top (nI g) eg ?_
      refine rx_iload_n (i := 2) dX8_unmakePayment_36 rfl rfl ?_
      refine rx_aload_n (i := 0) dX8_unmakePayment_37 rfl rfl ?_
      refine rx_getR (t + 9) (k := 8) fo_X8_36 (kt_0 ht) (by decide) ti_8_8 (by rintro ⟨-, h⟩; omega) (rt_T ht 8 _ (by omega)) dX8_unmakePayment_38 ?_
      refine rx_iload_n (i := 1) dX8_unmakePayment_41 rfl rfl ?_
      refine rx_ialdN (kt_9 ht) (by omega) (by first | decide | omega) dX8_unmakePayment_42 ?_
      refine rx_cvN (ci := 8) mo_X8_shift lk_X8_118 (c_X8_shift ht (by omega) (by omega)) (by decide) rfl rfl (Nat.le_of_ble_eq_true rfl) (kt_0 ht) rfl dX8_unmakePayment_43 ?_
      refine rx_aload_n (i := 0) dX8_unmakePayment_46 rfl rfl ?_
      refine rx_getR (t + 13) (k := 12) fo_X8_48 (kt_0 ht) (by decide) ti_8_12 (by rintro ⟨-, h⟩; omega) (rt_T ht 12 _ (by omega)) dX8_unmakePayment_47 ?_
      refine rx_aload_n (i := 0) dX8_unmakePayment_50 rfl rfl ?_
      refine rx_getR (t + 7) (k := 6) fo_X8_30 (kt_0 ht) (by decide) ti_8_6 (by rintro ⟨-, h⟩; omega) (rt_T ht 6 _ (by omega)) dX8_unmakePayment_51 ?_
      refine rx_iload_n (i := 1) dX8_unmakePayment_54 rfl rfl ?_
      refine rx_ialdN (kt_7 ht) (by omega) (by first | decide | omega) dX8_unmakePayment_55 ?_
      refine rx_top (nI o) (by rw [shM_o (by omega)]; exact eo) ?_
      refine rx_bipush (8) dX8_unmakePayment_56 rfl ?_
      refine rx_imul dX8_unmakePayment_58 ?_
      refine rx_iload_n (i := 2) dX8_unmakePayment_59 rfl rfl ?_
      refine rx_iadd dX8_unmakePayment_60 ?_
      refine rx_top (nI (8 * o + i)) (ix8 o i) ?_
      refine rx_dup2_11 dX8_unmakePayment_61 rfl rfl ?_
      refine rx_ialdN (kt_13 ht) (by omega) (by first | decide | omega) dX8_unmakePayment_62 ?_
      refine rx_aload_n (i := 0) dX8_unmakePayment_63 rfl rfl ?_
      refine rx_iload_n (i := 2) dX8_unmakePayment_64 rfl rfl ?_
      refine rx_iload_n (i := 1) dX8_unmakePayment_65 rfl rfl ?_
      refine rx_cvI (ci := 8) mo_X8_price lk_X8_114 (c_X8_price ht (by omega) (by omega)) (by decide) rfl rfl (Nat.le_of_ble_eq_true rfl) (kt_0 ht) rfl dX8_unmakePayment_66 ?_
      refine rx_isub dX8_unmakePayment_69 ?_
      refine rx_iastN (kt_13 ht) (by omega) (by first | decide | omega) dX8_unmakePayment_70 ?_
      refine rx_aload_n (i := 0) dX8_unmakePayment_71 rfl rfl ?_
      refine rx_getR (t + 11) (k := 10) fo_X8_42 (kt_0 ht) (by decide) ti_8_10 (by rintro ⟨-, h⟩; omega) (rt_T ht 10 _ (by omega)) dX8_unmakePayment_72 ?_
      refine rx_iload_n (i := 1) dX8_unmakePayment_75 rfl rfl ?_
      refine rx_iconst (0) dX8_unmakePayment_76 rfl ?_
      refine rx_iastN (kt_11 ht) (by omega) (by first | decide | omega) dX8_unmakePayment_77 ?_
      refine rx_aload_n (i := 0) dX8_unmakePayment_78 rfl rfl ?_
      refine rx_getR (t + 12) (k := 11) fo_X8_45 (kt_0 ht) (by decide) ti_8_11 (by rintro ⟨-, h⟩; omega) (rt_T ht 11 _ (by omega)) dX8_unmakePayment_79 ?_
      refine rx_iload_n (i := 1) dX8_unmakePayment_82 rfl rfl ?_
      refine rx_iconst (-1) dX8_unmakePayment_83 rfl ?_
      refine rx_iastN (kt_12 ht) (by omega) (by first | decide | omega) dX8_unmakePayment_84 ?_
      exact rx_fiV dX8_unmakePayment_85 (by simp [upM, priceM, shM_o])
    · skip
      exact absurd c18 (by decide)
def soM (M : Mem) (t a b : Nat) : Mem :=
  let x := if M.1 (t + 13) b < M.1 (t + 13) a then M.1 (t + 13) b else M.1 (t + 13) a
  let M1 := setI M (t + 13) a (M.1 (t + 13) a - x)
  setI M1 (t + 13) b (M1.1 (t + 13) b - x)
set_option maxRecDepth 100000 in
set_option maxHeartbeats 4000000 in
theorem c_X8_setOff {t : Nat} (ht : isTown t) {M : Mem} {a b : Nat} (ha : a < 64) (hb : b < 64) : Fun yX8_setOff cX8_setOff 4 (some .int) 1 [.ref t, .int (nI a), .int (nI b)] M (some (.int (2 * (if M.1 (t + 13) b < M.1 (t + 13) a then M.1 (t + 13) b else M.1 (t + 13) a)))) (soM M t a b) := by
  refine Fun.of (own := RX8) ([some (.ref t), some (.int (nI a)), some (.int (nI b)), none]) rfl (by decide +kernel) (Nat.le_of_ble_eq_true rfl) rfl ?_
  refine rx_aload_n (i := 0) dX8_setOff_0 rfl rfl ?_
  refine rx_getR (t + 13) (k := 12) fo_X8_48 (kt_0 ht) (by decide) ti_8_12 (by rintro ⟨-, h⟩; omega) (rt_T ht 12 _ (by omega)) dX8_setOff_1 ?_
  refine rx_iload_n (i := 1) dX8_setOff_4 rfl rfl ?_
  refine rx_ialdN (kt_13 ht) (by omega) (by first | decide | omega) dX8_setOff_5 ?_
  refine rx_aload_n (i := 0) dX8_setOff_6 rfl rfl ?_
  refine rx_getR (t + 13) (k := 12) fo_X8_48 (kt_0 ht) (by decide) ti_8_12 (by rintro ⟨-, h⟩; omega) (rt_T ht 12 _ (by omega)) dX8_setOff_7 ?_
  refine rx_iload_n (i := 2) dX8_setOff_10 rfl rfl ?_
  refine rx_ialdN (kt_13 ht) (by omega) (by first | decide | omega) dX8_setOff_11 ?_
  refine rx_mmin (List.mem_of_getElem? (i := 945) (by decide +kernel)) (by decide) (Nat.le_of_ble_eq_true rfl) dX8_setOff_12 ?_
  refine rx_istore_n (i := 3) dX8_setOff_15 rfl (by decide) rfl rfl ?_
  refine rx_aload_n (i := 0) dX8_setOff_16 rfl rfl ?_
  refine rx_getR (t + 13) (k := 12) fo_X8_48 (kt_0 ht) (by decide) ti_8_12 (by rintro ⟨-, h⟩; omega) (rt_T ht 12 _ (by omega)) dX8_setOff_17 ?_
  refine rx_iload_n (i := 1) dX8_setOff_20 rfl rfl ?_
  refine rx_dup2_11 dX8_setOff_21 rfl rfl ?_
  refine rx_ialdN (kt_13 ht) (by omega) (by first | decide | omega) dX8_setOff_22 ?_
  refine rx_iload_n (i := 3) dX8_setOff_23 rfl rfl ?_
  refine rx_isub dX8_setOff_24 ?_
  refine rx_iastN (kt_13 ht) (by omega) (by first | decide | omega) dX8_setOff_25 ?_
  refine rx_aload_n (i := 0) dX8_setOff_26 rfl rfl ?_
  refine rx_getR (t + 13) (k := 12) fo_X8_48 (kt_0 ht) (by decide) ti_8_12 (by rintro ⟨-, h⟩; omega) (rt_T ht 12 _ (by omega)) dX8_setOff_27 ?_
  refine rx_iload_n (i := 2) dX8_setOff_30 rfl rfl ?_
  refine rx_dup2_11 dX8_setOff_31 rfl rfl ?_
  refine rx_ialdN (kt_13 ht) (by omega) (by first | decide | omega) dX8_setOff_32 ?_
  refine rx_iload_n (i := 3) dX8_setOff_33 rfl rfl ?_
  refine rx_isub dX8_setOff_34 ?_
  refine rx_iastN (kt_13 ht) (by omega) (by first | decide | omega) dX8_setOff_35 ?_
  refine rx_iconst (2) dX8_setOff_36 rfl ?_
  refine rx_iload_n (i := 3) dX8_setOff_37 rfl rfl ?_
  refine rx_imul dX8_setOff_38 ?_
  exact rx_fiI dX8_setOff_39 rfl rfl
theorem ix3 (c : Nat) : (3 : Int32) * nI c = nI (3 * c) := by rw [show (3 : Int32) = nI 3 from rfl, pk_mul]
theorem nI_p (a : Nat) (k : Nat) (v : Int32) (h : v = nI k) : nI a + v = nI (a + k) := by rw [h, nI_add]
theorem nI_m {a : Nat} (k : Nat) (v : Int32) (h : v = nI k) (hk : k ≤ a) : nI a - v = nI (a - k) := by rw [h, pk_sub hk]
def nlM (M : Mem) (t c : Nat) (x y z : Int32) : Mem := setI (setI (setI (setI M (t + 14) (3 * c) x) (t + 14) (3 * c + 1) y) (t + 14) (3 * c + 2) z) t 17 (nI (c + 1))
set_option maxRecDepth 100000 in
set_option maxHeartbeats 4000000 in
theorem c_X8_noteLent {t : Nat} (ht : isTown t) {M : Mem} {c : Nat} (hc : c < 6) (ec : M.1 t 17 = nI c) {x y z : Int32} : Fun yX8_noteLent cX8_noteLent 4 none 0 [.ref t, .int x, .int y, .int z] M (none) (nlM M t c x y z) := by
  refine Fun.of (own := RX8) ([some (.ref t), some (.int x), some (.int y), some (.int z)]) rfl (by decide +kernel) (Nat.le_of_ble_eq_true rfl) rfl ?_
  refine rx_aload_n (i := 0) dX8_noteLent_0 rfl rfl ?_
  refine rx_getI (k := 17) fo_X8_73 (kt_0 ht) (by decide) ti_8_17 dX8_noteLent_1 ?_
  refine rx_top (nI c) ec ?_
  refine rx_bipush (6) dX8_noteLent_4 rfl ?_
  refine rx_icmp_ge (tgt := 59) dX8_noteLent_6 (by decide) (fun c6 => ?_) (fun c6 => ?_)
  · skip
    have f6 := Int32.not_lt.mpr c6
    exact absurd ((nI_leI (a := 6) (by omega) (by omega)).mp c6) (by omega)
  · skip
    have f6 := Int32.not_le.mp c6
    refine rx_aload_n (i := 0) dX8_noteLent_9 rfl rfl ?_
    refine rx_getR (t + 14) (k := 13) fo_X8_51 (kt_0 ht) (by decide) ti_8_13 (by rintro ⟨-, h⟩; omega) (rt_T ht 13 _ (by omega)) dX8_noteLent_10 ?_
    refine rx_iconst (3) dX8_noteLent_13 rfl ?_
    refine rx_aload_n (i := 0) dX8_noteLent_14 rfl rfl ?_
    refine rx_getI (k := 17) fo_X8_73 (kt_0 ht) (by decide) ti_8_17 dX8_noteLent_15 ?_
    refine rx_top (nI c) ec ?_
    refine rx_imul dX8_noteLent_18 ?_
    refine rx_top (nI (3 * c)) (ix3 c) ?_
    refine rx_iload_n (i := 1) dX8_noteLent_19 rfl rfl ?_
    refine rx_iastN (kt_14 ht) (by omega) (by first | decide | omega) dX8_noteLent_20 ?_
    refine rx_aload_n (i := 0) dX8_noteLent_21 rfl rfl ?_
    refine rx_getR (t + 14) (k := 13) fo_X8_51 (kt_0 ht) (by decide) ti_8_13 (by rintro ⟨-, h⟩; omega) (rt_T ht 13 _ (by omega)) dX8_noteLent_22 ?_
    refine rx_iconst (3) dX8_noteLent_25 rfl ?_
    refine rx_aload_n (i := 0) dX8_noteLent_26 rfl rfl ?_
    refine rx_getI (k := 17) fo_X8_73 (kt_0 ht) (by decide) ti_8_17 dX8_noteLent_27 ?_
    refine rx_top (nI c) (by rw [sI_na (by omega)]; exact ec) ?_
    refine rx_imul dX8_noteLent_30 ?_
    refine rx_top (nI (3 * c)) (ix3 c) ?_
    refine rx_iconst (1) dX8_noteLent_31 rfl ?_
    refine rx_iadd dX8_noteLent_32 ?_
    refine rx_top (nI (3 * c + 1)) (nI_p _ 1 _ rfl) ?_
    refine rx_iload_n (i := 2) dX8_noteLent_33 rfl rfl ?_
    refine rx_iastN (kt_14 ht) (by omega) (by first | decide | omega) dX8_noteLent_34 ?_
    refine rx_aload_n (i := 0) dX8_noteLent_35 rfl rfl ?_
    refine rx_getR (t + 14) (k := 13) fo_X8_51 (kt_0 ht) (by decide) ti_8_13 (by rintro ⟨-, h⟩; omega) (rt_T ht 13 _ (by omega)) dX8_noteLent_36 ?_
    refine rx_iconst (3) dX8_noteLent_39 rfl ?_
    refine rx_aload_n (i := 0) dX8_noteLent_40 rfl rfl ?_
    refine rx_getI (k := 17) fo_X8_73 (kt_0 ht) (by decide) ti_8_17 dX8_noteLent_41 ?_
    refine rx_top (nI c) (by rw [sI_na (by omega), sI_na (by omega)]; exact ec) ?_
    refine rx_imul dX8_noteLent_44 ?_
    refine rx_top (nI (3 * c)) (ix3 c) ?_
    refine rx_iconst (2) dX8_noteLent_45 rfl ?_
    refine rx_iadd dX8_noteLent_46 ?_
    refine rx_top (nI (3 * c + 2)) (nI_p _ 2 _ rfl) ?_
    refine rx_iload_n (i := 3) dX8_noteLent_47 rfl rfl ?_
    refine rx_iastN (kt_14 ht) (by omega) (by first | decide | omega) dX8_noteLent_48 ?_
    refine rx_aload_n (i := 0) dX8_noteLent_49 rfl rfl ?_
    refine rx_dup dX8_noteLent_50 rfl ?_
    refine rx_getI (k := 17) fo_X8_73 (kt_0 ht) (by decide) ti_8_17 dX8_noteLent_51 ?_
    refine rx_top (nI c) (by rw [sI_na (by omega), sI_na (by omega), sI_na (by omega)]; exact ec) ?_
    refine rx_iconst (1) dX8_noteLent_54 rfl ?_
    refine rx_iadd dX8_noteLent_55 ?_
    refine rx_top (nI (c + 1)) (nI_succ c).symm ?_
    refine rx_putI (k := 17) fo_X8_73 fn_8_17 (kt_0 ht) (by decide) ty_8_17 dX8_noteLent_56 ?_
    exact rx_fiV dX8_noteLent_59 rfl
set_option maxRecDepth 100000 in
set_option maxHeartbeats 4000000 in
theorem c_X8_giveLastBack_no {t : Nat} (ht : isTown t) {M : Mem} (h : M.1 t 17 < 1) : Fun yX8_giveLastBack cX8_giveLastBack 4 (some .boolean) 2 [.ref t] M (some (.int 0)) (M) := by
  refine Fun.of (own := RX8) ([some (.ref t), none, none, none]) rfl (by decide +kernel) (Nat.le_of_ble_eq_true rfl) rfl ?_
  refine rx_aload_n (i := 0) dX8_giveLastBack_0 rfl rfl ?_
  refine rx_getI (k := 17) fo_X8_73 (kt_0 ht) (by decide) ti_8_17 dX8_giveLastBack_1 ?_
  refine rx_iconst (1) dX8_giveLastBack_4 rfl ?_
  refine rx_icmp_ge (tgt := 10) dX8_giveLastBack_5 (by decide) (fun c5 => ?_) (fun c5 => ?_)
  · skip
    have f5 := Int32.not_lt.mpr c5
    exact absurd h f5
  · skip
    have f5 := Int32.not_le.mp c5
    refine rx_iconst (0) dX8_giveLastBack_8 rfl ?_
    exact rx_fiZ dX8_giveLastBack_9 (by first | exact Or.inl rfl | exact Or.inr rfl) rfl rfl
def gbM (M : Mem) (t a b c : Nat) (x : Int32) : Mem := setI (shM M t b a x) t 17 (nI (c - 1))
set_option maxRecDepth 100000 in
set_option maxHeartbeats 4000000 in
theorem c_X8_giveLastBack {t : Nat} (ht : isTown t) {M : Mem} {n m : Nat} (w : TW M t n m) {a b c : Nat} {x : Int32} (ha : a < n) (hb : b < n) (hab : a ≠ b) (hc : 1 ≤ c) (hc6 : c ≤ 6) (ec : M.1 t 17 = nI c) (e1 : M.1 (t + 14) (3 * c - 3) = nI a) (e2 : M.1 (t + 14) (3 * c - 2) = nI b) (e3 : M.1 (t + 14) (3 * c - 1) = x) (hx : 1 ≤ x) (hcg : x ≤ M.1 (t + 1) b - M.1 (t + 4) b) : Fun yX8_giveLastBack cX8_giveLastBack 4 (some .boolean) 2 [.ref t] M (some (.int 1)) (gbM M t a b c x) := by
  refine Fun.of (own := RX8) ([some (.ref t), none, none, none]) rfl (by decide +kernel) (Nat.le_of_ble_eq_true rfl) rfl ?_
  have ⟨hn, hn8, hm, hm10, hd⟩ := w
  refine rx_aload_n (i := 0) dX8_giveLastBack_0 rfl rfl ?_
  refine rx_getI (k := 17) fo_X8_73 (kt_0 ht) (by decide) ti_8_17 dX8_giveLastBack_1 ?_
  refine rx_top (nI c) ec ?_
  refine rx_iconst (1) dX8_giveLastBack_4 rfl ?_
  refine rx_icmp_ge (tgt := 10) dX8_giveLastBack_5 (by decide) (fun c5 => ?_) (fun c5 => ?_)
  · skip
    have f5 := Int32.not_lt.mpr c5
    refine rx_aload_n (i := 0) dX8_giveLastBack_10 rfl rfl ?_
    refine rx_getR (t + 14) (k := 13) fo_X8_51 (kt_0 ht) (by decide) ti_8_13 (by rintro ⟨-, h⟩; omega) (rt_T ht 13 _ (by omega)) dX8_giveLastBack_11 ?_
    refine rx_iconst (3) dX8_giveLastBack_14 rfl ?_
    refine rx_aload_n (i := 0) dX8_giveLastBack_15 rfl rfl ?_
    refine rx_getI (k := 17) fo_X8_73 (kt_0 ht) (by decide) ti_8_17 dX8_giveLastBack_16 ?_
    refine rx_top (nI c) ec ?_
    refine rx_imul dX8_giveLastBack_19 ?_
    refine rx_top (nI (3 * c)) (ix3 c) ?_
    refine rx_iconst (3) dX8_giveLastBack_20 rfl ?_
    refine rx_isub dX8_giveLastBack_21 ?_
    refine rx_top (nI (3 * c - 3)) (nI_m 3 _ rfl (by omega)) ?_
    refine rx_ialdN (kt_14 ht) (by omega) (by first | decide | omega) dX8_giveLastBack_22 ?_
    refine rx_top (nI a) e1 ?_
    refine rx_istore_n (i := 1) dX8_giveLastBack_23 rfl (by decide) rfl rfl ?_
    refine rx_aload_n (i := 0) dX8_giveLastBack_24 rfl rfl ?_
    refine rx_getR (t + 14) (k := 13) fo_X8_51 (kt_0 ht) (by decide) ti_8_13 (by rintro ⟨-, h⟩; omega) (rt_T ht 13 _ (by omega)) dX8_giveLastBack_25 ?_
    refine rx_iconst (3) dX8_giveLastBack_28 rfl ?_
    refine rx_aload_n (i := 0) dX8_giveLastBack_29 rfl rfl ?_
    refine rx_getI (k := 17) fo_X8_73 (kt_0 ht) (by decide) ti_8_17 dX8_giveLastBack_30 ?_
    refine rx_top (nI c) ec ?_
    refine rx_imul dX8_giveLastBack_33 ?_
    refine rx_top (nI (3 * c)) (ix3 c) ?_
    refine rx_iconst (2) dX8_giveLastBack_34 rfl ?_
    refine rx_isub dX8_giveLastBack_35 ?_
    refine rx_top (nI (3 * c - 2)) (nI_m 2 _ rfl (by omega)) ?_
    refine rx_ialdN (kt_14 ht) (by omega) (by first | decide | omega) dX8_giveLastBack_36 ?_
    refine rx_top (nI b) e2 ?_
    refine rx_istore_n (i := 2) dX8_giveLastBack_37 rfl (by decide) rfl rfl ?_
    refine rx_aload_n (i := 0) dX8_giveLastBack_38 rfl rfl ?_
    refine rx_getR (t + 14) (k := 13) fo_X8_51 (kt_0 ht) (by decide) ti_8_13 (by rintro ⟨-, h⟩; omega) (rt_T ht 13 _ (by omega)) dX8_giveLastBack_39 ?_
    refine rx_iconst (3) dX8_giveLastBack_42 rfl ?_
    refine rx_aload_n (i := 0) dX8_giveLastBack_43 rfl rfl ?_
    refine rx_getI (k := 17) fo_X8_73 (kt_0 ht) (by decide) ti_8_17 dX8_giveLastBack_44 ?_
    refine rx_top (nI c) ec ?_
    refine rx_imul dX8_giveLastBack_47 ?_
    refine rx_top (nI (3 * c)) (ix3 c) ?_
    refine rx_iconst (1) dX8_giveLastBack_48 rfl ?_
    refine rx_isub dX8_giveLastBack_49 ?_
    refine rx_top (nI (3 * c - 1)) (nI_m 1 _ rfl (by omega)) ?_
    refine rx_ialdN (kt_14 ht) (by omega) (by first | decide | omega) dX8_giveLastBack_50 ?_
    refine rx_top x e3 ?_
    refine rx_istore_n (i := 3) dX8_giveLastBack_51 rfl (by decide) rfl rfl ?_
    refine rx_aload_n (i := 0) dX8_giveLastBack_52 rfl rfl ?_
    refine rx_iload_n (i := 2) dX8_giveLastBack_53 rfl rfl ?_
    refine rx_iload_n (i := 1) dX8_giveLastBack_54 rfl rfl ?_
    refine rx_iload_n (i := 3) dX8_giveLastBack_55 rfl rfl ?_
    refine rx_cvI (ci := 8) mo_X8_canGive lk_X8_127 ((c_X8_canGive ht w).conv (by rw [if_pos ⟨(hn ▸ (inN (by omega)).mpr ⟨b, hb, rfl⟩), (hn ▸ (inN (by omega)).mpr ⟨a, ha, rfl⟩), fun q => hab ((nI_eq (by omega) (by omega)).mp q).symm, hx, by rw [nI_clamp (by omega)]; exact hcg⟩]) rfl) (by decide) rfl rfl (Nat.le_of_ble_eq_true rfl) (kt_0 ht) rfl dX8_giveLastBack_56 ?_
    refine rx_if_ne (tgt := 64) dX8_giveLastBack_59 (by decide) (fun c59 => ?_) (fun c59 => ?_)
    · skip
      refine rx_aload_n (i := 0) dX8_giveLastBack_64 rfl rfl ?_
      refine rx_iload_n (i := 2) dX8_giveLastBack_65 rfl rfl ?_
      refine rx_iload_n (i := 1) dX8_giveLastBack_66 rfl rfl ?_
      refine rx_iload_n (i := 3) dX8_giveLastBack_67 rfl rfl ?_
      refine rx_cvN (ci := 8) mo_X8_shift lk_X8_118 (c_X8_shift ht (by omega) (by omega)) (by decide) rfl rfl (Nat.le_of_ble_eq_true rfl) (kt_0 ht) rfl dX8_giveLastBack_68 ?_
      refine rx_aload_n (i := 0) dX8_giveLastBack_71 rfl rfl ?_
      refine rx_dup dX8_giveLastBack_72 rfl ?_
      refine rx_getI (k := 17) fo_X8_73 (kt_0 ht) (by decide) ti_8_17 dX8_giveLastBack_73 ?_
      refine rx_top (nI c) (by rw [shM_o (by omega)]; exact ec) ?_
      refine rx_iconst (1) dX8_giveLastBack_76 rfl ?_
      refine rx_isub dX8_giveLastBack_77 ?_
      refine rx_top (nI (c - 1)) (nI_m 1 _ rfl (by omega)) ?_
      refine rx_putI (k := 17) fo_X8_73 fn_8_17 (kt_0 ht) (by decide) ty_8_17 dX8_giveLastBack_78 ?_
      refine rx_iconst (1) dX8_giveLastBack_81 rfl ?_
      exact rx_fiZ dX8_giveLastBack_82 (by first | exact Or.inl rfl | exact Or.inr rfl) rfl rfl
    · skip
      exact absurd c59 (by decide)
  · skip
    have f5 := Int32.not_le.mp c5
    exact absurd ((nI_leI (a := 1) (by omega) (by omega)).mpr hc) c5
set_option maxRecDepth 100000 in
set_option maxHeartbeats 4000000 in
theorem c_X8_giveLastBack_2 {t : Nat} (ht : isTown t) {M : Mem} {n m : Nat} (w : TW M t n m) {a b c : Nat} {x : Int32} (ha : a < n) (hb : b < n) (hab : a ≠ b) (hc : 1 ≤ c) (hc6 : c ≤ 6) (ec : M.1 t 17 = nI c) (e1 : M.1 (t + 14) (3 * c - 3) = nI a) (e2 : M.1 (t + 14) (3 * c - 2) = nI b) (e3 : M.1 (t + 14) (3 * c - 1) = x) (hcg : ¬ x ≤ M.1 (t + 1) b - M.1 (t + 4) b) : Fun yX8_giveLastBack cX8_giveLastBack 4 (some .boolean) 2 [.ref t] M (some (.int 0)) (M) := by
  refine Fun.of (own := RX8) ([some (.ref t), none, none, none]) rfl (by decide +kernel) (Nat.le_of_ble_eq_true rfl) rfl ?_
  have ⟨hn, hn8, hm, hm10, hd⟩ := w
  refine rx_aload_n (i := 0) dX8_giveLastBack_0 rfl rfl ?_
  refine rx_getI (k := 17) fo_X8_73 (kt_0 ht) (by decide) ti_8_17 dX8_giveLastBack_1 ?_
  refine rx_top (nI c) ec ?_
  refine rx_iconst (1) dX8_giveLastBack_4 rfl ?_
  refine rx_icmp_ge (tgt := 10) dX8_giveLastBack_5 (by decide) (fun c5 => ?_) (fun c5 => ?_)
  · skip
    have f5 := Int32.not_lt.mpr c5
    refine rx_aload_n (i := 0) dX8_giveLastBack_10 rfl rfl ?_
    refine rx_getR (t + 14) (k := 13) fo_X8_51 (kt_0 ht) (by decide) ti_8_13 (by rintro ⟨-, h⟩; omega) (rt_T ht 13 _ (by omega)) dX8_giveLastBack_11 ?_
    refine rx_iconst (3) dX8_giveLastBack_14 rfl ?_
    refine rx_aload_n (i := 0) dX8_giveLastBack_15 rfl rfl ?_
    refine rx_getI (k := 17) fo_X8_73 (kt_0 ht) (by decide) ti_8_17 dX8_giveLastBack_16 ?_
    refine rx_top (nI c) ec ?_
    refine rx_imul dX8_giveLastBack_19 ?_
    refine rx_top (nI (3 * c)) (ix3 c) ?_
    refine rx_iconst (3) dX8_giveLastBack_20 rfl ?_
    refine rx_isub dX8_giveLastBack_21 ?_
    refine rx_top (nI (3 * c - 3)) (nI_m 3 _ rfl (by omega)) ?_
    refine rx_ialdN (kt_14 ht) (by omega) (by first | decide | omega) dX8_giveLastBack_22 ?_
    refine rx_top (nI a) e1 ?_
    refine rx_istore_n (i := 1) dX8_giveLastBack_23 rfl (by decide) rfl rfl ?_
    refine rx_aload_n (i := 0) dX8_giveLastBack_24 rfl rfl ?_
    refine rx_getR (t + 14) (k := 13) fo_X8_51 (kt_0 ht) (by decide) ti_8_13 (by rintro ⟨-, h⟩; omega) (rt_T ht 13 _ (by omega)) dX8_giveLastBack_25 ?_
    refine rx_iconst (3) dX8_giveLastBack_28 rfl ?_
    refine rx_aload_n (i := 0) dX8_giveLastBack_29 rfl rfl ?_
    refine rx_getI (k := 17) fo_X8_73 (kt_0 ht) (by decide) ti_8_17 dX8_giveLastBack_30 ?_
    refine rx_top (nI c) ec ?_
    refine rx_imul dX8_giveLastBack_33 ?_
    refine rx_top (nI (3 * c)) (ix3 c) ?_
    refine rx_iconst (2) dX8_giveLastBack_34 rfl ?_
    refine rx_isub dX8_giveLastBack_35 ?_
    refine rx_top (nI (3 * c - 2)) (nI_m 2 _ rfl (by omega)) ?_
    refine rx_ialdN (kt_14 ht) (by omega) (by first | decide | omega) dX8_giveLastBack_36 ?_
    refine rx_top (nI b) e2 ?_
    refine rx_istore_n (i := 2) dX8_giveLastBack_37 rfl (by decide) rfl rfl ?_
    refine rx_aload_n (i := 0) dX8_giveLastBack_38 rfl rfl ?_
    refine rx_getR (t + 14) (k := 13) fo_X8_51 (kt_0 ht) (by decide) ti_8_13 (by rintro ⟨-, h⟩; omega) (rt_T ht 13 _ (by omega)) dX8_giveLastBack_39 ?_
    refine rx_iconst (3) dX8_giveLastBack_42 rfl ?_
    refine rx_aload_n (i := 0) dX8_giveLastBack_43 rfl rfl ?_
    refine rx_getI (k := 17) fo_X8_73 (kt_0 ht) (by decide) ti_8_17 dX8_giveLastBack_44 ?_
    refine rx_top (nI c) ec ?_
    refine rx_imul dX8_giveLastBack_47 ?_
    refine rx_top (nI (3 * c)) (ix3 c) ?_
    refine rx_iconst (1) dX8_giveLastBack_48 rfl ?_
    refine rx_isub dX8_giveLastBack_49 ?_
    refine rx_top (nI (3 * c - 1)) (nI_m 1 _ rfl (by omega)) ?_
    refine rx_ialdN (kt_14 ht) (by omega) (by first | decide | omega) dX8_giveLastBack_50 ?_
    refine rx_top x e3 ?_
    refine rx_istore_n (i := 3) dX8_giveLastBack_51 rfl (by decide) rfl rfl ?_
    refine rx_aload_n (i := 0) dX8_giveLastBack_52 rfl rfl ?_
    refine rx_iload_n (i := 2) dX8_giveLastBack_53 rfl rfl ?_
    refine rx_iload_n (i := 1) dX8_giveLastBack_54 rfl rfl ?_
    refine rx_iload_n (i := 3) dX8_giveLastBack_55 rfl rfl ?_
    refine rx_cvI (ci := 8) mo_X8_canGive lk_X8_127 ((c_X8_canGive ht w).conv (by rw [if_neg (fun q => hcg (by have := q.2.2.2.2; rw [nI_clamp (by omega)] at this; exact this))]) rfl) (by decide) rfl rfl (Nat.le_of_ble_eq_true rfl) (kt_0 ht) rfl dX8_giveLastBack_56 ?_
    refine rx_if_ne (tgt := 64) dX8_giveLastBack_59 (by decide) (fun c59 => ?_) (fun c59 => ?_)
    · skip
      exact absurd rfl c59
    · skip
      refine rx_iconst (0) dX8_giveLastBack_62 rfl ?_
      exact rx_fiZ dX8_giveLastBack_63 (by first | exact Or.inl rfl | exact Or.inr rfl) rfl rfl
  · skip
    have f5 := Int32.not_le.mp c5
    exact absurd ((nI_leI (a := 1) (by omega) (by omega)).mpr hc) c5
def rnd (r : Int32) : Int32 := r * 1103515245 + 12345
def drw (r : Int32) : Int32 := ush (rnd r) 16 - ush (rnd r) 16 / 10 * 10
set_option maxRecDepth 100000 in
set_option maxHeartbeats 4000000 in
theorem c_X8_draw {t : Nat} (ht : isTown t) {M : Mem} : Fun yX8_draw cX8_draw 2 (some .int) 0 [.ref t, .int 10] M (some (.int (drw (M.1 t 19)))) (setI M t 19 (rnd (M.1 t 19))) := by
  refine Fun.of (own := RX8) ([some (.ref t), some (.int 10)]) rfl (by decide +kernel) (Nat.le_of_ble_eq_true rfl) rfl ?_
  refine rx_aload_n (i := 0) dX8_draw_0 rfl rfl ?_
  refine rx_aload_n (i := 0) dX8_draw_1 rfl rfl ?_
  refine rx_getI (k := 19) fo_X8_57 (kt_0 ht) (by decide) ti_8_19 dX8_draw_2 ?_
  refine rx_ldc (own := RX8) (v := (1103515245)) (List.mem_of_getElem? (i := 782) (by decide +kernel)) dX8_draw_5 ?_
  refine rx_imul dX8_draw_7 ?_
  refine rx_sipush (12345) dX8_draw_8 rfl ?_
  refine rx_iadd dX8_draw_11 ?_
  refine rx_putI (k := 19) fo_X8_57 fn_8_19 (kt_0 ht) (by decide) ty_8_19 dX8_draw_12 ?_
  refine rx_iload_n (i := 1) dX8_draw_15 rfl rfl ?_
  refine rx_if_le (tgt := 31) dX8_draw_16 (by decide) (fun c16 => ?_) (fun c16 => ?_)
  · skip
    have f16 := Int32.not_lt.mpr c16
    exact absurd c16 (by decide)
  · skip
    have f16 := Int32.not_le.mp c16
    refine rx_aload_n (i := 0) dX8_draw_19 rfl rfl ?_
    refine rx_getI (k := 19) fo_X8_57 (kt_0 ht) (by decide) ti_8_19 dX8_draw_20 ?_
    refine rx_bipush (16) dX8_draw_23 rfl ?_
    refine rx_iushr dX8_draw_25 rfl ?_
    refine rx_iload_n (i := 1) dX8_draw_26 rfl rfl ?_
    refine rx_irem dX8_draw_27 (by decide) ?_
    refine rx_goto (tgt := 32) dX8_draw_28 (by decide) ?_
    exact rx_fiI dX8_draw_32 (by rw [sI_eq]; rfl) rfl
def apM (M : Mem) (t n : Nat) (x y z : Int32) : Mem := setI (setI (setI (setI (setI (setI M (t + 1) n x) (t + 2) n y) (t + 3) n (if z = 0 then 0 else 1)) (t + 4) n 0) (t + 5) n x) t 15 (nI (n + 1))
set_option maxRecDepth 100000 in
set_option maxHeartbeats 4000000 in
theorem c_X8_addPerson {t : Nat} (ht : isTown t) {M : Mem} {n : Nat} (hn : M.1 t 15 = nI n) (h8 : n < 8) {x y z : Int32} : Fun yX8_addPerson cX8_addPerson 4 (some .boolean) 0 [.ref t, .int x, .int y, .int z] M (some (.int 1)) (apM M t n x y z) := by
  refine Fun.of (own := RX8) ([some (.ref t), some (.int x), some (.int y), some (.int z)]) rfl (by decide +kernel) (Nat.le_of_ble_eq_true rfl) rfl ?_
  refine rx_aload_n (i := 0) dX8_addPerson_0 rfl rfl ?_
  refine rx_getI (k := 15) fo_X8_67 (kt_0 ht) (by decide) ti_8_15 dX8_addPerson_1 ?_
  refine rx_top (nI n) hn ?_
  refine rx_bipush (8) dX8_addPerson_4 rfl ?_
  refine rx_icmp_lt (tgt := 11) dX8_addPerson_6 (by decide) (fun c6 => ?_) (fun c6 => ?_)
  · skip
    have f6 := Int32.not_le.mpr c6
    refine rx_aload_n (i := 0) dX8_addPerson_11 rfl rfl ?_
    refine rx_getR (t + 1) (k := 0) fo_X8_9 (kt_0 ht) (by decide) ti_8_0 (by rintro ⟨-, h⟩; omega) (rt_T ht 0 _ (by omega)) dX8_addPerson_12 ?_
    refine rx_aload_n (i := 0) dX8_addPerson_15 rfl rfl ?_
    refine rx_getI (k := 15) fo_X8_67 (kt_0 ht) (by decide) ti_8_15 dX8_addPerson_16 ?_
    refine rx_top (nI n) hn ?_
    refine rx_iload_n (i := 1) dX8_addPerson_19 rfl rfl ?_
    refine rx_iastN (kt_1 ht) (by omega) (by first | decide | omega) dX8_addPerson_20 ?_
    refine rx_aload_n (i := 0) dX8_addPerson_21 rfl rfl ?_
    refine rx_getR (t + 2) (k := 1) fo_X8_15 (kt_0 ht) (by decide) ti_8_1 (by rintro ⟨-, h⟩; omega) (rt_T ht 1 _ (by omega)) dX8_addPerson_22 ?_
    refine rx_aload_n (i := 0) dX8_addPerson_25 rfl rfl ?_
    refine rx_getI (k := 15) fo_X8_67 (kt_0 ht) (by decide) ti_8_15 dX8_addPerson_26 ?_
    refine rx_top (nI n) (by simp only [sI]; simp; exact hn) ?_
    refine rx_iload_n (i := 2) dX8_addPerson_29 rfl rfl ?_
    refine rx_iastN (kt_2 ht) (by omega) (by first | decide | omega) dX8_addPerson_30 ?_
    refine rx_aload_n (i := 0) dX8_addPerson_31 rfl rfl ?_
    refine rx_getR (t + 3) (k := 2) fo_X8_18 (kt_0 ht) (by decide) ti_8_2 (by rintro ⟨-, h⟩; omega) (rt_T ht 2 _ (by omega)) dX8_addPerson_32 ?_
    refine rx_aload_n (i := 0) dX8_addPerson_35 rfl rfl ?_
    refine rx_getI (k := 15) fo_X8_67 (kt_0 ht) (by decide) ti_8_15 dX8_addPerson_36 ?_
    refine rx_top (nI n) (by simp only [sI]; simp; exact hn) ?_
    refine rx_iload_n (i := 3) dX8_addPerson_39 rfl rfl ?_
    refine rx_if_eq (tgt := 47) dX8_addPerson_40 (by decide) (fun c40 => ?_) (fun c40 => ?_)
    · skip
      unfold apM
      rw [if_pos c40]
      refine rx_iconst (0) dX8_addPerson_47 rfl ?_
      refine rx_iastN (kt_3 ht) (by omega) (by first | decide | omega) dX8_addPerson_48 ?_
      refine rx_aload_n (i := 0) dX8_addPerson_49 rfl rfl ?_
      refine rx_getR (t + 4) (k := 3) fo_X8_21 (kt_0 ht) (by decide) ti_8_3 (by rintro ⟨-, h⟩; omega) (rt_T ht 3 _ (by omega)) dX8_addPerson_50 ?_
      refine rx_aload_n (i := 0) dX8_addPerson_53 rfl rfl ?_
      refine rx_getI (k := 15) fo_X8_67 (kt_0 ht) (by decide) ti_8_15 dX8_addPerson_54 ?_
      refine rx_top (nI n) (by simp only [sI]; simp; exact hn) ?_
      refine rx_iconst (0) dX8_addPerson_57 rfl ?_
      refine rx_iastN (kt_4 ht) (by omega) (by first | decide | omega) dX8_addPerson_58 ?_
      refine rx_aload_n (i := 0) dX8_addPerson_59 rfl rfl ?_
      refine rx_getR (t + 5) (k := 4) fo_X8_24 (kt_0 ht) (by decide) ti_8_4 (by rintro ⟨-, h⟩; omega) (rt_T ht 4 _ (by omega)) dX8_addPerson_60 ?_
      refine rx_aload_n (i := 0) dX8_addPerson_63 rfl rfl ?_
      refine rx_getI (k := 15) fo_X8_67 (kt_0 ht) (by decide) ti_8_15 dX8_addPerson_64 ?_
      refine rx_top (nI n) (by simp only [sI]; simp; exact hn) ?_
      refine rx_iload_n (i := 1) dX8_addPerson_67 rfl rfl ?_
      refine rx_iastN (kt_5 ht) (by omega) (by first | decide | omega) dX8_addPerson_68 ?_
      refine rx_aload_n (i := 0) dX8_addPerson_69 rfl rfl ?_
      refine rx_dup dX8_addPerson_70 rfl ?_
      refine rx_getI (k := 15) fo_X8_67 (kt_0 ht) (by decide) ti_8_15 dX8_addPerson_71 ?_
      refine rx_top (nI n) (by simp only [sI]; simp; exact hn) ?_
      refine rx_iconst (1) dX8_addPerson_74 rfl ?_
      refine rx_iadd dX8_addPerson_75 ?_
      refine rx_top (nI (n + 1)) (nI_succ n).symm ?_
      refine rx_putI (k := 15) fo_X8_67 fn_8_15 (kt_0 ht) (by decide) ty_8_15 dX8_addPerson_76 ?_
      refine rx_iconst (1) dX8_addPerson_79 rfl ?_
      exact rx_fiZ dX8_addPerson_80 (by first | exact Or.inl rfl | exact Or.inr rfl) rfl rfl
    · skip
      unfold apM
      rw [if_neg c40]
      refine rx_iconst (1) dX8_addPerson_43 rfl ?_
      refine rx_goto (tgt := 48) dX8_addPerson_44 (by decide) ?_
      refine rx_iastN (kt_3 ht) (by omega) (by first | decide | omega) dX8_addPerson_48 ?_
      refine rx_aload_n (i := 0) dX8_addPerson_49 rfl rfl ?_
      refine rx_getR (t + 4) (k := 3) fo_X8_21 (kt_0 ht) (by decide) ti_8_3 (by rintro ⟨-, h⟩; omega) (rt_T ht 3 _ (by omega)) dX8_addPerson_50 ?_
      refine rx_aload_n (i := 0) dX8_addPerson_53 rfl rfl ?_
      refine rx_getI (k := 15) fo_X8_67 (kt_0 ht) (by decide) ti_8_15 dX8_addPerson_54 ?_
      refine rx_top (nI n) (by simp only [sI]; simp; exact hn) ?_
      refine rx_iconst (0) dX8_addPerson_57 rfl ?_
      refine rx_iastN (kt_4 ht) (by omega) (by first | decide | omega) dX8_addPerson_58 ?_
      refine rx_aload_n (i := 0) dX8_addPerson_59 rfl rfl ?_
      refine rx_getR (t + 5) (k := 4) fo_X8_24 (kt_0 ht) (by decide) ti_8_4 (by rintro ⟨-, h⟩; omega) (rt_T ht 4 _ (by omega)) dX8_addPerson_60 ?_
      refine rx_aload_n (i := 0) dX8_addPerson_63 rfl rfl ?_
      refine rx_getI (k := 15) fo_X8_67 (kt_0 ht) (by decide) ti_8_15 dX8_addPerson_64 ?_
      refine rx_top (nI n) (by simp only [sI]; simp; exact hn) ?_
      refine rx_iload_n (i := 1) dX8_addPerson_67 rfl rfl ?_
      refine rx_iastN (kt_5 ht) (by omega) (by first | decide | omega) dX8_addPerson_68 ?_
      refine rx_aload_n (i := 0) dX8_addPerson_69 rfl rfl ?_
      refine rx_dup dX8_addPerson_70 rfl ?_
      refine rx_getI (k := 15) fo_X8_67 (kt_0 ht) (by decide) ti_8_15 dX8_addPerson_71 ?_
      refine rx_top (nI n) (by simp only [sI]; simp; exact hn) ?_
      refine rx_iconst (1) dX8_addPerson_74 rfl ?_
      refine rx_iadd dX8_addPerson_75 ?_
      refine rx_top (nI (n + 1)) (nI_succ n).symm ?_
      refine rx_putI (k := 15) fo_X8_67 fn_8_15 (kt_0 ht) (by decide) ty_8_15 dX8_addPerson_76 ?_
      refine rx_iconst (1) dX8_addPerson_79 rfl ?_
      exact rx_fiZ dX8_addPerson_80 (by first | exact Or.inl rfl | exact Or.inr rfl) rfl rfl
  · skip
    have f6 := Int32.not_lt.mp c6
    exact absurd ((nI_ltI (b := 8) (by omega) (by omega)).mpr h8) c6
def adM (M : Mem) (t m : Nat) (x y z u : Int32) : Mem := setI (setI (setI (setI (setI (setI (setI M (t + 7) m x) (t + 8) m y) (t + 9) m z) (t + 10) m u) (t + 11) m 0) (t + 12) m (-1)) t 16 (nI (m + 1))
set_option maxRecDepth 100000 in
set_option maxHeartbeats 4000000 in
theorem c_X8_addDebt {t : Nat} (ht : isTown t) {M : Mem} {m : Nat} (hm : M.1 t 16 = nI m) (h10 : m < 10) {x y z u : Int32} : Fun yX8_addDebt cX8_addDebt 5 (some .boolean) 0 [.ref t, .int x, .int y, .int z, .int u] M (some (.int 1)) (adM M t m x y z u) := by
  refine Fun.of (own := RX8) ([some (.ref t), some (.int x), some (.int y), some (.int z), some (.int u)]) rfl (by decide +kernel) (Nat.le_of_ble_eq_true rfl) rfl ?_
  refine rx_aload_n (i := 0) dX8_addDebt_0 rfl rfl ?_
  refine rx_getI (k := 16) fo_X8_70 (kt_0 ht) (by decide) ti_8_16 dX8_addDebt_1 ?_
  refine rx_top (nI m) hm ?_
  refine rx_bipush (10) dX8_addDebt_4 rfl ?_
  refine rx_icmp_lt (tgt := 11) dX8_addDebt_6 (by decide) (fun c6 => ?_) (fun c6 => ?_)
  · skip
    have f6 := Int32.not_le.mpr c6
    refine rx_aload_n (i := 0) dX8_addDebt_11 rfl rfl ?_
    refine rx_getR (t + 7) (k := 6) fo_X8_30 (kt_0 ht) (by decide) ti_8_6 (by rintro ⟨-, h⟩; omega) (rt_T ht 6 _ (by omega)) dX8_addDebt_12 ?_
    refine rx_aload_n (i := 0) dX8_addDebt_15 rfl rfl ?_
    refine rx_getI (k := 16) fo_X8_70 (kt_0 ht) (by decide) ti_8_16 dX8_addDebt_16 ?_
    refine rx_top (nI m) hm ?_
    refine rx_iload_n (i := 1) dX8_addDebt_19 rfl rfl ?_
    refine rx_iastN (kt_7 ht) (by omega) (by first | decide | omega) dX8_addDebt_20 ?_
    refine rx_aload_n (i := 0) dX8_addDebt_21 rfl rfl ?_
    refine rx_getR (t + 8) (k := 7) fo_X8_33 (kt_0 ht) (by decide) ti_8_7 (by rintro ⟨-, h⟩; omega) (rt_T ht 7 _ (by omega)) dX8_addDebt_22 ?_
    refine rx_aload_n (i := 0) dX8_addDebt_25 rfl rfl ?_
    refine rx_getI (k := 16) fo_X8_70 (kt_0 ht) (by decide) ti_8_16 dX8_addDebt_26 ?_
    refine rx_top (nI m) (by simp only [sI]; simp; exact hm) ?_
    refine rx_iload_n (i := 2) dX8_addDebt_29 rfl rfl ?_
    refine rx_iastN (kt_8 ht) (by omega) (by first | decide | omega) dX8_addDebt_30 ?_
    refine rx_aload_n (i := 0) dX8_addDebt_31 rfl rfl ?_
    refine rx_getR (t + 9) (k := 8) fo_X8_36 (kt_0 ht) (by decide) ti_8_8 (by rintro ⟨-, h⟩; omega) (rt_T ht 8 _ (by omega)) dX8_addDebt_32 ?_
    refine rx_aload_n (i := 0) dX8_addDebt_35 rfl rfl ?_
    refine rx_getI (k := 16) fo_X8_70 (kt_0 ht) (by decide) ti_8_16 dX8_addDebt_36 ?_
    refine rx_top (nI m) (by simp only [sI]; simp; exact hm) ?_
    refine rx_iload_n (i := 3) dX8_addDebt_39 rfl rfl ?_
    refine rx_iastN (kt_9 ht) (by omega) (by first | decide | omega) dX8_addDebt_40 ?_
    refine rx_aload_n (i := 0) dX8_addDebt_41 rfl rfl ?_
    refine rx_getR (t + 10) (k := 9) fo_X8_39 (kt_0 ht) (by decide) ti_8_9 (by rintro ⟨-, h⟩; omega) (rt_T ht 9 _ (by omega)) dX8_addDebt_42 ?_
    refine rx_aload_n (i := 0) dX8_addDebt_45 rfl rfl ?_
    refine rx_getI (k := 16) fo_X8_70 (kt_0 ht) (by decide) ti_8_16 dX8_addDebt_46 ?_
    refine rx_top (nI m) (by simp only [sI]; simp; exact hm) ?_
    refine rx_iload (i := 4) dX8_addDebt_49 rfl ?_
    refine rx_iastN (kt_10 ht) (by omega) (by first | decide | omega) dX8_addDebt_51 ?_
    refine rx_aload_n (i := 0) dX8_addDebt_52 rfl rfl ?_
    refine rx_getR (t + 11) (k := 10) fo_X8_42 (kt_0 ht) (by decide) ti_8_10 (by rintro ⟨-, h⟩; omega) (rt_T ht 10 _ (by omega)) dX8_addDebt_53 ?_
    refine rx_aload_n (i := 0) dX8_addDebt_56 rfl rfl ?_
    refine rx_getI (k := 16) fo_X8_70 (kt_0 ht) (by decide) ti_8_16 dX8_addDebt_57 ?_
    refine rx_top (nI m) (by simp only [sI]; simp; exact hm) ?_
    refine rx_iconst (0) dX8_addDebt_60 rfl ?_
    refine rx_iastN (kt_11 ht) (by omega) (by first | decide | omega) dX8_addDebt_61 ?_
    refine rx_aload_n (i := 0) dX8_addDebt_62 rfl rfl ?_
    refine rx_getR (t + 12) (k := 11) fo_X8_45 (kt_0 ht) (by decide) ti_8_11 (by rintro ⟨-, h⟩; omega) (rt_T ht 11 _ (by omega)) dX8_addDebt_63 ?_
    refine rx_aload_n (i := 0) dX8_addDebt_66 rfl rfl ?_
    refine rx_getI (k := 16) fo_X8_70 (kt_0 ht) (by decide) ti_8_16 dX8_addDebt_67 ?_
    refine rx_top (nI m) (by simp only [sI]; simp; exact hm) ?_
    refine rx_iconst (-1) dX8_addDebt_70 rfl ?_
    refine rx_iastN (kt_12 ht) (by omega) (by first | decide | omega) dX8_addDebt_71 ?_
    refine rx_aload_n (i := 0) dX8_addDebt_72 rfl rfl ?_
    refine rx_dup dX8_addDebt_73 rfl ?_
    refine rx_getI (k := 16) fo_X8_70 (kt_0 ht) (by decide) ti_8_16 dX8_addDebt_74 ?_
    refine rx_top (nI m) (by simp only [sI]; simp; exact hm) ?_
    refine rx_iconst (1) dX8_addDebt_77 rfl ?_
    refine rx_iadd dX8_addDebt_78 ?_
    refine rx_top (nI (m + 1)) (nI_succ m).symm ?_
    refine rx_putI (k := 16) fo_X8_70 fn_8_16 (kt_0 ht) (by decide) ty_8_16 dX8_addDebt_79 ?_
    refine rx_iconst (1) dX8_addDebt_82 rfl ?_
    exact rx_fiZ dX8_addDebt_83 (by first | exact Or.inl rfl | exact Or.inr rfl) rfl rfl
  · skip
    have f6 := Int32.not_lt.mp c6
    exact absurd ((nI_ltI (b := 10) (by omega) (by omega)).mpr h10) c6
/-- a town copied from another one (but for its list) -/
def cpM (M : Mem) (t o : Nat) : Mem := (fun a j => if t < a ∧ a ≤ t + 15 ∧ a ≠ t + 6 then M.1 (o + (a - t)) j else if a = t ∧ 15 ≤ j ∧ j ≤ 19 then M.1 o j else M.1 a j, M.2)
theorem town_apart {t o : Nat} (ht : isTown t) (ho : isTown o) (h : t ≠ o) : t + 16 ≤ o ∨ o + 16 ≤ t := by
  rcases ht with rfl | rfl | rfl | rfl | rfl | rfl | rfl <;> rcases ho with rfl | rfl | rfl | rfl | rfl | rfl | rfl <;> omega
set_option maxRecDepth 100000 in
set_option maxHeartbeats 4000000 in
theorem c_X8_copyFrom {t : Nat} (ht : isTown t) {o : Nat} (ho : isTown o) (hto : t ≠ o) {M : Mem} : Fun yX8_copyFrom cX8_copyFrom 2 none 1 [.ref t, .ref o] M (none) (cpM M t o) := by
  refine Fun.of (own := RX8) ([some (.ref t), some (.ref o)]) rfl (by decide +kernel) (Nat.le_of_ble_eq_true rfl) rfl ?_
  refine rx_aload_n (i := 1) dX8_copyFrom_0 rfl rfl ?_
  refine rx_getR (o + 1) (k := 0) fo_X8_9 (kt_0 ho) (by decide) ti_8_0 (by rintro ⟨-, h⟩; omega) (rt_T ho 0 _ (by omega)) dX8_copyFrom_1 ?_
  refine rx_iconst (0) dX8_copyFrom_4 rfl ?_
  refine rx_aload_n (i := 0) dX8_copyFrom_5 rfl rfl ?_
  refine rx_getR (t + 1) (k := 0) fo_X8_9 (kt_0 ht) (by decide) ti_8_0 (by rintro ⟨-, h⟩; omega) (rt_T ht 0 _ (by omega)) dX8_copyFrom_6 ?_
  refine rx_iconst (0) dX8_copyFrom_9 rfl ?_
  refine rx_bipush (8) dX8_copyFrom_10 rfl ?_
  refine rx_copy (kt_1 ho) (kt_1 ht) (by decide) (List.mem_of_getElem? (i := 932) (by decide +kernel)) (by decide) rfl rfl rfl (by decide) dX8_copyFrom_12 ?_
  refine rx_aload_n (i := 1) dX8_copyFrom_15 rfl rfl ?_
  refine rx_getR (o + 2) (k := 1) fo_X8_15 (kt_0 ho) (by decide) ti_8_1 (by rintro ⟨-, h⟩; omega) (rt_T ho 1 _ (by omega)) dX8_copyFrom_16 ?_
  refine rx_iconst (0) dX8_copyFrom_19 rfl ?_
  refine rx_aload_n (i := 0) dX8_copyFrom_20 rfl rfl ?_
  refine rx_getR (t + 2) (k := 1) fo_X8_15 (kt_0 ht) (by decide) ti_8_1 (by rintro ⟨-, h⟩; omega) (rt_T ht 1 _ (by omega)) dX8_copyFrom_21 ?_
  refine rx_iconst (0) dX8_copyFrom_24 rfl ?_
  refine rx_bipush (8) dX8_copyFrom_25 rfl ?_
  refine rx_copy (kt_2 ho) (kt_2 ht) (by decide) (List.mem_of_getElem? (i := 932) (by decide +kernel)) (by decide) rfl rfl rfl (by decide) dX8_copyFrom_27 ?_
  refine rx_aload_n (i := 1) dX8_copyFrom_30 rfl rfl ?_
  refine rx_getR (o + 3) (k := 2) fo_X8_18 (kt_0 ho) (by decide) ti_8_2 (by rintro ⟨-, h⟩; omega) (rt_T ho 2 _ (by omega)) dX8_copyFrom_31 ?_
  refine rx_iconst (0) dX8_copyFrom_34 rfl ?_
  refine rx_aload_n (i := 0) dX8_copyFrom_35 rfl rfl ?_
  refine rx_getR (t + 3) (k := 2) fo_X8_18 (kt_0 ht) (by decide) ti_8_2 (by rintro ⟨-, h⟩; omega) (rt_T ht 2 _ (by omega)) dX8_copyFrom_36 ?_
  refine rx_iconst (0) dX8_copyFrom_39 rfl ?_
  refine rx_bipush (8) dX8_copyFrom_40 rfl ?_
  refine rx_copy (kt_3 ho) (kt_3 ht) (by decide) (List.mem_of_getElem? (i := 932) (by decide +kernel)) (by decide) rfl rfl rfl (by decide) dX8_copyFrom_42 ?_
  refine rx_aload_n (i := 1) dX8_copyFrom_45 rfl rfl ?_
  refine rx_getR (o + 4) (k := 3) fo_X8_21 (kt_0 ho) (by decide) ti_8_3 (by rintro ⟨-, h⟩; omega) (rt_T ho 3 _ (by omega)) dX8_copyFrom_46 ?_
  refine rx_iconst (0) dX8_copyFrom_49 rfl ?_
  refine rx_aload_n (i := 0) dX8_copyFrom_50 rfl rfl ?_
  refine rx_getR (t + 4) (k := 3) fo_X8_21 (kt_0 ht) (by decide) ti_8_3 (by rintro ⟨-, h⟩; omega) (rt_T ht 3 _ (by omega)) dX8_copyFrom_51 ?_
  refine rx_iconst (0) dX8_copyFrom_54 rfl ?_
  refine rx_bipush (8) dX8_copyFrom_55 rfl ?_
  refine rx_copy (kt_4 ho) (kt_4 ht) (by decide) (List.mem_of_getElem? (i := 932) (by decide +kernel)) (by decide) rfl rfl rfl (by decide) dX8_copyFrom_57 ?_
  refine rx_aload_n (i := 1) dX8_copyFrom_60 rfl rfl ?_
  refine rx_getR (o + 5) (k := 4) fo_X8_24 (kt_0 ho) (by decide) ti_8_4 (by rintro ⟨-, h⟩; omega) (rt_T ho 4 _ (by omega)) dX8_copyFrom_61 ?_
  refine rx_iconst (0) dX8_copyFrom_64 rfl ?_
  refine rx_aload_n (i := 0) dX8_copyFrom_65 rfl rfl ?_
  refine rx_getR (t + 5) (k := 4) fo_X8_24 (kt_0 ht) (by decide) ti_8_4 (by rintro ⟨-, h⟩; omega) (rt_T ht 4 _ (by omega)) dX8_copyFrom_66 ?_
  refine rx_iconst (0) dX8_copyFrom_69 rfl ?_
  refine rx_bipush (8) dX8_copyFrom_70 rfl ?_
  refine rx_copy (kt_5 ho) (kt_5 ht) (by decide) (List.mem_of_getElem? (i := 932) (by decide +kernel)) (by decide) rfl rfl rfl (by decide) dX8_copyFrom_72 ?_
  refine rx_aload_n (i := 1) dX8_copyFrom_75 rfl rfl ?_
  refine rx_getR (o + 7) (k := 6) fo_X8_30 (kt_0 ho) (by decide) ti_8_6 (by rintro ⟨-, h⟩; omega) (rt_T ho 6 _ (by omega)) dX8_copyFrom_76 ?_
  refine rx_iconst (0) dX8_copyFrom_79 rfl ?_
  refine rx_aload_n (i := 0) dX8_copyFrom_80 rfl rfl ?_
  refine rx_getR (t + 7) (k := 6) fo_X8_30 (kt_0 ht) (by decide) ti_8_6 (by rintro ⟨-, h⟩; omega) (rt_T ht 6 _ (by omega)) dX8_copyFrom_81 ?_
  refine rx_iconst (0) dX8_copyFrom_84 rfl ?_
  refine rx_bipush (10) dX8_copyFrom_85 rfl ?_
  refine rx_copy (kt_7 ho) (kt_7 ht) (by decide) (List.mem_of_getElem? (i := 932) (by decide +kernel)) (by decide) rfl rfl rfl (by decide) dX8_copyFrom_87 ?_
  refine rx_aload_n (i := 1) dX8_copyFrom_90 rfl rfl ?_
  refine rx_getR (o + 8) (k := 7) fo_X8_33 (kt_0 ho) (by decide) ti_8_7 (by rintro ⟨-, h⟩; omega) (rt_T ho 7 _ (by omega)) dX8_copyFrom_91 ?_
  refine rx_iconst (0) dX8_copyFrom_94 rfl ?_
  refine rx_aload_n (i := 0) dX8_copyFrom_95 rfl rfl ?_
  refine rx_getR (t + 8) (k := 7) fo_X8_33 (kt_0 ht) (by decide) ti_8_7 (by rintro ⟨-, h⟩; omega) (rt_T ht 7 _ (by omega)) dX8_copyFrom_96 ?_
  refine rx_iconst (0) dX8_copyFrom_99 rfl ?_
  refine rx_bipush (10) dX8_copyFrom_100 rfl ?_
  refine rx_copy (kt_8 ho) (kt_8 ht) (by decide) (List.mem_of_getElem? (i := 932) (by decide +kernel)) (by decide) rfl rfl rfl (by decide) dX8_copyFrom_102 ?_
  refine rx_aload_n (i := 1) dX8_copyFrom_105 rfl rfl ?_
  refine rx_getR (o + 9) (k := 8) fo_X8_36 (kt_0 ho) (by decide) ti_8_8 (by rintro ⟨-, h⟩; omega) (rt_T ho 8 _ (by omega)) dX8_copyFrom_106 ?_
  refine rx_iconst (0) dX8_copyFrom_109 rfl ?_
  refine rx_aload_n (i := 0) dX8_copyFrom_110 rfl rfl ?_
  refine rx_getR (t + 9) (k := 8) fo_X8_36 (kt_0 ht) (by decide) ti_8_8 (by rintro ⟨-, h⟩; omega) (rt_T ht 8 _ (by omega)) dX8_copyFrom_111 ?_
  refine rx_iconst (0) dX8_copyFrom_114 rfl ?_
  refine rx_bipush (10) dX8_copyFrom_115 rfl ?_
  refine rx_copy (kt_9 ho) (kt_9 ht) (by decide) (List.mem_of_getElem? (i := 932) (by decide +kernel)) (by decide) rfl rfl rfl (by decide) dX8_copyFrom_117 ?_
  refine rx_aload_n (i := 1) dX8_copyFrom_120 rfl rfl ?_
  refine rx_getR (o + 10) (k := 9) fo_X8_39 (kt_0 ho) (by decide) ti_8_9 (by rintro ⟨-, h⟩; omega) (rt_T ho 9 _ (by omega)) dX8_copyFrom_121 ?_
  refine rx_iconst (0) dX8_copyFrom_124 rfl ?_
  refine rx_aload_n (i := 0) dX8_copyFrom_125 rfl rfl ?_
  refine rx_getR (t + 10) (k := 9) fo_X8_39 (kt_0 ht) (by decide) ti_8_9 (by rintro ⟨-, h⟩; omega) (rt_T ht 9 _ (by omega)) dX8_copyFrom_126 ?_
  refine rx_iconst (0) dX8_copyFrom_129 rfl ?_
  refine rx_bipush (10) dX8_copyFrom_130 rfl ?_
  refine rx_copy (kt_10 ho) (kt_10 ht) (by decide) (List.mem_of_getElem? (i := 932) (by decide +kernel)) (by decide) rfl rfl rfl (by decide) dX8_copyFrom_132 ?_
  refine rx_aload_n (i := 1) dX8_copyFrom_135 rfl rfl ?_
  refine rx_getR (o + 11) (k := 10) fo_X8_42 (kt_0 ho) (by decide) ti_8_10 (by rintro ⟨-, h⟩; omega) (rt_T ho 10 _ (by omega)) dX8_copyFrom_136 ?_
  refine rx_iconst (0) dX8_copyFrom_139 rfl ?_
  refine rx_aload_n (i := 0) dX8_copyFrom_140 rfl rfl ?_
  refine rx_getR (t + 11) (k := 10) fo_X8_42 (kt_0 ht) (by decide) ti_8_10 (by rintro ⟨-, h⟩; omega) (rt_T ht 10 _ (by omega)) dX8_copyFrom_141 ?_
  refine rx_iconst (0) dX8_copyFrom_144 rfl ?_
  refine rx_bipush (10) dX8_copyFrom_145 rfl ?_
  refine rx_copy (kt_11 ho) (kt_11 ht) (by decide) (List.mem_of_getElem? (i := 932) (by decide +kernel)) (by decide) rfl rfl rfl (by decide) dX8_copyFrom_147 ?_
  refine rx_aload_n (i := 1) dX8_copyFrom_150 rfl rfl ?_
  refine rx_getR (o + 12) (k := 11) fo_X8_45 (kt_0 ho) (by decide) ti_8_11 (by rintro ⟨-, h⟩; omega) (rt_T ho 11 _ (by omega)) dX8_copyFrom_151 ?_
  refine rx_iconst (0) dX8_copyFrom_154 rfl ?_
  refine rx_aload_n (i := 0) dX8_copyFrom_155 rfl rfl ?_
  refine rx_getR (t + 12) (k := 11) fo_X8_45 (kt_0 ht) (by decide) ti_8_11 (by rintro ⟨-, h⟩; omega) (rt_T ht 11 _ (by omega)) dX8_copyFrom_156 ?_
  refine rx_iconst (0) dX8_copyFrom_159 rfl ?_
  refine rx_bipush (10) dX8_copyFrom_160 rfl ?_
  refine rx_copy (kt_12 ho) (kt_12 ht) (by decide) (List.mem_of_getElem? (i := 932) (by decide +kernel)) (by decide) rfl rfl rfl (by decide) dX8_copyFrom_162 ?_
  refine rx_aload_n (i := 1) dX8_copyFrom_165 rfl rfl ?_
  refine rx_getR (o + 13) (k := 12) fo_X8_48 (kt_0 ho) (by decide) ti_8_12 (by rintro ⟨-, h⟩; omega) (rt_T ho 12 _ (by omega)) dX8_copyFrom_166 ?_
  refine rx_iconst (0) dX8_copyFrom_169 rfl ?_
  refine rx_aload_n (i := 0) dX8_copyFrom_170 rfl rfl ?_
  refine rx_getR (t + 13) (k := 12) fo_X8_48 (kt_0 ht) (by decide) ti_8_12 (by rintro ⟨-, h⟩; omega) (rt_T ht 12 _ (by omega)) dX8_copyFrom_171 ?_
  refine rx_iconst (0) dX8_copyFrom_174 rfl ?_
  refine rx_bipush (64) dX8_copyFrom_175 rfl ?_
  refine rx_copy (kt_13 ho) (kt_13 ht) (by decide) (List.mem_of_getElem? (i := 932) (by decide +kernel)) (by decide) rfl rfl rfl (by decide) dX8_copyFrom_177 ?_
  refine rx_aload_n (i := 1) dX8_copyFrom_180 rfl rfl ?_
  refine rx_getR (o + 14) (k := 13) fo_X8_51 (kt_0 ho) (by decide) ti_8_13 (by rintro ⟨-, h⟩; omega) (rt_T ho 13 _ (by omega)) dX8_copyFrom_181 ?_
  refine rx_iconst (0) dX8_copyFrom_184 rfl ?_
  refine rx_aload_n (i := 0) dX8_copyFrom_185 rfl rfl ?_
  refine rx_getR (t + 14) (k := 13) fo_X8_51 (kt_0 ht) (by decide) ti_8_13 (by rintro ⟨-, h⟩; omega) (rt_T ht 13 _ (by omega)) dX8_copyFrom_186 ?_
  refine rx_iconst (0) dX8_copyFrom_189 rfl ?_
  refine rx_bipush (18) dX8_copyFrom_190 rfl ?_
  refine rx_copy (kt_14 ho) (kt_14 ht) (by decide) (List.mem_of_getElem? (i := 932) (by decide +kernel)) (by decide) rfl rfl rfl (by decide) dX8_copyFrom_192 ?_
  refine rx_aload_n (i := 1) dX8_copyFrom_195 rfl rfl ?_
  refine rx_getR (o + 15) (k := 14) fo_X8_54 (kt_0 ho) (by decide) ti_8_14 (by rintro ⟨-, h⟩; omega) (rt_T ho 14 _ (by omega)) dX8_copyFrom_196 ?_
  refine rx_iconst (0) dX8_copyFrom_199 rfl ?_
  refine rx_aload_n (i := 0) dX8_copyFrom_200 rfl rfl ?_
  refine rx_getR (t + 15) (k := 14) fo_X8_54 (kt_0 ht) (by decide) ti_8_14 (by rintro ⟨-, h⟩; omega) (rt_T ht 14 _ (by omega)) dX8_copyFrom_201 ?_
  refine rx_iconst (0) dX8_copyFrom_204 rfl ?_
  refine rx_iconst (4) dX8_copyFrom_205 rfl ?_
  refine rx_copy (kt_15 ho) (kt_15 ht) (by decide) (List.mem_of_getElem? (i := 932) (by decide +kernel)) (by decide) rfl rfl rfl (by decide) dX8_copyFrom_206 ?_
  refine rx_aload_n (i := 0) dX8_copyFrom_209 rfl rfl ?_
  refine rx_aload_n (i := 1) dX8_copyFrom_210 rfl rfl ?_
  refine rx_getI (k := 15) fo_X8_67 (kt_0 ho) (by decide) ti_8_15 dX8_copyFrom_211 ?_
  refine rx_putI (k := 15) fo_X8_67 fn_8_15 (kt_0 ht) (by decide) ty_8_15 dX8_copyFrom_214 ?_
  refine rx_aload_n (i := 0) dX8_copyFrom_217 rfl rfl ?_
  refine rx_aload_n (i := 1) dX8_copyFrom_218 rfl rfl ?_
  refine rx_getI (k := 16) fo_X8_70 (kt_0 ho) (by decide) ti_8_16 dX8_copyFrom_219 ?_
  refine rx_putI (k := 16) fo_X8_70 fn_8_16 (kt_0 ht) (by decide) ty_8_16 dX8_copyFrom_222 ?_
  refine rx_aload_n (i := 0) dX8_copyFrom_225 rfl rfl ?_
  refine rx_aload_n (i := 1) dX8_copyFrom_226 rfl rfl ?_
  refine rx_getI (k := 17) fo_X8_73 (kt_0 ho) (by decide) ti_8_17 dX8_copyFrom_227 ?_
  refine rx_putI (k := 17) fo_X8_73 fn_8_17 (kt_0 ht) (by decide) ty_8_17 dX8_copyFrom_230 ?_
  refine rx_aload_n (i := 0) dX8_copyFrom_233 rfl rfl ?_
  refine rx_aload_n (i := 1) dX8_copyFrom_234 rfl rfl ?_
  refine rx_getI (k := 18) fo_X8_76 (kt_0 ho) (by decide) ti_8_18 dX8_copyFrom_235 ?_
  refine rx_putI (k := 18) fo_X8_76 fn_8_18 (kt_0 ht) (by decide) ty_8_18 dX8_copyFrom_238 ?_
  refine rx_aload_n (i := 0) dX8_copyFrom_241 rfl rfl ?_
  refine rx_aload_n (i := 1) dX8_copyFrom_242 rfl rfl ?_
  refine rx_getI (k := 19) fo_X8_57 (kt_0 ho) (by decide) ti_8_19 dX8_copyFrom_243 ?_
  refine rx_putI (k := 19) fo_X8_57 fn_8_19 (kt_0 ht) (by decide) ty_8_19 dX8_copyFrom_246 ?_
  exact rx_fiV dX8_copyFrom_249 (by
    have hap := town_apart ht ho hto
    have hne : ∀ c c', c ≤ 15 → c' ≤ 15 → ¬ o + c = t + c' := fun c c' h1 h2 => by omega
    have hne1 : ∀ c, c ≤ 15 → ¬ o = t + c := fun c h => by omega
    have hne2 : ∀ c, c ≤ 15 → ¬ o + c = t := fun c h => by omega
    have hto2 : ¬ o = t := fun q => hto q.symm
    refine Prod.ext ?_ rfl
    funext a j
    simp only [setA, setI, cpM]
    by_cases ha : t ≤ a ∧ a ≤ t + 15
    · obtain ⟨c, hc, rfl⟩ : ∃ c, c ≤ 15 ∧ a = t + c := ⟨a - t, by omega, by omega⟩
      rcases (show c = 0 ∨ c = 1 ∨ c = 2 ∨ c = 3 ∨ c = 4 ∨ c = 5 ∨ c = 6 ∨ c = 7 ∨ c = 8 ∨ c = 9 ∨ c = 10 ∨ c = 11 ∨ c = 12 ∨ c = 13 ∨ c = 14 ∨ c = 15 by omega) with rfl | rfl | rfl | rfl | rfl | rfl | rfl | rfl | rfl | rfl | rfl | rfl | rfl | rfl | rfl | rfl
      · by_cases hj : 15 ≤ j ∧ j ≤ 19
        · rcases (show j = 15 ∨ j = 16 ∨ j = 17 ∨ j = 18 ∨ j = 19 by omega) with rfl | rfl | rfl | rfl | rfl <;> simp [hne1, hto2]
        · rw [if_neg (by omega), if_neg (by omega), if_neg (by omega), if_neg (by omega), if_neg (by omega)]
          simp [hj]
      all_goals simp [hne]
    · have q0 : ¬ a = t := by omega
      have q : ∀ c, c ≤ 15 → ¬ a = t + c := fun c h => by omega
      have q1 : ¬ (t < a ∧ a ≤ t + 15 ∧ a ≠ t + 6) := by omega
      simp [q0, q]
      intro h1 h2
      omega)
