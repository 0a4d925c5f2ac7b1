
/-- coin from i to j -/
def shM (M : Mem) (t i j : Nat) (x : Int32) : Mem := setI (setI M (t + 1) i (M.1 (t + 1) i - x)) (t + 1) j ((setI M (t + 1) i (M.1 (t + 1) i - x)).1 (t + 1) j + x)
theorem shM_o {M : Mem} {t i j a k : Nat} {x : Int32} (h : a ≠ t + 1) : (shM M t i j x).1 a k = M.1 a k := by unfold shM; rw [sI_na h, sI_na h]
def priceM (M : Mem) (t i k : Nat) : Int32 := if M.1 (t + 3) i = 1 then 0 else M.1 (t + 9) k + M.1 (t + 9) k * M.1 (t + 2) i / 100
/-- a PAYMENT: i pays k, which o owes to g -/
def pyM (M : Mem) (t o g i k : Nat) : Mem :=
  let M1 := shM M t i g (M.1 (t + 9) k)
  setI (setI (setI M1 (t + 13) (8 * o + i) (M.1 (t + 13) (8 * o + i) + priceM M t i k)) (t + 11) k 1) (t + 12) k (nI i)
/-- a PAYMENT undone -/
def upM (M : Mem) (t o g i k : Nat) : Mem :=
  let M1 := shM M t g i (M.1 (t + 9) k)
  setI (setI (setI M1 (t + 13) (8 * o + i) (M.1 (t + 13) (8 * o + i) - priceM M t i k)) (t + 11) k 0) (t + 12) k (-1)

set_option maxRecDepth 100000 in
set_option maxHeartbeats 4000000 in
theorem c_X8_shift {t : Nat} (ht : isTown t) {M : Mem} {i j : Nat} (hi : i < 8) (hj : j < 8) {x : Int32} : Fun yX8_shift cX8_shift 4 none 0 [.ref t, .int (nI i), .int (nI j), .int x] M (none) (shM M t i j x) := by
  refine Fun.of (own := RX8) ([some (.ref t), some (.int (nI i)), some (.int (nI j)), some (.int x)]) rfl (by decide +kernel) (Nat.le_of_ble_eq_true rfl) rfl ?_
  refine rx_aload_n (i := 0) dX8_shift_0 rfl rfl ?_
  refine rx_getR (t + 1) (k := 0) fo_X8_9 (kt_0 ht) (by decide) ti_8_0 (by rintro ⟨-, h⟩; omega) (rt_T ht 0 _ (by omega)) dX8_shift_1 ?_
  refine rx_iload_n (i := 1) dX8_shift_4 rfl rfl ?_
  refine rx_dup2_11 dX8_shift_5 rfl rfl ?_
  refine rx_ialdN (kt_1 ht) (by omega) (by first | decide | omega) dX8_shift_6 ?_
  refine rx_iload_n (i := 3) dX8_shift_7 rfl rfl ?_
  refine rx_isub dX8_shift_8 ?_
  refine rx_iastN (kt_1 ht) (by omega) (by first | decide | omega) dX8_shift_9 ?_
  refine rx_aload_n (i := 0) dX8_shift_10 rfl rfl ?_
  refine rx_getR (t + 1) (k := 0) fo_X8_9 (kt_0 ht) (by decide) ti_8_0 (by rintro ⟨-, h⟩; omega) (rt_T ht 0 _ (by omega)) dX8_shift_11 ?_
  refine rx_iload_n (i := 2) dX8_shift_14 rfl rfl ?_
  refine rx_dup2_11 dX8_shift_15 rfl rfl ?_
  refine rx_ialdN (kt_1 ht) (by omega) (by first | decide | omega) dX8_shift_16 ?_
  refine rx_iload_n (i := 3) dX8_shift_17 rfl rfl ?_
  refine rx_iadd dX8_shift_18 ?_
  refine rx_iastN (kt_1 ht) (by omega) (by first | decide | omega) dX8_shift_19 ?_
  exact rx_fiV dX8_shift_20 rfl
set_option maxRecDepth 100000 in
set_option maxHeartbeats 4000000 in
theorem c_X8_makePayment {t : Nat} (ht : isTown t) {M : Mem} {n m : Nat} (w : TW M t n m) {i k o g : Nat} (hi : i < n) (hk : k < m) (ho : o < n) (hg : g < n) (eo : M.1 (t + 7) k = nI o) (eg : M.1 (t + 8) k = nI g) : Fun yX8_makePayment cX8_makePayment 4 (some .int) 1 [.ref t, .int (nI i), .int (nI k)] M (some (.int (priceM M t i k))) (pyM M t o g i k) := by
  refine Fun.of (own := RX8) ([some (.ref t), some (.int (nI i)), some (.int (nI k)), none]) rfl (by decide +kernel) (Nat.le_of_ble_eq_true rfl) rfl ?_
  have ⟨hn, hn8, hm, hm10, hd⟩ := w
  refine rx_aload_n (i := 0) dX8_makePayment_0 rfl rfl ?_
  refine rx_iload_n (i := 1) dX8_makePayment_1 rfl rfl ?_
  refine rx_iload_n (i := 2) dX8_makePayment_2 rfl rfl ?_
  refine rx_cvI (ci := 8) mo_X8_price lk_X8_116 (c_X8_price ht (by omega) (by omega)) (by decide) rfl rfl (Nat.le_of_ble_eq_true rfl) (kt_0 ht) rfl dX8_makePayment_3 ?_
  refine rx_istore_n (i := 3) dX8_makePayment_6 rfl (by decide) rfl rfl ?_
  refine rx_aload_n (i := 0) dX8_makePayment_7 rfl rfl ?_
  refine rx_iload_n (i := 1) dX8_makePayment_8 rfl rfl ?_
  refine rx_aload_n (i := 0) dX8_makePayment_9 rfl rfl ?_
  refine rx_getR (t + 8) (k := 7) fo_X8_33 (kt_0 ht) (by decide) ti_8_7 (by rintro ⟨-, h⟩; omega) (rt_T ht 7 _ (by omega)) dX8_makePayment_10 ?_
  refine rx_iload_n (i := 2) dX8_makePayment_13 rfl rfl ?_
  refine rx_ialdN (kt_8 ht) (by omega) (by first | decide | omega) dX8_makePayment_14 ?_
  refine rx_top (nI g) eg ?_
  refine rx_aload_n (i := 0) dX8_makePayment_15 rfl rfl ?_
  refine rx_getR (t + 9) (k := 8) fo_X8_36 (kt_0 ht) (by decide) ti_8_8 (by rintro ⟨-, h⟩; omega) (rt_T ht 8 _ (by omega)) dX8_makePayment_16 ?_
  refine rx_iload_n (i := 2) dX8_makePayment_19 rfl rfl ?_
  refine rx_ialdN (kt_9 ht) (by omega) (by first | decide | omega) dX8_makePayment_20 ?_
  refine rx_cvN (ci := 8) mo_X8_shift lk_X8_120 (c_X8_shift ht (by omega) (by omega)) (by decide) rfl rfl (Nat.le_of_ble_eq_true rfl) (kt_0 ht) rfl dX8_makePayment_21 ?_
  refine rx_aload_n (i := 0) dX8_makePayment_24 rfl rfl ?_
  refine rx_getR (t + 13) (k := 12) fo_X8_48 (kt_0 ht) (by decide) ti_8_12 (by rintro ⟨-, h⟩; omega) (rt_T ht 12 _ (by omega)) dX8_makePayment_25 ?_
  refine rx_aload_n (i := 0) dX8_makePayment_28 rfl rfl ?_
  refine rx_getR (t + 7) (k := 6) fo_X8_30 (kt_0 ht) (by decide) ti_8_6 (by rintro ⟨-, h⟩; omega) (rt_T ht 6 _ (by omega)) dX8_makePayment_29 ?_
  refine rx_iload_n (i := 2) dX8_makePayment_32 rfl rfl ?_
  refine rx_ialdN (kt_7 ht) (by omega) (by first | decide | omega) dX8_makePayment_33 ?_
  refine rx_top (nI o) (by rw [shM_o (by omega)]; exact eo) ?_
  refine rx_bipush (8) dX8_makePayment_34 rfl ?_
  refine rx_imul dX8_makePayment_36 ?_
  refine rx_iload_n (i := 1) dX8_makePayment_37 rfl rfl ?_
  refine rx_iadd dX8_makePayment_38 ?_
  refine rx_top (nI (8 * o + i)) (ix8 o i) ?_
  refine rx_dup2_11 dX8_makePayment_39 rfl rfl ?_
  refine rx_ialdN (kt_13 ht) (by omega) (by first | decide | omega) dX8_makePayment_40 ?_
  refine rx_iload_n (i := 3) dX8_makePayment_41 rfl rfl ?_
  refine rx_iadd dX8_makePayment_42 ?_
  refine rx_iastN (kt_13 ht) (by omega) (by first | decide | omega) dX8_makePayment_43 ?_
  refine rx_aload_n (i := 0) dX8_makePayment_44 rfl rfl ?_
  refine rx_getR (t + 11) (k := 10) fo_X8_42 (kt_0 ht) (by decide) ti_8_10 (by rintro ⟨-, h⟩; omega) (rt_T ht 10 _ (by omega)) dX8_makePayment_45 ?_
  refine rx_iload_n (i := 2) dX8_makePayment_48 rfl rfl ?_
  refine rx_iconst (1) dX8_makePayment_49 rfl ?_
  refine rx_iastN (kt_11 ht) (by omega) (by first | decide | omega) dX8_makePayment_50 ?_
  refine rx_aload_n (i := 0) dX8_makePayment_51 rfl rfl ?_
  refine rx_getR (t + 12) (k := 11) fo_X8_45 (kt_0 ht) (by decide) ti_8_11 (by rintro ⟨-, h⟩; omega) (rt_T ht 11 _ (by omega)) dX8_makePayment_52 ?_
  refine rx_iload_n (i := 2) dX8_makePayment_55 rfl rfl ?_
  refine rx_iload_n (i := 1) dX8_makePayment_56 rfl rfl ?_
  refine rx_iastN (kt_12 ht) (by omega) (by first | decide | omega) dX8_makePayment_57 ?_
  refine rx_iload_n (i := 3) dX8_makePayment_58 rfl rfl ?_
  exact rx_fiI dX8_makePayment_59 rfl (by rw [shM_o (by omega)]; rfl)

