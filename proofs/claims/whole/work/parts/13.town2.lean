set_option maxRecDepth 100000 in
set_option maxHeartbeats 4000000 in
theorem l_X8_openOwedTo {t : Nat} (ht : isTown t) {M : Mem} {n m : Nat} (w : TW M t n m) (p : Int32) : ∀ (N : Nat) (i : Nat) (s : Int32), (i ≤ m) → (s = fsum (fun k => if M.1 (t + 11) k = 0 ∧ M.1 (t + 8) k = p then M.1 (t + 9) k else 0) i) → m - i < N → Reach cX8_openOwedTo RX8 4 0 (FQ cX8_openOwedTo (some .int) (some (.int (fsum (fun k => if M.1 (t + 11) k = 0 ∧ M.1 (t + 8) k = p then M.1 (t + 9) k else 0) m))) M) 4 [some (.ref t), some (.int p), some (.int s), some (.int (nI i))] [] (M) := by
  intro N
  induction N with
  | zero => intro i s hi hs hm; exact absurd ‹_ < 0› (Nat.not_lt_zero _)
  | succ N ih =>
    intro i s hi hs hm
    have ⟨hn, hn8, hm, hm10, hd⟩ := w
    refine rx_iload_n (i := 3) dX8_openOwedTo_4 rfl rfl ?_
    refine rx_aload_n (i := 0) dX8_openOwedTo_5 rfl rfl ?_
    refine rx_getI (k := 16) fo_X8_70 (kt_0 ht) (by decide) ti_8_16 dX8_openOwedTo_6 ?_
    refine rx_icmp_ge (tgt := 46) dX8_openOwedTo_9 (by decide) (fun c9 => ?_) (fun c9 => ?_)
    · skip
      have f9 := Int32.not_lt.mpr c9
      rw [hm, nI_leI (by omega) (by omega)] at c9
      obtain rfl : i = m := by omega
      refine rx_iload_n (i := 2) dX8_openOwedTo_46 rfl rfl ?_
      exact rx_fiI dX8_openOwedTo_47 hs rfl
    · skip
      have f9 := Int32.not_le.mp c9
      rw [hm, nI_leI (by omega) (by omega)] at c9
      refine rx_aload_n (i := 0) dX8_openOwedTo_12 rfl rfl ?_
      refine rx_getR (t + 11) (k := 10) fo_X8_42 (kt_0 ht) (by decide) ti_8_10 (by rintro ⟨-, h⟩; omega) (rt_T ht 10 _ (by omega)) dX8_openOwedTo_13 ?_
      refine rx_iload_n (i := 3) dX8_openOwedTo_16 rfl rfl ?_
      refine rx_ialdN (kt_11 ht) (by omega) (by first | decide | omega) dX8_openOwedTo_17 ?_
      refine rx_if_ne (tgt := 40) dX8_openOwedTo_18 (by decide) (fun c18 => ?_) (fun c18 => ?_)
      · skip
        first | refine rx_iincN (i := 3) dX8_openOwedTo_40 rfl (by decide) rfl rfl ?_ | refine rx_iinc (i := 3) dX8_openOwedTo_40 rfl rfl (by decide) rfl rfl ?_
        refine rx_goto (tgt := 4) dX8_openOwedTo_43 (by decide) ?_
        exact ih (i + 1) _ (by omega) (by rw [hs]; simp [fsum, fbor, *]) (by omega)
      · skip
        refine rx_aload_n (i := 0) dX8_openOwedTo_21 rfl rfl ?_
        refine rx_getR (t + 8) (k := 7) fo_X8_33 (kt_0 ht) (by decide) ti_8_7 (by rintro ⟨-, h⟩; omega) (rt_T ht 7 _ (by omega)) dX8_openOwedTo_22 ?_
        refine rx_iload_n (i := 3) dX8_openOwedTo_25 rfl rfl ?_
        refine rx_ialdN (kt_8 ht) (by omega) (by first | decide | omega) dX8_openOwedTo_26 ?_
        refine rx_iload_n (i := 1) dX8_openOwedTo_27 rfl rfl ?_
        refine rx_icmp_ne (tgt := 40) dX8_openOwedTo_28 (by decide) (fun c28 => ?_) (fun c28 => ?_)
        · skip
          first | refine rx_iincN (i := 3) dX8_openOwedTo_40 rfl (by decide) rfl rfl ?_ | refine rx_iinc (i := 3) dX8_openOwedTo_40 rfl rfl (by decide) rfl rfl ?_
          refine rx_goto (tgt := 4) dX8_openOwedTo_43 (by decide) ?_
          exact ih (i + 1) _ (by omega) (by rw [hs]; simp [fsum, fbor, *]) (by omega)
        · skip
          refine rx_iload_n (i := 2) dX8_openOwedTo_31 rfl rfl ?_
          refine rx_aload_n (i := 0) dX8_openOwedTo_32 rfl rfl ?_
          refine rx_getR (t + 9) (k := 8) fo_X8_36 (kt_0 ht) (by decide) ti_8_8 (by rintro ⟨-, h⟩; omega) (rt_T ht 8 _ (by omega)) dX8_openOwedTo_33 ?_
          refine rx_iload_n (i := 3) dX8_openOwedTo_36 rfl rfl ?_
          refine rx_ialdN (kt_9 ht) (by omega) (by first | decide | omega) dX8_openOwedTo_37 ?_
          refine rx_iadd dX8_openOwedTo_38 ?_
          refine rx_istore_n (i := 2) dX8_openOwedTo_39 rfl (by decide) rfl rfl ?_
          first | refine rx_iincN (i := 3) dX8_openOwedTo_40 rfl (by decide) rfl rfl ?_ | refine rx_iinc (i := 3) dX8_openOwedTo_40 rfl rfl (by decide) rfl rfl ?_
          refine rx_goto (tgt := 4) dX8_openOwedTo_43 (by decide) ?_
          exact ih (i + 1) _ (by omega) (by rw [hs]; simp [fsum, fbor, *]) (by omega)
set_option maxRecDepth 100000 in
set_option maxHeartbeats 4000000 in
theorem c_X8_openOwedTo {t : Nat} (ht : isTown t) {M : Mem} {n m : Nat} (w : TW M t n m) (p : Int32) : Fun yX8_openOwedTo cX8_openOwedTo 4 (some .int) 0 [.ref t, .int p] M (some (.int (fsum (fun k => if M.1 (t + 11) k = 0 ∧ M.1 (t + 8) k = p then M.1 (t + 9) k else 0) m))) (M) := by
  refine Fun.of (own := RX8) ([some (.ref t), some (.int p), none, none]) rfl (by decide +kernel) (Nat.le_of_ble_eq_true rfl) rfl ?_
  refine rx_iconst (0) dX8_openOwedTo_0 rfl ?_
  refine rx_istore_n (i := 2) dX8_openOwedTo_1 rfl (by decide) rfl rfl ?_
  refine rx_iconst (0) dX8_openOwedTo_2 rfl ?_
  refine rx_istore_n (i := 3) dX8_openOwedTo_3 rfl (by decide) rfl rfl ?_
  exact l_X8_openOwedTo ht w p (m + 1) 0 0 (by omega) rfl (by omega)
set_option maxRecDepth 100000 in
set_option maxHeartbeats 4000000 in
theorem l_X8_favoursOwedBy {t : Nat} (ht : isTown t) {M : Mem} {n m : Nat} (w : TW M t n m) (p : Nat) (hp : p < n) : ∀ (N : Nat) (i : Nat) (s : Int32), (i ≤ n) → (s = fsum (fun i => M.1 (t + 13) (8 * p + i)) i) → n - i < N → Reach cX8_favoursOwedBy RX8 4 0 (FQ cX8_favoursOwedBy (some .int) (some (.int (fsum (fun i => M.1 (t + 13) (8 * p + i)) n))) M) 4 [some (.ref t), some (.int (nI p)), some (.int s), some (.int (nI i))] [] (M) := by
  intro N
  induction N with
  | zero => intro i s hi hs hm; exact absurd ‹_ < 0› (Nat.not_lt_zero _)
  | succ N ih =>
    intro i s hi hs hm
    have ⟨hn, hn8, hm, hm10, hd⟩ := w
    refine rx_iload_n (i := 3) dX8_favoursOwedBy_4 rfl rfl ?_
    refine rx_aload_n (i := 0) dX8_favoursOwedBy_5 rfl rfl ?_
    refine rx_getI (k := 15) fo_X8_67 (kt_0 ht) (by decide) ti_8_15 dX8_favoursOwedBy_6 ?_
    refine rx_icmp_ge (tgt := 32) dX8_favoursOwedBy_9 (by decide) (fun c9 => ?_) (fun c9 => ?_)
    · skip
      have f9 := Int32.not_lt.mpr c9
      rw [hn, nI_leI (by omega) (by omega)] at c9
      obtain rfl : i = n := by omega
      refine rx_iload_n (i := 2) dX8_favoursOwedBy_32 rfl rfl ?_
      exact rx_fiI dX8_favoursOwedBy_33 hs rfl
    · skip
      have f9 := Int32.not_le.mp c9
      rw [hn, nI_leI (by omega) (by omega)] at c9
      refine rx_iload_n (i := 2) dX8_favoursOwedBy_12 rfl rfl ?_
      refine rx_aload_n (i := 0) dX8_favoursOwedBy_13 rfl rfl ?_
      refine rx_getR (t + 13) (k := 12) fo_X8_48 (kt_0 ht) (by decide) ti_8_12 (by rintro ⟨-, h⟩; omega) (rt_T ht 12 _ (by omega)) dX8_favoursOwedBy_14 ?_
      refine rx_iload_n (i := 1) dX8_favoursOwedBy_17 rfl rfl ?_
      refine rx_bipush (8) dX8_favoursOwedBy_18 rfl ?_
      refine rx_imul dX8_favoursOwedBy_20 ?_
      refine rx_iload_n (i := 3) dX8_favoursOwedBy_21 rfl rfl ?_
      refine rx_iadd dX8_favoursOwedBy_22 ?_
      refine rx_top (nI (8 * p + i)) (ix8 p i) ?_
      refine rx_ialdN (kt_13 ht) (k := 8 * p + i) (by omega) (by first | decide | omega) dX8_favoursOwedBy_23 ?_
      refine rx_iadd dX8_favoursOwedBy_24 ?_
      refine rx_istore_n (i := 2) dX8_favoursOwedBy_25 rfl (by decide) rfl rfl ?_
      first | refine rx_iincN (i := 3) dX8_favoursOwedBy_26 rfl (by decide) rfl rfl ?_ | refine rx_iinc (i := 3) dX8_favoursOwedBy_26 rfl rfl (by decide) rfl rfl ?_
      refine rx_goto (tgt := 4) dX8_favoursOwedBy_29 (by decide) ?_
      exact ih (i + 1) _ (by omega) (by rw [hs]; simp [fsum, fbor, *]) (by omega)
set_option maxRecDepth 100000 in
set_option maxHeartbeats 4000000 in
theorem c_X8_favoursOwedBy {t : Nat} (ht : isTown t) {M : Mem} {n m : Nat} (w : TW M t n m) (p : Nat) (hp : p < n) : Fun yX8_favoursOwedBy cX8_favoursOwedBy 4 (some .int) 0 [.ref t, .int (nI p)] M (some (.int (fsum (fun i => M.1 (t + 13) (8 * p + i)) n))) (M) := by
  refine Fun.of (own := RX8) ([some (.ref t), some (.int (nI p)), none, none]) rfl (by decide +kernel) (Nat.le_of_ble_eq_true rfl) rfl ?_
  refine rx_iconst (0) dX8_favoursOwedBy_0 rfl ?_
  refine rx_istore_n (i := 2) dX8_favoursOwedBy_1 rfl (by decide) rfl rfl ?_
  refine rx_iconst (0) dX8_favoursOwedBy_2 rfl ?_
  refine rx_istore_n (i := 3) dX8_favoursOwedBy_3 rfl (by decide) rfl rfl ?_
  exact l_X8_favoursOwedBy ht w p hp (n + 1) 0 0 (by omega) rfl (by omega)
set_option maxRecDepth 100000 in
set_option maxHeartbeats 4000000 in
theorem l_X8_favoursOwedTo {t : Nat} (ht : isTown t) {M : Mem} {n m : Nat} (w : TW M t n m) (p : Nat) (hp : p < n) : ∀ (N : Nat) (i : Nat) (s : Int32), (i ≤ n) → (s = fsum (fun i => M.1 (t + 13) (8 * i + p)) i) → n - i < N → Reach cX8_favoursOwedTo RX8 4 0 (FQ cX8_favoursOwedTo (some .int) (some (.int (fsum (fun i => M.1 (t + 13) (8 * i + p)) n))) M) 4 [some (.ref t), some (.int (nI p)), some (.int s), some (.int (nI i))] [] (M) := by
  intro N
  induction N with
  | zero => intro i s hi hs hm; exact absurd ‹_ < 0› (Nat.not_lt_zero _)
  | succ N ih =>
    intro i s hi hs hm
    have ⟨hn, hn8, hm, hm10, hd⟩ := w
    refine rx_iload_n (i := 3) dX8_favoursOwedTo_4 rfl rfl ?_
    refine rx_aload_n (i := 0) dX8_favoursOwedTo_5 rfl rfl ?_
    refine rx_getI (k := 15) fo_X8_67 (kt_0 ht) (by decide) ti_8_15 dX8_favoursOwedTo_6 ?_
    refine rx_icmp_ge (tgt := 32) dX8_favoursOwedTo_9 (by decide) (fun c9 => ?_) (fun c9 => ?_)
    · skip
      have f9 := Int32.not_lt.mpr c9
      rw [hn, nI_leI (by omega) (by omega)] at c9
      obtain rfl : i = n := by omega
      refine rx_iload_n (i := 2) dX8_favoursOwedTo_32 rfl rfl ?_
      exact rx_fiI dX8_favoursOwedTo_33 hs rfl
    · skip
      have f9 := Int32.not_le.mp c9
      rw [hn, nI_leI (by omega) (by omega)] at c9
      refine rx_iload_n (i := 2) dX8_favoursOwedTo_12 rfl rfl ?_
      refine rx_aload_n (i := 0) dX8_favoursOwedTo_13 rfl rfl ?_
      refine rx_getR (t + 13) (k := 12) fo_X8_48 (kt_0 ht) (by decide) ti_8_12 (by rintro ⟨-, h⟩; omega) (rt_T ht 12 _ (by omega)) dX8_favoursOwedTo_14 ?_
      refine rx_iload_n (i := 3) dX8_favoursOwedTo_17 rfl rfl ?_
      refine rx_bipush (8) dX8_favoursOwedTo_18 rfl ?_
      refine rx_imul dX8_favoursOwedTo_20 ?_
      refine rx_iload_n (i := 1) dX8_favoursOwedTo_21 rfl rfl ?_
      refine rx_iadd dX8_favoursOwedTo_22 ?_
      refine rx_top (nI (8 * i + p)) (ix8 i p) ?_
      refine rx_ialdN (kt_13 ht) (k := 8 * i + p) (by omega) (by first | decide | omega) dX8_favoursOwedTo_23 ?_
      refine rx_iadd dX8_favoursOwedTo_24 ?_
      refine rx_istore_n (i := 2) dX8_favoursOwedTo_25 rfl (by decide) rfl rfl ?_
      first | refine rx_iincN (i := 3) dX8_favoursOwedTo_26 rfl (by decide) rfl rfl ?_ | refine rx_iinc (i := 3) dX8_favoursOwedTo_26 rfl rfl (by decide) rfl rfl ?_
      refine rx_goto (tgt := 4) dX8_favoursOwedTo_29 (by decide) ?_
      exact ih (i + 1) _ (by omega) (by rw [hs]; simp [fsum, fbor, *]) (by omega)
set_option maxRecDepth 100000 in
set_option maxHeartbeats 4000000 in
theorem c_X8_favoursOwedTo {t : Nat} (ht : isTown t) {M : Mem} {n m : Nat} (w : TW M t n m) (p : Nat) (hp : p < n) : Fun yX8_favoursOwedTo cX8_favoursOwedTo 4 (some .int) 0 [.ref t, .int (nI p)] M (some (.int (fsum (fun i => M.1 (t + 13) (8 * i + p)) n))) (M) := by
  refine Fun.of (own := RX8) ([some (.ref t), some (.int (nI p)), none, none]) rfl (by decide +kernel) (Nat.le_of_ble_eq_true rfl) rfl ?_
  refine rx_iconst (0) dX8_favoursOwedTo_0 rfl ?_
  refine rx_istore_n (i := 2) dX8_favoursOwedTo_1 rfl (by decide) rfl rfl ?_
  refine rx_iconst (0) dX8_favoursOwedTo_2 rfl ?_
  refine rx_istore_n (i := 3) dX8_favoursOwedTo_3 rfl (by decide) rfl rfl ?_
  exact l_X8_favoursOwedTo ht w p hp (n + 1) 0 0 (by omega) rfl (by omega)
set_option maxRecDepth 100000 in
set_option maxHeartbeats 4000000 in
theorem l_X8_allCoin {t : Nat} (ht : isTown t) {M : Mem} {n m : Nat} (w : TW M t n m) : ∀ (N : Nat) (i : Nat) (s : Int32), (i ≤ n) → (s = fsum (M.1 (t + 1)) i) → n - i < N → Reach cX8_allCoin RX8 3 0 (FQ cX8_allCoin (some .int) (some (.int (fsum (M.1 (t + 1)) n))) M) 4 [some (.ref t), some (.int s), some (.int (nI i))] [] (M) := by
  intro N
  induction N with
  | zero => intro i s hi hs hm; exact absurd ‹_ < 0› (Nat.not_lt_zero _)
  | succ N ih =>
    intro i s hi hs hm
    have ⟨hn, hn8, hm, hm10, hd⟩ := w
    refine rx_iload_n (i := 2) dX8_allCoin_4 rfl rfl ?_
    refine rx_aload_n (i := 0) dX8_allCoin_5 rfl rfl ?_
    refine rx_getI (k := 15) fo_X8_67 (kt_0 ht) (by decide) ti_8_15 dX8_allCoin_6 ?_
    refine rx_icmp_ge (tgt := 27) dX8_allCoin_9 (by decide) (fun c9 => ?_) (fun c9 => ?_)
    · skip
      have f9 := Int32.not_lt.mpr c9
      rw [hn, nI_leI (by omega) (by omega)] at c9
      obtain rfl : i = n := by omega
      refine rx_iload_n (i := 1) dX8_allCoin_27 rfl rfl ?_
      exact rx_fiI dX8_allCoin_28 hs rfl
    · skip
      have f9 := Int32.not_le.mp c9
      rw [hn, nI_leI (by omega) (by omega)] at c9
      refine rx_iload_n (i := 1) dX8_allCoin_12 rfl rfl ?_
      refine rx_aload_n (i := 0) dX8_allCoin_13 rfl rfl ?_
      refine rx_getR (t + 1) (k := 0) fo_X8_9 (kt_0 ht) (by decide) ti_8_0 (by rintro ⟨-, h⟩; omega) (rt_T ht 0 _ (by omega)) dX8_allCoin_14 ?_
      refine rx_iload_n (i := 2) dX8_allCoin_17 rfl rfl ?_
      refine rx_ialdN (kt_1 ht) (by omega) (by first | decide | omega) dX8_allCoin_18 ?_
      refine rx_iadd dX8_allCoin_19 ?_
      refine rx_istore_n (i := 1) dX8_allCoin_20 rfl (by decide) rfl rfl ?_
      first | refine rx_iincN (i := 2) dX8_allCoin_21 rfl (by decide) rfl rfl ?_ | refine rx_iinc (i := 2) dX8_allCoin_21 rfl rfl (by decide) rfl rfl ?_
      refine rx_goto (tgt := 4) dX8_allCoin_24 (by decide) ?_
      exact ih (i + 1) _ (by omega) (by rw [hs]; simp [fsum, fbor, *]) (by omega)
set_option maxRecDepth 100000 in
set_option maxHeartbeats 4000000 in
theorem c_X8_allCoin {t : Nat} (ht : isTown t) {M : Mem} {n m : Nat} (w : TW M t n m) : Fun yX8_allCoin cX8_allCoin 3 (some .int) 0 [.ref t] M (some (.int (fsum (M.1 (t + 1)) n))) (M) := by
  refine Fun.of (own := RX8) ([some (.ref t), none, none]) rfl (by decide +kernel) (Nat.le_of_ble_eq_true rfl) rfl ?_
  refine rx_iconst (0) dX8_allCoin_0 rfl ?_
  refine rx_istore_n (i := 1) dX8_allCoin_1 rfl (by decide) rfl rfl ?_
  refine rx_iconst (0) dX8_allCoin_2 rfl ?_
  refine rx_istore_n (i := 2) dX8_allCoin_3 rfl (by decide) rfl rfl ?_
  exact l_X8_allCoin ht w (n + 1) 0 0 (by omega) rfl (by omega)
def gu (L : Nat → Int32) (h : Int32) : Nat → Int32
  | 0 => -2147483648
  | i + 1 => if L i < h ∧ gu L h i < L i then L i else gu L h i
set_option maxRecDepth 100000 in
set_option maxHeartbeats 4000000 in
theorem l_X8_greatestUnder {t : Nat} (ht : isTown t) {M : Mem} {n m : Nat} (w : TW M t n m) (h : Int32) : ∀ (N : Nat) (i : Nat) (s : Int32), (i ≤ n) → (s = gu (M.1 (t + 6)) h i) → n - i < N → Reach cX8_greatestUnder RX8 4 0 (FQ cX8_greatestUnder (some .int) (some (.int (gu (M.1 (t + 6)) h n))) M) 5 [some (.ref t), some (.int h), some (.int s), some (.int (nI i))] [] (M) := by
  intro N
  induction N with
  | zero => intro i s hi hs hm; exact absurd ‹_ < 0› (Nat.not_lt_zero _)
  | succ N ih =>
    intro i s hi hs hm
    have ⟨hn, hn8, hm, hm10, hd⟩ := w
    refine rx_iload_n (i := 3) dX8_greatestUnder_5 rfl rfl ?_
    refine rx_aload_n (i := 0) dX8_greatestUnder_6 rfl rfl ?_
    refine rx_getI (k := 15) fo_X8_67 (kt_0 ht) (by decide) ti_8_15 dX8_greatestUnder_7 ?_
    refine rx_icmp_ge (tgt := 46) dX8_greatestUnder_10 (by decide) (fun c10 => ?_) (fun c10 => ?_)
    · skip
      have f10 := Int32.not_lt.mpr c10
      rw [hn, nI_leI (by omega) (by omega)] at c10
      obtain rfl : i = n := by omega
      refine rx_iload_n (i := 2) dX8_greatestUnder_46 rfl rfl ?_
      exact rx_fiI dX8_greatestUnder_47 hs rfl
    · skip
      have f10 := Int32.not_le.mp c10
      rw [hn, nI_leI (by omega) (by omega)] at c10
      refine rx_aload_n (i := 0) dX8_greatestUnder_13 rfl rfl ?_
      refine rx_getR (t + 6) (k := 5) fo_X8_27 (kt_0 ht) (by decide) ti_8_5 (by rintro ⟨-, h⟩; omega) (rt_T ht 5 _ (by omega)) dX8_greatestUnder_14 ?_
      refine rx_iload_n (i := 3) dX8_greatestUnder_17 rfl rfl ?_
      refine rx_ialdN (kt_6 ht) (by omega) (by first | decide | omega) dX8_greatestUnder_18 ?_
      refine rx_iload_n (i := 1) dX8_greatestUnder_19 rfl rfl ?_
      refine rx_icmp_ge (tgt := 40) dX8_greatestUnder_20 (by decide) (fun c20 => ?_) (fun c20 => ?_)
      · skip
        have f20 := Int32.not_lt.mpr c20
        first | refine rx_iincN (i := 3) dX8_greatestUnder_40 rfl (by decide) rfl rfl ?_ | refine rx_iinc (i := 3) dX8_greatestUnder_40 rfl rfl (by decide) rfl rfl ?_
        refine rx_goto (tgt := 5) dX8_greatestUnder_43 (by decide) ?_
        exact ih (i + 1) _ (by omega) (by rw [hs] at *; simp [gu, *]) (by omega)
      · skip
        have f20 := Int32.not_le.mp c20
        refine rx_aload_n (i := 0) dX8_greatestUnder_23 rfl rfl ?_
        refine rx_getR (t + 6) (k := 5) fo_X8_27 (kt_0 ht) (by decide) ti_8_5 (by rintro ⟨-, h⟩; omega) (rt_T ht 5 _ (by omega)) dX8_greatestUnder_24 ?_
        refine rx_iload_n (i := 3) dX8_greatestUnder_27 rfl rfl ?_
        refine rx_ialdN (kt_6 ht) (by omega) (by first | decide | omega) dX8_greatestUnder_28 ?_
        refine rx_iload_n (i := 2) dX8_greatestUnder_29 rfl rfl ?_
        refine rx_icmp_le (tgt := 40) dX8_greatestUnder_30 (by decide) (fun c30 => ?_) (fun c30 => ?_)
        · skip
          have f30 := Int32.not_lt.mpr c30
          first | refine rx_iincN (i := 3) dX8_greatestUnder_40 rfl (by decide) rfl rfl ?_ | refine rx_iinc (i := 3) dX8_greatestUnder_40 rfl rfl (by decide) rfl rfl ?_
          refine rx_goto (tgt := 5) dX8_greatestUnder_43 (by decide) ?_
          exact ih (i + 1) _ (by omega) (by rw [hs] at *; simp [gu, *]) (by omega)
        · skip
          have f30 := Int32.not_le.mp c30
          refine rx_aload_n (i := 0) dX8_greatestUnder_33 rfl rfl ?_
          refine rx_getR (t + 6) (k := 5) fo_X8_27 (kt_0 ht) (by decide) ti_8_5 (by rintro ⟨-, h⟩; omega) (rt_T ht 5 _ (by omega)) dX8_greatestUnder_34 ?_
          refine rx_iload_n (i := 3) dX8_greatestUnder_37 rfl rfl ?_
          refine rx_ialdN (kt_6 ht) (by omega) (by first | decide | omega) dX8_greatestUnder_38 ?_
          refine rx_istore_n (i := 2) dX8_greatestUnder_39 rfl (by decide) rfl rfl ?_
          first | refine rx_iincN (i := 3) dX8_greatestUnder_40 rfl (by decide) rfl rfl ?_ | refine rx_iinc (i := 3) dX8_greatestUnder_40 rfl rfl (by decide) rfl rfl ?_
          refine rx_goto (tgt := 5) dX8_greatestUnder_43 (by decide) ?_
          exact ih (i + 1) _ (by omega) (by rw [hs] at *; simp [gu, *]) (by omega)
set_option maxRecDepth 100000 in
set_option maxHeartbeats 4000000 in
theorem c_X8_greatestUnder {t : Nat} (ht : isTown t) {M : Mem} {n m : Nat} (w : TW M t n m) {h : Int32} : Fun yX8_greatestUnder cX8_greatestUnder 4 (some .int) 0 [.ref t, .int h] M (some (.int (gu (M.1 (t + 6)) h n))) (M) := by
  refine Fun.of (own := RX8) ([some (.ref t), some (.int h), none, none]) rfl (by decide +kernel) (Nat.le_of_ble_eq_true rfl) rfl ?_
  refine rx_ldc (own := RX8) (v := (-2147483648)) (List.mem_of_getElem? (i := 795) (by decide +kernel)) dX8_greatestUnder_0 ?_
  refine rx_istore_n (i := 2) dX8_greatestUnder_2 rfl (by decide) rfl rfl ?_
  refine rx_iconst (0) dX8_greatestUnder_3 rfl ?_
  refine rx_istore_n (i := 3) dX8_greatestUnder_4 rfl (by decide) rfl rfl ?_
  exact l_X8_greatestUnder ht w h (n + 1) 0 _ (by omega) rfl (by omega)
set_option maxRecDepth 100000 in
set_option maxHeartbeats 4000000 in
theorem c_X8_openOwedBy {t : Nat} (ht : isTown t) {M : Mem} {n m : Nat} (w : TW M t n m) {p : Nat} (hp : p < n) : Fun yX8_openOwedBy cX8_openOwedBy 2 (some .int) 1 [.ref t, .int (nI p)] M (some (.int (fsum (fun k => if M.1 (t + 11) k = 0 ∧ M.1 (t + 7) k = nI p then M.1 (t + 9) k else 0) m))) (M) := by
  refine Fun.of (own := RX8) ([some (.ref t), some (.int (nI p))]) rfl (by decide +kernel) (Nat.le_of_ble_eq_true rfl) rfl ?_
  refine rx_aload_n (i := 0) dX8_openOwedBy_0 rfl rfl ?_
  refine rx_aload_n (i := 0) dX8_openOwedBy_1 rfl rfl ?_
  refine rx_iconst (1) dX8_openOwedBy_2 rfl ?_
  refine rx_iload_n (i := 1) dX8_openOwedBy_3 rfl rfl ?_
  refine rx_ishl dX8_openOwedBy_4 ?_
  refine rx_cvI (ci := 8) mo_X8_openDebtsOf lk_X8_132 (c_X8_openDebtsOf ht w) (by decide) rfl rfl (Nat.le_of_ble_eq_true rfl) (kt_0 ht) rfl dX8_openOwedBy_5 ?_
  refine rx_cvI (ci := 8) mo_X8_sumOf lk_X8_135 (c_X8_sumOf ht w) (by decide) rfl rfl (Nat.le_of_ble_eq_true rfl) (kt_0 ht) rfl dX8_openOwedBy_8 ?_
  refine rx_fiI dX8_openOwedBy_11 ?_ rfl
  obtain ⟨hn, hn8, hm, hm10, hd⟩ := w
  refine fsum_congr fun k hk => ?_
  obtain ⟨o, g, ho, hg, hog, eo, eg⟩ := hd k hk
  have e : nI o = nI p ↔ o = p := nI_eq (by omega) (by omega)
  have e2 : bt ((1 : Int32) <<< (nI p &&& 31)) o = decide (o = p) := b_bit (by omega) o
  rw [b_fbor _ m (by omega)]
  simp only [eo, nI_clamp (show o < 2 ^ 31 by omega), e, e2]
  by_cases h1 : M.1 (t + 11) k = 0 <;> by_cases h2 : o = p <;> simp [h1, h2, hk]
set_option maxRecDepth 100000 in
set_option maxHeartbeats 4000000 in
theorem c_X8_openDebts {t : Nat} (ht : isTown t) {M : Mem} {n m : Nat} (w : TW M t n m) : Fun yX8_openDebts cX8_openDebts 1 (some .int) 1 [.ref t] M (some (.int (fbor (fun k => decide (M.1 (t + 11) k = 0)) m))) (M) := by
  refine Fun.of (own := RX8) ([some (.ref t)]) rfl (by decide +kernel) (Nat.le_of_ble_eq_true rfl) rfl ?_
  refine rx_aload_n (i := 0) dX8_openDebts_0 rfl rfl ?_
  refine rx_aload_n (i := 0) dX8_openDebts_1 rfl rfl ?_
  refine rx_cvI (ci := 8) mo_X8_everybody lk_X8_92 (c_X8_everybody ht w) (by decide) rfl rfl (Nat.le_of_ble_eq_true rfl) (kt_0 ht) rfl dX8_openDebts_2 ?_
  refine rx_cvI (ci := 8) mo_X8_openDebtsOf lk_X8_132 (c_X8_openDebtsOf ht w) (by decide) rfl rfl (Nat.le_of_ble_eq_true rfl) (kt_0 ht) rfl dX8_openDebts_5 ?_
  refine rx_fiI dX8_openDebts_8 ?_ rfl
  obtain ⟨hn, hn8, hm, hm10, hd⟩ := w
  refine fbor_congr fun k hk => ?_
  obtain ⟨o, g, ho, hg, hog, eo, eg⟩ := hd k hk
  rw [eo, nI_clamp (show o < 2 ^ 31 by omega), b_fbor _ n (by omega)]
  simp [ho]
set_option maxRecDepth 100000 in
set_option maxHeartbeats 4000000 in
theorem l_X8_openDueBy {t : Nat} (ht : isTown t) {M : Mem} {n m : Nat} (w : TW M t n m) (x : Int32) : ∀ (N : Nat) (i : Nat) (s : Int32), (i ≤ m) → (∀ k, k < 32 → bt s k = (decide (k < m) && (decide (M.1 (t + 11) k = 0) && (decide (i ≤ k) || decide (M.1 (t + 10) k ≤ x))))) → m - i < N → Reach cX8_openDueBy RX8 4 2 (FQ cX8_openDueBy (some .int) (some (.int (fbor (fun k => decide (M.1 (t + 11) k = 0) && decide (M.1 (t + 10) k ≤ x)) m))) M) 7 [some (.ref t), some (.int x), some (.int s), some (.int (nI i))] [] (M) := by
  intro N
  induction N with
  | zero => intro i s hi hs hm; exact absurd ‹_ < 0› (Nat.not_lt_zero _)
  | succ N ih =>
    intro i s hi hs hm
    have ⟨hn, hn8, hm, hm10, hd⟩ := w
    refine rx_iload_n (i := 3) dX8_openDueBy_7 rfl rfl ?_
    refine rx_aload_n (i := 0) dX8_openDueBy_8 rfl rfl ?_
    refine rx_getI (k := 16) fo_X8_70 (kt_0 ht) (by decide) ti_8_16 dX8_openDueBy_9 ?_
    refine rx_icmp_ge (tgt := 39) dX8_openDueBy_12 (by decide) (fun c12 => ?_) (fun c12 => ?_)
    · skip
      have f12 := Int32.not_lt.mpr c12
      rw [hm, nI_leI (by omega) (by omega)] at c12
      obtain rfl : i = m := by omega
      refine rx_iload_n (i := 2) dX8_openDueBy_39 rfl rfl ?_
      exact rx_fiI dX8_openDueBy_40 (b_ext fun k hk => by
        rw [hs k hk, b_fbor _ _ (by omega)]
        by_cases hkm : k < i
        · simp [hkm, show ¬ i ≤ k by omega]
        · simp [hkm]) rfl
    · skip
      have f12 := Int32.not_le.mp c12
      rw [hm, nI_leI (by omega) (by omega)] at c12
      refine rx_aload_n (i := 0) dX8_openDueBy_15 rfl rfl ?_
      refine rx_getR (t + 10) (k := 9) fo_X8_39 (kt_0 ht) (by decide) ti_8_9 (by rintro ⟨-, h⟩; omega) (rt_T ht 9 _ (by omega)) dX8_openDueBy_16 ?_
      refine rx_iload_n (i := 3) dX8_openDueBy_19 rfl rfl ?_
      refine rx_ialdN (kt_10 ht) (by omega) (by first | decide | omega) dX8_openDueBy_20 ?_
      refine rx_iload_n (i := 1) dX8_openDueBy_21 rfl rfl ?_
      refine rx_icmp_le (tgt := 33) dX8_openDueBy_22 (by decide) (fun c22 => ?_) (fun c22 => ?_)
      · skip
        have f22 := Int32.not_lt.mpr c22
        first | refine rx_iincN (i := 3) dX8_openDueBy_33 rfl (by decide) rfl rfl ?_ | refine rx_iinc (i := 3) dX8_openDueBy_33 rfl rfl (by decide) rfl rfl ?_
        refine rx_goto (tgt := 7) dX8_openDueBy_36 (by decide) ?_
        exact ih (i + 1) _ (by omega) (fun k hk => by
          have h1 := hs k hk
          try rw [b_and, b_not _ hk, show (1 : Int32) <<< (nI i &&& 31) = bit i from rfl, b_bit (by omega)]
          rw [h1]
          by_cases hki : k = i
          · subst hki; simp [*]
          · have e : (i + 1 ≤ k) = (i ≤ k) := by apply propext; omega
            simp [hki, e]) (by omega)
      · skip
        have f22 := Int32.not_le.mp c22
        refine rx_iload_n (i := 2) dX8_openDueBy_25 rfl rfl ?_
        refine rx_iconst (1) dX8_openDueBy_26 rfl ?_
        refine rx_iload_n (i := 3) dX8_openDueBy_27 rfl rfl ?_
        refine rx_ishl dX8_openDueBy_28 ?_
        refine rx_iconst (-1) dX8_openDueBy_29 rfl ?_
        refine rx_ixor dX8_openDueBy_30 ?_
        refine rx_iand dX8_openDueBy_31 ?_
        refine rx_istore_n (i := 2) dX8_openDueBy_32 rfl (by decide) rfl rfl ?_
        first | refine rx_iincN (i := 3) dX8_openDueBy_33 rfl (by decide) rfl rfl ?_ | refine rx_iinc (i := 3) dX8_openDueBy_33 rfl rfl (by decide) rfl rfl ?_
        refine rx_goto (tgt := 7) dX8_openDueBy_36 (by decide) ?_
        exact ih (i + 1) _ (by omega) (fun k hk => by
          have h1 := hs k hk
          try rw [b_and, b_not _ hk, show (1 : Int32) <<< (nI i &&& 31) = bit i from rfl, b_bit (by omega)]
          rw [h1]
          by_cases hki : k = i
          · subst hki; simp [*]
          · have e : (i + 1 ≤ k) = (i ≤ k) := by apply propext; omega
            simp [hki, e]) (by omega)
set_option maxRecDepth 100000 in
set_option maxHeartbeats 4000000 in
theorem c_X8_openDueBy {t : Nat} (ht : isTown t) {M : Mem} {n m : Nat} (w : TW M t n m) {x : Int32} : Fun yX8_openDueBy cX8_openDueBy 4 (some .int) 2 [.ref t, .int x] M (some (.int (fbor (fun k => decide (M.1 (t + 11) k = 0) && decide (M.1 (t + 10) k ≤ x)) m))) (M) := by
  refine Fun.of (own := RX8) ([some (.ref t), some (.int x), none, none]) rfl (by decide +kernel) (Nat.le_of_ble_eq_true rfl) rfl ?_
  refine rx_aload_n (i := 0) dX8_openDueBy_0 rfl rfl ?_
  refine rx_cvI (ci := 8) mo_X8_openDebts lk_X8_138 (c_X8_openDebts ht w) (by decide) rfl rfl (Nat.le_of_ble_eq_true rfl) (kt_0 ht) rfl dX8_openDueBy_1 ?_
  refine rx_istore_n (i := 2) dX8_openDueBy_4 rfl (by decide) rfl rfl ?_
  refine rx_iconst (0) dX8_openDueBy_5 rfl ?_
  refine rx_istore_n (i := 3) dX8_openDueBy_6 rfl (by decide) rfl rfl ?_
  exact l_X8_openDueBy ht w x (m + 1) 0 _ (by omega) (fun k hk => by
    rw [b_fbor _ m (by have := w.2.2.2.1; omega)]; simp) (by omega)
def anyB (p : Nat → Bool) : Nat → Bool
  | 0 => false
  | n + 1 => anyB p n || p n
theorem anyB_iff {p : Nat → Bool} : ∀ {n : Nat}, anyB p n = true ↔ ∃ k, k < n ∧ p k = true
  | 0 => by simp [anyB]
  | n + 1 => by
    simp only [anyB, Bool.or_eq_true, anyB_iff (n := n)]
    constructor
    · rintro (⟨k, h1, h2⟩ | h)
      · exact ⟨k, by omega, h2⟩
      · exact ⟨n, by omega, h⟩
    · rintro ⟨k, h1, h2⟩
      rcases Nat.lt_or_ge k n with h | h
      · exact Or.inl ⟨k, h, h2⟩
      · obtain rfl : k = n := by omega
        exact Or.inr h2
set_option maxRecDepth 100000 in
set_option maxHeartbeats 4000000 in
theorem l_X8_hasOpenDebt {t : Nat} (ht : isTown t) {M : Mem} {n m : Nat} (w : TW M t n m) (p q : Int32) : ∀ (N : Nat) (i : Nat), (i ≤ m) → (anyB (fun k => decide (M.1 (t + 11) k = 0) && (decide (M.1 (t + 7) k = p) && decide (M.1 (t + 8) k = q))) i = false) → m - i < N → Reach cX8_hasOpenDebt RX8 4 0 (FQ cX8_hasOpenDebt (some .boolean) (some (.int (zI (anyB (fun k => decide (M.1 (t + 11) k = 0) && (decide (M.1 (t + 7) k = p) && decide (M.1 (t + 8) k = q))) m)))) M) 2 [some (.ref t), some (.int p), some (.int q), some (.int (nI i))] [] (M) := by
  intro N
  induction N with
  | zero => intro i hi hs hm; exact absurd ‹_ < 0› (Nat.not_lt_zero _)
  | succ N ih =>
    intro i hi hs hm
    have ⟨hn, hn8, hm, hm10, hd⟩ := w
    refine rx_iload_n (i := 3) dX8_hasOpenDebt_2 rfl rfl ?_
    refine rx_aload_n (i := 0) dX8_hasOpenDebt_3 rfl rfl ?_
    refine rx_getI (k := 16) fo_X8_70 (kt_0 ht) (by decide) ti_8_16 dX8_hasOpenDebt_4 ?_
    refine rx_icmp_ge (tgt := 47) dX8_hasOpenDebt_7 (by decide) (fun c7 => ?_) (fun c7 => ?_)
    · skip
      have f7 := Int32.not_lt.mpr c7
      rw [hm, nI_leI (by omega) (by omega)] at c7
      obtain rfl : i = m := by omega
      refine rx_iconst (0) dX8_hasOpenDebt_47 rfl ?_
      exact rx_fiZ dX8_hasOpenDebt_48 (Or.inl rfl) (by rw [hs]; rfl) rfl
    · skip
      have f7 := Int32.not_le.mp c7
      rw [hm, nI_leI (by omega) (by omega)] at c7
      refine rx_aload_n (i := 0) dX8_hasOpenDebt_10 rfl rfl ?_
      refine rx_getR (t + 11) (k := 10) fo_X8_42 (kt_0 ht) (by decide) ti_8_10 (by rintro ⟨-, h⟩; omega) (rt_T ht 10 _ (by omega)) dX8_hasOpenDebt_11 ?_
      refine rx_iload_n (i := 3) dX8_hasOpenDebt_14 rfl rfl ?_
      refine rx_ialdN (kt_11 ht) (by omega) (by first | decide | omega) dX8_hasOpenDebt_15 ?_
      refine rx_if_ne (tgt := 41) dX8_hasOpenDebt_16 (by decide) (fun c16 => ?_) (fun c16 => ?_)
      · skip
        first | refine rx_iincN (i := 3) dX8_hasOpenDebt_41 rfl (by decide) rfl rfl ?_ | refine rx_iinc (i := 3) dX8_hasOpenDebt_41 rfl rfl (by decide) rfl rfl ?_
        refine rx_goto (tgt := 2) dX8_hasOpenDebt_44 (by decide) ?_
        exact ih (i + 1) (by omega) (by simp [anyB, *]) (by omega)
      · skip
        refine rx_aload_n (i := 0) dX8_hasOpenDebt_19 rfl rfl ?_
        refine rx_getR (t + 7) (k := 6) fo_X8_30 (kt_0 ht) (by decide) ti_8_6 (by rintro ⟨-, h⟩; omega) (rt_T ht 6 _ (by omega)) dX8_hasOpenDebt_20 ?_
        refine rx_iload_n (i := 3) dX8_hasOpenDebt_23 rfl rfl ?_
        refine rx_ialdN (kt_7 ht) (by omega) (by first | decide | omega) dX8_hasOpenDebt_24 ?_
        refine rx_iload_n (i := 1) dX8_hasOpenDebt_25 rfl rfl ?_
        refine rx_icmp_ne (tgt := 41) dX8_hasOpenDebt_26 (by decide) (fun c26 => ?_) (fun c26 => ?_)
        · skip
          first | refine rx_iincN (i := 3) dX8_hasOpenDebt_41 rfl (by decide) rfl rfl ?_ | refine rx_iinc (i := 3) dX8_hasOpenDebt_41 rfl rfl (by decide) rfl rfl ?_
          refine rx_goto (tgt := 2) dX8_hasOpenDebt_44 (by decide) ?_
          exact ih (i + 1) (by omega) (by simp [anyB, *]) (by omega)
        · skip
          refine rx_aload_n (i := 0) dX8_hasOpenDebt_29 rfl rfl ?_
          refine rx_getR (t + 8) (k := 7) fo_X8_33 (kt_0 ht) (by decide) ti_8_7 (by rintro ⟨-, h⟩; omega) (rt_T ht 7 _ (by omega)) dX8_hasOpenDebt_30 ?_
          refine rx_iload_n (i := 3) dX8_hasOpenDebt_33 rfl rfl ?_
          refine rx_ialdN (kt_8 ht) (by omega) (by first | decide | omega) dX8_hasOpenDebt_34 ?_
          refine rx_iload_n (i := 2) dX8_hasOpenDebt_35 rfl rfl ?_
          refine rx_icmp_ne (tgt := 41) dX8_hasOpenDebt_36 (by decide) (fun c36 => ?_) (fun c36 => ?_)
          · skip
            first | refine rx_iincN (i := 3) dX8_hasOpenDebt_41 rfl (by decide) rfl rfl ?_ | refine rx_iinc (i := 3) dX8_hasOpenDebt_41 rfl rfl (by decide) rfl rfl ?_
            refine rx_goto (tgt := 2) dX8_hasOpenDebt_44 (by decide) ?_
            exact ih (i + 1) (by omega) (by simp [anyB, *]) (by omega)
          · skip
            refine rx_iconst (1) dX8_hasOpenDebt_39 rfl ?_
            exact rx_fiZ dX8_hasOpenDebt_40 (Or.inr rfl) (by
              have h := anyB_iff.mpr (⟨i, by omega, by simp [*]⟩ : ∃ k, k < m ∧ (fun k => decide (M.1 (t + 11) k = 0) && (decide (M.1 (t + 7) k = p) && decide (M.1 (t + 8) k = q))) k = true)
              rw [h]; rfl) rfl
set_option maxRecDepth 100000 in
set_option maxHeartbeats 4000000 in
theorem c_X8_hasOpenDebt {t : Nat} (ht : isTown t) {M : Mem} {n m : Nat} (w : TW M t n m) {p q : Int32} : Fun yX8_hasOpenDebt cX8_hasOpenDebt 4 (some .boolean) 0 [.ref t, .int p, .int q] M (some (.int (zI (anyB (fun k => decide (M.1 (t + 11) k = 0) && (decide (M.1 (t + 7) k = p) && decide (M.1 (t + 8) k = q))) m)))) (M) := by
  refine Fun.of (own := RX8) ([some (.ref t), some (.int p), some (.int q), none]) rfl (by decide +kernel) (Nat.le_of_ble_eq_true rfl) rfl ?_
  refine rx_iconst (0) dX8_hasOpenDebt_0 rfl ?_
  refine rx_istore_n (i := 3) dX8_hasOpenDebt_1 rfl (by decide) rfl rfl ?_
  exact l_X8_hasOpenDebt ht w p q (m + 1) 0 (by omega) rfl (by omega)
set_option maxRecDepth 100000 in
set_option maxHeartbeats 4000000 in
theorem c_X8_price {t : Nat} (ht : isTown t) {M : Mem} {i k : Nat} (hi : i < 8) (hk : k < 10) : Fun yX8_price cX8_price 3 (some .int) 0 [.ref t, .int (nI i), .int (nI k)] M (some (.int (if M.1 (t + 3) i = 1 then 0 else M.1 (t + 9) k + M.1 (t + 9) k * M.1 (t + 2) i / 100))) (M) := by
  refine Fun.of (own := RX8) ([some (.ref t), some (.int (nI i)), some (.int (nI k))]) rfl (by decide +kernel) (Nat.le_of_ble_eq_true rfl) rfl ?_
  refine rx_aload_n (i := 0) dX8_price_0 rfl rfl ?_
  refine rx_getR (t + 3) (k := 2) fo_X8_18 (kt_0 ht) (by decide) ti_8_2 (by rintro ⟨-, h⟩; omega) (rt_T ht 2 _ (by omega)) dX8_price_1 ?_
  refine rx_iload_n (i := 1) dX8_price_4 rfl rfl ?_
  refine rx_ialdN (kt_3 ht) (by omega) (by first | decide | omega) dX8_price_5 ?_
  refine rx_iconst (1) dX8_price_6 rfl ?_
  refine rx_icmp_ne (tgt := 14) dX8_price_7 (by decide) (fun c7 => ?_) (fun c7 => ?_)
  · skip
    rw [if_neg c7]
    refine rx_aload_n (i := 0) dX8_price_14 rfl rfl ?_
    refine rx_getR (t + 9) (k := 8) fo_X8_36 (kt_0 ht) (by decide) ti_8_8 (by rintro ⟨-, h⟩; omega) (rt_T ht 8 _ (by omega)) dX8_price_15 ?_
    refine rx_iload_n (i := 2) dX8_price_18 rfl rfl ?_
    refine rx_ialdN (kt_9 ht) (by omega) (by first | decide | omega) dX8_price_19 ?_
    refine rx_aload_n (i := 0) dX8_price_20 rfl rfl ?_
    refine rx_getR (t + 9) (k := 8) fo_X8_36 (kt_0 ht) (by decide) ti_8_8 (by rintro ⟨-, h⟩; omega) (rt_T ht 8 _ (by omega)) dX8_price_21 ?_
    refine rx_iload_n (i := 2) dX8_price_24 rfl rfl ?_
    refine rx_ialdN (kt_9 ht) (by omega) (by first | decide | omega) dX8_price_25 ?_
    refine rx_aload_n (i := 0) dX8_price_26 rfl rfl ?_
    refine rx_getR (t + 2) (k := 1) fo_X8_15 (kt_0 ht) (by decide) ti_8_1 (by rintro ⟨-, h⟩; omega) (rt_T ht 1 _ (by omega)) dX8_price_27 ?_
    refine rx_iload_n (i := 1) dX8_price_30 rfl rfl ?_
    refine rx_ialdN (kt_2 ht) (by omega) (by first | decide | omega) dX8_price_31 ?_
    refine rx_imul dX8_price_32 ?_
    refine rx_bipush (100) dX8_price_33 rfl ?_
    refine rx_idiv dX8_price_35 (by decide) ?_
    refine rx_iadd dX8_price_36 ?_
    exact rx_fiI dX8_price_37 rfl rfl
  · skip
    rw [if_pos c7]
    refine rx_iconst (0) dX8_price_10 rfl ?_
    refine rx_goto (tgt := 37) dX8_price_11 (by decide) ?_
    exact rx_fiI dX8_price_37 rfl rfl
set_option maxRecDepth 100000 in
set_option maxHeartbeats 4000000 in
theorem c_X8_outsiders {t : Nat} (ht : isTown t) {M : Mem} {n m : Nat} (w : TW M t n m) {k : Nat} (hk : k < m) : Fun yX8_outsiders cX8_outsiders 2 (some .int) 1 [.ref t, .int (nI k)] M (some (.int (fbor (fun i => !(decide (nI i = M.1 (t + 7) k)) && !(decide (nI i = M.1 (t + 8) k))) n))) (M) := by
  refine Fun.of (own := RX8) ([some (.ref t), some (.int (nI k))]) rfl (by decide +kernel) (Nat.le_of_ble_eq_true rfl) rfl ?_
  have ⟨hn, hn8, hm, hm10, hd⟩ := w
  obtain ⟨o, g, ho, hg, hog, eo, eg⟩ := hd k hk
  refine rx_aload_n (i := 0) dX8_outsiders_0 rfl rfl ?_
  refine rx_cvI (ci := 8) mo_X8_everybody lk_X8_92 (c_X8_everybody ht w) (by decide) rfl rfl (Nat.le_of_ble_eq_true rfl) (kt_0 ht) rfl dX8_outsiders_1 ?_
  refine rx_iconst (1) dX8_outsiders_4 rfl ?_
  refine rx_aload_n (i := 0) dX8_outsiders_5 rfl rfl ?_
  refine rx_getR (t + 7) (k := 6) fo_X8_30 (kt_0 ht) (by decide) ti_8_6 (by rintro ⟨-, h⟩; omega) (rt_T ht 6 _ (by omega)) dX8_outsiders_6 ?_
  refine rx_iload_n (i := 1) dX8_outsiders_9 rfl rfl ?_
  refine rx_ialdN (kt_7 ht) (by omega) (by first | decide | omega) dX8_outsiders_10 ?_
  refine rx_ishl dX8_outsiders_11 ?_
  refine rx_iconst (1) dX8_outsiders_12 rfl ?_
  refine rx_aload_n (i := 0) dX8_outsiders_13 rfl rfl ?_
  refine rx_getR (t + 8) (k := 7) fo_X8_33 (kt_0 ht) (by decide) ti_8_7 (by rintro ⟨-, h⟩; omega) (rt_T ht 7 _ (by omega)) dX8_outsiders_14 ?_
  refine rx_iload_n (i := 1) dX8_outsiders_17 rfl rfl ?_
  refine rx_ialdN (kt_8 ht) (by omega) (by first | decide | omega) dX8_outsiders_18 ?_
  refine rx_ishl dX8_outsiders_19 ?_
  refine rx_ior dX8_outsiders_20 ?_
  refine rx_iconst (-1) dX8_outsiders_21 rfl ?_
  refine rx_ixor dX8_outsiders_22 ?_
  refine rx_iand dX8_outsiders_23 ?_
  refine rx_fiI dX8_outsiders_24 ?_ rfl
  rw [eo, eg]
  refine b_ext fun i hi => ?_
  rw [b_fbor _ n (by omega), b_and, b_fbor _ n (by omega), b_not _ hi, b_or, show (1 : Int32) <<< (nI o &&& 31) = bit o from rfl, show (1 : Int32) <<< (nI g &&& 31) = bit g from rfl, b_bit (by omega), b_bit (by omega)]
  by_cases hin : i < n
  · have e1 : nI i = nI o ↔ i = o := nI_eq (by omega) (by omega)
    have e2 : nI i = nI g ↔ i = g := nI_eq (by omega) (by omega)
    simp [hin, e1, e2]
  · simp [hin]
