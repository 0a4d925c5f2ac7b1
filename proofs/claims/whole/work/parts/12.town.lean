set_option maxRecDepth 100000 in
set_option maxHeartbeats 4000000 in
theorem c_X8_isPerson {t : Nat} (ht : isTown t) {M : Mem} {x : Int32} : Fun yX8_isPerson cX8_isPerson 2 (some .boolean) 0 [.ref t, .int x] M (some (.int (if 0 ≤ x ∧ x < M.1 t 15 then 1 else 0))) (M) := by
  refine Fun.of (own := RX8) ([some (.ref t), some (.int x)]) rfl (by decide +kernel) (Nat.le_of_ble_eq_true rfl) rfl ?_
  refine rx_iload_n (i := 1) dX8_isPerson_0 rfl rfl ?_
  refine rx_if_lt (tgt := 16) dX8_isPerson_1 (by decide) (fun c1 => ?_) (fun c1 => ?_)
  · skip
    have f1 := Int32.not_le.mpr c1
    rw [if_neg (fun h => Int32.not_lt.mpr h.1 c1)]
    refine rx_iconst (0) dX8_isPerson_16 rfl ?_
    exact rx_fiZ dX8_isPerson_17 (by first | exact Or.inl rfl | exact Or.inr rfl) rfl rfl
  · skip
    have f1 := Int32.not_lt.mp c1
    refine rx_iload_n (i := 1) dX8_isPerson_4 rfl rfl ?_
    refine rx_aload_n (i := 0) dX8_isPerson_5 rfl rfl ?_
    refine rx_getI (k := 15) fo_X8_67 (kt_0 ht) (by decide) ti_8_15 dX8_isPerson_6 ?_
    refine rx_icmp_ge (tgt := 16) dX8_isPerson_9 (by decide) (fun c9 => ?_) (fun c9 => ?_)
    · skip
      have f9 := Int32.not_lt.mpr c9
      rw [if_neg (fun h => Int32.not_le.mpr h.2 c9)]
      refine rx_iconst (0) dX8_isPerson_16 rfl ?_
      exact rx_fiZ dX8_isPerson_17 (by first | exact Or.inl rfl | exact Or.inr rfl) rfl rfl
    · skip
      have f9 := Int32.not_le.mp c9
      rw [if_pos ⟨Int32.not_lt.mp c1, Int32.not_le.mp c9⟩]
      refine rx_iconst (1) dX8_isPerson_12 rfl ?_
      refine rx_goto (tgt := 17) dX8_isPerson_13 (by decide) ?_
      exact rx_fiZ dX8_isPerson_17 (by first | exact Or.inl rfl | exact Or.inr rfl) rfl rfl
set_option maxRecDepth 100000 in
set_option maxHeartbeats 4000000 in
theorem c_X8_isDebt {t : Nat} (ht : isTown t) {M : Mem} {x : Int32} : Fun yX8_isDebt cX8_isDebt 2 (some .boolean) 0 [.ref t, .int x] M (some (.int (if 0 ≤ x ∧ x < M.1 t 16 then 1 else 0))) (M) := by
  refine Fun.of (own := RX8) ([some (.ref t), some (.int x)]) rfl (by decide +kernel) (Nat.le_of_ble_eq_true rfl) rfl ?_
  refine rx_iload_n (i := 1) dX8_isDebt_0 rfl rfl ?_
  refine rx_if_lt (tgt := 16) dX8_isDebt_1 (by decide) (fun c1 => ?_) (fun c1 => ?_)
  · skip
    have f1 := Int32.not_le.mpr c1
    rw [if_neg (fun h => Int32.not_lt.mpr h.1 c1)]
    refine rx_iconst (0) dX8_isDebt_16 rfl ?_
    exact rx_fiZ dX8_isDebt_17 (by first | exact Or.inl rfl | exact Or.inr rfl) rfl rfl
  · skip
    have f1 := Int32.not_lt.mp c1
    refine rx_iload_n (i := 1) dX8_isDebt_4 rfl rfl ?_
    refine rx_aload_n (i := 0) dX8_isDebt_5 rfl rfl ?_
    refine rx_getI (k := 16) fo_X8_70 (kt_0 ht) (by decide) ti_8_16 dX8_isDebt_6 ?_
    refine rx_icmp_ge (tgt := 16) dX8_isDebt_9 (by decide) (fun c9 => ?_) (fun c9 => ?_)
    · skip
      have f9 := Int32.not_lt.mpr c9
      rw [if_neg (fun h => Int32.not_le.mpr h.2 c9)]
      refine rx_iconst (0) dX8_isDebt_16 rfl ?_
      exact rx_fiZ dX8_isDebt_17 (by first | exact Or.inl rfl | exact Or.inr rfl) rfl rfl
    · skip
      have f9 := Int32.not_le.mp c9
      rw [if_pos ⟨Int32.not_lt.mp c1, Int32.not_le.mp c9⟩]
      refine rx_iconst (1) dX8_isDebt_12 rfl ?_
      refine rx_goto (tgt := 17) dX8_isDebt_13 (by decide) ?_
      exact rx_fiZ dX8_isDebt_17 (by first | exact Or.inl rfl | exact Or.inr rfl) rfl rfl

theorem one_ne0 : ¬ (1 : Int32) = 0 := by decide
/-- a truth value as the machine has it -/
def zI (b : Bool) : Int32 := if b = true then 1 else 0
theorem zI_01 (b : Bool) : zI b = 0 ∨ zI b = 1 := by cases b <;> simp [zI]
theorem zI_0 {b : Bool} : zI b = 0 ↔ b = false := by cases b <;> decide
theorem zI_1 {b : Bool} : zI b = 1 ↔ b = true := by cases b <;> decide
theorem inN {x : Int32} {n : Nat} (hn : n < 2 ^ 31) : (0 ≤ x ∧ x < nI n) ↔ ∃ k, k < n ∧ x = nI k := by
  constructor
  · rintro ⟨h1, h2⟩
    obtain ⟨j, hj, rfl⟩ := nI_of (Int32.not_lt.mpr h1)
    exact ⟨j, (nI_ltI hj hn).mp h2, rfl⟩
  · rintro ⟨k, hk, rfl⟩
    exact ⟨nI_pos' (by omega), nI_lt hk hn⟩
theorem isP_t {M : Mem} {t n m k : Nat} (w : TW M t n m) (hk : k < n) : (if 0 ≤ nI k ∧ nI k < M.1 t 15 then (1 : Int32) else 0) = 1 := by
  rw [w.1, if_pos ((inN (by have := w.2.1; omega)).mpr ⟨k, hk, rfl⟩)]
theorem isD_t {M : Mem} {t n m k : Nat} (w : TW M t n m) (hk : k < m) : (if 0 ≤ nI k ∧ nI k < M.1 t 16 then (1 : Int32) else 0) = 1 := by
  rw [w.2.2.1, if_pos ((inN (by have := w.2.2.2.1; omega)).mpr ⟨k, hk, rfl⟩)]

set_option maxRecDepth 100000 in
set_option maxHeartbeats 4000000 in
theorem c_X8_isOpen {t : Nat} (ht : isTown t) {M : Mem} {n m : Nat} (w : TW M t n m) {x : Int32} : Fun yX8_isOpen cX8_isOpen 2 (some .boolean) 1 [.ref t, .int x] M (some (.int (if (0 ≤ x ∧ x < M.1 t 16) ∧ M.1 (t + 11) x.toNatClampNeg = 0 then 1 else 0))) (M) := by
  refine Fun.of (own := RX8) ([some (.ref t), some (.int x)]) rfl (by decide +kernel) (Nat.le_of_ble_eq_true rfl) rfl ?_
  refine rx_aload_n (i := 0) dX8_isOpen_0 rfl rfl ?_
  refine rx_iload_n (i := 1) dX8_isOpen_1 rfl rfl ?_
  refine rx_cvI (ci := 8) mo_X8_isDebt lk_X8_79 (c_X8_isDebt ht) (by decide) rfl rfl (Nat.le_of_ble_eq_true rfl) (kt_0 ht) rfl dX8_isOpen_2 ?_
  refine rx_if_eq (tgt := 21) dX8_isOpen_5 (by decide) (fun c5 => ?_) (fun c5 => ?_)
  · skip
    have e5 : ¬ (0 ≤ x ∧ x < M.1 t 16) := fun h => one_ne0 (by rw [if_pos h] at c5; exact c5)
    rw [if_neg (fun h => e5 h.1)]
    refine rx_iconst (0) dX8_isOpen_21 rfl ?_
    exact rx_fiZ dX8_isOpen_22 (by first | exact Or.inl rfl | exact Or.inr rfl) rfl rfl
  · skip
    have e5 : 0 ≤ x ∧ x < M.1 t 16 := Classical.byContradiction fun h => c5 (if_neg h)
    obtain ⟨k, hk, rfl⟩ := (inN (by have := w.2.2.2.1; omega)).mp (w.2.2.1 ▸ e5)
    have h10 := w.2.2.2.1
    rw [nI_clamp (by omega)]
    refine rx_aload_n (i := 0) dX8_isOpen_8 rfl rfl ?_
    refine rx_getR (t + 11) (k := 10) fo_X8_42 (kt_0 ht) (by decide) ti_8_10 (by rintro ⟨-, h⟩; omega) (rt_T ht 10 _ (by omega)) dX8_isOpen_9 ?_
    refine rx_iload_n (i := 1) dX8_isOpen_12 rfl rfl ?_
    refine rx_ialdN (kt_11 ht) (by omega) (by first | decide | omega) dX8_isOpen_13 ?_
    refine rx_if_ne (tgt := 21) dX8_isOpen_14 (by decide) (fun c14 => ?_) (fun c14 => ?_)
    · skip
      rw [if_neg (fun h => c14 h.2)]
      refine rx_iconst (0) dX8_isOpen_21 rfl ?_
      exact rx_fiZ dX8_isOpen_22 (by first | exact Or.inl rfl | exact Or.inr rfl) rfl rfl
    · skip
      rw [if_pos ⟨e5, c14⟩]
      refine rx_iconst (1) dX8_isOpen_17 rfl ?_
      refine rx_goto (tgt := 22) dX8_isOpen_18 (by decide) ?_
      exact rx_fiZ dX8_isOpen_22 (by first | exact Or.inl rfl | exact Or.inr rfl) rfl rfl
set_option maxRecDepth 100000 in
set_option maxHeartbeats 4000000 in
theorem c_X8_counted {t : Nat} (ht : isTown t) {M : Mem} {k : Nat} (hk : k < 8) : Fun yX8_counted cX8_counted 2 (some .int) 0 [.ref t, .int (nI k)] M (some (.int (M.1 (t + 1) k - M.1 (t + 4) k))) (M) := by
  refine Fun.of (own := RX8) ([some (.ref t), some (.int (nI k))]) rfl (by decide +kernel) (Nat.le_of_ble_eq_true rfl) rfl ?_
  refine rx_aload_n (i := 0) dX8_counted_0 rfl rfl ?_
  refine rx_getR (t + 1) (k := 0) fo_X8_9 (kt_0 ht) (by decide) ti_8_0 (by rintro ⟨-, h⟩; omega) (rt_T ht 0 _ (by omega)) dX8_counted_1 ?_
  refine rx_iload_n (i := 1) dX8_counted_4 rfl rfl ?_
  refine rx_ialdN (kt_1 ht) (by omega) (by first | decide | omega) dX8_counted_5 ?_
  refine rx_aload_n (i := 0) dX8_counted_6 rfl rfl ?_
  refine rx_getR (t + 4) (k := 3) fo_X8_21 (kt_0 ht) (by decide) ti_8_3 (by rintro ⟨-, h⟩; omega) (rt_T ht 3 _ (by omega)) dX8_counted_7 ?_
  refine rx_iload_n (i := 1) dX8_counted_10 rfl rfl ?_
  refine rx_ialdN (kt_4 ht) (by omega) (by first | decide | omega) dX8_counted_11 ?_
  refine rx_isub dX8_counted_12 ?_
  exact rx_fiI dX8_counted_13 rfl rfl
set_option maxRecDepth 100000 in
set_option maxHeartbeats 4000000 in
theorem c_X8_everybody {t : Nat} (ht : isTown t) {M : Mem} {n m : Nat} (w : TW M t n m) : Fun yX8_everybody cX8_everybody 1 (some .int) 0 [.ref t] M (some (.int (fbor (fun _ => true) n))) (M) := by
  refine Fun.of (own := RX8) ([some (.ref t)]) rfl (by decide +kernel) (Nat.le_of_ble_eq_true rfl) rfl ?_
  refine rx_iconst (1) dX8_everybody_0 rfl ?_
  refine rx_aload_n (i := 0) dX8_everybody_1 rfl rfl ?_
  refine rx_getI (k := 15) fo_X8_67 (kt_0 ht) (by decide) ti_8_15 dX8_everybody_2 ?_
  refine rx_ishl dX8_everybody_5 ?_
  refine rx_iconst (1) dX8_everybody_6 rfl ?_
  refine rx_isub dX8_everybody_7 ?_
  exact rx_fiI dX8_everybody_8 (by rw [w.1]; exact (by decide +kernel : ∀ n, n ≤ 8 → (1 : Int32) <<< (nI n &&& 31) - 1 = fbor (fun _ => true) n) n w.2.1) rfl
set_option maxRecDepth 100000 in
set_option maxHeartbeats 4000000 in
theorem l_X8_sumOf {t : Nat} (ht : isTown t) {M : Mem} {n m : Nat} (w : TW M t n m) (b : Int32) : ∀ (N : Nat) (i : Nat) (s : Int32), (i ≤ m) → (s = fsum (fun k => if bt b k = true then M.1 (t + 9) k else 0) i) → m - i < N → Reach cX8_sumOf RX8 4 0 (FQ cX8_sumOf (some .int) (some (.int (fsum (fun k => if bt b k = true then M.1 (t + 9) k else 0) m))) M) 4 [some (.ref t), some (.int b), some (.int s), some (.int (nI i))] [] (M) := by
  intro N
  induction N with
  | zero => intro i s hi hs hm; exact absurd ‹_ < 0› (Nat.not_lt_zero _)
  | succ N ih =>
    intro i s hi hs hm
    have ⟨hn, hn8, hm, hm10, hd⟩ := w
    refine rx_iload_n (i := 3) dX8_sumOf_4 rfl rfl ?_
    refine rx_aload_n (i := 0) dX8_sumOf_5 rfl rfl ?_
    refine rx_getI (k := 16) fo_X8_70 (kt_0 ht) (by decide) ti_8_16 dX8_sumOf_6 ?_
    refine rx_icmp_ge (tgt := 35) dX8_sumOf_9 (by decide) (fun c9 => ?_) (fun c9 => ?_)
    · skip
      have f9 := Int32.not_lt.mpr c9
      rw [hm, nI_leI (by omega) (by omega)] at c9
      obtain rfl : i = m := by omega
      refine rx_iload_n (i := 2) dX8_sumOf_35 rfl rfl ?_
      exact rx_fiI dX8_sumOf_36 hs rfl
    · skip
      have f9 := Int32.not_le.mp c9
      rw [hm, nI_leI (by omega) (by omega)] at c9
      refine rx_iload_n (i := 1) dX8_sumOf_12 rfl rfl ?_
      refine rx_iconst (1) dX8_sumOf_13 rfl ?_
      refine rx_iload_n (i := 3) dX8_sumOf_14 rfl rfl ?_
      refine rx_ishl dX8_sumOf_15 ?_
      refine rx_iand dX8_sumOf_16 ?_
      refine rx_if_eq (tgt := 29) dX8_sumOf_17 (by decide) (fun c17 => ?_) (fun c17 => ?_)
      · skip
        try have e17 := (and_bit _ (by omega)).mp c17
        have e17 := (and_bit b (k := i) (by omega)).mp c17
        first | refine rx_iincN (i := 3) dX8_sumOf_29 rfl (by decide) rfl rfl ?_ | refine rx_iinc (i := 3) dX8_sumOf_29 rfl rfl (by decide) rfl rfl ?_
        refine rx_goto (tgt := 4) dX8_sumOf_32 (by decide) ?_
        exact ih (i + 1) _ (by omega) (by rw [hs]; simp only [fsum, e17]; simp) (by omega)
      · skip
        try have e17 := (and_bitn _ (by omega)).mp c17
        have e17 : bt b i = true := by
          cases h : bt b i
          · exact absurd ((and_bit b (k := i) (by omega)).mpr h) c17
          · rfl
        refine rx_iload_n (i := 2) dX8_sumOf_20 rfl rfl ?_
        refine rx_aload_n (i := 0) dX8_sumOf_21 rfl rfl ?_
        refine rx_getR (t + 9) (k := 8) fo_X8_36 (kt_0 ht) (by decide) ti_8_8 (by rintro ⟨-, h⟩; omega) (rt_T ht 8 _ (by omega)) dX8_sumOf_22 ?_
        refine rx_iload_n (i := 3) dX8_sumOf_25 rfl rfl ?_
        refine rx_ialdN (kt_9 ht) (by omega) (by first | decide | omega) dX8_sumOf_26 ?_
        refine rx_iadd dX8_sumOf_27 ?_
        refine rx_istore_n (i := 2) dX8_sumOf_28 rfl (by decide) rfl rfl ?_
        first | refine rx_iincN (i := 3) dX8_sumOf_29 rfl (by decide) rfl rfl ?_ | refine rx_iinc (i := 3) dX8_sumOf_29 rfl rfl (by decide) rfl rfl ?_
        refine rx_goto (tgt := 4) dX8_sumOf_32 (by decide) ?_
        exact ih (i + 1) _ (by omega) (by rw [hs]; simp only [fsum, e17]; simp) (by omega)
set_option maxRecDepth 100000 in
set_option maxHeartbeats 4000000 in
theorem c_X8_sumOf {t : Nat} (ht : isTown t) {M : Mem} {n m : Nat} (w : TW M t n m) {b : Int32} : Fun yX8_sumOf cX8_sumOf 4 (some .int) 0 [.ref t, .int b] M (some (.int (fsum (fun k => if bt b k = true then M.1 (t + 9) k else 0) m))) (M) := by
  refine Fun.of (own := RX8) ([some (.ref t), some (.int b), none, none]) rfl (by decide +kernel) (Nat.le_of_ble_eq_true rfl) rfl ?_
  refine rx_iconst (0) dX8_sumOf_0 rfl ?_
  refine rx_istore_n (i := 2) dX8_sumOf_1 rfl (by decide) rfl rfl ?_
  refine rx_iconst (0) dX8_sumOf_2 rfl ?_
  refine rx_istore_n (i := 3) dX8_sumOf_3 rfl (by decide) rfl rfl ?_
  exact l_X8_sumOf ht w b (m + 1) 0 0 (by omega) rfl (by omega)
set_option maxRecDepth 100000 in
set_option maxHeartbeats 4000000 in
theorem l_X8_openDebtsOf {t : Nat} (ht : isTown t) {M : Mem} {n m : Nat} (w : TW M t n m) (b : Int32) : ∀ (N : Nat) (i : Nat) (s : Int32), (i ≤ m) → (s = fbor (fun k => decide (M.1 (t + 11) k = 0) && bt b (M.1 (t + 7) k).toNatClampNeg) i) → m - i < N → Reach cX8_openDebtsOf RX8 4 0 (FQ cX8_openDebtsOf (some .int) (some (.int (fbor (fun k => decide (M.1 (t + 11) k = 0) && bt b (M.1 (t + 7) k).toNatClampNeg) m))) M) 4 [some (.ref t), some (.int b), some (.int s), some (.int (nI i))] [] (M) := by
  intro N
  induction N with
  | zero => intro i s hi hs hm; exact absurd ‹_ < 0› (Nat.not_lt_zero _)
  | succ N ih =>
    intro i s hi hs hm
    have ⟨hn, hn8, hm, hm10, hd⟩ := w
    refine rx_iload_n (i := 3) dX8_openDebtsOf_4 rfl rfl ?_
    refine rx_aload_n (i := 0) dX8_openDebtsOf_5 rfl rfl ?_
    refine rx_getI (k := 16) fo_X8_70 (kt_0 ht) (by decide) ti_8_16 dX8_openDebtsOf_6 ?_
    refine rx_icmp_ge (tgt := 46) dX8_openDebtsOf_9 (by decide) (fun c9 => ?_) (fun c9 => ?_)
    · skip
      have f9 := Int32.not_lt.mpr c9
      rw [hm, nI_leI (by omega) (by omega)] at c9
      obtain rfl : i = m := by omega
      refine rx_iload_n (i := 2) dX8_openDebtsOf_46 rfl rfl ?_
      exact rx_fiI dX8_openDebtsOf_47 hs rfl
    · skip
      have f9 := Int32.not_le.mp c9
      rw [hm, nI_leI (by omega) (by omega)] at c9
      obtain ⟨o, g, ho, hg, hog, eo, eg⟩ := hd i (by omega)
      have eo2 : (M.1 (t + 7) i).toNatClampNeg = o := by rw [eo, nI_clamp (by omega)]
      refine rx_aload_n (i := 0) dX8_openDebtsOf_12 rfl rfl ?_
      refine rx_getR (t + 11) (k := 10) fo_X8_42 (kt_0 ht) (by decide) ti_8_10 (by rintro ⟨-, h⟩; omega) (rt_T ht 10 _ (by omega)) dX8_openDebtsOf_13 ?_
      refine rx_iload_n (i := 3) dX8_openDebtsOf_16 rfl rfl ?_
      refine rx_ialdN (kt_11 ht) (by omega) (by first | decide | omega) dX8_openDebtsOf_17 ?_
      refine rx_if_ne (tgt := 40) dX8_openDebtsOf_18 (by decide) (fun c18 => ?_) (fun c18 => ?_)
      · skip
        have e18 : decide (M.1 (t + 11) i = 0) = false := decide_eq_false c18
        have e31 : (decide (M.1 (t + 11) i = 0) && bt b (M.1 (t + 7) i).toNatClampNeg) = false := by rw [e18]; rfl
        first | refine rx_iincN (i := 3) dX8_openDebtsOf_40 rfl (by decide) rfl rfl ?_ | refine rx_iinc (i := 3) dX8_openDebtsOf_40 rfl rfl (by decide) rfl rfl ?_
        refine rx_goto (tgt := 4) dX8_openDebtsOf_43 (by decide) ?_
        exact ih (i + 1) _ (by omega) (by rw [hs]; simp only [fbor, e31]; rfl) (by omega)
      · skip
        have e18 : decide (M.1 (t + 11) i = 0) = true := decide_eq_true c18
        refine rx_iload_n (i := 1) dX8_openDebtsOf_21 rfl rfl ?_
        refine rx_iconst (1) dX8_openDebtsOf_22 rfl ?_
        refine rx_aload_n (i := 0) dX8_openDebtsOf_23 rfl rfl ?_
        refine rx_getR (t + 7) (k := 6) fo_X8_30 (kt_0 ht) (by decide) ti_8_6 (by rintro ⟨-, h⟩; omega) (rt_T ht 6 _ (by omega)) dX8_openDebtsOf_24 ?_
        refine rx_iload_n (i := 3) dX8_openDebtsOf_27 rfl rfl ?_
        refine rx_ialdN (kt_7 ht) (by omega) (by first | decide | omega) dX8_openDebtsOf_28 ?_
        refine rx_ishl dX8_openDebtsOf_29 ?_
        refine rx_iand dX8_openDebtsOf_30 ?_
        refine rx_if_eq (tgt := 40) dX8_openDebtsOf_31 (by decide) (fun c31 => ?_) (fun c31 => ?_)
        · skip
          rw [eo] at c31
          have e31 : (decide (M.1 (t + 11) i = 0) && bt b (M.1 (t + 7) i).toNatClampNeg) = false := by rw [eo2, (and_bit b (k := o) (by omega)).mp c31, e18]; rfl
          first | refine rx_iincN (i := 3) dX8_openDebtsOf_40 rfl (by decide) rfl rfl ?_ | refine rx_iinc (i := 3) dX8_openDebtsOf_40 rfl rfl (by decide) rfl rfl ?_
          refine rx_goto (tgt := 4) dX8_openDebtsOf_43 (by decide) ?_
          exact ih (i + 1) _ (by omega) (by rw [hs]; simp only [fbor, e31]; rfl) (by omega)
        · skip
          rw [eo] at c31
          have e31 : (decide (M.1 (t + 11) i = 0) && bt b (M.1 (t + 7) i).toNatClampNeg) = true := by
            rw [eo2, e18]
            cases h : bt b o
            · exact absurd ((and_bit b (k := o) (by omega)).mpr h) c31
            · rfl
          refine rx_iload_n (i := 2) dX8_openDebtsOf_34 rfl rfl ?_
          refine rx_iconst (1) dX8_openDebtsOf_35 rfl ?_
          refine rx_iload_n (i := 3) dX8_openDebtsOf_36 rfl rfl ?_
          refine rx_ishl dX8_openDebtsOf_37 ?_
          refine rx_ior dX8_openDebtsOf_38 ?_
          refine rx_istore_n (i := 2) dX8_openDebtsOf_39 rfl (by decide) rfl rfl ?_
          first | refine rx_iincN (i := 3) dX8_openDebtsOf_40 rfl (by decide) rfl rfl ?_ | refine rx_iinc (i := 3) dX8_openDebtsOf_40 rfl rfl (by decide) rfl rfl ?_
          refine rx_goto (tgt := 4) dX8_openDebtsOf_43 (by decide) ?_
          exact ih (i + 1) _ (by omega) (by rw [hs]; simp only [fbor, e31]; rfl) (by omega)
set_option maxRecDepth 100000 in
set_option maxHeartbeats 4000000 in
theorem c_X8_openDebtsOf {t : Nat} (ht : isTown t) {M : Mem} {n m : Nat} (w : TW M t n m) {b : Int32} : Fun yX8_openDebtsOf cX8_openDebtsOf 4 (some .int) 0 [.ref t, .int b] M (some (.int (fbor (fun k => decide (M.1 (t + 11) k = 0) && bt b (M.1 (t + 7) k).toNatClampNeg) m))) (M) := by
  refine Fun.of (own := RX8) ([some (.ref t), some (.int b), none, none]) rfl (by decide +kernel) (Nat.le_of_ble_eq_true rfl) rfl ?_
  refine rx_iconst (0) dX8_openDebtsOf_0 rfl ?_
  refine rx_istore_n (i := 2) dX8_openDebtsOf_1 rfl (by decide) rfl rfl ?_
  refine rx_iconst (0) dX8_openDebtsOf_2 rfl ?_
  refine rx_istore_n (i := 3) dX8_openDebtsOf_3 rfl (by decide) rfl rfl ?_
  exact l_X8_openDebtsOf ht w b (m + 1) 0 0 (by omega) rfl (by omega)
