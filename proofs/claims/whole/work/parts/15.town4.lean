
def mayL (M : Mem) (t n k i : Nat) : Bool := (!(decide (nI i = M.1 (t + 7) k)) && !(decide (nI i = M.1 (t + 8) k))) && (decide (M.1 (t + 9) k ≤ M.1 (t + 1) i - M.1 (t + 4) i) && blw (M.1 (t + 15) 0) (M.1 (t + 15) 1) n (M.1 (t + 6)) (M.1 (t + 7) k).toNatClampNeg i)
def byOK (M : Mem) (t : Nat) : Prop := 0 ≤ (M.1 (t + 15) 1).toInt ∧ (M.1 (t + 15) 1).toInt ≤ 99
theorem fbor_and {p q : Nat → Bool} {n : Nat} (hn : n ≤ 32) : fbor p n &&& fbor q n = fbor (fun i => p i && q i) n := by
  refine b_ext fun i hi => ?_
  rw [b_and, b_fbor _ n hn, b_fbor _ n hn, b_fbor _ n hn]
  by_cases h : i < n <;> simp [h]

set_option maxRecDepth 100000 in
set_option maxHeartbeats 4000000 in
theorem l_X8_payers {t : Nat} (ht : isTown t) {M : Mem} {n m : Nat} (w : TW M t n m) {k : Nat} (hk : k < m) (A : Nat → Bool) : ∀ (N : Nat) (i : Nat) (s : Int32), (i ≤ n) → (∀ j, j < 32 → bt s j = (decide (j < n) && (A j && (decide (i ≤ j) || decide (M.1 (t + 9) k ≤ M.1 (t + 1) j - M.1 (t + 4) j))))) → n - i < N → Reach cX8_payers RX8 4 2 (FQ cX8_payers (some .int) (some (.int (fbor (fun i => A i && decide (M.1 (t + 9) k ≤ M.1 (t + 1) i - M.1 (t + 4) i)) n))) M) 29 [some (.ref t), some (.int (nI k)), some (.int s), some (.int (nI i))] [] (M) := by
  intro N
  induction N with
  | zero => intro i s hi hs hm; exact absurd ‹_ < 0› (Nat.not_lt_zero _)
  | succ N ih =>
    intro i s hi hs hm
    have ⟨hn, hn8, hm, hm10, hd⟩ := w
    refine rx_iload_n (i := 3) dX8_payers_29 rfl rfl ?_
    refine rx_aload_n (i := 0) dX8_payers_30 rfl rfl ?_
    refine rx_getI (k := 15) fo_X8_67 (kt_0 ht) (by decide) ti_8_15 dX8_payers_31 ?_
    refine rx_icmp_ge (tgt := 65) dX8_payers_34 (by decide) (fun c34 => ?_) (fun c34 => ?_)
    · skip
      have f34 := Int32.not_lt.mpr c34
      rw [hn, nI_leI (by omega) (by omega)] at c34
      obtain rfl : i = n := by omega
      refine rx_iload_n (i := 2) dX8_payers_65 rfl rfl ?_
      exact rx_fiI dX8_payers_66 (b_ext fun j hj => by
        rw [hs j hj, b_fbor _ _ (by omega)]
        by_cases hji : j < i
        · simp [hji, show ¬ i ≤ j by omega]
        · simp [hji]) rfl
    · skip
      have f34 := Int32.not_le.mp c34
      rw [hn, nI_leI (by omega) (by omega)] at c34
      refine rx_aload_n (i := 0) dX8_payers_37 rfl rfl ?_
      refine rx_iload_n (i := 3) dX8_payers_38 rfl rfl ?_
      refine rx_cvI (ci := 8) mo_X8_counted lk_X8_83 (c_X8_counted ht (by omega)) (by decide) rfl rfl (Nat.le_of_ble_eq_true rfl) (kt_0 ht) rfl dX8_payers_39 ?_
      refine rx_aload_n (i := 0) dX8_payers_42 rfl rfl ?_
      refine rx_getR (t + 9) (k := 8) fo_X8_36 (kt_0 ht) (by decide) ti_8_8 (by rintro ⟨-, h⟩; omega) (rt_T ht 8 _ (by omega)) dX8_payers_43 ?_
      refine rx_iload_n (i := 1) dX8_payers_46 rfl rfl ?_
      refine rx_ialdN (kt_9 ht) (by omega) (by first | decide | omega) dX8_payers_47 ?_
      refine rx_icmp_ge (tgt := 59) dX8_payers_48 (by decide) (fun c48 => ?_) (fun c48 => ?_)
      · skip
        have f48 := Int32.not_lt.mpr c48
        first | refine rx_iincN (i := 3) dX8_payers_59 rfl (by decide) rfl rfl ?_ | refine rx_iinc (i := 3) dX8_payers_59 rfl rfl (by decide) rfl rfl ?_
        refine rx_goto (tgt := 29) dX8_payers_62 (by decide) ?_
        exact ih (i + 1) _ (by omega) (fun j hj => by
          have h1 := hs j hj
          try rw [b_and, b_not _ hj, show (1 : Int32) <<< (nI i &&& 31) = bit i from rfl, b_bit (by omega)]
          rw [h1]
          by_cases hji : j = i
          · subst hji; simp [*]
          · have e : (i + 1 ≤ j) = (i ≤ j) := by apply propext; omega
            simp [hji, e]) (by omega)
      · skip
        have f48 := Int32.not_le.mp c48
        have f48' := Int32.not_le.mpr f48
        refine rx_iload_n (i := 2) dX8_payers_51 rfl rfl ?_
        refine rx_iconst (1) dX8_payers_52 rfl ?_
        refine rx_iload_n (i := 3) dX8_payers_53 rfl rfl ?_
        refine rx_ishl dX8_payers_54 ?_
        refine rx_iconst (-1) dX8_payers_55 rfl ?_
        refine rx_ixor dX8_payers_56 ?_
        refine rx_iand dX8_payers_57 ?_
        refine rx_istore_n (i := 2) dX8_payers_58 rfl (by decide) rfl rfl ?_
        first | refine rx_iincN (i := 3) dX8_payers_59 rfl (by decide) rfl rfl ?_ | refine rx_iinc (i := 3) dX8_payers_59 rfl rfl (by decide) rfl rfl ?_
        refine rx_goto (tgt := 29) dX8_payers_62 (by decide) ?_
        exact ih (i + 1) _ (by omega) (fun j hj => by
          have h1 := hs j hj
          try rw [b_and, b_not _ hj, show (1 : Int32) <<< (nI i &&& 31) = bit i from rfl, b_bit (by omega)]
          rw [h1]
          by_cases hji : j = i
          · subst hji; simp [*]
          · have e : (i + 1 ≤ j) = (i ≤ j) := by apply propext; omega
            simp [hji, e]) (by omega)
set_option maxRecDepth 100000 in
set_option maxHeartbeats 4000000 in
theorem c_X8_payers {t : Nat} (ht : isTown t) {M : Mem} {n m : Nat} (w : TW M t n m) {k : Nat} (hk : k < m) (hB : BB (M.1 (t + 6)) n) (hb : byOK M t) : Fun yX8_payers cX8_payers 4 (some .int) 2 [.ref t, .int (nI k)] M (some (.int (if M.1 (t + 11) k = 0 then fbor (mayL M t n k) n else 0))) (M) := by
  refine Fun.of (own := RX8) ([some (.ref t), some (.int (nI k)), none, none]) rfl (by decide +kernel) (Nat.le_of_ble_eq_true rfl) rfl ?_
  have ⟨hn, hn8, hm, hm10, hd⟩ := w
  obtain ⟨o, g, ho, hg, hog, eo, eg⟩ := hd k hk
  have ek : (0 ≤ nI k ∧ nI k < M.1 t 16) := (hm ▸ (inN (by omega)).mpr ⟨k, hk, rfl⟩)
  have ec : (nI k).toNatClampNeg = k := nI_clamp (by omega)
  refine rx_aload_n (i := 0) dX8_payers_0 rfl rfl ?_
  refine rx_iload_n (i := 1) dX8_payers_1 rfl rfl ?_
  refine rx_cvI (ci := 8) mo_X8_isOpen lk_X8_96 (c_X8_isOpen ht w) (by decide) rfl rfl (Nat.le_of_ble_eq_true rfl) (kt_0 ht) rfl dX8_payers_2 ?_
  refine rx_if_ne (tgt := 10) dX8_payers_5 (by decide) (fun c5 => ?_) (fun c5 => ?_)
  · skip
    have e5 : M.1 (t + 11) k = 0 := Classical.byContradiction fun h => c5 (if_neg fun q => h (by rw [← ec]; exact q.2))
    rw [if_pos e5]
    refine rx_aload_n (i := 0) dX8_payers_10 rfl rfl ?_
    refine rx_aload_n (i := 0) dX8_payers_11 rfl rfl ?_
    refine rx_getR (t + 7) (k := 6) fo_X8_30 (kt_0 ht) (by decide) ti_8_6 (by rintro ⟨-, h⟩; omega) (rt_T ht 6 _ (by omega)) dX8_payers_12 ?_
    refine rx_iload_n (i := 1) dX8_payers_15 rfl rfl ?_
    refine rx_ialdN (kt_7 ht) (by omega) (by first | decide | omega) dX8_payers_16 ?_
    refine rx_top (nI o) eo ?_
    refine rx_cvI (ci := 8) mo_X8_belowBits lk_X8_99 (c_X8_belowBits ht w ho hB hb) (by decide) rfl rfl (Nat.le_of_ble_eq_true rfl) (kt_0 ht) rfl dX8_payers_17 ?_
    refine rx_aload_n (i := 0) dX8_payers_20 rfl rfl ?_
    refine rx_iload_n (i := 1) dX8_payers_21 rfl rfl ?_
    refine rx_cvI (ci := 8) mo_X8_outsiders lk_X8_102 (c_X8_outsiders ht w hk) (by decide) rfl rfl (Nat.le_of_ble_eq_true rfl) (kt_0 ht) rfl dX8_payers_22 ?_
    refine rx_iand dX8_payers_25 ?_
    refine rx_istore_n (i := 2) dX8_payers_26 rfl (by decide) rfl rfl ?_
    refine rx_iconst (0) dX8_payers_27 rfl ?_
    refine rx_istore_n (i := 3) dX8_payers_28 rfl (by decide) rfl rfl ?_
    refine (l_X8_payers ht w hk (fun i => (!(decide (i = o)) && blw (M.1 (t + 15) 0) (M.1 (t + 15) 1) n (M.1 (t + 6)) o i) && (!(decide (nI i = M.1 (t + 7) k)) && !(decide (nI i = M.1 (t + 8) k)))) (n + 1) 0 _ (by omega) (fun j hj => by
      rw [fbor_and (by omega), b_fbor _ n (by omega)]; simp) (by omega)).mono ?_
    intro pc' ls' st' M' hq
    rw [show fbor (mayL M t n k) n = _ from fbor_congr fun i hi => ?_]
    · exact hq
    · have e1 : nI i = nI o ↔ i = o := nI_eq (by omega) (by omega)
      simp only [mayL, eo, nI_clamp (show o < 2 ^ 31 by omega), e1]
      by_cases h1 : i = o
      · simp [h1]
      · simp [h1, Bool.and_comm, Bool.and_left_comm]
  · skip
    rw [if_neg (fun h => absurd (if_pos (⟨ek, by rw [ec]; exact h⟩ : (0 ≤ nI k ∧ nI k < M.1 t 16) ∧ M.1 (t + 11) (nI k).toNatClampNeg = 0)) (by rw [c5]; decide))]
    refine rx_iconst (0) dX8_payers_8 rfl ?_
    exact rx_fiI dX8_payers_9 rfl rfl
set_option maxRecDepth 100000 in
set_option maxHeartbeats 4000000 in
theorem c_X8_canPay {t : Nat} (ht : isTown t) {M : Mem} {n m : Nat} (w : TW M t n m) {i k : Nat} (hi : i < n) (hk : k < m) (ho : M.1 (t + 11) k = 0) (hB : BB (onL M t) n) (hb : byOK M t) : Fun yX8_canPay cX8_canPay 3 (some .boolean) 3 [.ref t, .int (nI i), .int (nI k)] M (some (.int (zI (mayL (mkL M t n) t n k i)))) (mkL M t n) := by
  refine Fun.of (own := RX8) ([some (.ref t), some (.int (nI i)), some (.int (nI k))]) rfl (by decide +kernel) (Nat.le_of_ble_eq_true rfl) rfl ?_
  have ⟨hn, hn8, hm, hm10, hd⟩ := w
  have ek : (0 ≤ nI k ∧ nI k < M.1 t 16) := (hm ▸ (inN (by omega)).mpr ⟨k, hk, rfl⟩)
  have ec : (nI k).toNatClampNeg = k := nI_clamp (by omega)
  have w2 : TW (mkL M t n) t n m := w.keep (mkL_o (by omega)) (mkL_o (by omega)) (fun _ _ => mkL_o (by omega)) (fun _ _ => mkL_o (by omega))
  have hB2 : BB ((mkL M t n).1 (t + 6)) n := fun j hj => by rw [mkL_l hj]; exact hB j hj
  have hb2 : byOK (mkL M t n) t := by unfold byOK; rw [mkL_o (by omega)]; exact hb
  refine rx_aload_n (i := 0) dX8_canPay_0 rfl rfl ?_
  refine rx_iload_n (i := 1) dX8_canPay_1 rfl rfl ?_
  refine rx_cvI (ci := 8) mo_X8_isPerson lk_X8_105 ((c_X8_isPerson ht).conv (by rw [isP_t w hi]) rfl) (by decide) rfl rfl (Nat.le_of_ble_eq_true rfl) (kt_0 ht) rfl dX8_canPay_2 ?_
  refine rx_if_eq (tgt := 16) dX8_canPay_5 (by decide) (fun c5 => ?_) (fun c5 => ?_)
  · skip
    exact absurd c5 (by decide)
  · skip
    refine rx_aload_n (i := 0) dX8_canPay_8 rfl rfl ?_
    refine rx_iload_n (i := 2) dX8_canPay_9 rfl rfl ?_
    refine rx_cvI (ci := 8) mo_X8_isOpen lk_X8_96 ((c_X8_isOpen ht w).conv (by rw [if_pos ⟨ek, by rw [ec]; exact ho⟩]) rfl) (by decide) rfl rfl (Nat.le_of_ble_eq_true rfl) (kt_0 ht) rfl dX8_canPay_10 ?_
    refine rx_if_ne (tgt := 18) dX8_canPay_13 (by decide) (fun c13 => ?_) (fun c13 => ?_)
    · skip
      refine rx_aload_n (i := 0) dX8_canPay_18 rfl rfl ?_
      refine rx_cvN (ci := 8) mo_X8_makeList lk_X8_108 (c_X8_makeList ht w) (by decide) rfl rfl (Nat.le_of_ble_eq_true rfl) (kt_0 ht) rfl dX8_canPay_19 ?_
      refine rx_aload_n (i := 0) dX8_canPay_22 rfl rfl ?_
      refine rx_iload_n (i := 2) dX8_canPay_23 rfl rfl ?_
      refine rx_cvI (ci := 8) mo_X8_payers lk_X8_111 ((c_X8_payers ht w2 hk hB2 hb2).conv (by rw [if_pos (by rw [mkL_o (by omega)]; exact ho)]) rfl) (by decide) rfl rfl (Nat.le_of_ble_eq_true rfl) (kt_0 ht) rfl dX8_canPay_24 ?_
      refine rx_iconst (1) dX8_canPay_27 rfl ?_
      refine rx_iload_n (i := 1) dX8_canPay_28 rfl rfl ?_
      refine rx_ishl dX8_canPay_29 ?_
      refine rx_iand dX8_canPay_30 ?_
      refine rx_if_eq (tgt := 38) dX8_canPay_31 (by decide) (fun c31 => ?_) (fun c31 => ?_)
      · skip
        have e := (and_bit _ (k := i) (by omega)).mp c31
        rw [b_fbor _ n (by omega)] at e
        simp only [hi, decide_true, Bool.true_and] at e
        rw [e]
        refine rx_iconst (0) dX8_canPay_38 rfl ?_
        exact rx_fiZ dX8_canPay_39 (by first | exact Or.inl rfl | exact Or.inr rfl) rfl rfl
      · skip
        have e := (and_bitn _ (k := i) (by omega)).mp c31
        rw [b_fbor _ n (by omega)] at e
        simp only [hi, decide_true, Bool.true_and] at e
        rw [e]
        refine rx_iconst (1) dX8_canPay_34 rfl ?_
        refine rx_goto (tgt := 39) dX8_canPay_35 (by decide) ?_
        exact rx_fiZ dX8_canPay_39 (by first | exact Or.inl rfl | exact Or.inr rfl) rfl rfl
    · skip
      exact absurd c13 (by decide)
set_option maxRecDepth 100000 in
set_option maxHeartbeats 4000000 in
theorem c_X8_canPay_no {t : Nat} (ht : isTown t) {M : Mem} {n m : Nat} (w : TW M t n m) {x y : Int32} (h : ¬ ((0 ≤ x ∧ x < M.1 t 15) ∧ (0 ≤ y ∧ y < M.1 t 16) ∧ M.1 (t + 11) y.toNatClampNeg = 0)) : Fun yX8_canPay cX8_canPay 3 (some .boolean) 3 [.ref t, .int x, .int y] M (some (.int 0)) (M) := by
  refine Fun.of (own := RX8) ([some (.ref t), some (.int x), some (.int y)]) rfl (by decide +kernel) (Nat.le_of_ble_eq_true rfl) rfl ?_
  refine rx_aload_n (i := 0) dX8_canPay_0 rfl rfl ?_
  refine rx_iload_n (i := 1) dX8_canPay_1 rfl rfl ?_
  refine rx_cvI (ci := 8) mo_X8_isPerson lk_X8_105 (c_X8_isPerson ht) (by decide) rfl rfl (Nat.le_of_ble_eq_true rfl) (kt_0 ht) rfl dX8_canPay_2 ?_
  refine rx_if_eq (tgt := 16) dX8_canPay_5 (by decide) (fun c5 => ?_) (fun c5 => ?_)
  · skip
    refine rx_iconst (0) dX8_canPay_16 rfl ?_
    exact rx_fiZ dX8_canPay_17 (by first | exact Or.inl rfl | exact Or.inr rfl) rfl rfl
  · skip
    refine rx_aload_n (i := 0) dX8_canPay_8 rfl rfl ?_
    refine rx_iload_n (i := 2) dX8_canPay_9 rfl rfl ?_
    refine rx_cvI (ci := 8) mo_X8_isOpen lk_X8_96 (c_X8_isOpen ht w) (by decide) rfl rfl (Nat.le_of_ble_eq_true rfl) (kt_0 ht) rfl dX8_canPay_10 ?_
    refine rx_if_ne (tgt := 18) dX8_canPay_13 (by decide) (fun c13 => ?_) (fun c13 => ?_)
    · skip
      exact absurd ⟨Classical.byContradiction fun q => c5 (if_neg q), Classical.byContradiction fun q => c13 (if_neg fun z => q ⟨z.1, z.2⟩)⟩ h
    · skip
      refine rx_iconst (0) dX8_canPay_16 rfl ?_
      exact rx_fiZ dX8_canPay_17 (by first | exact Or.inl rfl | exact Or.inr rfl) rfl rfl
set_option maxRecDepth 100000 in
set_option maxHeartbeats 4000000 in
theorem c_X8_canGive {t : Nat} (ht : isTown t) {M : Mem} {n m : Nat} (w : TW M t n m) {x y z : Int32} : Fun yX8_canGive cX8_canGive 4 (some .boolean) 1 [.ref t, .int x, .int y, .int z] M (some (.int (if (0 ≤ x ∧ x < M.1 t 15) ∧ (0 ≤ y ∧ y < M.1 t 15) ∧ ¬ x = y ∧ 1 ≤ z ∧ z ≤ M.1 (t + 1) x.toNatClampNeg - M.1 (t + 4) x.toNatClampNeg then 1 else 0))) (M) := by
  refine Fun.of (own := RX8) ([some (.ref t), some (.int x), some (.int y), some (.int z)]) rfl (by decide +kernel) (Nat.le_of_ble_eq_true rfl) rfl ?_
  refine rx_aload_n (i := 0) dX8_canGive_0 rfl rfl ?_
  refine rx_iload_n (i := 1) dX8_canGive_1 rfl rfl ?_
  refine rx_cvI (ci := 8) mo_X8_isPerson lk_X8_105 (c_X8_isPerson ht) (by decide) rfl rfl (Nat.le_of_ble_eq_true rfl) (kt_0 ht) rfl dX8_canGive_2 ?_
  refine rx_if_eq (tgt := 39) dX8_canGive_5 (by decide) (fun c5 => ?_) (fun c5 => ?_)
  · skip
    rw [if_neg (fun h => one_ne0 (by rw [if_pos h.1] at c5; exact c5))]
    refine rx_iconst (0) dX8_canGive_39 rfl ?_
    exact rx_fiZ dX8_canGive_40 (by first | exact Or.inl rfl | exact Or.inr rfl) rfl rfl
  · skip
    have e5 := Classical.byContradiction fun q => c5 (if_neg q)
    have h8 := w.2.1
    obtain ⟨j, hj, rfl⟩ := (inN (by omega)).mp (w.1 ▸ e5)
    rw [nI_clamp (by omega)]
    refine rx_aload_n (i := 0) dX8_canGive_8 rfl rfl ?_
    refine rx_iload_n (i := 2) dX8_canGive_9 rfl rfl ?_
    refine rx_cvI (ci := 8) mo_X8_isPerson lk_X8_105 (c_X8_isPerson ht) (by decide) rfl rfl (Nat.le_of_ble_eq_true rfl) (kt_0 ht) rfl dX8_canGive_10 ?_
    refine rx_if_eq (tgt := 39) dX8_canGive_13 (by decide) (fun c13 => ?_) (fun c13 => ?_)
    · skip
      rw [if_neg (fun h => one_ne0 (by rw [if_pos h.2.1] at c13; exact c13))]
      refine rx_iconst (0) dX8_canGive_39 rfl ?_
      exact rx_fiZ dX8_canGive_40 (by first | exact Or.inl rfl | exact Or.inr rfl) rfl rfl
    · skip
      have e13 := Classical.byContradiction fun q => c13 (if_neg q)
      refine rx_iload_n (i := 1) dX8_canGive_16 rfl rfl ?_
      refine rx_iload_n (i := 2) dX8_canGive_17 rfl rfl ?_
      refine rx_icmp_eq (tgt := 39) dX8_canGive_18 (by decide) (fun c18 => ?_) (fun c18 => ?_)
      · skip
        rw [if_neg (fun h => h.2.2.1 c18)]
        refine rx_iconst (0) dX8_canGive_39 rfl ?_
        exact rx_fiZ dX8_canGive_40 (by first | exact Or.inl rfl | exact Or.inr rfl) rfl rfl
      · skip
        refine rx_iload_n (i := 3) dX8_canGive_21 rfl rfl ?_
        refine rx_iconst (1) dX8_canGive_22 rfl ?_
        refine rx_icmp_lt (tgt := 39) dX8_canGive_23 (by decide) (fun c23 => ?_) (fun c23 => ?_)
        · skip
          have f23 := Int32.not_le.mpr c23
          rw [if_neg (fun h => f23 h.2.2.2.1)]
          refine rx_iconst (0) dX8_canGive_39 rfl ?_
          exact rx_fiZ dX8_canGive_40 (by first | exact Or.inl rfl | exact Or.inr rfl) rfl rfl
        · skip
          have f23 := Int32.not_lt.mp c23
          refine rx_iload_n (i := 3) dX8_canGive_26 rfl rfl ?_
          refine rx_aload_n (i := 0) dX8_canGive_27 rfl rfl ?_
          refine rx_iload_n (i := 1) dX8_canGive_28 rfl rfl ?_
          refine rx_cvI (ci := 8) mo_X8_counted lk_X8_83 (c_X8_counted ht (k := j) (by omega)) (by decide) rfl rfl (Nat.le_of_ble_eq_true rfl) (kt_0 ht) rfl dX8_canGive_29 ?_
          refine rx_icmp_gt (tgt := 39) dX8_canGive_32 (by decide) (fun c32 => ?_) (fun c32 => ?_)
          · skip
            have f32 := Int32.not_le.mpr c32
            rw [if_neg (fun h => f32 h.2.2.2.2)]
            refine rx_iconst (0) dX8_canGive_39 rfl ?_
            exact rx_fiZ dX8_canGive_40 (by first | exact Or.inl rfl | exact Or.inr rfl) rfl rfl
          · skip
            have f32 := Int32.not_lt.mp c32
            rw [if_pos ⟨e5, e13, c18, f23, f32⟩]
            refine rx_iconst (1) dX8_canGive_35 rfl ?_
            refine rx_goto (tgt := 40) dX8_canGive_36 (by decide) ?_
            exact rx_fiZ dX8_canGive_40 (by first | exact Or.inl rfl | exact Or.inr rfl) rfl rfl
