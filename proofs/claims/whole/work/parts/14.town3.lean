
theorem i_sub {x y : Int32} (h1 : -2147483648 ≤ x.toInt - y.toInt) (h2 : x.toInt - y.toInt < 2147483648) : (x - y).toInt = x.toInt - y.toInt := by rw [Int32.toInt_sub]; exact Int.bmod_eq_of_le (by omega) (by omega)
theorem i_add {x y : Int32} (h1 : -2147483648 ≤ x.toInt + y.toInt) (h2 : x.toInt + y.toInt < 2147483648) : (x + y).toInt = x.toInt + y.toInt := by rw [Int32.toInt_add]; exact Int.bmod_eq_of_le (by omega) (by omega)
theorem i_lt {x y : Int32} : x < y ↔ x.toInt < y.toInt := Int32.lt_iff_toInt_lt
theorem i_le {x y : Int32} : x ≤ y ↔ x.toInt ≤ y.toInt := Int32.le_iff_toInt_le
theorem i_1 : (1 : Int32).toInt = 1 := rfl
theorem i_0 : (0 : Int32).toInt = 0 := rfl
def onL (M : Mem) (t j : Nat) : Int32 := if M.1 (t + 15) 2 = 1 then M.1 (t + 5) j else M.1 (t + 1) j - M.1 (t + 4) j
/-- THE LIST made -/
def mkL (M : Mem) (t n : Nat) : Mem := (fun a j => if a = t + 6 ∧ j < n then onL M t j else M.1 a j, M.2)
theorem mkL_o {M : Mem} {t n a j : Nat} (h : a ≠ t + 6) : (mkL M t n).1 a j = M.1 a j := if_neg fun q => h q.1
theorem mkL_l {M : Mem} {t n j : Nat} (h : j < n) : (mkL M t n).1 (t + 6) j = onL M t j := if_pos ⟨rfl, h⟩
theorem mkL_S {M : Mem} {t i : Nat} : setI (mkL M t i) (t + 6) i (onL M t i) = mkL M t (i + 1) := by
  refine Prod.ext ?_ rfl
  funext a j
  simp only [setI, mkL]
  by_cases ha : a = t + 6
  · by_cases hj : j = i
    · subst hj; simp [ha]
    · have e : (j < i + 1) = (j < i) := by apply propext; omega
      simp [ha, hj, e]
  · simp [ha]
theorem mkL_0 {M : Mem} {t : Nat} : mkL M t 0 = M := by
  refine Prod.ext ?_ rfl
  funext a j
  simp [mkL]
/-- noon: THE LIST of noon counted -/
def cnL (M : Mem) (t n : Nat) : Mem := (fun a j => if a = t + 5 ∧ j < n then M.1 (t + 1) j - M.1 (t + 4) j else M.1 a j, M.2)
theorem cnL_o {M : Mem} {t n a j : Nat} (h : a ≠ t + 5) : (cnL M t n).1 a j = M.1 a j := if_neg fun q => h q.1
theorem cnL_S {M : Mem} {t i : Nat} : setI (cnL M t i) (t + 5) i (M.1 (t + 1) i - M.1 (t + 4) i) = cnL M t (i + 1) := by
  refine Prod.ext ?_ rfl
  funext a j
  simp only [setI, cnL]
  by_cases ha : a = t + 5
  · by_cases hj : j = i
    · subst hj; simp [ha]
    · have e : (j < i + 1) = (j < i) := by apply propext; omega
      simp [ha, hj, e]
  · simp [ha]
theorem cnL_0 {M : Mem} {t : Nat} : cnL M t 0 = M := by
  refine Prod.ext ?_ rfl
  funext a j
  simp [cnL]

set_option maxRecDepth 100000 in
set_option maxHeartbeats 4000000 in
theorem l_X8_makeList {t : Nat} (ht : isTown t) {M : Mem} {n m : Nat} (w : TW M t n m) : ∀ (N : Nat) (i : Nat), (i ≤ n) → n - i < N → Reach cX8_makeList RX8 2 1 (FQ cX8_makeList none none (mkL M t n)) 2 [some (.ref t), some (.int (nI i))] [] (mkL M t i) := by
  intro N
  induction N with
  | zero => intro i hi hm; exact absurd ‹_ < 0› (Nat.not_lt_zero _)
  | succ N ih =>
    intro i hi hm
    have ⟨hn, hn8, hm, hm10, hd⟩ := w
    refine rx_iload_n (i := 1) dX8_makeList_2 rfl rfl ?_
    refine rx_aload_n (i := 0) dX8_makeList_3 rfl rfl ?_
    refine rx_getI (k := 15) fo_X8_67 (kt_0 ht) (by decide) ti_8_15 dX8_makeList_4 ?_
    refine rx_icmp_ge (tgt := 46) dX8_makeList_7 (by decide) (fun c7 => ?_) (fun c7 => ?_)
    · skip
      have f7 := Int32.not_lt.mpr c7
      rw [(mkL_o (by omega)), hn, nI_leI (by omega) (by omega)] at c7
      obtain rfl : i = n := by omega
      exact rx_fiV dX8_makeList_46 rfl
    · skip
      have f7 := Int32.not_le.mp c7
      rw [(mkL_o (by omega)), hn, nI_leI (by omega) (by omega)] at c7
      refine rx_aload_n (i := 0) dX8_makeList_10 rfl rfl ?_
      refine rx_getR (t + 6) (k := 5) fo_X8_27 (kt_0 ht) (by decide) ti_8_5 (by rintro ⟨-, h⟩; omega) (rt_T ht 5 _ (by omega)) dX8_makeList_11 ?_
      refine rx_iload_n (i := 1) dX8_makeList_14 rfl rfl ?_
      refine rx_aload_n (i := 0) dX8_makeList_15 rfl rfl ?_
      refine rx_getR (t + 15) (k := 14) fo_X8_54 (kt_0 ht) (by decide) ti_8_14 (by rintro ⟨-, h⟩; omega) (rt_T ht 14 _ (by omega)) dX8_makeList_16 ?_
      refine rx_iconst (2) dX8_makeList_19 rfl ?_
      refine rx_ialdN (k := 2) (kt_15 ht) (by omega) (by first | decide | omega) dX8_makeList_20 ?_
      refine rx_iconst (1) dX8_makeList_21 rfl ?_
      refine rx_icmp_ne (tgt := 34) dX8_makeList_22 (by decide) (fun c22 => ?_) (fun c22 => ?_)
      · skip
        rw [mkL_o (by omega)] at c22
        refine rx_aload_n (i := 0) dX8_makeList_34 rfl rfl ?_
        refine rx_iload_n (i := 1) dX8_makeList_35 rfl rfl ?_
        refine rx_cvI (ci := 8) mo_X8_counted lk_X8_83 (c_X8_counted ht (by omega)) (by decide) rfl rfl (Nat.le_of_ble_eq_true rfl) (kt_0 ht) rfl dX8_makeList_36 ?_
        refine rx_top (onL M t i) (by simp [onL, mkL, *]) ?_
        refine rx_iastN (kt_6 ht) (by omega) (by first | decide | omega) dX8_makeList_39 ?_
        rw [mkL_S]
        first | refine rx_iincN (i := 1) dX8_makeList_40 rfl (by decide) rfl rfl ?_ | refine rx_iinc (i := 1) dX8_makeList_40 rfl rfl (by decide) rfl rfl ?_
        refine rx_goto (tgt := 2) dX8_makeList_43 (by decide) ?_
        exact ih (i + 1) (by omega) (by omega)
      · skip
        rw [mkL_o (by omega)] at c22
        refine rx_aload_n (i := 0) dX8_makeList_25 rfl rfl ?_
        refine rx_getR (t + 5) (k := 4) fo_X8_24 (kt_0 ht) (by decide) ti_8_4 (by rintro ⟨-, h⟩; omega) (rt_T ht 4 _ (by omega)) dX8_makeList_26 ?_
        refine rx_iload_n (i := 1) dX8_makeList_29 rfl rfl ?_
        refine rx_ialdN (kt_5 ht) (by omega) (by first | decide | omega) dX8_makeList_30 ?_
        refine rx_goto (tgt := 39) dX8_makeList_31 (by decide) ?_
        refine rx_top (onL M t i) (by simp [onL, mkL, *]) ?_
        refine rx_iastN (kt_6 ht) (by omega) (by first | decide | omega) dX8_makeList_39 ?_
        rw [mkL_S]
        first | refine rx_iincN (i := 1) dX8_makeList_40 rfl (by decide) rfl rfl ?_ | refine rx_iinc (i := 1) dX8_makeList_40 rfl rfl (by decide) rfl rfl ?_
        refine rx_goto (tgt := 2) dX8_makeList_43 (by decide) ?_
        exact ih (i + 1) (by omega) (by omega)
set_option maxRecDepth 100000 in
set_option maxHeartbeats 4000000 in
theorem c_X8_makeList {t : Nat} (ht : isTown t) {M : Mem} {n m : Nat} (w : TW M t n m) : Fun yX8_makeList cX8_makeList 2 none 1 [.ref t] M (none) (mkL M t n) := by
  refine Fun.of (own := RX8) ([some (.ref t), none]) rfl (by decide +kernel) (Nat.le_of_ble_eq_true rfl) rfl ?_
  refine rx_iconst (0) dX8_makeList_0 rfl ?_
  refine rx_istore_n (i := 1) dX8_makeList_1 rfl (by decide) rfl rfl ?_
  have h := l_X8_makeList ht w (n + 1) 0 (by omega) (by omega)
  rw [mkL_0] at h
  exact h
set_option maxRecDepth 100000 in
set_option maxHeartbeats 4000000 in
theorem l_X8_countList {t : Nat} (ht : isTown t) {M : Mem} {n m : Nat} (w : TW M t n m) : ∀ (N : Nat) (i : Nat) (s : Int32), (i ≤ n) → (s = fsum (fun k => M.1 (t + 1) k - M.1 (t + 4) k) i) → n - i < N → Reach cX8_countList RX8 3 1 (FQ cX8_countList (some .int) (some (.int (fsum (fun k => M.1 (t + 1) k - M.1 (t + 4) k) n))) (cnL M t n)) 4 [some (.ref t), some (.int s), some (.int (nI i))] [] (cnL M t i) := by
  intro N
  induction N with
  | zero => intro i s hi hs hm; exact absurd ‹_ < 0› (Nat.not_lt_zero _)
  | succ N ih =>
    intro i s hi hs hm
    have ⟨hn, hn8, hm, hm10, hd⟩ := w
    refine rx_iload_n (i := 2) dX8_countList_4 rfl rfl ?_
    refine rx_aload_n (i := 0) dX8_countList_5 rfl rfl ?_
    refine rx_getI (k := 15) fo_X8_67 (kt_0 ht) (by decide) ti_8_15 dX8_countList_6 ?_
    refine rx_icmp_ge (tgt := 38) dX8_countList_9 (by decide) (fun c9 => ?_) (fun c9 => ?_)
    · skip
      have f9 := Int32.not_lt.mpr c9
      rw [(cnL_o (by omega)), hn, nI_leI (by omega) (by omega)] at c9
      obtain rfl : i = n := by omega
      refine rx_iload_n (i := 1) dX8_countList_38 rfl rfl ?_
      exact rx_fiI dX8_countList_39 hs rfl
    · skip
      have f9 := Int32.not_le.mp c9
      rw [(cnL_o (by omega)), hn, nI_leI (by omega) (by omega)] at c9
      refine rx_aload_n (i := 0) dX8_countList_12 rfl rfl ?_
      refine rx_getR (t + 5) (k := 4) fo_X8_24 (kt_0 ht) (by decide) ti_8_4 (by rintro ⟨-, h⟩; omega) (rt_T ht 4 _ (by omega)) dX8_countList_13 ?_
      refine rx_iload_n (i := 2) dX8_countList_16 rfl rfl ?_
      refine rx_aload_n (i := 0) dX8_countList_17 rfl rfl ?_
      refine rx_iload_n (i := 2) dX8_countList_18 rfl rfl ?_
      refine rx_cvI (ci := 8) mo_X8_counted lk_X8_83 (c_X8_counted ht (by omega)) (by decide) rfl rfl (Nat.le_of_ble_eq_true rfl) (kt_0 ht) rfl dX8_countList_19 ?_
      refine rx_top (M.1 (t + 1) i - M.1 (t + 4) i) (by simp [cnL]) ?_
      refine rx_iastN (kt_5 ht) (by omega) (by first | decide | omega) dX8_countList_22 ?_
      rw [cnL_S]
      refine rx_iload_n (i := 1) dX8_countList_23 rfl rfl ?_
      refine rx_aload_n (i := 0) dX8_countList_24 rfl rfl ?_
      refine rx_getR (t + 5) (k := 4) fo_X8_24 (kt_0 ht) (by decide) ti_8_4 (by rintro ⟨-, h⟩; omega) (rt_T ht 4 _ (by omega)) dX8_countList_25 ?_
      refine rx_iload_n (i := 2) dX8_countList_28 rfl rfl ?_
      refine rx_ialdN (kt_5 ht) (by omega) (by first | decide | omega) dX8_countList_29 ?_
      refine rx_iadd dX8_countList_30 ?_
      refine rx_istore_n (i := 1) dX8_countList_31 rfl (by decide) rfl rfl ?_
      first | refine rx_iincN (i := 2) dX8_countList_32 rfl (by decide) rfl rfl ?_ | refine rx_iinc (i := 2) dX8_countList_32 rfl rfl (by decide) rfl rfl ?_
      refine rx_goto (tgt := 4) dX8_countList_35 (by decide) ?_
      exact ih (i + 1) _ (by omega) (by rw [hs]; simp [fsum, cnL]) (by omega)
set_option maxRecDepth 100000 in
set_option maxHeartbeats 4000000 in
theorem c_X8_countList {t : Nat} (ht : isTown t) {M : Mem} {n m : Nat} (w : TW M t n m) : Fun yX8_countList cX8_countList 3 (some .int) 1 [.ref t] M (some (.int (fsum (fun k => M.1 (t + 1) k - M.1 (t + 4) k) n))) (cnL M t n) := by
  refine Fun.of (own := RX8) ([some (.ref t), none, none]) rfl (by decide +kernel) (Nat.le_of_ble_eq_true rfl) rfl ?_
  refine rx_iconst (0) dX8_countList_0 rfl ?_
  refine rx_istore_n (i := 1) dX8_countList_1 rfl (by decide) rfl rfl ?_
  refine rx_iconst (0) dX8_countList_2 rfl ?_
  refine rx_istore_n (i := 2) dX8_countList_3 rfl (by decide) rfl rfl ?_
  have h := l_X8_countList ht w (n + 1) 0 0 (by omega) rfl (by omega)
  rw [cnL_0] at h
  exact h

/-- i is BELOW p -/
def blw (srt by_ : Int32) (n : Nat) (L : Nat → Int32) (p i : Nat) : Bool :=
  if srt = 1 then decide (L i < L p) && !(anyB (fun k => decide (L i < L k) && decide (L k < L p)) n)
  else if srt = 2 then decide (L p < L i)
  else if srt = 3 then decide (by_ ≤ L p - L i)
  else decide (L i < L p)
theorem gu_le {L : Nat → Int32} {h : Int32} : ∀ {n k : Nat}, k < n → L k < h → L k ≤ gu L h n
  | n + 1, k, hk, hl => by
    simp only [gu]
    split
    · next c =>
      rcases Nat.lt_or_ge k n with q | q
      · exact Int32.le_trans (gu_le q hl) (Int32.le_of_lt c.2)
      · obtain rfl : k = n := by omega
        exact Int32.le_refl _
    · next c =>
      rcases Nat.lt_or_ge k n with q | q
      · exact gu_le q hl
      · obtain rfl : k = n := by omega
        exact Int32.not_lt.mp fun z => c ⟨hl, z⟩
theorem gu_in {L : Nat → Int32} {h : Int32} : ∀ {n : Nat}, gu L h n = -2147483648 ∨ ∃ k, k < n ∧ L k < h ∧ gu L h n = L k
  | 0 => Or.inl rfl
  | n + 1 => by
    simp only [gu]
    split
    · next c => exact Or.inr ⟨n, by omega, c.1, rfl⟩
    · rcases gu_in (L := L) (h := h) (n := n) with q | ⟨k, q1, q2⟩
      · exact Or.inl q
      · exact Or.inr ⟨k, by omega, q2⟩
def BB (L : Nat → Int32) (n : Nat) : Prop := ∀ k, k < n → 0 ≤ (L k).toInt ∧ (L k).toInt ≤ 1000000
theorem min_toInt : (-2147483648 : Int32).toInt = -2147483648 := rfl
theorem max_toInt : (2147483647 : Int32).toInt = 2147483647 := rfl
theorem blw_1 {by_ : Int32} {n p i : Nat} {L : Nat → Int32} (hB : BB L n) (hp : p < n) (hi : i < n) : (decide (gu L (L p) n ≤ L i) && decide (L i ≤ L p - 1)) = blw 1 by_ n L p i := by
  have e1 : L i ≤ L p - 1 ↔ L i < L p := by
    have h1 := hB p hp; have h2 := hB i hi
    rw [i_le, i_lt, i_sub (by rw [i_1]; omega) (by rw [i_1]; omega), i_1]; omega
  have e2 : L i < L p → (gu L (L p) n ≤ L i ↔ anyB (fun k => decide (L i < L k) && decide (L k < L p)) n = false) := by
    intro hl
    constructor
    · intro h
      cases hA : anyB (fun k => decide (L i < L k) && decide (L k < L p)) n with
      | false => rfl
      | true =>
        obtain ⟨k, h1, h2⟩ := anyB_iff.mp hA
        simp only [Bool.and_eq_true, decide_eq_true_eq] at h2
        exact absurd (Int32.lt_of_lt_of_le h2.1 (gu_le h1 h2.2)) (Int32.not_lt.mpr h)
    · intro h
      rcases gu_in (L := L) (h := L p) (n := n) with q | ⟨k, q1, q2, q3⟩
      · rw [q, i_le, min_toInt]; have := (hB i hi).1; omega
      · rw [q3]
        refine Int32.not_lt.mp fun z => ?_
        have := anyB_iff.mpr (⟨k, q1, by simp [z, q2]⟩ : ∃ k, k < n ∧ (fun k => decide (L i < L k) && decide (L k < L p)) k = true)
        rw [h] at this; cases this
  simp only [blw, if_pos, e1]
  by_cases hl : L i < L p
  · rw [decide_eq_true hl, Bool.and_true, Bool.true_and]
    have := e2 hl
    cases hA : anyB (fun k => decide (L i < L k) && decide (L k < L p)) n with
    | false => rw [decide_eq_true (this.mpr hA)]; rfl
    | true => rw [decide_eq_false (fun z => by rw [this.mp z] at hA; cases hA)]; rfl
  · rw [decide_eq_false hl, Bool.and_false, Bool.false_and]
theorem blw_2 {by_ : Int32} {n p i : Nat} {L : Nat → Int32} (hB : BB L n) (hp : p < n) (hi : i < n) : (decide (L p + 1 ≤ L i) && decide (L i ≤ 2147483647)) = blw 2 by_ n L p i := by
  have h1 := hB p hp; have h2 := hB i hi
  have e1 : L p + 1 ≤ L i ↔ L p < L i := by rw [i_le, i_lt, i_add (by rw [i_1]; omega) (by rw [i_1]; omega), i_1]; omega
  have e2 : L i ≤ 2147483647 := by rw [i_le, max_toInt]; omega
  simp [blw, e1, e2]
theorem blw_3 {by_ : Int32} {n p i : Nat} {L : Nat → Int32} (hB : BB L n) (hb : 0 ≤ by_.toInt ∧ by_.toInt ≤ 99) (hp : p < n) (hi : i < n) : (decide (-2147483648 ≤ L i) && decide (L i ≤ L p - by_)) = blw 3 by_ n L p i := by
  have h1 := hB p hp; have h2 := hB i hi
  have e1 : L i ≤ L p - by_ ↔ by_ ≤ L p - L i := by rw [i_le, i_le, i_sub (by omega) (by omega), i_sub (by omega) (by omega)]; omega
  have e2 : -2147483648 ≤ L i := by rw [i_le, min_toInt]; omega
  simp [blw, e1, e2]
theorem blw_0 {srt by_ : Int32} {n p i : Nat} {L : Nat → Int32} (hB : BB L n) (hp : p < n) (hi : i < n) (s1 : ¬ srt = 1) (s2 : ¬ srt = 2) (s3 : ¬ srt = 3) : (decide (-2147483648 ≤ L i) && decide (L i ≤ L p - 1)) = blw srt by_ n L p i := by
  have h1 := hB p hp; have h2 := hB i hi
  have e1 : L i ≤ L p - 1 ↔ L i < L p := by rw [i_le, i_lt, i_sub (by rw [i_1]; omega) (by rw [i_1]; omega), i_1]; omega
  have e2 : -2147483648 ≤ L i := by rw [i_le, min_toInt]; omega
  simp [blw, e1, e2, s1, s2, s3]

set_option maxRecDepth 100000 in
set_option maxHeartbeats 4000000 in
theorem l_X8_belowBits {t : Nat} (ht : isTown t) {M : Mem} {n m : Nat} (w : TW M t n m) {p : Nat} (hp : p < n) (h f g : Int32) : ∀ (N : Nat) (i : Nat) (s : Int32), (i ≤ n) → (s = fbor (fun i => !(decide (i = p)) && (decide (f ≤ M.1 (t + 6) i) && decide (M.1 (t + 6) i ≤ g))) i) → n - i < N → Reach cX8_belowBits RX8 7 1 (FQ cX8_belowBits (some .int) (some (.int (fbor (fun i => !(decide (i = p)) && (decide (f ≤ M.1 (t + 6) i) && decide (M.1 (t + 6) i ≤ g))) n))) M) 81 [some (.ref t), some (.int (nI p)), some (.int h), some (.int f), some (.int g), some (.int s), some (.int (nI i))] [] (M) := by
  intro N
  induction N with
  | zero => intro i s hi hs hm; exact absurd ‹_ < 0› (Nat.not_lt_zero _)
  | succ N ih =>
    intro i s hi hs hm
    have ⟨hn, hn8, hm, hm10, hd⟩ := w
    refine rx_iload (i := 6) dX8_belowBits_81 rfl ?_
    refine rx_aload_n (i := 0) dX8_belowBits_83 rfl rfl ?_
    refine rx_getI (k := 15) fo_X8_67 (kt_0 ht) (by decide) ti_8_15 dX8_belowBits_84 ?_
    refine rx_icmp_ge (tgt := 134) dX8_belowBits_87 (by decide) (fun c87 => ?_) (fun c87 => ?_)
    · skip
      have f87 := Int32.not_lt.mpr c87
      rw [hn, nI_leI (by omega) (by omega)] at c87
      obtain rfl : i = n := by omega
      refine rx_iload (i := 5) dX8_belowBits_134 rfl ?_
      exact rx_fiI dX8_belowBits_136 hs rfl
    · skip
      have f87 := Int32.not_le.mp c87
      rw [hn, nI_leI (by omega) (by omega)] at c87
      refine rx_iload (i := 6) dX8_belowBits_90 rfl ?_
      refine rx_iload_n (i := 1) dX8_belowBits_92 rfl rfl ?_
      refine rx_icmp_eq (tgt := 128) dX8_belowBits_93 (by decide) (fun c93 => ?_) (fun c93 => ?_)
      · skip
        have e93 : i = p := (nI_eq (by omega) (by omega)).mp c93
        first | refine rx_iincN (i := 6) dX8_belowBits_128 rfl (by decide) rfl rfl ?_ | refine rx_iinc (i := 6) dX8_belowBits_128 rfl rfl (by decide) rfl rfl ?_
        refine rx_goto (tgt := 81) dX8_belowBits_131 (by decide) ?_
        exact ih (i + 1) _ (by omega) (by rw [hs]; simp [fbor, *, bit]) (by omega)
      · skip
        have e93 : ¬ i = p := fun q => c93 (by rw [q])
        refine rx_aload_n (i := 0) dX8_belowBits_96 rfl rfl ?_
        refine rx_getR (t + 6) (k := 5) fo_X8_27 (kt_0 ht) (by decide) ti_8_5 (by rintro ⟨-, h⟩; omega) (rt_T ht 5 _ (by omega)) dX8_belowBits_97 ?_
        refine rx_iload (i := 6) dX8_belowBits_100 rfl ?_
        refine rx_ialdN (kt_6 ht) (by omega) (by first | decide | omega) dX8_belowBits_102 ?_
        refine rx_iload_n (i := 3) dX8_belowBits_103 rfl rfl ?_
        refine rx_icmp_lt (tgt := 128) dX8_belowBits_104 (by decide) (fun c104 => ?_) (fun c104 => ?_)
        · skip
          have f104 := Int32.not_le.mpr c104
          have e104 := Int32.not_le.mpr c104
          first | refine rx_iincN (i := 6) dX8_belowBits_128 rfl (by decide) rfl rfl ?_ | refine rx_iinc (i := 6) dX8_belowBits_128 rfl rfl (by decide) rfl rfl ?_
          refine rx_goto (tgt := 81) dX8_belowBits_131 (by decide) ?_
          exact ih (i + 1) _ (by omega) (by rw [hs]; simp [fbor, *, bit]) (by omega)
        · skip
          have f104 := Int32.not_lt.mp c104
          refine rx_aload_n (i := 0) dX8_belowBits_107 rfl rfl ?_
          refine rx_getR (t + 6) (k := 5) fo_X8_27 (kt_0 ht) (by decide) ti_8_5 (by rintro ⟨-, h⟩; omega) (rt_T ht 5 _ (by omega)) dX8_belowBits_108 ?_
          refine rx_iload (i := 6) dX8_belowBits_111 rfl ?_
          refine rx_ialdN (kt_6 ht) (by omega) (by first | decide | omega) dX8_belowBits_113 ?_
          refine rx_iload (i := 4) dX8_belowBits_114 rfl ?_
          refine rx_icmp_gt (tgt := 128) dX8_belowBits_116 (by decide) (fun c116 => ?_) (fun c116 => ?_)
          · skip
            have f116 := Int32.not_le.mpr c116
            first | refine rx_iincN (i := 6) dX8_belowBits_128 rfl (by decide) rfl rfl ?_ | refine rx_iinc (i := 6) dX8_belowBits_128 rfl rfl (by decide) rfl rfl ?_
            refine rx_goto (tgt := 81) dX8_belowBits_131 (by decide) ?_
            exact ih (i + 1) _ (by omega) (by rw [hs]; simp [fbor, *, bit]) (by omega)
          · skip
            have f116 := Int32.not_lt.mp c116
            refine rx_iload (i := 5) dX8_belowBits_119 rfl ?_
            refine rx_iconst (1) dX8_belowBits_121 rfl ?_
            refine rx_iload (i := 6) dX8_belowBits_122 rfl ?_
            refine rx_ishl dX8_belowBits_124 ?_
            refine rx_ior dX8_belowBits_125 ?_
            refine rx_istore (i := 5) dX8_belowBits_126 (by decide) rfl rfl ?_
            first | refine rx_iincN (i := 6) dX8_belowBits_128 rfl (by decide) rfl rfl ?_ | refine rx_iinc (i := 6) dX8_belowBits_128 rfl rfl (by decide) rfl rfl ?_
            refine rx_goto (tgt := 81) dX8_belowBits_131 (by decide) ?_
            exact ih (i + 1) _ (by omega) (by rw [hs]; simp [fbor, *, bit]) (by omega)
set_option maxRecDepth 100000 in
set_option maxHeartbeats 4000000 in
theorem c_X8_belowBits {t : Nat} (ht : isTown t) {M : Mem} {n m : Nat} (w : TW M t n m) {p : Nat} (hp : p < n) (hB : BB (M.1 (t + 6)) n) (hb : 0 ≤ (M.1 (t + 15) 1).toInt ∧ (M.1 (t + 15) 1).toInt ≤ 99) : Fun yX8_belowBits cX8_belowBits 7 (some .int) 1 [.ref t, .int (nI p)] M (some (.int (fbor (fun i => !(decide (i = p)) && blw (M.1 (t + 15) 0) (M.1 (t + 15) 1) n (M.1 (t + 6)) p i) n))) (M) := by
  refine Fun.of (own := RX8) ([some (.ref t), some (.int (nI p)), none, none, none, none, none]) rfl (by decide +kernel) (Nat.le_of_ble_eq_true rfl) rfl ?_
  have h8 := w.2.1
  refine rx_aload_n (i := 0) dX8_belowBits_0 rfl rfl ?_
  refine rx_getR (t + 6) (k := 5) fo_X8_27 (kt_0 ht) (by decide) ti_8_5 (by rintro ⟨-, h⟩; omega) (rt_T ht 5 _ (by omega)) dX8_belowBits_1 ?_
  refine rx_iload_n (i := 1) dX8_belowBits_4 rfl rfl ?_
  refine rx_ialdN (kt_6 ht) (by omega) (by first | decide | omega) dX8_belowBits_5 ?_
  refine rx_istore_n (i := 2) dX8_belowBits_6 rfl (by decide) rfl rfl ?_
  refine rx_ldc (own := RX8) (v := (-2147483648)) (List.mem_of_getElem? (i := 795) (by decide +kernel)) dX8_belowBits_7 ?_
  refine rx_istore_n (i := 3) dX8_belowBits_9 rfl (by decide) rfl rfl ?_
  refine rx_iload_n (i := 2) dX8_belowBits_10 rfl rfl ?_
  refine rx_iconst (1) dX8_belowBits_11 rfl ?_
  refine rx_isub dX8_belowBits_12 ?_
  refine rx_istore (i := 4) dX8_belowBits_13 (by decide) rfl rfl ?_
  refine rx_aload_n (i := 0) dX8_belowBits_15 rfl rfl ?_
  refine rx_getR (t + 15) (k := 14) fo_X8_54 (kt_0 ht) (by decide) ti_8_14 (by rintro ⟨-, h⟩; omega) (rt_T ht 14 _ (by omega)) dX8_belowBits_16 ?_
  refine rx_iconst (0) dX8_belowBits_19 rfl ?_
  refine rx_ialdN (k := 0) (kt_15 ht) (by omega) (by first | decide | omega) dX8_belowBits_20 ?_
  refine rx_iconst (1) dX8_belowBits_21 rfl ?_
  refine rx_icmp_ne (tgt := 34) dX8_belowBits_22 (by decide) (fun c22 => ?_) (fun c22 => ?_)
  · skip
    refine rx_aload_n (i := 0) dX8_belowBits_34 rfl rfl ?_
    refine rx_getR (t + 15) (k := 14) fo_X8_54 (kt_0 ht) (by decide) ti_8_14 (by rintro ⟨-, h⟩; omega) (rt_T ht 14 _ (by omega)) dX8_belowBits_35 ?_
    refine rx_iconst (0) dX8_belowBits_38 rfl ?_
    refine rx_ialdN (k := 0) (kt_15 ht) (by omega) (by first | decide | omega) dX8_belowBits_39 ?_
    refine rx_iconst (2) dX8_belowBits_40 rfl ?_
    refine rx_icmp_ne (tgt := 55) dX8_belowBits_41 (by decide) (fun c41 => ?_) (fun c41 => ?_)
    · skip
      refine rx_aload_n (i := 0) dX8_belowBits_55 rfl rfl ?_
      refine rx_getR (t + 15) (k := 14) fo_X8_54 (kt_0 ht) (by decide) ti_8_14 (by rintro ⟨-, h⟩; omega) (rt_T ht 14 _ (by omega)) dX8_belowBits_56 ?_
      refine rx_iconst (0) dX8_belowBits_59 rfl ?_
      refine rx_ialdN (k := 0) (kt_15 ht) (by omega) (by first | decide | omega) dX8_belowBits_60 ?_
      refine rx_iconst (3) dX8_belowBits_61 rfl ?_
      refine rx_icmp_ne (tgt := 75) dX8_belowBits_62 (by decide) (fun c62 => ?_) (fun c62 => ?_)
      · skip
        refine rx_iconst (0) dX8_belowBits_75 rfl ?_
        refine rx_istore (i := 5) dX8_belowBits_76 (by decide) rfl rfl ?_
        refine rx_iconst (0) dX8_belowBits_78 rfl ?_
        refine rx_istore (i := 6) dX8_belowBits_79 (by decide) rfl rfl ?_
        refine rx_loc _ (by rfl) ((l_X8_belowBits ht w hp _ _ _ (n + 1) 0 0 (by omega) rfl (by omega)).mono ?_)
        intro pc' ls' st' M' hq
        rw [show fbor (fun i => !(decide (i = p)) && blw (M.1 (t + 15) 0) (M.1 (t + 15) 1) n (M.1 (t + 6)) p i) n = _ from fbor_congr fun i hi => by rw [← blw_0 hB hp hi c22 c41 c62]]
        exact hq
      · skip
        refine rx_iload_n (i := 2) dX8_belowBits_65 rfl rfl ?_
        refine rx_aload_n (i := 0) dX8_belowBits_66 rfl rfl ?_
        refine rx_getR (t + 15) (k := 14) fo_X8_54 (kt_0 ht) (by decide) ti_8_14 (by rintro ⟨-, h⟩; omega) (rt_T ht 14 _ (by omega)) dX8_belowBits_67 ?_
        refine rx_iconst (1) dX8_belowBits_70 rfl ?_
        refine rx_ialdN (k := 1) (kt_15 ht) (by omega) (by first | decide | omega) dX8_belowBits_71 ?_
        refine rx_isub dX8_belowBits_72 ?_
        refine rx_istore (i := 4) dX8_belowBits_73 (by decide) rfl rfl ?_
        refine rx_iconst (0) dX8_belowBits_75 rfl ?_
        refine rx_istore (i := 5) dX8_belowBits_76 (by decide) rfl rfl ?_
        refine rx_iconst (0) dX8_belowBits_78 rfl ?_
        refine rx_istore (i := 6) dX8_belowBits_79 (by decide) rfl rfl ?_
        refine rx_loc _ (by rfl) ((l_X8_belowBits ht w hp _ _ _ (n + 1) 0 0 (by omega) rfl (by omega)).mono ?_)
        intro pc' ls' st' M' hq
        rw [show fbor (fun i => !(decide (i = p)) && blw (M.1 (t + 15) 0) (M.1 (t + 15) 1) n (M.1 (t + 6)) p i) n = _ from fbor_congr fun i hi => by rw [c62, ← blw_3 hB hb hp hi]]
        exact hq
    · skip
      skip
      refine rx_iload_n (i := 2) dX8_belowBits_44 rfl rfl ?_
      refine rx_iconst (1) dX8_belowBits_45 rfl ?_
      refine rx_iadd dX8_belowBits_46 ?_
      refine rx_istore_n (i := 3) dX8_belowBits_47 rfl (by decide) rfl rfl ?_
      refine rx_ldc (own := RX8) (v := (2147483647)) (List.mem_of_getElem? (i := 800) (by decide +kernel)) dX8_belowBits_48 ?_
      refine rx_istore (i := 4) dX8_belowBits_50 (by decide) rfl rfl ?_
      refine rx_goto (tgt := 75) dX8_belowBits_52 (by decide) ?_
      refine rx_iconst (0) dX8_belowBits_75 rfl ?_
      refine rx_istore (i := 5) dX8_belowBits_76 (by decide) rfl rfl ?_
      refine rx_iconst (0) dX8_belowBits_78 rfl ?_
      refine rx_istore (i := 6) dX8_belowBits_79 (by decide) rfl rfl ?_
      refine rx_loc _ (by rfl) ((l_X8_belowBits ht w hp _ _ _ (n + 1) 0 0 (by omega) rfl (by omega)).mono ?_)
      intro pc' ls' st' M' hq
      rw [show fbor (fun i => !(decide (i = p)) && blw (M.1 (t + 15) 0) (M.1 (t + 15) 1) n (M.1 (t + 6)) p i) n = _ from fbor_congr fun i hi => by rw [c41, ← blw_2 hB hp hi]]
      exact hq
  · skip
    skip
    refine rx_aload_n (i := 0) dX8_belowBits_25 rfl rfl ?_
    refine rx_iload_n (i := 2) dX8_belowBits_26 rfl rfl ?_
    refine rx_cvI (ci := 8) mo_X8_greatestUnder lk_X8_88 (c_X8_greatestUnder ht w) (by decide) rfl rfl (Nat.le_of_ble_eq_true rfl) (kt_0 ht) rfl dX8_belowBits_27 ?_
    refine rx_istore_n (i := 3) dX8_belowBits_30 rfl (by decide) rfl rfl ?_
    refine rx_goto (tgt := 75) dX8_belowBits_31 (by decide) ?_
    refine rx_iconst (0) dX8_belowBits_75 rfl ?_
    refine rx_istore (i := 5) dX8_belowBits_76 (by decide) rfl rfl ?_
    refine rx_iconst (0) dX8_belowBits_78 rfl ?_
    refine rx_istore (i := 6) dX8_belowBits_79 (by decide) rfl rfl ?_
    refine rx_loc _ (by rfl) ((l_X8_belowBits ht w hp _ _ _ (n + 1) 0 0 (by omega) rfl (by omega)).mono ?_)
    intro pc' ls' st' M' hq
    rw [show fbor (fun i => !(decide (i = p)) && blw (M.1 (t + 15) 0) (M.1 (t + 15) 1) n (M.1 (t + 6)) p i) n = _ from fbor_congr fun i hi => by rw [c22, ← blw_1 hB hp hi]]
    exact hq
