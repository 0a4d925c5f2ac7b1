
/-- the reader's place -/
def pl (M : Mem) (p : Nat) : Mem := setI M 6 1 (nI p)
theorem pl_pl {M : Mem} {p q : Nat} : setI (pl M p) 6 1 (nI q) = pl M q := sI_sI
theorem pl_o {M : Mem} {p a j : Nat} (h : a ≠ 6) : (pl M p).1 a j = M.1 a j := sI_na h
theorem pl_oF {M : Mem} {p a : Nat} (h : a ≠ 6) : (pl M p).1 a = M.1 a := by funext j; exact pl_o h
theorem pl_p {M : Mem} {p : Nat} : (pl M p).1 6 1 = nI p := sI_eq
theorem pl_l {M : Mem} {p : Nat} : (pl M p).1 6 0 = M.1 6 0 := sI_ne (by omega)
/-- the text of L signs, lim of them looked at -/
def RB (M : Mem) (L lim : Nat) : Prop := M.1 2 1 = nI L ∧ L ≤ 80 ∧ M.1 6 0 = nI lim ∧ lim ≤ L ∧ lim ≤ 76 ∧ ∀ j, j < L → 0 ≤ (M.1 3 j).toInt ∧ (M.1 3 j).toInt ≤ 255
/-- the sign at p -/
def kc (S : Nat → Int32) (lim p : Nat) : Int32 := if p < lim then S p else -1
theorem kc_lt {S : Nat → Int32} {lim p : Nat} {c : Int32} (h : kc S lim p = c) (hc : 0 ≤ c) : p < lim := by
  rcases Nat.lt_or_ge p lim with q | q
  · exact q
  · rw [kc, if_neg (by omega)] at h
    subst h
    exact absurd hc (by decide)
def dig (x : Int32) : Bool := decide (48 ≤ x) && decide (x ≤ 57)
theorem dig_lt {S : Nat → Int32} {lim p : Nat} (h : dig (kc S lim p) = true) : p < lim := by
  simp only [dig, Bool.and_eq_true, decide_eq_true_eq] at h
  exact kc_lt rfl (Int32.le_trans (by decide) h.1)
/-- a number of d digits at most: (value, place) -/
def numS (S : Nat → Int32) (lim : Nat) : Nat → Int32 → Nat → Int32 × Nat
  | 0, v, p => (v, p)
  | d + 1, v, p => if dig (kc S lim p) = true then numS S lim d ((if (0 : Int32) < v then v else 0) * 10 + kc S lim p - 48) (p + 1) else (v, p)
theorem numS_le {S : Nat → Int32} {lim : Nat} : ∀ {d : Nat} {v : Int32} {p : Nat}, p ≤ lim → p ≤ (numS S lim d v p).2 ∧ (numS S lim d v p).2 ≤ lim
  | 0, _, _, h => ⟨Nat.le_refl _, h⟩
  | d + 1, v, p, h => by
    simp only [numS]
    split
    · next c => have := numS_le (S := S) (d := d) (v := (if (0 : Int32) < v then v else 0) * 10 + kc S lim p - 48) (p := p + 1) (dig_lt c); omega
    · exact ⟨Nat.le_refl _, h⟩

set_option maxRecDepth 100000 in
set_option maxHeartbeats 4000000 in
theorem c_X9_peek {M : Mem} {L lim p : Nat} (r : RB M L lim) (hp : p ≤ lim) : Fun yX9_peek cX9_peek 2 (some .int) 1 [.ref 6, .ref 2] (pl M p) (some (.int (kc (M.1 3) lim p))) (pl M p) := by
  refine Fun.of (own := RX9) ([some (.ref 6), some (.ref 2)]) rfl (by decide +kernel) (Nat.le_of_ble_eq_true rfl) rfl ?_
  obtain ⟨hL, hL80, hlim, hlL, hl76, hS⟩ := id r
  refine rx_aload_n (i := 0) dX9_peek_0 rfl rfl ?_
  refine rx_getI (k := 1) fo_X9_27 kl_6 (by decide) ti_9_1 dX9_peek_1 ?_
  refine rx_top (nI p) pl_p ?_
  refine rx_aload_n (i := 0) dX9_peek_4 rfl rfl ?_
  refine rx_getI (k := 0) fo_X9_23 kl_6 (by decide) ti_9_0 dX9_peek_5 ?_
  refine rx_top (nI lim) (pl_l.trans hlim) ?_
  refine rx_icmp_ge (tgt := 22) dX9_peek_8 (by decide) (fun c8 => ?_) (fun c8 => ?_)
  · skip
    have f8 := Int32.not_lt.mpr c8
    have e8 : p = lim := by have := (nI_leI (by omega) (by omega)).mp c8; omega
    rw [show kc (M.1 3) lim p = -1 from if_neg (by omega)]
    refine rx_iconst (-1) dX9_peek_22 rfl ?_
    exact rx_fiI dX9_peek_23 rfl rfl
  · skip
    have f8 := Int32.not_le.mp c8
    have e8 : p < lim := Nat.not_le.mp fun q => c8 (nI_le q (by omega))
    rw [show kc (M.1 3) lim p = M.1 3 p from if_pos e8]
    refine rx_aload_n (i := 1) dX9_peek_11 rfl rfl ?_
    refine rx_aload_n (i := 0) dX9_peek_12 rfl rfl ?_
    refine rx_getI (k := 1) fo_X9_27 kl_6 (by decide) ti_9_1 dX9_peek_13 ?_
    refine rx_top (nI p) pl_p ?_
    refine rx_cvI (ci := 6) mo_X6_at lk_X9_46 ((c_X6_at (L := L) (by rw [pl_o (by decide)]; exact hL) hL80 (by omega)).conv (by rw [pl_o (by decide)]) rfl) (by decide) rfl rfl (Nat.le_of_ble_eq_true rfl) kl_2 rfl dX9_peek_16 ?_
    refine rx_goto (tgt := 23) dX9_peek_19 (by decide) ?_
    exact rx_fiI dX9_peek_23 rfl rfl
set_option maxRecDepth 100000 in
set_option maxHeartbeats 4000000 in
theorem c_X9_takes {M : Mem} {L lim p : Nat} (r : RB M L lim) (hp : p ≤ lim) {c : Int32} (hc : 0 ≤ c) : Fun yX9_takes cX9_takes 3 (some .boolean) 2 [.ref 6, .ref 2, .int c] (pl M p) (some (.int (if kc (M.1 3) lim p = c then 1 else 0))) (if kc (M.1 3) lim p = c then pl M (p + 1) else pl M p) := by
  refine Fun.of (own := RX9) ([some (.ref 6), some (.ref 2), some (.int c)]) rfl (by decide +kernel) (Nat.le_of_ble_eq_true rfl) rfl ?_
  refine rx_aload_n (i := 0) dX9_takes_0 rfl rfl ?_
  refine rx_aload_n (i := 1) dX9_takes_1 rfl rfl ?_
  refine rx_cvI (ci := 9) mo_X9_peek lk_X9_50 (c_X9_peek r hp) (by decide) rfl rfl (Nat.le_of_ble_eq_true rfl) kl_6 rfl dX9_takes_2 ?_
  refine rx_iload_n (i := 2) dX9_takes_5 rfl rfl ?_
  refine rx_icmp_eq (tgt := 11) dX9_takes_6 (by decide) (fun c6 => ?_) (fun c6 => ?_)
  · skip
    rw [if_pos c6, if_pos c6]
    refine rx_aload_n (i := 0) dX9_takes_11 rfl rfl ?_
    refine rx_dup dX9_takes_12 rfl ?_
    refine rx_getI (k := 1) fo_X9_27 kl_6 (by decide) ti_9_1 dX9_takes_13 ?_
    refine rx_top (nI p) pl_p ?_
    refine rx_iconst (1) dX9_takes_16 rfl ?_
    refine rx_iadd dX9_takes_17 ?_
    refine rx_top (nI (p + 1)) (nI_succ p).symm ?_
    refine rx_putI (k := 1) fo_X9_27 fn_9_1 kl_6 (by decide) ty_9_1 dX9_takes_18 ?_
    refine rx_iconst (1) dX9_takes_21 rfl ?_
    exact rx_fiZ dX9_takes_22 (Or.inr rfl) rfl pl_pl
  · skip
    rw [if_neg c6, if_neg c6]
    refine rx_iconst (0) dX9_takes_9 rfl ?_
    exact rx_fiZ dX9_takes_10 (by first | exact Or.inl rfl | exact Or.inr rfl) rfl rfl
set_option maxRecDepth 100000 in
set_option maxHeartbeats 4000000 in
theorem c_X9_isDigit {M : Mem} {x : Int32} : Fun yX9_isDigit cX9_isDigit 1 (some .boolean) 0 [.int x] M (some (.int (zI (dig x)))) (M) := by
  refine Fun.of (own := RX9) ([some (.int x)]) rfl (by decide +kernel) (Nat.le_of_ble_eq_true rfl) rfl ?_
  refine rx_iload_n (i := 0) dX9_isDigit_0 rfl rfl ?_
  refine rx_bipush (48) dX9_isDigit_1 rfl ?_
  refine rx_icmp_lt (tgt := 16) dX9_isDigit_3 (by decide) (fun c3 => ?_) (fun c3 => ?_)
  · skip
    have f3 := Int32.not_le.mpr c3
    rw [show dig x = false by simp [dig, Int32.not_le.mpr c3]]
    refine rx_iconst (0) dX9_isDigit_16 rfl ?_
    exact rx_fiZ dX9_isDigit_17 (by first | exact Or.inl rfl | exact Or.inr rfl) rfl rfl
  · skip
    have f3 := Int32.not_lt.mp c3
    have g3 := f3
    refine rx_iload_n (i := 0) dX9_isDigit_6 rfl rfl ?_
    refine rx_bipush (57) dX9_isDigit_7 rfl ?_
    refine rx_icmp_gt (tgt := 16) dX9_isDigit_9 (by decide) (fun c9 => ?_) (fun c9 => ?_)
    · skip
      have f9 := Int32.not_le.mpr c9
      rw [show dig x = false by simp [dig, Int32.not_le.mpr c9]]
      refine rx_iconst (0) dX9_isDigit_16 rfl ?_
      exact rx_fiZ dX9_isDigit_17 (by first | exact Or.inl rfl | exact Or.inr rfl) rfl rfl
    · skip
      have f9 := Int32.not_lt.mp c9
      rw [show dig x = true by simp [dig, f3, f9]]
      refine rx_iconst (1) dX9_isDigit_12 rfl ?_
      refine rx_goto (tgt := 17) dX9_isDigit_13 (by decide) ?_
      exact rx_fiZ dX9_isDigit_17 (by first | exact Or.inl rfl | exact Or.inr rfl) rfl rfl
set_option maxRecDepth 100000 in
set_option maxHeartbeats 4000000 in
theorem l_X9_number {M : Mem} {L lim : Nat} (r : RB M L lim) {d p0 : Nat} {u0 : Int32} (hd : d ≤ 10) : ∀ (N : Nat) (i : Nat) (v : Int32) (p : Nat), (i ≤ d) → (p ≤ lim) → (numS (M.1 3) lim (d - i) v p = numS (M.1 3) lim d u0 p0) → d - i < N → Reach cX9_number RX9 5 2 (FQ cX9_number (some .int) (some (.int (numS (M.1 3) lim d u0 p0).1)) (pl M (numS (M.1 3) lim d u0 p0).2)) 5 [some (.ref 6), some (.ref 2), some (.int (nI d)), some (.int v), some (.int (nI i))] [] (pl M p) := by
  intro N
  induction N with
  | zero => intro i v p hi hp he hm; exact absurd ‹_ < 0› (Nat.not_lt_zero _)
  | succ N ih =>
    intro i v p hi hp he hm
    refine rx_iload (i := 4) dX9_number_5 rfl ?_
    refine rx_iload_n (i := 2) dX9_number_7 rfl rfl ?_
    refine rx_icmp_ge (tgt := 56) dX9_number_8 (by decide) (fun c8 => ?_) (fun c8 => ?_)
    · skip
      have f8 := Int32.not_lt.mpr c8
      have e8 := (nI_leI (by omega) (by omega)).mp c8
      obtain rfl : i = d := by omega
      rw [Nat.sub_self] at he
      simp only [numS] at he
      rw [← he]
      refine rx_iload_n (i := 3) dX9_number_56 rfl rfl ?_
      exact rx_fiI dX9_number_57 rfl rfl
    · skip
      have f8 := Int32.not_le.mp c8
      have e8 : i < d := Nat.not_le.mp fun q => c8 (nI_le q (by omega))
      rw [show d - i = (d - (i + 1)) + 1 by omega] at he
      simp only [numS] at he
      refine rx_aload_n (i := 0) dX9_number_11 rfl rfl ?_
      refine rx_aload_n (i := 1) dX9_number_12 rfl rfl ?_
      refine rx_cvI (ci := 9) mo_X9_peek lk_X9_50 (c_X9_peek r hp) (by decide) rfl rfl (Nat.le_of_ble_eq_true rfl) kl_6 rfl dX9_number_13 ?_
      refine rx_csI mo_X9_isDigit lk_X9_54 c_X9_isDigit (by decide) rfl rfl (Nat.le_of_ble_eq_true rfl) dX9_number_16 ?_
      refine rx_if_eq (tgt := 56) dX9_number_19 (by decide) (fun c19 => ?_) (fun c19 => ?_)
      · skip
        have e19 := zI_0.mp c19
        rw [if_neg (by rw [e19]; decide)] at he
        rw [← he]
        refine rx_iload_n (i := 3) dX9_number_56 rfl rfl ?_
        exact rx_fiI dX9_number_57 rfl rfl
      · skip
        have e19 : dig (kc (M.1 3) lim p) = true := Decidable.byContradiction fun q => c19 (zI_0.mpr (by simpa using q))
        rw [if_pos e19] at he
        refine rx_iconst (0) dX9_number_22 rfl ?_
        refine rx_iload_n (i := 3) dX9_number_23 rfl rfl ?_
        refine rx_mmax (List.mem_of_getElem? (i := 563) (by decide +kernel)) (by decide) (Nat.le_of_ble_eq_true rfl) dX9_number_24 ?_
        refine rx_bipush (10) dX9_number_27 rfl ?_
        refine rx_imul dX9_number_29 ?_
        refine rx_aload_n (i := 0) dX9_number_30 rfl rfl ?_
        refine rx_aload_n (i := 1) dX9_number_31 rfl rfl ?_
        refine rx_cvI (ci := 9) mo_X9_peek lk_X9_50 (c_X9_peek r hp) (by decide) rfl rfl (Nat.le_of_ble_eq_true rfl) kl_6 rfl dX9_number_32 ?_
        refine rx_iadd dX9_number_35 ?_
        refine rx_bipush (48) dX9_number_36 rfl ?_
        refine rx_isub dX9_number_38 ?_
        refine rx_istore_n (i := 3) dX9_number_39 rfl (by decide) rfl rfl ?_
        refine rx_aload_n (i := 0) dX9_number_40 rfl rfl ?_
        refine rx_dup dX9_number_41 rfl ?_
        refine rx_getI (k := 1) fo_X9_27 kl_6 (by decide) ti_9_1 dX9_number_42 ?_
        skip
        refine rx_iconst (1) dX9_number_45 rfl ?_
        refine rx_iadd dX9_number_46 ?_
        refine rx_top (nI (p + 1)) (nI_succ p).symm ?_
        refine rx_putI (k := 1) fo_X9_27 fn_9_1 kl_6 (by decide) ty_9_1 dX9_number_47 ?_
        rw [pl_pl]
        first | refine rx_iincN (i := 4) dX9_number_50 rfl (by decide) rfl rfl ?_ | refine rx_iinc (i := 4) dX9_number_50 rfl rfl (by decide) rfl rfl ?_
        refine rx_goto (tgt := 5) dX9_number_53 (by decide) ?_
        exact ih (i + 1) _ (p + 1) (by omega) (dig_lt e19) he (by omega)
set_option maxRecDepth 100000 in
set_option maxHeartbeats 4000000 in
theorem c_X9_number {M : Mem} {L lim p : Nat} (r : RB M L lim) (hp : p ≤ lim) {d : Nat} (hd : d ≤ 10) : Fun yX9_number cX9_number 5 (some .int) 2 [.ref 6, .ref 2, .int (nI d)] (pl M p) (some (.int (numS (M.1 3) lim d (-1) p).1)) (pl M (numS (M.1 3) lim d (-1) p).2) := by
  refine Fun.of (own := RX9) ([some (.ref 6), some (.ref 2), some (.int (nI d)), none, none]) rfl (by decide +kernel) (Nat.le_of_ble_eq_true rfl) rfl ?_
  refine rx_iconst (-1) dX9_number_0 rfl ?_
  refine rx_istore_n (i := 3) dX9_number_1 rfl (by decide) rfl rfl ?_
  refine rx_iconst (0) dX9_number_2 rfl ?_
  refine rx_istore (i := 4) dX9_number_3 (by decide) rfl rfl ?_
  exact l_X9_number r hd (d + 1) 0 (-1) p (by omega) hp rfl (by omega)

/-- one of n people who isn't another one, at p: its number, -1 if there is none -/
def perS (S : Nat → Int32) (lim n : Nat) (o : Int32) (p : Nat) : Int32 :=
  let e := if dig (kc S lim p) = true then kc S lim p - 48 else -1
  if (0 ≤ e ∧ e < nI n) ∧ ¬ e = o then e else -1
theorem perS_in {S : Nat → Int32} {lim n p : Nat} {o : Int32} (h : perS S lim n o p ≠ -1) : p < lim ∧ 0 ≤ perS S lim n o p ∧ perS S lim n o p < nI n ∧ ¬ perS S lim n o p = o := by
  unfold perS at h ⊢
  simp only at h ⊢
  by_cases c : (0 ≤ (if dig (kc S lim p) = true then kc S lim p - 48 else -1) ∧ (if dig (kc S lim p) = true then kc S lim p - 48 else -1) < nI n) ∧ ¬ (if dig (kc S lim p) = true then kc S lim p - 48 else -1) = o
  · rw [if_pos c]
    refine ⟨?_, c.1.1, c.1.2, c.2⟩
    by_cases hd : dig (kc S lim p) = true
    · exact dig_lt hd
    · rw [if_neg hd] at c; exact absurd c.1.1 (by decide)
  · rw [if_neg c] at h; exact absurd rfl h

set_option maxRecDepth 100000 in
set_option maxHeartbeats 4000000 in
theorem c_X9_person {M : Mem} {L lim p : Nat} (r : RB M L lim) (hp : p ≤ lim) {n m : Nat} (w : TW M 28 n m) {o : Int32} : Fun yX9_person cX9_person 5 (some .int) 2 [.ref 6, .ref 2, .ref 28, .int o] (pl M p) (some (.int (perS (M.1 3) lim n o p))) (pl M (if perS (M.1 3) lim n o p = -1 then p else p + 1)) := by
  refine Fun.of (own := RX9) ([some (.ref 6), some (.ref 2), some (.ref 28), some (.int o), none]) rfl (by decide +kernel) (Nat.le_of_ble_eq_true rfl) rfl ?_
  have ht : isTown 28 := by unfold isTown; omega
  have e15 : (pl M p).1 28 15 = nI n := by rw [pl_o (by decide)]; exact w.1
  obtain ⟨x, hx⟩ : ∃ x, x = (if dig (kc (M.1 3) lim p) = true then kc (M.1 3) lim p - 48 else -1) := ⟨_, rfl⟩
  refine rx_aload_n (i := 0) dX9_person_0 rfl rfl ?_
  refine rx_aload_n (i := 1) dX9_person_1 rfl rfl ?_
  refine rx_cvI (ci := 9) mo_X9_peek lk_X9_50 (c_X9_peek r hp) (by decide) rfl rfl (Nat.le_of_ble_eq_true rfl) kl_6 rfl dX9_person_2 ?_
  refine rx_csI mo_X9_isDigit lk_X9_54 c_X9_isDigit (by decide) rfl rfl (Nat.le_of_ble_eq_true rfl) dX9_person_5 ?_
  refine rx_if_eq (tgt := 22) dX9_person_8 (by decide) (fun c8 => ?_) (fun c8 => ?_)
  · skip
    have e8 := zI_0.mp c8
    rw [if_neg (by rw [e8]; decide)] at hx
    refine rx_iconst (-1) dX9_person_22 rfl ?_
    refine rx_top x hx.symm ?_
    refine rx_istore (i := 4) dX9_person_23 (by decide) rfl rfl ?_
    refine rx_aload_n (i := 2) dX9_person_25 rfl rfl ?_
    refine rx_iload (i := 4) dX9_person_26 rfl ?_
    refine rx_cvI (ci := 8) mo_X8_isPerson lk_X9_80 (c_X8_isPerson ht) (by decide) rfl rfl (Nat.le_of_ble_eq_true rfl) kl_28 rfl dX9_person_28 ?_
    refine rx_if_eq (tgt := 40) dX9_person_31 (by decide) (fun c31 => ?_) (fun c31 => ?_)
    · skip
      have hq : perS (M.1 3) lim n o p = -1 := by
        unfold perS; simp only [e8, if_true, if_false, ← hx]
        exact if_neg fun q => one_ne0 (by rw [if_pos (e15 ▸ q.1)] at c31; exact c31)
      rw [hq]
      refine rx_iconst (-1) dX9_person_40 rfl ?_
      exact rx_fiI dX9_person_41 rfl rfl
    · skip
      have e31 := Classical.byContradiction fun q => c31 (if_neg q)
      rw [e15] at e31
      refine rx_iload (i := 4) dX9_person_34 rfl ?_
      refine rx_iload_n (i := 3) dX9_person_36 rfl rfl ?_
      refine rx_icmp_ne (tgt := 42) dX9_person_37 (by decide) (fun c37 => ?_) (fun c37 => ?_)
      · skip
        have hq : perS (M.1 3) lim n o p = x := by
          unfold perS; simp only [e8, if_true, if_false, ← hx]
          exact if_pos ⟨e31, c37⟩
        rw [hq, if_neg (fun q => absurd e31.1 (by rw [q]; decide))]
        refine rx_aload_n (i := 0) dX9_person_42 rfl rfl ?_
        refine rx_dup dX9_person_43 rfl ?_
        refine rx_getI (k := 1) fo_X9_27 kl_6 (by decide) ti_9_1 dX9_person_44 ?_
        refine rx_top (nI p) pl_p ?_
        refine rx_iconst (1) dX9_person_47 rfl ?_
        refine rx_iadd dX9_person_48 ?_
        refine rx_top (nI (p + 1)) (nI_succ p).symm ?_
        refine rx_putI (k := 1) fo_X9_27 fn_9_1 kl_6 (by decide) ty_9_1 dX9_person_49 ?_
        refine rx_iload (i := 4) dX9_person_52 rfl ?_
        exact rx_fiI dX9_person_54 rfl pl_pl
      · skip
        have hq : perS (M.1 3) lim n o p = -1 := by
          unfold perS; simp only [e8, if_true, if_false, ← hx]
          exact if_neg fun q => q.2 c37
        rw [hq]
        refine rx_iconst (-1) dX9_person_40 rfl ?_
        exact rx_fiI dX9_person_41 rfl rfl
  · skip
    have e8 : dig (kc (M.1 3) lim p) = true := Decidable.byContradiction fun q => c8 (zI_0.mpr (by simpa using q))
    rw [if_pos e8] at hx
    refine rx_aload_n (i := 0) dX9_person_11 rfl rfl ?_
    refine rx_aload_n (i := 1) dX9_person_12 rfl rfl ?_
    refine rx_cvI (ci := 9) mo_X9_peek lk_X9_50 (c_X9_peek r hp) (by decide) rfl rfl (Nat.le_of_ble_eq_true rfl) kl_6 rfl dX9_person_13 ?_
    refine rx_bipush (48) dX9_person_16 rfl ?_
    refine rx_isub dX9_person_18 ?_
    refine rx_goto (tgt := 23) dX9_person_19 (by decide) ?_
    refine rx_top x hx.symm ?_
    refine rx_istore (i := 4) dX9_person_23 (by decide) rfl rfl ?_
    refine rx_aload_n (i := 2) dX9_person_25 rfl rfl ?_
    refine rx_iload (i := 4) dX9_person_26 rfl ?_
    refine rx_cvI (ci := 8) mo_X8_isPerson lk_X9_80 (c_X8_isPerson ht) (by decide) rfl rfl (Nat.le_of_ble_eq_true rfl) kl_28 rfl dX9_person_28 ?_
    refine rx_if_eq (tgt := 40) dX9_person_31 (by decide) (fun c31 => ?_) (fun c31 => ?_)
    · skip
      have hq : perS (M.1 3) lim n o p = -1 := by
        unfold perS; simp only [e8, if_true, if_false, ← hx]
        exact if_neg fun q => one_ne0 (by rw [if_pos (e15 ▸ q.1)] at c31; exact c31)
      rw [hq]
      refine rx_iconst (-1) dX9_person_40 rfl ?_
      exact rx_fiI dX9_person_41 rfl rfl
    · skip
      have e31 := Classical.byContradiction fun q => c31 (if_neg q)
      rw [e15] at e31
      refine rx_iload (i := 4) dX9_person_34 rfl ?_
      refine rx_iload_n (i := 3) dX9_person_36 rfl rfl ?_
      refine rx_icmp_ne (tgt := 42) dX9_person_37 (by decide) (fun c37 => ?_) (fun c37 => ?_)
      · skip
        have hq : perS (M.1 3) lim n o p = x := by
          unfold perS; simp only [e8, if_true, if_false, ← hx]
          exact if_pos ⟨e31, c37⟩
        rw [hq, if_neg (fun q => absurd e31.1 (by rw [q]; decide))]
        refine rx_aload_n (i := 0) dX9_person_42 rfl rfl ?_
        refine rx_dup dX9_person_43 rfl ?_
        refine rx_getI (k := 1) fo_X9_27 kl_6 (by decide) ti_9_1 dX9_person_44 ?_
        refine rx_top (nI p) pl_p ?_
        refine rx_iconst (1) dX9_person_47 rfl ?_
        refine rx_iadd dX9_person_48 ?_
        refine rx_top (nI (p + 1)) (nI_succ p).symm ?_
        refine rx_putI (k := 1) fo_X9_27 fn_9_1 kl_6 (by decide) ty_9_1 dX9_person_49 ?_
        refine rx_iload (i := 4) dX9_person_52 rfl ?_
        exact rx_fiI dX9_person_54 rfl pl_pl
      · skip
        have hq : perS (M.1 3) lim n o p = -1 := by
          unfold perS; simp only [e8, if_true, if_false, ← hx]
          exact if_neg fun q => q.2 c37
        rw [hq]
        refine rx_iconst (-1) dX9_person_40 rfl ?_
        exact rx_fiI dX9_person_41 rfl rfl
