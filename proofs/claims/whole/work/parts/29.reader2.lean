
theorem RB.keep {M M' : Mem} {L lim : Nat} (r : RB M L lim) (h2 : M'.1 2 1 = M.1 2 1) (h6 : M'.1 6 0 = M.1 6 0) (h3 : M'.1 3 = M.1 3) : RB M' L lim := by unfold RB; rw [h2, h6, h3]; exact r
/-- one of PEOPLE, at p: (well, place, COIN, ASKS, KIND) -/
def rpS (S : Nat → Int32) (lim p : Nat) : Bool × Nat × Int32 × Int32 × Int32 :=
  let a := numS S lim 3 (-1) p
  if kc S lim a.2 = 44 then
    let b := numS S lim 2 (-1) (a.2 + 1)
    if b.1 < 0 then (false, b.2, 0, 0, 0)
    else if kc S lim b.2 = 33 then (true, b.2 + 1, a.1, b.1, 1) else (true, b.2, a.1, b.1, 0)
  else (false, a.2, 0, 0, 0)
/-- a DEBT, at p: (well, place, who owes, who gets, SUM, DUE) -/
def rdS (S : Nat → Int32) (lim n p : Nat) : Bool × Nat × Int32 × Int32 × Int32 × Int32 :=
  let o := perS S lim n (-1) (p + 1)
  if o = -1 then (false, p + 1, 0, 0, 0, 0) else
  if kc S lim (p + 2) = 62 then
    let g := perS S lim n o (p + 3)
    if g = -1 then (false, p + 3, 0, 0, 0, 0) else
    if kc S lim (p + 4) = 42 then
      let a := numS S lim 2 (-1) (p + 5)
      if a.1 = 0 then (false, a.2 - 1, 0, 0, 0, 0) else
      if a.1 ≤ 0 then (false, a.2, 0, 0, 0, 0) else
      if kc S lim a.2 = 64 then
        let b := numS S lim 2 (-1) (a.2 + 1)
        if b.1 < 0 then (false, b.2, 0, 0, 0, 0) else (true, b.2, o, g, a.1, b.1)
      else (false, a.2, 0, 0, 0, 0)
    else (false, p + 4, 0, 0, 0, 0)
  else (false, p + 2, 0, 0, 0, 0)
/-- a LINE, at p, with n people and m debts: (well, place, a debt?, four numbers) -/
def rlS (S : Nat → Int32) (lim n m p : Nat) : Bool × Nat × Bool × Int32 × Int32 × Int32 × Int32 :=
  if dig (kc S lim p) = true then
    if n < 8 then ((rpS S lim p).1, (rpS S lim p).2.1, false, (rpS S lim p).2.2.1, (rpS S lim p).2.2.2.1, (rpS S lim p).2.2.2.2, 0) else (false, p, false, 0, 0, 0, 0)
  else if kc S lim p = 100 then
    if m < 10 then ((rdS S lim n p).1, (rdS S lim n p).2.1, true, (rdS S lim n p).2.2) else (false, p, true, 0, 0, 0, 0)
  else (false, p, false, 0, 0, 0, 0)
/-- what a LINE tells comes -/
def lnM (M : Mem) (n m : Nat) (x : Bool × Int32 × Int32 × Int32 × Int32) : Mem := if x.1 = true then adM M 28 m x.2.1 x.2.2.1 x.2.2.2.1 x.2.2.2.2 else apM M 28 n x.2.1 x.2.2.1 x.2.2.2.1

set_option maxRecDepth 100000 in
set_option maxHeartbeats 4000000 in
theorem c_X9_readPerson {M : Mem} {L lim p : Nat} (r : RB M L lim) (hp : p ≤ lim) {n m : Nat} (w : TW M 28 n m) (h8 : n < 8) : Fun yX9_readPerson cX9_readPerson 5 (some .boolean) 3 [.ref 6, .ref 2, .ref 28] (pl M p) (some (.int (zI (rpS (M.1 3) lim p).1))) (if (rpS (M.1 3) lim p).1 = true then apM (pl M (rpS (M.1 3) lim p).2.1) 28 n (rpS (M.1 3) lim p).2.2.1 (rpS (M.1 3) lim p).2.2.2.1 (rpS (M.1 3) lim p).2.2.2.2 else pl M (rpS (M.1 3) lim p).2.1) := by
  refine Fun.of (own := RX9) ([some (.ref 6), some (.ref 2), some (.ref 28), none, none]) rfl (by decide +kernel) (Nat.le_of_ble_eq_true rfl) rfl ?_
  have ht : isTown 28 := by unfold isTown; omega
  obtain ⟨hL, hL80, hlim, hlL, hl76, hS⟩ := id r
  refine rx_aload_n (i := 0) dX9_readPerson_0 rfl rfl ?_
  refine rx_aload_n (i := 1) dX9_readPerson_1 rfl rfl ?_
  refine rx_iconst (3) dX9_readPerson_2 rfl ?_
  refine rx_cvI (ci := 9) mo_X9_number lk_X9_64 (c_X9_number (d := 3) r hp (by decide)) (by decide) rfl rfl (Nat.le_of_ble_eq_true rfl) kl_6 rfl dX9_readPerson_3 ?_
  obtain ⟨v, p1, e1⟩ : ∃ v p1, numS (M.1 3) lim 3 (-1) p = (v, p1) := ⟨_, _, rfl⟩
  have q1 : p1 ≤ lim := by have := (numS_le (S := M.1 3) (d := 3) (v := -1) hp).2; rw [e1] at this; exact this
  rw [e1]
  refine rx_istore_n (i := 3) dX9_readPerson_6 rfl (by decide) rfl rfl ?_
  refine rx_aload_n (i := 0) dX9_readPerson_7 rfl rfl ?_
  refine rx_aload_n (i := 1) dX9_readPerson_8 rfl rfl ?_
  refine rx_bipush (44) dX9_readPerson_9 rfl ?_
  refine rx_cvI (ci := 9) mo_X9_takes lk_X9_42 ((c_X9_takes r q1 (c := 44) (by decide))) (by decide) rfl rfl (Nat.le_of_ble_eq_true rfl) kl_6 rfl dX9_readPerson_11 ?_
  obtain ⟨r0, hr0⟩ : ∃ r0, rpS (M.1 3) lim p = r0 := ⟨_, rfl⟩
  rw [hr0]
  have hr1 := hr0
  unfold rpS at hr1
  simp only [e1] at hr1
  by_cases k1 : kc (M.1 3) lim p1 = 44
  · rw [if_pos k1] at hr1
    rw [if_pos k1, if_pos k1]
    refine rx_if_ne (tgt := 19) dX9_readPerson_14 (by decide) (fun c14 => ?_) (fun c14 => ?_)
    · skip
      have q2 : p1 + 1 ≤ lim := kc_lt k1 (by decide)
      refine rx_aload_n (i := 0) dX9_readPerson_19 rfl rfl ?_
      refine rx_aload_n (i := 1) dX9_readPerson_20 rfl rfl ?_
      refine rx_iconst (2) dX9_readPerson_21 rfl ?_
      refine rx_cvI (ci := 9) mo_X9_number lk_X9_64 (c_X9_number (d := 2) r q2 (by decide)) (by decide) rfl rfl (Nat.le_of_ble_eq_true rfl) kl_6 rfl dX9_readPerson_22 ?_
      obtain ⟨a, p2, e2⟩ : ∃ a p2, numS (M.1 3) lim 2 (-1) (p1 + 1) = (a, p2) := ⟨_, _, rfl⟩
      have q3 : p2 ≤ lim := by have := (numS_le (S := M.1 3) (d := 2) (v := -1) q2).2; rw [e2] at this; exact this
      rw [e2]
      simp only [e2] at hr1
      refine rx_istore (i := 4) dX9_readPerson_25 (by decide) rfl rfl ?_
      refine rx_iload (i := 4) dX9_readPerson_27 rfl ?_
      refine rx_if_ge (tgt := 34) dX9_readPerson_29 (by decide) (fun c29 => ?_) (fun c29 => ?_)
      · skip
        have f29 := Int32.not_lt.mpr c29
        have g29 := c29
        refine rx_aload_n (i := 2) dX9_readPerson_34 rfl rfl ?_
        refine rx_iload_n (i := 3) dX9_readPerson_35 rfl rfl ?_
        refine rx_iload (i := 4) dX9_readPerson_36 rfl ?_
        refine rx_aload_n (i := 0) dX9_readPerson_38 rfl rfl ?_
        refine rx_aload_n (i := 1) dX9_readPerson_39 rfl rfl ?_
        refine rx_bipush (33) dX9_readPerson_40 rfl ?_
        refine rx_cvI (ci := 9) mo_X9_takes lk_X9_42 (c_X9_takes r q3 (c := 33) (by decide)) (by decide) rfl rfl (Nat.le_of_ble_eq_true rfl) kl_6 rfl dX9_readPerson_42 ?_
        have g29 := Int32.not_lt.mpr c29
        rw [if_neg g29] at hr1
        by_cases k2 : kc (M.1 3) lim p2 = 33
        · rw [if_pos k2] at hr1
          subst hr1
          rw [if_pos k2, if_pos k2]
          refine rx_cvI (ci := 8) mo_X8_addPerson lk_X9_68 (c_X8_addPerson ht (by rw [pl_o (by decide)]; exact w.1) h8) (by decide) rfl rfl (Nat.le_of_ble_eq_true rfl) kl_28 rfl dX9_readPerson_45 ?_
          exact rx_fiZ dX9_readPerson_48 (Or.inr rfl) rfl rfl
        · rw [if_neg k2] at hr1
          subst hr1
          rw [if_neg k2, if_neg k2]
          refine rx_cvI (ci := 8) mo_X8_addPerson lk_X9_68 (c_X8_addPerson ht (by rw [pl_o (by decide)]; exact w.1) h8) (by decide) rfl rfl (Nat.le_of_ble_eq_true rfl) kl_28 rfl dX9_readPerson_45 ?_
          exact rx_fiZ dX9_readPerson_48 (Or.inr rfl) rfl rfl
      · skip
        have f29 := Int32.not_le.mp c29
        rw [if_pos f29] at hr1
        subst hr1
        refine rx_iconst (0) dX9_readPerson_32 rfl ?_
        exact rx_fiZ dX9_readPerson_33 (by first | exact Or.inl rfl | exact Or.inr rfl) rfl rfl
    · skip
      exact absurd c14 (by decide)
  · rw [if_neg k1] at hr1
    rw [if_neg k1, if_neg k1]
    refine rx_if_ne (tgt := 19) dX9_readPerson_14 (by decide) (fun c14 => ?_) (fun c14 => ?_)
    · skip
      exact absurd rfl c14
    · skip
      subst hr1
      refine rx_iconst (0) dX9_readPerson_17 rfl ?_
      exact rx_fiZ dX9_readPerson_18 (by first | exact Or.inl rfl | exact Or.inr rfl) rfl rfl
set_option maxRecDepth 100000 in
set_option maxHeartbeats 4000000 in
theorem c_X9_readDebt {M : Mem} {L lim p : Nat} (r : RB M L lim) (hp : p ≤ lim) {n m : Nat} (w : TW M 28 n m) (h10 : m < 10) (hpl : p < lim) : Fun yX9_readDebt cX9_readDebt 7 (some .boolean) 3 [.ref 6, .ref 2, .ref 28] (pl M p) (some (.int (zI (rdS (M.1 3) lim n p).1))) (if (rdS (M.1 3) lim n p).1 = true then adM (pl M (rdS (M.1 3) lim n p).2.1) 28 m (rdS (M.1 3) lim n p).2.2.1 (rdS (M.1 3) lim n p).2.2.2.1 (rdS (M.1 3) lim n p).2.2.2.2.1 (rdS (M.1 3) lim n p).2.2.2.2.2 else pl M (rdS (M.1 3) lim n p).2.1) := by
  refine Fun.of (own := RX9) ([some (.ref 6), some (.ref 2), some (.ref 28), none, none, none, none]) rfl (by decide +kernel) (Nat.le_of_ble_eq_true rfl) rfl ?_
  have ht : isTown 28 := by unfold isTown; omega
  obtain ⟨hL, hL80, hlim, hlL, hl76, hS⟩ := id r
  obtain ⟨r0, hr0⟩ : ∃ r0, rdS (M.1 3) lim n p = r0 := ⟨_, rfl⟩
  rw [hr0]
  have hr1 := hr0
  unfold rdS at hr1
  simp only at hr1
  refine rx_aload_n (i := 0) dX9_readDebt_0 rfl rfl ?_
  refine rx_dup dX9_readDebt_1 rfl ?_
  refine rx_getI (k := 1) fo_X9_27 kl_6 (by decide) ti_9_1 dX9_readDebt_2 ?_
  refine rx_top (nI p) pl_p ?_
  refine rx_iconst (1) dX9_readDebt_5 rfl ?_
  refine rx_iadd dX9_readDebt_6 ?_
  refine rx_top (nI (p + 1)) (nI_succ p).symm ?_
  refine rx_putI (k := 1) fo_X9_27 fn_9_1 kl_6 (by decide) ty_9_1 dX9_readDebt_7 ?_
  rw [pl_pl]
  refine rx_aload_n (i := 0) dX9_readDebt_10 rfl rfl ?_
  refine rx_aload_n (i := 1) dX9_readDebt_11 rfl rfl ?_
  refine rx_aload_n (i := 2) dX9_readDebt_12 rfl rfl ?_
  refine rx_iconst (-1) dX9_readDebt_13 rfl ?_
  refine rx_cvI (ci := 9) mo_X9_person lk_X9_72 (c_X9_person r (p := p + 1) (by omega) w) (by decide) rfl rfl (Nat.le_of_ble_eq_true rfl) kl_6 rfl dX9_readDebt_14 ?_
  obtain ⟨o, ho⟩ : ∃ o, perS (M.1 3) lim n (-1) (p + 1) = o := ⟨_, rfl⟩
  rw [ho]
  rw [ho] at hr1
  by_cases k0 : o = -1
  · skip
    rw [if_pos k0] at hr1
    rw [if_pos k0]
    subst k0
    refine rx_istore_n (i := 3) dX9_readDebt_17 rfl (by decide) rfl rfl ?_
    refine rx_iload_n (i := 3) dX9_readDebt_18 rfl rfl ?_
    refine rx_if_lt (tgt := 32) dX9_readDebt_19 (by decide) (fun c19 => ?_) (fun c19 => absurd (by decide) c19)
    refine rx_iconst (0) dX9_readDebt_32 rfl ?_
    try subst hr1
    exact rx_fiZ dX9_readDebt_33 (Or.inl rfl) rfl rfl
  · skip
    rw [if_neg k0] at hr1
    rw [if_neg k0]
    have po := perS_in (S := M.1 3) (lim := lim) (n := n) (o := -1) (p := p + 1) (by rw [ho]; exact k0)
    rw [ho] at po
    have q1 : p + 2 ≤ lim := po.1
    refine rx_istore_n (i := 3) dX9_readDebt_17 rfl (by decide) rfl rfl ?_
    refine rx_iload_n (i := 3) dX9_readDebt_18 rfl rfl ?_
    refine rx_if_lt (tgt := 32) dX9_readDebt_19 (by decide) (fun c19 => absurd po.2.1 (Int32.not_le.mpr c19)) (fun c19 => ?_)
    refine rx_aload_n (i := 0) dX9_readDebt_22 rfl rfl ?_
    refine rx_aload_n (i := 1) dX9_readDebt_23 rfl rfl ?_
    refine rx_bipush (62) dX9_readDebt_24 rfl ?_
    refine rx_cvI (ci := 9) mo_X9_takes lk_X9_42 (c_X9_takes r (p := p + 2) q1 (c := 62) (by decide)) (by decide) rfl rfl (Nat.le_of_ble_eq_true rfl) kl_6 rfl dX9_readDebt_26 ?_
    by_cases k1 : kc (M.1 3) lim (p + 2) = 62
    · skip
      rw [if_pos k1] at hr1
      rw [if_pos k1, if_pos k1]
      have q2 : p + 3 ≤ lim := kc_lt k1 (by decide)
      refine rx_if_ne (tgt := 34) dX9_readDebt_29 (by decide) (fun c29 => ?_) (fun c29 => absurd c29 (by decide))
      refine rx_aload_n (i := 0) dX9_readDebt_34 rfl rfl ?_
      refine rx_aload_n (i := 1) dX9_readDebt_35 rfl rfl ?_
      refine rx_aload_n (i := 2) dX9_readDebt_36 rfl rfl ?_
      refine rx_iload_n (i := 3) dX9_readDebt_37 rfl rfl ?_
      refine rx_cvI (ci := 9) mo_X9_person lk_X9_72 (c_X9_person r (p := p + 3) q2 w) (by decide) rfl rfl (Nat.le_of_ble_eq_true rfl) kl_6 rfl dX9_readDebt_38 ?_
      obtain ⟨g, hg⟩ : ∃ g, perS (M.1 3) lim n o (p + 3) = g := ⟨_, rfl⟩
      rw [hg]
      rw [hg] at hr1
      by_cases k2 : g = -1
      · skip
        rw [if_pos k2] at hr1
        rw [if_pos k2]
        subst k2
        refine rx_istore (i := 4) dX9_readDebt_41 (by decide) rfl rfl ?_
        refine rx_iload (i := 4) dX9_readDebt_43 rfl ?_
        refine rx_if_lt (tgt := 58) dX9_readDebt_45 (by decide) (fun c45 => ?_) (fun c45 => absurd (by decide) c45)
        refine rx_iconst (0) dX9_readDebt_58 rfl ?_
        try subst hr1
        exact rx_fiZ dX9_readDebt_59 (Or.inl rfl) rfl rfl
      · skip
        rw [if_neg k2] at hr1
        rw [if_neg k2]
        have pg := perS_in (S := M.1 3) (lim := lim) (n := n) (o := o) (p := p + 3) (by rw [hg]; exact k2)
        rw [hg] at pg
        have q3 : p + 4 ≤ lim := pg.1
        refine rx_istore (i := 4) dX9_readDebt_41 (by decide) rfl rfl ?_
        refine rx_iload (i := 4) dX9_readDebt_43 rfl ?_
        refine rx_if_lt (tgt := 58) dX9_readDebt_45 (by decide) (fun c45 => absurd pg.2.1 (Int32.not_le.mpr c45)) (fun c45 => ?_)
        refine rx_aload_n (i := 0) dX9_readDebt_48 rfl rfl ?_
        refine rx_aload_n (i := 1) dX9_readDebt_49 rfl rfl ?_
        refine rx_bipush (42) dX9_readDebt_50 rfl ?_
        refine rx_cvI (ci := 9) mo_X9_takes lk_X9_42 (c_X9_takes r (p := p + 4) q3 (c := 42) (by decide)) (by decide) rfl rfl (Nat.le_of_ble_eq_true rfl) kl_6 rfl dX9_readDebt_52 ?_
        by_cases k3 : kc (M.1 3) lim (p + 4) = 42
        · skip
          rw [if_pos k3] at hr1
          rw [if_pos k3, if_pos k3]
          have q4 : p + 5 ≤ lim := kc_lt k3 (by decide)
          refine rx_if_ne (tgt := 60) dX9_readDebt_55 (by decide) (fun c55 => ?_) (fun c55 => absurd c55 (by decide))
          refine rx_aload_n (i := 0) dX9_readDebt_60 rfl rfl ?_
          refine rx_aload_n (i := 1) dX9_readDebt_61 rfl rfl ?_
          refine rx_iconst (2) dX9_readDebt_62 rfl ?_
          refine rx_cvI (ci := 9) mo_X9_number lk_X9_64 (c_X9_number (d := 2) r (p := p + 5) q4 (by decide)) (by decide) rfl rfl (Nat.le_of_ble_eq_true rfl) kl_6 rfl dX9_readDebt_63 ?_
          obtain ⟨a, p5, e5⟩ : ∃ a p5, numS (M.1 3) lim 2 (-1) (p + 5) = (a, p5) := ⟨_, _, rfl⟩
          have q5a := numS_le (S := M.1 3) (d := 2) (v := -1) q4
          rw [e5] at q5a
          have q5 : p5 ≤ lim := q5a.2
          have q5b : p + 5 ≤ p5 := q5a.1
          rw [e5]
          simp only [e5] at hr1
          refine rx_istore (i := 5) dX9_readDebt_66 (by decide) rfl rfl ?_
          refine rx_iload (i := 5) dX9_readDebt_68 rfl ?_
          refine rx_if_ne (tgt := 83) dX9_readDebt_70 (by decide) (fun c70 => ?_) (fun c70 => ?_)
          · skip
            rw [if_neg c70] at hr1
            refine rx_iload (i := 5) dX9_readDebt_83 rfl ?_
            refine rx_if_le (tgt := 98) dX9_readDebt_85 (by decide) (fun c85 => ?_) (fun c85 => ?_)
            · skip
              have f85 := Int32.not_lt.mpr c85
              try rw [if_pos c85] at hr1
              refine rx_iconst (0) dX9_readDebt_98 rfl ?_
              try subst hr1
              exact rx_fiZ dX9_readDebt_99 (Or.inl rfl) rfl rfl
            · skip
              have f85 := Int32.not_le.mp c85
              rw [if_neg c85] at hr1
              refine rx_aload_n (i := 0) dX9_readDebt_88 rfl rfl ?_
              refine rx_aload_n (i := 1) dX9_readDebt_89 rfl rfl ?_
              refine rx_bipush (64) dX9_readDebt_90 rfl ?_
              refine rx_cvI (ci := 9) mo_X9_takes lk_X9_42 (c_X9_takes r (p := p5) q5 (c := 64) (by decide)) (by decide) rfl rfl (Nat.le_of_ble_eq_true rfl) kl_6 rfl dX9_readDebt_92 ?_
              by_cases k4 : kc (M.1 3) lim p5 = 64
              · skip
                rw [if_pos k4] at hr1
                rw [if_pos k4, if_pos k4]
                have q6 : p5 + 1 ≤ lim := kc_lt k4 (by decide)
                refine rx_if_ne (tgt := 100) dX9_readDebt_95 (by decide) (fun c95 => ?_) (fun c95 => absurd c95 (by decide))
                refine rx_aload_n (i := 0) dX9_readDebt_100 rfl rfl ?_
                refine rx_aload_n (i := 1) dX9_readDebt_101 rfl rfl ?_
                refine rx_iconst (2) dX9_readDebt_102 rfl ?_
                refine rx_cvI (ci := 9) mo_X9_number lk_X9_64 (c_X9_number (d := 2) r (p := p5 + 1) q6 (by decide)) (by decide) rfl rfl (Nat.le_of_ble_eq_true rfl) kl_6 rfl dX9_readDebt_103 ?_
                obtain ⟨b, p6, e6⟩ : ∃ b p6, numS (M.1 3) lim 2 (-1) (p5 + 1) = (b, p6) := ⟨_, _, rfl⟩
                rw [e6]
                simp only [e6] at hr1
                refine rx_istore (i := 6) dX9_readDebt_106 (by decide) rfl rfl ?_
                refine rx_iload (i := 6) dX9_readDebt_108 rfl ?_
                refine rx_if_lt (tgt := 131) dX9_readDebt_110 (by decide) (fun c110 => ?_) (fun c110 => ?_)
                · skip
                  have f110 := Int32.not_le.mpr c110
                  rw [if_pos c110] at hr1
                  refine rx_iconst (0) dX9_readDebt_131 rfl ?_
                  first | exact rx_fiZ dX9_readDebt_132 (Or.inr rfl) rfl rfl | exact rx_fiZ dX9_readDebt_132 (Or.inl rfl) rfl rfl | (subst hr1; exact rx_fiZ dX9_readDebt_132 (Or.inl rfl) rfl rfl)
                · skip
                  have f110 := Int32.not_lt.mp c110
                  rw [if_neg (Int32.not_lt.mpr (Int32.not_lt.mp c110))] at hr1
                  subst hr1
                  refine rx_aload_n (i := 2) dX9_readDebt_113 rfl rfl ?_
                  refine rx_iload_n (i := 3) dX9_readDebt_114 rfl rfl ?_
                  refine rx_iload (i := 4) dX9_readDebt_115 rfl ?_
                  refine rx_iload (i := 5) dX9_readDebt_117 rfl ?_
                  refine rx_iload (i := 6) dX9_readDebt_119 rfl ?_
                  refine rx_cvI (ci := 8) mo_X8_addDebt lk_X9_76 (c_X8_addDebt ht (by rw [pl_o (by decide)]; exact w.2.2.1) h10) (by decide) rfl rfl (Nat.le_of_ble_eq_true rfl) kl_28 rfl dX9_readDebt_121 ?_
                  refine rx_if_eq (tgt := 131) dX9_readDebt_124 (by decide) (fun c124 => ?_) (fun c124 => ?_)
                  · skip
                    exact absurd c124 (by decide)
                  · skip
                    refine rx_iconst (1) dX9_readDebt_127 rfl ?_
                    refine rx_goto (tgt := 132) dX9_readDebt_128 (by decide) ?_
                    first | exact rx_fiZ dX9_readDebt_132 (Or.inr rfl) rfl rfl | exact rx_fiZ dX9_readDebt_132 (Or.inl rfl) rfl rfl | (subst hr1; exact rx_fiZ dX9_readDebt_132 (Or.inl rfl) rfl rfl)
              · skip
                rw [if_neg k4] at hr1
                rw [if_neg k4, if_neg k4]
                refine rx_if_ne (tgt := 100) dX9_readDebt_95 (by decide) (fun c95 => absurd rfl c95) (fun c95 => ?_)
                refine rx_iconst (0) dX9_readDebt_98 rfl ?_
                try subst hr1
                exact rx_fiZ dX9_readDebt_99 (Or.inl rfl) rfl rfl
          · skip
            rw [if_pos c70] at hr1
            subst hr1
            refine rx_aload_n (i := 0) dX9_readDebt_73 rfl rfl ?_
            refine rx_dup dX9_readDebt_74 rfl ?_
            refine rx_getI (k := 1) fo_X9_27 kl_6 (by decide) ti_9_1 dX9_readDebt_75 ?_
            refine rx_top (nI p5) pl_p ?_
            refine rx_iconst (1) dX9_readDebt_78 rfl ?_
            refine rx_isub dX9_readDebt_79 ?_
            refine rx_top (nI (p5 - 1)) (nI_m 1 _ rfl (by omega)) ?_
            refine rx_putI (k := 1) fo_X9_27 fn_9_1 kl_6 (by decide) ty_9_1 dX9_readDebt_80 ?_
            rw [pl_pl]
            refine rx_iload (i := 5) dX9_readDebt_83 rfl ?_
            refine rx_if_le (tgt := 98) dX9_readDebt_85 (by decide) (fun c85 => ?_) (fun c85 => absurd (show a ≤ 0 by rw [show a = 0 from c70]; decide) c85)
            refine rx_iconst (0) dX9_readDebt_98 rfl ?_
            try subst hr1
            exact rx_fiZ dX9_readDebt_99 (Or.inl rfl) rfl rfl
        · skip
          rw [if_neg k3] at hr1
          rw [if_neg k3, if_neg k3]
          refine rx_if_ne (tgt := 60) dX9_readDebt_55 (by decide) (fun c55 => absurd rfl c55) (fun c55 => ?_)
          refine rx_iconst (0) dX9_readDebt_58 rfl ?_
          try subst hr1
          exact rx_fiZ dX9_readDebt_59 (Or.inl rfl) rfl rfl
    · skip
      rw [if_neg k1] at hr1
      rw [if_neg k1, if_neg k1]
      refine rx_if_ne (tgt := 34) dX9_readDebt_29 (by decide) (fun c29 => absurd rfl c29) (fun c29 => ?_)
      refine rx_iconst (0) dX9_readDebt_32 rfl ?_
      try subst hr1
      exact rx_fiZ dX9_readDebt_33 (Or.inl rfl) rfl rfl
set_option maxRecDepth 100000 in
set_option maxHeartbeats 4000000 in
theorem c_X9_readLine {M : Mem} {L lim p : Nat} (r : RB M L lim) (hp : p ≤ lim) {n m : Nat} (w : TW M 28 n m) : Fun yX9_readLine cX9_readLine 3 (some .boolean) 4 [.ref 6, .ref 2, .ref 28] (pl M p) (some (.int (zI (rlS (M.1 3) lim n m p).1))) (if (rlS (M.1 3) lim n m p).1 = true then lnM (pl M (rlS (M.1 3) lim n m p).2.1) n m (rlS (M.1 3) lim n m p).2.2 else pl M (rlS (M.1 3) lim n m p).2.1) := by
  refine Fun.of (own := RX9) ([some (.ref 6), some (.ref 2), some (.ref 28)]) rfl (by decide +kernel) (Nat.le_of_ble_eq_true rfl) rfl ?_
  have ht : isTown 28 := by unfold isTown; omega
  obtain ⟨hL, hL80, hlim, hlL, hl76, hS⟩ := id r
  have ⟨hn, hn8, hm, hm10, hd⟩ := w
  obtain ⟨r0, hr0⟩ : ∃ r0, rlS (M.1 3) lim n m p = r0 := ⟨_, rfl⟩
  rw [hr0]
  have hr1 := hr0
  unfold rlS at hr1
  refine rx_aload_n (i := 0) dX9_readLine_0 rfl rfl ?_
  refine rx_aload_n (i := 1) dX9_readLine_1 rfl rfl ?_
  refine rx_cvI (ci := 9) mo_X9_peek lk_X9_50 (c_X9_peek r hp) (by decide) rfl rfl (Nat.le_of_ble_eq_true rfl) kl_6 rfl dX9_readLine_2 ?_
  refine rx_csI mo_X9_isDigit lk_X9_54 c_X9_isDigit (by decide) rfl rfl (Nat.le_of_ble_eq_true rfl) dX9_readLine_5 ?_
  refine rx_if_eq (tgt := 35) dX9_readLine_8 (by decide) (fun c8 => ?_) (fun c8 => ?_)
  · skip
    have e8 := zI_0.mp c8
    rw [if_neg (by rw [e8]; decide)] at hr1
    refine rx_aload_n (i := 0) dX9_readLine_35 rfl rfl ?_
    refine rx_aload_n (i := 1) dX9_readLine_36 rfl rfl ?_
    refine rx_cvI (ci := 9) mo_X9_peek lk_X9_50 (c_X9_peek r hp) (by decide) rfl rfl (Nat.le_of_ble_eq_true rfl) kl_6 rfl dX9_readLine_37 ?_
    refine rx_bipush (100) dX9_readLine_40 rfl ?_
    refine rx_icmp_ne (tgt := 67) dX9_readLine_42 (by decide) (fun c42 => ?_) (fun c42 => ?_)
    · skip
      rw [if_neg c42] at hr1
      subst hr1
      refine rx_iconst (0) dX9_readLine_67 rfl ?_
      first | exact rx_fiZ dX9_readLine_68 (Or.inl rfl) rfl rfl | exact rx_fiZ dX9_readLine_68 (Or.inr rfl) rfl rfl
    · skip
      rw [if_pos c42] at hr1
      refine rx_aload_n (i := 2) dX9_readLine_45 rfl rfl ?_
      refine rx_getI (k := 16) fo_X9_35 kl_28 (by decide) ti_8_16 dX9_readLine_46 ?_
      refine rx_top (nI m) (by rw [pl_o (by decide)]; exact hm) ?_
      refine rx_bipush (10) dX9_readLine_49 rfl ?_
      refine rx_icmp_ge (tgt := 67) dX9_readLine_51 (by decide) (fun c51 => ?_) (fun c51 => ?_)
      · skip
        have f51 := Int32.not_lt.mpr c51
        have e51 : ¬ m < 10 := Nat.not_lt.mpr ((nI_leI (a := 10) (by omega) (by omega)).mp c51)
        rw [if_neg e51] at hr1
        subst hr1
        refine rx_iconst (0) dX9_readLine_67 rfl ?_
        first | exact rx_fiZ dX9_readLine_68 (Or.inl rfl) rfl rfl | exact rx_fiZ dX9_readLine_68 (Or.inr rfl) rfl rfl
      · skip
        have f51 := Int32.not_le.mp c51
        have e51 : m < 10 := Nat.not_le.mp fun q => c51 (nI_le (a := 10) q (by omega))
        rw [if_pos e51] at hr1
        subst hr1
        refine rx_aload_n (i := 0) dX9_readLine_54 rfl rfl ?_
        refine rx_aload_n (i := 1) dX9_readLine_55 rfl rfl ?_
        refine rx_aload_n (i := 2) dX9_readLine_56 rfl rfl ?_
        refine rx_cvI (ci := 9) mo_X9_readDebt lk_X9_61 (c_X9_readDebt r hp w e51 (kc_lt c42 (by decide))) (by decide) rfl rfl (Nat.le_of_ble_eq_true rfl) kl_6 rfl dX9_readLine_57 ?_
        refine rx_if_eq (tgt := 67) dX9_readLine_60 (by decide) (fun c60 => ?_) (fun c60 => ?_)
        · skip
          have e60 := zI_0.mp c60
          simp only [e60]
          refine rx_iconst (0) dX9_readLine_67 rfl ?_
          first | exact rx_fiZ dX9_readLine_68 (Or.inl rfl) rfl rfl | exact rx_fiZ dX9_readLine_68 (Or.inr rfl) rfl rfl
        · skip
          have e60 : (rdS (M.1 3) lim n p).1 = true := Decidable.byContradiction fun q => c60 (zI_0.mpr (by simpa using q))
          simp only [e60, if_true]
          refine rx_iconst (1) dX9_readLine_63 rfl ?_
          refine rx_goto (tgt := 68) dX9_readLine_64 (by decide) ?_
          first | exact rx_fiZ dX9_readLine_68 (Or.inl rfl) rfl rfl | exact rx_fiZ dX9_readLine_68 (Or.inr rfl) rfl rfl
  · skip
    have e8 : dig (kc (M.1 3) lim p) = true := Decidable.byContradiction fun q => c8 (zI_0.mpr (by simpa using q))
    rw [if_pos e8] at hr1
    refine rx_aload_n (i := 2) dX9_readLine_11 rfl rfl ?_
    refine rx_getI (k := 15) fo_X9_30 kl_28 (by decide) ti_8_15 dX9_readLine_12 ?_
    refine rx_top (nI n) (by rw [pl_o (by decide)]; exact hn) ?_
    refine rx_bipush (8) dX9_readLine_15 rfl ?_
    refine rx_icmp_ge (tgt := 33) dX9_readLine_17 (by decide) (fun c17 => ?_) (fun c17 => ?_)
    · skip
      have f17 := Int32.not_lt.mpr c17
      have e17 : ¬ n < 8 := Nat.not_lt.mpr ((nI_leI (a := 8) (by omega) (by omega)).mp c17)
      rw [if_neg e17] at hr1
      subst hr1
      refine rx_iconst (0) dX9_readLine_33 rfl ?_
      first | exact rx_fiZ dX9_readLine_34 (Or.inl rfl) rfl rfl | exact rx_fiZ dX9_readLine_34 (Or.inr rfl) rfl rfl
    · skip
      have f17 := Int32.not_le.mp c17
      have e17 : n < 8 := Nat.not_le.mp fun q => c17 (nI_le (a := 8) q (by omega))
      rw [if_pos e17] at hr1
      subst hr1
      refine rx_aload_n (i := 0) dX9_readLine_20 rfl rfl ?_
      refine rx_aload_n (i := 1) dX9_readLine_21 rfl rfl ?_
      refine rx_aload_n (i := 2) dX9_readLine_22 rfl rfl ?_
      refine rx_cvI (ci := 9) mo_X9_readPerson lk_X9_58 (c_X9_readPerson r hp w e17) (by decide) rfl rfl (Nat.le_of_ble_eq_true rfl) kl_6 rfl dX9_readLine_23 ?_
      refine rx_if_eq (tgt := 33) dX9_readLine_26 (by decide) (fun c26 => ?_) (fun c26 => ?_)
      · skip
        have e26 := zI_0.mp c26
        simp only [e26]
        refine rx_iconst (0) dX9_readLine_33 rfl ?_
        first | exact rx_fiZ dX9_readLine_34 (Or.inl rfl) rfl rfl | exact rx_fiZ dX9_readLine_34 (Or.inr rfl) rfl rfl
      · skip
        have e26 : (rpS (M.1 3) lim p).1 = true := Decidable.byContradiction fun q => c26 (zI_0.mpr (by simpa using q))
        simp only [e26, if_true]
        refine rx_iconst (1) dX9_readLine_29 rfl ?_
        refine rx_goto (tgt := 34) dX9_readLine_30 (by decide) ?_
        first | exact rx_fiZ dX9_readLine_34 (Or.inl rfl) rfl rfl | exact rx_fiZ dX9_readLine_34 (Or.inr rfl) rfl rfl
