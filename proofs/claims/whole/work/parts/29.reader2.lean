
theorem RB.keep {M M' : Mem} {L lim : Nat} (r : RB M L lim) (h2 : M'.1 2 1 = M.1 2 1) (h6 : M'.1 6 0 = M.1 6 0) (h3 : M'.1 3 = M.1 3) : RB M' L lim := by unfold RB; rw [h2, h6, h3]; exact r
/-- one of PEOPLE, at p: (well, place, COIN, ASKS, KIND) -/
def rpS (S : Nat → Int32) (lim p : Nat) : Bool × Nat × Int32 × Int32 × Int32 :=
  let a := numS S lim 3 (-1) p
  if kc S lim a.2 = 44 then
    let b := numS S lim 2 (-1) (a.2 + 1)
    if b.1 < 0 then (false, b.2, 0, 0, 0)
    else if kc S lim b.2 = 33 then (true, b.2 + 1, a.1, b.1, 1) else (true, b.2, a.1, b.1, 0)
  else (false, a.2, 0, 0, 0)
/-- a DEBT, at p: (well, place, who owes, who gets, SUM, DUE) -/
def rdS (S : Nat → Int32) (lim n p : Nat) : Bool × Nat × Int32 × Int32 × Int32 × Int32 :=
  let o := perS S lim n (-1) (p + 1)
  if o = -1 then (false, p + 1, 0, 0, 0, 0) else
  if kc S lim (p + 2) = 62 then
    let g := perS S lim n o (p + 3)
    if g = -1 then (false, p + 3, 0, 0, 0, 0) else
    if kc S lim (p + 4) = 42 then
      let a := numS S lim 2 (-1) (p + 5)
      if a.1 = 0 then (false, a.2 - 1, 0, 0, 0, 0) else
      if a.1 ≤ 0 then (false, a.2, 0, 0, 0, 0) else
      if kc S lim a.2 = 64 then
        let b := numS S lim 2 (-1) (a.2 + 1)
        if b.1 < 0 then (false, b.2, 0, 0, 0, 0) else (true, b.2, o, g, a.1, b.1)
      else (false, a.2, 0, 0, 0, 0)
    else (false, p + 4, 0, 0, 0, 0)
  else (false, p + 2, 0, 0, 0, 0)
/-- a LINE, at p, with n people and m debts: (well, place, a debt?, four numbers) -/
def rlS (S : Nat → Int32) (lim n m p : Nat) : Bool × Nat × Bool × Int32 × Int32 × Int32 × Int32 :=
  if dig (kc S lim p) = true then
    if n < 8 then ((rpS S lim p).1, (rpS S lim p).2.1, false, (rpS S lim p).2.2.1, (rpS S lim p).2.2.2.1, (rpS S lim p).2.2.2.2, 0) else (false, p, false, 0, 0, 0, 0)
  else if kc S lim p = 100 then
    if m < 10 then ((rdS S lim n p).1, (rdS S lim n p).2.1, true, (rdS S lim n p).2.2) else (false, p, true, 0, 0, 0, 0)
  else (false, p, false, 0, 0, 0, 0)
/-- what a LINE tells comes -/
def lnM (M : Mem) (n m : Nat) (x : Bool × Int32 × Int32 × Int32 × Int32) : Mem := if x.1 = true then adM M 28 m x.2.1 x.2.2.1 x.2.2.2.1 x.2.2.2.2 else apM M 28 n x.2.1 x.2.2.1 x.2.2.2.1

set_option maxRecDepth 100000 in
set_option maxHeartbeats 4000000 in
theorem c_X9_readPerson {M : Mem} {L lim p : Nat} (r : RB M L lim) (hp : p ≤ lim) {n m : Nat} (w : TW M 28 n m) (h8 : n < 8) : Fun yX9_readPerson cX9_readPerson 5 (some .boolean) 3 [.ref 6, .ref 2, .ref 28] (pl M p) (some (.int (zI (rpS (M.1 3) lim p).1))) (if (rpS (M.1 3) lim p).1 = true then apM (pl M (rpS (M.1 3) lim p).2.1) 28 n (rpS (M.1 3) lim p).2.2.1 (rpS (M.1 3) lim p).2.2.2.1 (rpS (M.1 3) lim p).2.2.2.2 else pl M (rpS (M.1 3) lim p).2.1) := by
  refine Fun.of (own := RX9) ([some (.ref 6), some (.ref 2), some (.ref 28), none, none]) rfl (by decide +kernel) (Nat.le_of_ble_eq_true rfl) rfl ?_
  have ht : isTown 28 := by unfold isTown; omega
  obtain ⟨hL, hL80, hlim, hlL, hl76, hS⟩ := id r
  refine rx_aload_n (i := 0) dX9_readPerson_0 rfl rfl ?_
  refine rx_aload_n (i := 1) dX9_readPerson_1 rfl rfl ?_
  refine rx_iconst (3) dX9_readPerson_2 rfl ?_
  refine rx_cvI (ci := 9) mo_X9_number lk_X9_64 (c_X9_number (d := 3) r hp (by decide)) (by decide) rfl rfl (Nat.le_of_ble_eq_true rfl) kl_6 rfl dX9_readPerson_3 ?_
  obtain ⟨v, p1, e1⟩ : ∃ v p1, numS (M.1 3) lim 3 (-1) p = (v, p1) := ⟨_, _, rfl⟩
  have q1 : p1 ≤ lim := by have := (numS_le (S := M.1 3) (d := 3) (v := -1) hp).2; rw [e1] at this; exact this
  rw [e1]
  refine rx_istore_n (i := 3) dX9_readPerson_6 rfl (by decide) rfl rfl ?_
  refine rx_aload_n (i := 0) dX9_readPerson_7 rfl rfl ?_
  refine rx_aload_n (i := 1) dX9_readPerson_8 rfl rfl ?_
  refine rx_bipush (44) dX9_readPerson_9 rfl ?_
  refine rx_cvI (ci := 9) mo_X9_takes lk_X9_42 ((c_X9_takes r q1 (c := 44) (by decide))) (by decide) rfl rfl (Nat.le_of_ble_eq_true rfl) kl_6 rfl dX9_readPerson_11 ?_
  obtain ⟨r0, hr0⟩ : ∃ r0, rpS (M.1 3) lim p = r0 := ⟨_, rfl⟩
  rw [hr0]
  have hr1 := hr0
  unfold rpS at hr1
  simp only [e1] at hr1
  by_cases k1 : kc (M.1 3) lim p1 = 44
  · rw [if_pos k1] at hr1
    rw [if_pos k1, if_pos k1]
    refine rx_if_ne (tgt := 19) dX9_readPerson_14 (by decide) (fun c14 => ?_) (fun c14 => ?_)
    · skip
      have q2 : p1 + 1 ≤ lim := kc_lt k1 (by decide)
      refine rx_aload_n (i := 0) dX9_readPerson_19 rfl rfl ?_
      refine rx_aload_n (i := 1) dX9_readPerson_20 rfl rfl ?_
      refine rx_iconst (2) dX9_readPerson_21 rfl ?_
      refine rx_cvI (ci := 9) mo_X9_number lk_X9_64 (c_X9_number (d := 2) r q2 (by decide)) (by decide) rfl rfl (Nat.le_of_ble_eq_true rfl) kl_6 rfl dX9_readPerson_22 ?_
      obtain ⟨a, p2, e2⟩ : ∃ a p2, numS (M.1 3) lim 2 (-1) (p1 + 1) = (a, p2) := ⟨_, _, rfl⟩
      have q3 : p2 ≤ lim := by have := (numS_le (S := M.1 3) (d := 2) (v := -1) q2).2; rw [e2] at this; exact this
      rw [e2]
      simp only [e2] at hr1
      refine rx_istore (i := 4) dX9_readPerson_25 (by decide) rfl rfl ?_
      refine rx_iload (i := 4) dX9_readPerson_27 rfl ?_
      refine rx_if_ge (tgt := 34) dX9_readPerson_29 (by decide) (fun c29 => ?_) (fun c29 => ?_)
      · skip
        have f29 := Int32.not_lt.mpr c29
        have g29 := c29
        refine rx_aload_n (i := 2) dX9_readPerson_34 rfl rfl ?_
        refine rx_iload_n (i := 3) dX9_readPerson_35 rfl rfl ?_
        refine rx_iload (i := 4) dX9_readPerson_36 rfl ?_
        refine rx_aload_n (i := 0) dX9_readPerson_38 rfl rfl ?_
        refine rx_aload_n (i := 1) dX9_readPerson_39 rfl rfl ?_
        refine rx_bipush (33) dX9_readPerson_40 rfl ?_
        refine rx_cvI (ci := 9) mo_X9_takes lk_X9_42 (c_X9_takes r q3 (c := 33) (by decide)) (by decide) rfl rfl (Nat.le_of_ble_eq_true rfl) kl_6 rfl dX9_readPerson_42 ?_
        have g29 := Int32.not_lt.mpr c29
        rw [if_neg g29] at hr1
        by_cases k2 : kc (M.1 3) lim p2 = 33
        · rw [if_pos k2] at hr1
          subst hr1
          rw [if_pos k2, if_pos k2]
          refine rx_cvI (ci := 8) mo_X8_addPerson lk_X9_68 (c_X8_addPerson ht (by rw [pl_o (by decide)]; exact w.1) h8) (by decide) rfl rfl (Nat.le_of_ble_eq_true rfl) kl_28 rfl dX9_readPerson_45 ?_
          exact rx_fiZ dX9_readPerson_48 (Or.inr rfl) rfl rfl
        · rw [if_neg k2] at hr1
          subst hr1
          rw [if_neg k2, if_neg k2]
          refine rx_cvI (ci := 8) mo_X8_addPerson lk_X9_68 (c_X8_addPerson ht (by rw [pl_o (by decide)]; exact w.1) h8) (by decide) rfl rfl (Nat.le_of_ble_eq_true rfl) kl_28 rfl dX9_readPerson_45 ?_
          exact rx_fiZ dX9_readPerson_48 (Or.inr rfl) rfl rfl
      · skip
        have f29 := Int32.not_le.mp c29
        rw [if_pos f29] at hr1
        subst hr1
        refine rx_iconst (0) dX9_readPerson_32 rfl ?_
        exact rx_fiZ dX9_readPerson_33 (by first | exact Or.inl rfl | exact Or.inr rfl) rfl rfl
    · skip
      exact absurd c14 (by decide)
  · rw [if_neg k1] at hr1
    rw [if_neg k1, if_neg k1]
    refine rx_if_ne (tgt := 19) dX9_readPerson_14 (by decide) (fun c14 => ?_) (fun c14 => ?_)
    · skip
      exact absurd rfl c14
    · skip
      subst hr1
      refine rx_iconst (0) dX9_readPerson_17 rfl ?_
      exact rx_fiZ dX9_readPerson_18 (by first | exact Or.inl rfl | exact Or.inr rfl) rfl rfl
