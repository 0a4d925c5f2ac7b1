
theorem rpS_lt {S : Nat → Int32} {lim p : Nat} (hp : p ≤ lim) (h : (rpS S lim p).1 = true) : p < (rpS S lim p).2.1 ∧ (rpS S lim p).2.1 ≤ lim := by
  obtain ⟨r0, hr0⟩ : ∃ r0, rpS S lim p = r0 := ⟨_, rfl⟩
  rw [hr0] at h ⊢
  unfold rpS at hr0
  have h1 := numS_le (S := S) (d := 3) (v := -1) hp
  simp only at hr0
  split at hr0
  · next c =>
    have h2 := kc_lt c (by decide)
    have h3 := numS_le (S := S) (d := 2) (v := -1) (show (numS S lim 3 (-1) p).2 + 1 ≤ lim by omega)
    split at hr0
    · subst hr0; cases h
    · split at hr0
      · next c2 => have h4 := kc_lt c2 (by decide); subst hr0; simp only; omega
      · subst hr0; simp only; omega
  · subst hr0; cases h
theorem rdS_lt {S : Nat → Int32} {lim n p : Nat} (hp : p < lim) (h : (rdS S lim n p).1 = true) : p < (rdS S lim n p).2.1 ∧ (rdS S lim n p).2.1 ≤ lim := by
  obtain ⟨r0, hr0⟩ : ∃ r0, rdS S lim n p = r0 := ⟨_, rfl⟩
  rw [hr0] at h ⊢
  unfold rdS at hr0
  simp only at hr0
  split at hr0
  · subst hr0; cases h
  · split at hr0
    · split at hr0
      · subst hr0; cases h
      · split at hr0
        · next c =>
          have h0 := kc_lt c (by decide)
          have h1 := numS_le (S := S) (d := 2) (v := -1) (show p + 5 ≤ lim by omega)
          split at hr0
          · subst hr0; cases h
          · split at hr0
            · subst hr0; cases h
            · split at hr0
              · next c2 =>
                have h2 := kc_lt c2 (by decide)
                have h3 := numS_le (S := S) (d := 2) (v := -1) (show (numS S lim 2 (-1) (p + 5)).2 + 1 ≤ lim by omega)
                split at hr0
                · subst hr0; cases h
                · subst hr0; simp only; omega
              · subst hr0; cases h
        · subst hr0; cases h
    · subst hr0; cases h
theorem rlS_lt {S : Nat → Int32} {lim n m p : Nat} (hp : p ≤ lim) (h : (rlS S lim n m p).1 = true) : p < (rlS S lim n m p).2.1 ∧ (rlS S lim n m p).2.1 ≤ lim ∧ (if (rlS S lim n m p).2.2.1 = true then m < 10 else n < 8) := by
  obtain ⟨r0, hr0⟩ : ∃ r0, rlS S lim n m p = r0 := ⟨_, rfl⟩
  rw [hr0] at h ⊢
  unfold rlS at hr0
  split at hr0
  · split at hr0
    · next c => subst hr0; have := rpS_lt hp h; exact ⟨this.1, this.2, c⟩
    · subst hr0; cases h
  · split at hr0
    · next c =>
      split at hr0
      · next c2 => subst hr0; have := rdS_lt (kc_lt c (by decide)) h; exact ⟨this.1, this.2, c2⟩
      · subst hr0; cases h
    · subst hr0; cases h
abbrev It : Type := Bool × Int32 × Int32 × Int32 × Int32
/-- the LINES of a text from p on: (well, place, the LINES) -/
def rnS (S : Nat → Int32) (lim L : Nat) : Nat → Nat → Nat → Nat → List It → Bool × Nat × List It
  | 0, _, _, p, its => (false, p, its)
  | f + 1, n, m, p, its =>
    let r := rlS S lim n m p
    if r.1 = true then
      if kc S lim r.2.1 = 59 then rnS S lim L f (if r.2.2.1 = true then n else n + 1) (if r.2.2.1 = true then m + 1 else m) (r.2.1 + 1) (its ++ [r.2.2])
      else (decide (r.2.1 = L), r.2.1, its ++ [r.2.2])
    else (false, r.2.1, its)
/-- a memory with LINES told -/
def itM : List It → Mem × Nat × Nat → Mem × Nat × Nat
  | [], s => s
  | x :: l, s => itM l (lnM s.1 s.2.1 s.2.2 x, (if x.1 = true then s.2.1 else s.2.1 + 1), (if x.1 = true then s.2.2 + 1 else s.2.2))
theorem itM_app : ∀ (l : List It) (x : It) (s : Mem × Nat × Nat), itM (l ++ [x]) s = (lnM (itM l s).1 (itM l s).2.1 (itM l s).2.2 x, (if x.1 = true then (itM l s).2.1 else (itM l s).2.1 + 1), (if x.1 = true then (itM l s).2.2 + 1 else (itM l s).2.2))
  | [], _, _ => rfl
  | y :: l, x, s => itM_app l x _
theorem sI_comm {M : Mem} {a j b k : Nat} {x y : Int32} (h : a ≠ b) : setI (setI M a j x) b k y = setI (setI M b k y) a j x := by
  refine Prod.ext ?_ rfl
  funext c i
  simp only [setI]
  by_cases h1 : c = b ∧ i = k
  · rw [if_pos h1, if_neg (fun q => h (q.1.symm.trans h1.1)), if_pos h1]
  · rw [if_neg h1]
    by_cases h2 : c = a ∧ i = j
    · rw [if_pos h2, if_pos h2]
    · rw [if_neg h2, if_neg h2, if_neg h1]
theorem ln_pl {M : Mem} {n m p : Nat} {x : It} : lnM (pl M p) n m x = pl (lnM M n m x) p := by
  unfold lnM pl
  split
  · unfold adM
    rw [sI_comm (a := 6) (b := 28 + 7) (by omega), sI_comm (a := 6) (b := 28 + 8) (by omega), sI_comm (a := 6) (b := 28 + 9) (by omega), sI_comm (a := 6) (b := 28 + 10) (by omega), sI_comm (a := 6) (b := 28 + 11) (by omega), sI_comm (a := 6) (b := 28 + 12) (by omega), sI_comm (a := 6) (b := 28) (by omega)]
  · unfold apM
    rw [sI_comm (a := 6) (b := 28 + 1) (by omega), sI_comm (a := 6) (b := 28 + 2) (by omega), sI_comm (a := 6) (b := 28 + 3) (by omega), sI_comm (a := 6) (b := 28 + 4) (by omega), sI_comm (a := 6) (b := 28 + 5) (by omega), sI_comm (a := 6) (b := 28) (by omega)]
theorem pl_of_pl {M : Mem} {p q : Nat} : pl (pl M p) q = pl M q := sI_sI
theorem ln_o {M : Mem} {n m a : Nat} {x : It} (h : a < 28 ∨ 40 < a) : (lnM M n m x).1 a = M.1 a := by
  funext j
  unfold lnM
  split
  · unfold adM; rw [sI_na (by omega), sI_na (by omega), sI_na (by omega), sI_na (by omega), sI_na (by omega), sI_na (by omega), sI_na (by omega)]
  · unfold apM; rw [sI_na (by omega), sI_na (by omega), sI_na (by omega), sI_na (by omega), sI_na (by omega), sI_na (by omega)]
/-- a LINE that tells well of people and debts that are -/
def goodIt (n : Nat) (x : It) : Prop := x.1 = true → ∃ o g : Nat, o < n ∧ g < n ∧ o ≠ g ∧ x.2.1 = nI o ∧ x.2.2.1 = nI g
theorem rdS_good {S : Nat → Int32} {lim n p : Nat} (hn : n ≤ 8) (h : (rdS S lim n p).1 = true) : ∃ o g : Nat, o < n ∧ g < n ∧ o ≠ g ∧ (rdS S lim n p).2.2.1 = nI o ∧ (rdS S lim n p).2.2.2.1 = nI g := by
  obtain ⟨r0, hr0⟩ : ∃ r0, rdS S lim n p = r0 := ⟨_, rfl⟩
  rw [hr0] at h ⊢
  unfold rdS at hr0
  simp only at hr0
  split at hr0
  · subst hr0; cases h
  · next k0 =>
    split at hr0
    · split at hr0
      · subst hr0; cases h
      · next k2 =>
        split at hr0
        · split at hr0
          · subst hr0; cases h
          · split at hr0
            · subst hr0; cases h
            · split at hr0
              · split at hr0
                · subst hr0; cases h
                · subst hr0
                  obtain ⟨-, a1, a2, -⟩ := perS_in k0
                  obtain ⟨-, b1, b2, b3⟩ := perS_in k2
                  obtain ⟨o, ho, eo⟩ := (inN (by omega)).mp ⟨a1, a2⟩
                  obtain ⟨g, hg, eg⟩ := (inN (by omega)).mp ⟨b1, b2⟩
                  refine ⟨o, g, ho, hg, fun q => b3 ?_, eo, eg⟩
                  rw [eg, eo, q]
              · subst hr0; cases h
        · subst hr0; cases h
    · subst hr0; cases h
theorem rlS_good {S : Nat → Int32} {lim n m p : Nat} (hn : n ≤ 8) (h : (rlS S lim n m p).1 = true) : goodIt n (rlS S lim n m p).2.2 := by
  intro hx
  obtain ⟨r0, hr0⟩ : ∃ r0, rlS S lim n m p = r0 := ⟨_, rfl⟩
  rw [hr0] at h hx ⊢
  unfold rlS at hr0
  split at hr0
  · split at hr0
    · subst hr0; cases hx
    · subst hr0; cases hx
  · split at hr0
    · split at hr0
      · subst hr0; exact rdS_good hn h
      · subst hr0; cases h
    · subst hr0; cases hx
theorem TW_ln {M : Mem} {n m : Nat} {x : It} (w : TW M 28 n m) (hx : goodIt n x) (hlt : if x.1 = true then m < 10 else n < 8) : TW (lnM M n m x) 28 (if x.1 = true then n else n + 1) (if x.1 = true then m + 1 else m) := by
  obtain ⟨hn, hn8, hm, hm10, hd⟩ := w
  unfold lnM
  by_cases c : x.1 = true
  · rw [if_pos c, if_pos c, if_pos c]
    rw [if_pos c] at hlt
    obtain ⟨o, g, ho, hg, hog, eo, eg⟩ := hx c
    unfold adM
    refine ⟨by simp [setI, hn], hn8, by simp [setI], by omega, fun k hk => ?_⟩
    by_cases hkm : k = m
    · subst hkm; exact ⟨o, g, ho, hg, hog, by simp [setI, eo], by simp [setI, eg]⟩
    · obtain ⟨o', g', a1, a2, a3, a4, a5⟩ := hd k (by omega)
      exact ⟨o', g', a1, a2, a3, by simpa [setI, hkm] using a4, by simpa [setI, hkm] using a5⟩
  · rw [if_neg c, if_neg c, if_neg c]
    rw [if_neg c] at hlt
    unfold apM
    refine ⟨by simp [setI], by omega, by simp [setI, hm], hm10, fun k hk => ?_⟩
    obtain ⟨o', g', a1, a2, a3, a4, a5⟩ := hd k hk
    exact ⟨o', g', by omega, by omega, a3, by simpa [setI] using a4, by simpa [setI] using a5⟩

set_option maxRecDepth 100000 in
set_option maxHeartbeats 4000000 in
theorem l_X9_read {M : Mem} {L lim n m : Nat} {res : Bool × Nat × List It} (r : RB M L lim) : ∀ (N : Nat) (n1 : Nat) (m1 : Nat) (p : Nat) (f : Nat) (its : List It), (p ≤ lim) → (lim < p + f) → (itM its (M, n, m) = ((itM its (M, n, m)).1, n1, m1)) → (TW (itM its (M, n, m)).1 28 n1 m1) → (∀ a, a < 28 ∨ 40 < a → (itM its (M, n, m)).1.1 a = M.1 a) → (its.length ≤ p) → (rnS (M.1 3) lim L f n1 m1 p its = res) → lim + 1 - p < N → Reach cX9_read RX9 7 5 (FQ cX9_read (some .int) (some (.int (if res.1 = true then nI res.2.2.length else -1 - nI res.2.1))) (if res.1 = true then pl (itM res.2.2 (M, n, m)).1 res.2.1 else setI (setI (pl (itM res.2.2 (M, n, m)).1 res.2.1) 28 15 (nI n)) 28 16 (nI m))) 44 [some (.ref 6), some (.ref 2), some (.ref 28), some (.int (nI n)), some (.int (nI m)), some (.int (nI its.length)), some (.int 1)] [] (pl (itM its (M, n, m)).1 p) := by
  intro N
  induction N with
  | zero => intro n1 m1 p f its hp hf hi wt ho hln he hm; exact absurd ‹_ < 0› (Nat.not_lt_zero _)
  | succ N ih =>
    intro n1 m1 p f its hp hf hi wt ho hln he hm
    obtain ⟨hL, hL80, hlim, hlL, hl76, hS⟩ := id r
    have rI : RB (itM its (M, n, m)).1 L lim := r.keep (by rw [ho 2 (by omega)]) (by rw [ho 6 (by omega)]) (ho 3 (by omega))
    have e3 : (itM its (M, n, m)).1.1 3 = M.1 3 := ho 3 (by omega)
    obtain ⟨f, rfl⟩ : ∃ f', f = f' + 1 := ⟨f - 1, by omega⟩
    simp only [rnS] at he
    refine rx_iload (i := 6) dX9_read_44 rfl ?_
    refine rx_if_eq (tgt := 100) dX9_read_46 (by decide) (fun c46 => ?_) (fun c46 => ?_)
    · skip
      exact absurd c46 (by decide)
    · skip
      refine rx_iload (i := 5) dX9_read_49 rfl ?_
      refine rx_bipush (76) dX9_read_51 rfl ?_
      refine rx_icmp_gt (tgt := 100) dX9_read_53 (by decide) (fun c53 => ?_) (fun c53 => ?_)
      · skip
        have f53 := Int32.not_le.mpr c53
        exact absurd ((nI_ltI (a := 76) (by omega) (by omega)).mp c53) (by omega)
      · skip
        have f53 := Int32.not_lt.mp c53
        refine rx_aload_n (i := 0) dX9_read_56 rfl rfl ?_
        refine rx_aload_n (i := 1) dX9_read_57 rfl rfl ?_
        refine rx_aload_n (i := 2) dX9_read_58 rfl rfl ?_
        refine rx_cvI (ci := 9) mo_X9_readLine lk_X9_38 (c_X9_readLine rI hp wt) (by decide) rfl rfl (Nat.le_of_ble_eq_true rfl) kl_6 rfl dX9_read_59 ?_
        rw [e3]
        by_cases kr : (rlS (M.1 3) lim n1 m1 p).1 = true
        · skip
          simp only [kr, if_true]
          rw [if_pos kr] at he
          have hq := rlS_lt hp kr
          have hgood := rlS_good wt.2.1 kr
          have wt2 := TW_ln wt hgood hq.2.2
          rw [ln_pl]
          have rJ : RB (lnM (itM its (M, n, m)).1 n1 m1 (rlS (M.1 3) lim n1 m1 p).2.2) L lim := rI.keep (by rw [ln_o (by omega)]) (by rw [ln_o (by omega)]) (ln_o (by omega))
          have e3b : (lnM (itM its (M, n, m)).1 n1 m1 (rlS (M.1 3) lim n1 m1 p).2.2).1 3 = M.1 3 := (ln_o (by omega)).trans e3
          have hi2 : itM (its ++ [(rlS (M.1 3) lim n1 m1 p).2.2]) (M, n, m) = (lnM (itM its (M, n, m)).1 n1 m1 (rlS (M.1 3) lim n1 m1 p).2.2, (if (rlS (M.1 3) lim n1 m1 p).2.2.1 = true then n1 else n1 + 1), (if (rlS (M.1 3) lim n1 m1 p).2.2.1 = true then m1 + 1 else m1)) := by rw [itM_app, hi]
          refine rx_istore (i := 6) dX9_read_62 (by decide) rfl rfl ?_
          refine rx_iload (i := 6) dX9_read_64 rfl ?_
          refine rx_if_eq (tgt := 44) dX9_read_66 (by decide) (fun c66 => absurd c66 (by decide)) (fun c66 => ?_)
          first | refine rx_iincN (i := 5) dX9_read_69 rfl (by decide) rfl rfl ?_ | refine rx_iinc (i := 5) dX9_read_69 rfl rfl (by decide) rfl rfl ?_
          refine rx_aload_n (i := 0) dX9_read_72 rfl rfl ?_
          refine rx_aload_n (i := 1) dX9_read_73 rfl rfl ?_
          refine rx_bipush (59) dX9_read_74 rfl ?_
          refine rx_cvI (ci := 9) mo_X9_takes lk_X9_42 (c_X9_takes rJ hq.2.1 (c := 59) (by decide)) (by decide) rfl rfl (Nat.le_of_ble_eq_true rfl) kl_6 rfl dX9_read_76 ?_
          rw [e3b]
          by_cases kt : kc (M.1 3) lim (rlS (M.1 3) lim n1 m1 p).2.1 = 59
          · skip
            rw [if_pos kt, if_pos kt]
            rw [if_pos kt] at he
            refine rx_istore (i := 6) dX9_read_79 (by decide) rfl rfl ?_
            refine rx_iload (i := 6) dX9_read_81 rfl ?_
            refine rx_if_ne (tgt := 44) dX9_read_83 (by decide) (fun c83 => ?_) (fun c83 => absurd c83 (by decide))
            refine rx_loc [some (.ref 6), some (.ref 2), some (.ref 28), some (.int (nI n)), some (.int (nI m)), some (.int (nI (its ++ [(rlS (M.1 3) lim n1 m1 p).2.2]).length)), some (.int 1)] (by simp) ?_
            rw [show lnM (itM its (M, n, m)).1 n1 m1 (rlS (M.1 3) lim n1 m1 p).2.2 = (itM (its ++ [(rlS (M.1 3) lim n1 m1 p).2.2]) (M, n, m)).1 from by rw [hi2]]
            exact ih _ _ _ f (its ++ [(rlS (M.1 3) lim n1 m1 p).2.2]) (kc_lt kt (by decide)) (by omega) (by rw [hi2]) (by rw [hi2]; exact wt2) (fun a ha => by rw [hi2]; exact (ln_o ha).trans (ho a ha)) (by simp; omega) he (by omega)
          · skip
            rw [if_neg kt, if_neg kt]
            rw [if_neg kt] at he
            refine rx_istore (i := 6) dX9_read_79 (by decide) rfl rfl ?_
            refine rx_iload (i := 6) dX9_read_81 rfl ?_
            refine rx_if_ne (tgt := 44) dX9_read_83 (by decide) (fun c83 => absurd rfl c83) (fun c83 => ?_)
            refine rx_aload_n (i := 0) dX9_read_86 rfl rfl ?_
            refine rx_getI (k := 1) fo_X9_27 kl_6 (by decide) ti_9_1 dX9_read_87 ?_
            refine rx_top (nI (rlS (M.1 3) lim n1 m1 p).2.1) pl_p ?_
            refine rx_aload_n (i := 1) dX9_read_90 rfl rfl ?_
            refine rx_cvI (ci := 6) mo_X6_length lk_X9_9 c_X6_length (by decide) rfl rfl (Nat.le_of_ble_eq_true rfl) kl_2 rfl dX9_read_91 ?_
            refine rx_top (nI L) (by rw [pl_o (by decide), ln_o (by omega), ho 2 (by omega)]; exact r.1) ?_
            refine rx_icmp_ne (tgt := 44) dX9_read_94 (by decide) (fun c94 => ?_) (fun c94 => ?_)
            · skip
              have e94 : decide ((rlS (M.1 3) lim n1 m1 p).2.1 = L) = false := decide_eq_false fun q => c94 (by rw [q])
              rw [← he]
              simp only [e94, Bool.false_eq_true, if_false]
              rw [hi2]
              refine rx_iload (i := 6) dX9_read_44 rfl ?_
              skip
              refine rx_if_eq (tgt := 100) dX9_read_46 (by decide) (fun c46 => ?_) (fun c46 => absurd (by decide) c46)
              refine rx_aload_n (i := 2) dX9_read_100 rfl rfl ?_
              refine rx_iload_n (i := 3) dX9_read_101 rfl rfl ?_
              refine rx_putI (k := 15) fo_X9_30 fn_8_15 kl_28 (by decide) ty_8_15 dX9_read_102 ?_
              refine rx_aload_n (i := 2) dX9_read_105 rfl rfl ?_
              refine rx_iload (i := 4) dX9_read_106 rfl ?_
              refine rx_putI (k := 16) fo_X9_35 fn_8_16 kl_28 (by decide) ty_8_16 dX9_read_108 ?_
              refine rx_iconst (-1) dX9_read_111 rfl ?_
              refine rx_aload_n (i := 0) dX9_read_112 rfl rfl ?_
              refine rx_getI (k := 1) fo_X9_27 kl_6 (by decide) ti_9_1 dX9_read_113 ?_
              refine rx_top (nI (rlS (M.1 3) lim n1 m1 p).2.1) (by simp [setI, pl]) ?_
              refine rx_isub dX9_read_116 ?_
              exact rx_fiI dX9_read_117 rfl rfl
            · skip
              have e94 : decide ((rlS (M.1 3) lim n1 m1 p).2.1 = L) = true := decide_eq_true ((nI_eq (by omega) (by omega)).mp c94)
              refine rx_iload (i := 5) dX9_read_97 rfl ?_
              rw [← he]
              simp only [e94, if_true]
              rw [hi2]
              exact rx_fiI dX9_read_99 (by simp) rfl
        · skip
          have kr2 : (rlS (M.1 3) lim n1 m1 p).1 = false := by simpa using kr
          simp only [kr2]
          rw [if_neg kr] at he
          refine rx_istore (i := 6) dX9_read_62 (by decide) rfl rfl ?_
          refine rx_iload (i := 6) dX9_read_64 rfl ?_
          refine rx_if_eq (tgt := 44) dX9_read_66 (by decide) (fun c66 => ?_) (fun c66 => absurd (by decide) c66)
          rw [← he]
          simp only [Bool.false_eq_true, if_false]
          refine rx_iload (i := 6) dX9_read_44 rfl ?_
          skip
          refine rx_if_eq (tgt := 100) dX9_read_46 (by decide) (fun c46 => ?_) (fun c46 => absurd (by decide) c46)
          refine rx_aload_n (i := 2) dX9_read_100 rfl rfl ?_
          refine rx_iload_n (i := 3) dX9_read_101 rfl rfl ?_
          refine rx_putI (k := 15) fo_X9_30 fn_8_15 kl_28 (by decide) ty_8_15 dX9_read_102 ?_
          refine rx_aload_n (i := 2) dX9_read_105 rfl rfl ?_
          refine rx_iload (i := 4) dX9_read_106 rfl ?_
          refine rx_putI (k := 16) fo_X9_35 fn_8_16 kl_28 (by decide) ty_8_16 dX9_read_108 ?_
          refine rx_iconst (-1) dX9_read_111 rfl ?_
          refine rx_aload_n (i := 0) dX9_read_112 rfl rfl ?_
          refine rx_getI (k := 1) fo_X9_27 kl_6 (by decide) ti_9_1 dX9_read_113 ?_
          refine rx_top (nI (rlS (M.1 3) lim n1 m1 p).2.1) (by simp [setI, pl]) ?_
          refine rx_isub dX9_read_116 ?_
          exact rx_fiI dX9_read_117 rfl rfl
/-- a town told: what comes out -/
def tnR (M : Mem) (L n m : Nat) : Bool × Nat × List It := rnS (M.1 3) (if 76 < L then 76 else L) L 100 n m 0 []
def tnB (M : Mem) (L : Nat) : Mem := setI M 6 0 (nI (if 76 < L then 76 else L))
def tnM (M : Mem) (L n m : Nat) : Mem :=
  let res := tnR M L n m
  if res.1 = true then pl (itM res.2.2 (tnB M L, n, m)).1 res.2.1 else setI (setI (pl (itM res.2.2 (tnB M L, n, m)).1 res.2.1) 28 15 (nI n)) 28 16 (nI m)
set_option maxRecDepth 100000 in
set_option maxHeartbeats 4000000 in
theorem c_X9_read_0 {M : Mem} (h0 : M.1 2 1 = 0) : Fun yX9_read cX9_read 7 (some .int) 5 [.ref 6, .ref 2, .ref 28] M (some (.int 0)) (M) := by
  refine Fun.of (own := RX9) ([some (.ref 6), some (.ref 2), some (.ref 28), none, none, none, none]) rfl (by decide +kernel) (Nat.le_of_ble_eq_true rfl) rfl ?_
  refine rx_aload_n (i := 1) dX9_read_0 rfl rfl ?_
  refine rx_cvI (ci := 6) mo_X6_length lk_X9_9 c_X6_length (by decide) rfl rfl (Nat.le_of_ble_eq_true rfl) kl_2 rfl dX9_read_1 ?_
  refine rx_if_ne (tgt := 9) dX9_read_4 (by decide) (fun c4 => ?_) (fun c4 => ?_)
  · skip
    exact absurd h0 c4
  · skip
    refine rx_iconst (0) dX9_read_7 rfl ?_
    exact rx_fiI dX9_read_8 rfl rfl
set_option maxRecDepth 100000 in
set_option maxHeartbeats 4000000 in
theorem c_X9_read {M : Mem} {L n m : Nat} (hL : M.1 2 1 = nI L) (hL0 : 0 < L) (hL80 : L ≤ 80) (hS : ∀ j, j < L → 0 ≤ (M.1 3 j).toInt ∧ (M.1 3 j).toInt ≤ 255) (w : TW M 28 n m) : Fun yX9_read cX9_read 7 (some .int) 5 [.ref 6, .ref 2, .ref 28] M (some (.int (if (tnR M L n m).1 = true then nI (tnR M L n m).2.2.length else -1 - nI (tnR M L n m).2.1))) (tnM M L n m) := by
  refine Fun.of (own := RX9) ([some (.ref 6), some (.ref 2), some (.ref 28), none, none, none, none]) rfl (by decide +kernel) (Nat.le_of_ble_eq_true rfl) rfl ?_
  have ht : isTown 28 := by unfold isTown; omega
  refine rx_aload_n (i := 1) dX9_read_0 rfl rfl ?_
  refine rx_cvI (ci := 6) mo_X6_length lk_X9_9 c_X6_length (by decide) rfl rfl (Nat.le_of_ble_eq_true rfl) kl_2 rfl dX9_read_1 ?_
  refine rx_if_ne (tgt := 9) dX9_read_4 (by decide) (fun c4 => ?_) (fun c4 => ?_)
  · skip
    refine rx_aload_n (i := 0) dX9_read_9 rfl rfl ?_
    refine rx_bipush (76) dX9_read_10 rfl ?_
    refine rx_aload_n (i := 1) dX9_read_12 rfl rfl ?_
    refine rx_cvI (ci := 6) mo_X6_length lk_X9_9 c_X6_length (by decide) rfl rfl (Nat.le_of_ble_eq_true rfl) kl_2 rfl dX9_read_13 ?_
    refine rx_mmin (List.mem_of_getElem? (i := 537) (by decide +kernel)) (by decide) (Nat.le_of_ble_eq_true rfl) dX9_read_16 ?_
    refine rx_top (nI (if 76 < L then 76 else L)) (by rw [hL]; exact (by decide +kernel : ∀ L, L ≤ 80 → (if nI L < (76 : Int32) then nI L else 76) = nI (if 76 < L then 76 else L)) L hL80) ?_
    refine rx_putI (k := 0) fo_X9_23 fn_9_0 kl_6 (by decide) ty_9_0 dX9_read_19 ?_
    refine rx_aload_n (i := 0) dX9_read_22 rfl rfl ?_
    refine rx_iconst (0) dX9_read_23 rfl ?_
    refine rx_putI (k := 1) fo_X9_27 fn_9_1 kl_6 (by decide) ty_9_1 dX9_read_24 ?_
    refine rx_aload_n (i := 2) dX9_read_27 rfl rfl ?_
    refine rx_getI (k := 15) fo_X9_30 kl_28 (by decide) ti_8_15 dX9_read_28 ?_
    refine rx_top (nI n) (by rw [sI_na (by omega), sI_na (by omega)]; exact w.1) ?_
    refine rx_istore_n (i := 3) dX9_read_31 rfl (by decide) rfl rfl ?_
    refine rx_aload_n (i := 2) dX9_read_32 rfl rfl ?_
    refine rx_getI (k := 16) fo_X9_35 kl_28 (by decide) ti_8_16 dX9_read_33 ?_
    refine rx_top (nI m) (by rw [sI_na (by omega), sI_na (by omega)]; exact w.2.2.1) ?_
    refine rx_istore (i := 4) dX9_read_36 (by decide) rfl rfl ?_
    refine rx_iconst (0) dX9_read_38 rfl ?_
    refine rx_istore (i := 5) dX9_read_39 (by decide) rfl rfl ?_
    refine rx_iconst (1) dX9_read_41 rfl ?_
    refine rx_istore (i := 6) dX9_read_42 (by decide) rfl rfl ?_
    have hlim : (if 76 < L then 76 else L) ≤ L ∧ (if 76 < L then 76 else L) ≤ 76 := by split <;> omega
    have hb : ∀ a, a ≠ 6 → (tnB M L).1 a = M.1 a := fun a h => by funext j; exact sI_na h
    exact l_X9_read (M := tnB M L) (lim := if 76 < L then 76 else L) (L := L) (res := tnR M L n m) ⟨by rw [hb 2 (by omega)]; exact hL, hL80, sI_eq, hlim.1, hlim.2, fun j hj => by rw [hb 3 (by omega)]; exact hS j hj⟩ (L + 2) n m 0 100 [] (Nat.zero_le _) (by omega) rfl (show TW (tnB M L) 28 n m from w.keep (by rw [hb 28 (by omega)]) (by rw [hb 28 (by omega)]) (fun _ _ => by rw [hb (28 + 7) (by omega)]) (fun _ _ => by rw [hb (28 + 8) (by omega)])) (fun _ _ => rfl) (Nat.le_refl _) (by unfold tnR; rw [hb 3 (by omega)]) (by omega)
  · skip
    exact absurd (hL ▸ c4) (nI_ne0 hL0 (by omega))
