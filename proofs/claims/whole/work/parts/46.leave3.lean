theorem shN_lt {c : Nat → Nat} {i g v : Nat} (hig : i ≠ g) (hc : ∀ j, c j < 65536) (hg : c g + v < 65536) : ∀ j, shN c i g v j < 65536 := by
  intro j
  simp only [shN, icr, dcr]
  by_cases q : j = g
  · subst q
    rw [if_pos rfl, if_neg (fun e => hig e.symm)]; exact hg
  · rw [if_neg q]
    by_cases r : j = i
    · rw [if_pos r]; have := hc i; omega
    · rw [if_neg r]; exact hc j
/-- whoever may pay k (bits) can: its coin -/
theorem lv_good {T : TT} {n m k : Nat} {these mk0 : Int32} {c0 : Nat → Nat} (hO : OKS T n m) (hn : n ≤ 8) (hk : k < m) {o g v : Nat} (ho : o < n) (hg : g < n) (eo : T 6 k = nI o) (eg : T 7 k = nI g) (ev : T 8 k = nI v) (hv : v ≤ 99) (hc : ∀ i, i < n → T 0 i = nI (c0 i)) (h65 : ∀ i, c0 i < 65536) :
    ∀ i, i < n → bt (lvQ T n these mk0 k) i = true → i ≠ o ∧ i ≠ g ∧ v ≤ c0 i ∧ ∀ j, shN c0 i g v j < 65536 := by
  intro i hi hb
  unfold lvQ at hb
  split at hb
  · unfold payT at hb
    split at hb
    · rw [b_fbor _ n (by omega)] at hb
      simp only [hi, decide_true, Bool.true_and] at hb
      obtain ⟨h8, h6, h7⟩ := mayT_cnt hb
      have e1 : i ≠ o := fun q => h6 (by rw [eo, q])
      have e2 : i ≠ g := fun q => h7 (by rw [eg, q])
      rw [i_le, hO.T.cnt hi, ev, hc i hi, nI_toInt (by omega), nI_toInt (by have := h65 i; omega)] at h8
      have h3 := (hO.1 i hi).1
      have hl := hO.le hg
      rw [hc g hg, nI_toInt (by have := h65 g; omega)] at hl
      exact ⟨e1, e2, by omega, shN_lt e2 h65 (by omega)⟩
    · rw [b_0] at hb; cases hb
  · rw [b_0] at hb; cases hb
set_option maxRecDepth 100000 in
set_option maxHeartbeats 4000000 in
theorem l_leave_out {M0 : Mem} {n m s : Nat} {mk0 : Int32} {c0 : Nat → Nat} {p0 lf these : Int32} {r0 : Nat} {x0 : (Bool × SS) × Int32 × (Nat → Int32)} (w : TW M0 108 n m) (hO : OKS (view M0 108) n m) (hL : ∀ j, j < n → M0.1 114 j = onL M0 108 j) (hc : ∀ i, i < n → M0.1 109 i = nI (c0 i)) (h65 : ∀ i, c0 i < 65536) (hlf : ∀ k, k < 10 → bt lf k = (bt these k && !bt mk0 k)) (hr : ∀ k, k < 10 → bt these k = true → bt mk0 k = false → r0 < 2 ^ 54) (hI : x0.1.2.iv s mk0 c0 p0 r0) (hs30 : s < 3000) : ∀ (N : Nat) (k : Nat) (M1 : Mem), (k ≤ m) → (stG M0 M1 ∧ M1.1 114 = M0.1 114) → (repC M1 (lvs (view M0 108) n s mk0 c0 p0 r0 these k x0).1.2) → (M1.1 19 14 = if (lvs (view M0 108) n s mk0 c0 p0 r0 these k x0).1.1 = true then 0 else 1) → (M1.1 19 11 = (lvs (view M0 108) n s mk0 c0 p0 r0 these k x0).2.1) → (∀ j, j < 10 → M1.1 27 j = (lvs (view M0 108) n s mk0 c0 p0 r0 these k x0).2.2 j) → m - k < N → Reach cX5_leave RX5 6 3 (RetQ cX5_leave none (fun w N => w = none ∧ ((stG M0 N ∧ N.1 114 = M0.1 114) ∧ (repC N (lvs (view M0 108) n s mk0 c0 p0 r0 these m x0).1.2) ∧ (N.1 19 14 = if (lvs (view M0 108) n s mk0 c0 p0 r0 these m x0).1.1 = true then 0 else 1) ∧ (N.1 19 11 = (lvs (view M0 108) n s mk0 c0 p0 r0 these m x0).2.1) ∧ (∀ j, j < 10 → N.1 27 j = (lvs (view M0 108) n s mk0 c0 p0 r0 these m x0).2.2 j)))) 23 [some (.ref 19), some (.int (nI s)), some (.int lf), some (.int (nI k)), none, none] [] (M1) := by
  intro N
  induction N with
  | zero => intro k M1 hi hst hR hf hp hb hm; exact absurd ‹_ < 0› (Nat.not_lt_zero _)
  | succ N ih =>
    intro k M1 hi hst hR hf hp hb hm
    have ⟨hn, hn8, hm0, hm10, hd⟩ := w
    have ht : isTown 108 := by unfold isTown; omega
    have ec : ∀ a, 108 ≤ a → a ≤ 123 → M1.1 a = M0.1 a := fun a h1 h2 => by
      by_cases q : a = 114
      · rw [q]; exact hst.2
      · funext j; exact hst.1.1 a j (by omega)
    have ev : ∀ c, c < 20 → view M1 108 c = view M0 108 c := view_eq ec
    have w1 : TW M1 108 n m := w.keep (by rw [ec _ (by omega) (by omega)]) (by rw [ec _ (by omega) (by omega)]) (fun _ _ => by rw [ec _ (by omega) (by omega)]) (fun _ _ => by rw [ec _ (by omega) (by omega)])
    have hn2 : M1.1 108 16 = nI m := w1.2.2.1
    have eL : ∀ j, onL M1 108 j = onL M0 108 j := fun j => by unfold onL; rw [ec _ (by omega) (by omega), ec _ (by omega) (by omega), ec _ (by omega) (by omega), ec _ (by omega) (by omega)]
    have hL1 : ∀ j, j < n → M1.1 (108 + 6) j = onL M1 108 j := fun j hj => by rw [show (108 + 6 : Nat) = 114 from rfl, ec _ (by omega) (by omega), hL j hj, eL]
    have hB : BB (M1.1 (108 + 6)) n := fun j hj => by rw [hL1 j hj, eL, onL_T]; exact hO.T.bb j hj
    have hby : byOK M1 108 := by unfold byOK; rw [ec _ (by omega) (by omega)]; exact hO.2.2.1
    refine rx_iload_n (i := 3) dX5_leave_23 rfl rfl ?_
    refine rx_aload_n (i := 0) dX5_leave_24 rfl rfl ?_
    refine rx_getR 108 (k := 0) fo_X5_12 kl_19 (by decide) ti_5_0 (by decide) rfl dX5_leave_25 ?_
    refine rx_getI (k := 16) fo_X5_117 kl_108 (by decide) ti_8_16 dX5_leave_28 ?_
    refine rx_icmp_ge (tgt := 133) dX5_leave_31 (by decide) (fun c31 => ?_) (fun c31 => ?_)
    · skip
      have f31 := Int32.not_lt.mpr c31
      rw [hn2, nI_leI (by omega) (by omega)] at c31
      obtain rfl : k = m := by omega
      exact rx_vret dX5_leave_133 ⟨rfl, hst, hR, hf, hp, hb⟩
    · skip
      have f31 := Int32.not_le.mp c31
      rw [hn2, nI_leI (by omega) (by omega)] at c31
      refine rx_iload_n (i := 2) dX5_leave_34 rfl rfl ?_
      refine rx_iconst (1) dX5_leave_35 rfl ?_
      refine rx_iload_n (i := 3) dX5_leave_36 rfl rfl ?_
      refine rx_ishl dX5_leave_37 ?_
      refine rx_iand dX5_leave_38 ?_
      refine rx_if_eq (tgt := 53) dX5_leave_39 (by decide) (fun c39 => ?_) (fun c39 => ?_)
      · skip
        try have e39 := (and_bit _ (by omega)).mp c39
        have eQ : lvQ (view M0 108) n these mk0 k = 0 := if_neg fun q => by
          rw [hlf k (by omega), q.1, q.2] at e39
          cases e39
        refine rx_iconst (0) dX5_leave_53 rfl ?_
        refine rx_istore (i := 4) dX5_leave_54 (by decide) rfl rfl ?_
        refine rx_iload (i := 4) dX5_leave_56 rfl ?_
        refine rx_if_eq (tgt := 88) dX5_leave_58 (by decide) (fun c58 => ?_) (fun c58 => absurd c58 (by decide))
        refine rx_iconst (0) dX5_leave_88 rfl ?_
        refine rx_istore (i := 5) dX5_leave_89 (by decide) rfl rfl ?_
        obtain ⟨o, g, ho, hg, hog, eo, eg⟩ := hd k (by omega)
        obtain ⟨⟨s1, s2⟩, -⟩ := hO.2.2.2 k (by omega)
        have s1' : 1 ≤ (M0.1 117 k).toInt := s1
        have s2' : (M0.1 117 k).toInt ≤ 99 := s2
        obtain ⟨v, hv31, ev8⟩ := nI_of (x := M0.1 117 k) (fun q => by have := Int32.lt_iff_toInt_lt.mp q; rw [i_0] at this; omega)
        have hv99 : v ≤ 99 := by rw [ev8, nI_toInt hv31] at s2'; omega
        have hiv := lvs_iv (T := view M0 108) (these := these) hn8 hr hI (k := k) (by omega)
        have e2 : ∀ a, 108 ≤ a → a ≤ 123 → (M1).1 a = M0.1 a := ec
        have eA : alk (view M0 108) (view (M1) 108) := fun c _ h20 => view_eq e2 c h20
        refine l_leave_in (M0 := M1) (Q := 0) (o := o) (g := g) (v := v) (mk0 := mk0) (c0 := c0) (p0 := p0) (r0 := r0) (R0 := (lvs (view M0 108) n s mk0 c0 p0 r0 these k x0).1) (by rw [e2 _ (by omega) (by omega)]; exact hn) hn8 (by omega) (by omega) (by omega) hog (by rw [e2 _ (by omega) (by omega)]; exact eo) (by rw [e2 _ (by omega) (by omega)]; exact eg) (by rw [e2 _ (by omega) (by omega)]; exact ev8) (by omega) (fun i hi q => by rw [show (0 : Int32) = 0 from rfl, b_0] at q; cases q) (Or.inl rfl) hiv (fun N h1 h2 h3 => ?_) (n + 1) 0 _ (Nat.zero_le _) stF.refl (hR) (hf) (by omega)
        rw [inn_alk eA] at h2 h3
        have eX : (lvs (view M0 108) n s mk0 c0 p0 r0 these (k + 1) x0) = (inn (view M0 108) s mk0 c0 p0 r0 k 0 n (lvs (view M0 108) n s mk0 c0 p0 r0 these k x0).1, (lvs (view M0 108) n s mk0 c0 p0 r0 these k x0).2.1, (lvs (view M0 108) n s mk0 c0 p0 r0 these k x0).2.2) := by simp only [lvs]; rw [if_pos eQ, if_pos eQ, eQ]
        refine rx_iincN (i := 3) dX5_leave_127 rfl (by decide) rfl rfl ?_
        refine rx_goto (tgt := 23) dX5_leave_130 (by decide) ?_
        refine rx_drop 4 ?_
        refine rx_drop 5 ?_
        exact ih (k + 1) N (by omega) ⟨hst.1.trans h1.G, (funext fun j => h1.1 114 j (by omega)).trans hst.2⟩ (by rw [eX]; exact h2) (by rw [eX]; exact h3) (by rw [eX, h1.1 19 11 (by omega)]; exact hp) (fun j hj => by rw [eX, h1.1 27 j (by omega)]; exact hb j hj) (by omega)
      · skip
        try have e39 := (and_bitn _ (by omega)).mp c39
        have e39 : bt these k = true ∧ bt mk0 k = false := by
          rw [hlf k (by omega)] at e39
          simpa using e39
        refine rx_aload_n (i := 0) dX5_leave_42 rfl rfl ?_
        refine rx_getR 108 (k := 0) fo_X5_12 kl_19 (by decide) ti_5_0 (by decide) rfl dX5_leave_43 ?_
        refine rx_iload_n (i := 3) dX5_leave_46 rfl rfl ?_
        refine rx_cvI (ci := 8) mo_X8_payers lk_X5_120 (c_X8_payers ht w1 (by omega) hB hby) (by decide) rfl rfl (Nat.le_of_ble_eq_true rfl) kl_108 rfl dX5_leave_47 ?_
        have epay : (if M1.1 (108 + 11) k = 0 then fbor (mayL M1 108 n k) n else 0) = lvQ (view M0 108) n these mk0 k := by
          rw [payers_T w1 (by omega) hL1, payT_same (fun c h5 h20 => ev c h20)]
          exact (if_pos ⟨e39.1, e39.2⟩).symm
        refine rx_top _ epay ?_
        refine rx_goto (tgt := 54) dX5_leave_50 (by decide) ?_
        refine rx_istore (i := 4) dX5_leave_54 (by decide) rfl rfl ?_
        refine rx_iload (i := 4) dX5_leave_56 rfl ?_
        refine rx_if_eq (tgt := 88) dX5_leave_58 (by decide) (fun c58 => ?_) (fun c58 => ?_)
        · skip
          have eQ := c58
          refine rx_iconst (0) dX5_leave_88 rfl ?_
          refine rx_istore (i := 5) dX5_leave_89 (by decide) rfl rfl ?_
          obtain ⟨o, g, ho, hg, hog, eo, eg⟩ := hd k (by omega)
          obtain ⟨⟨s1, s2⟩, -⟩ := hO.2.2.2 k (by omega)
          have s1' : 1 ≤ (M0.1 117 k).toInt := s1
          have s2' : (M0.1 117 k).toInt ≤ 99 := s2
          obtain ⟨v, hv31, ev8⟩ := nI_of (x := M0.1 117 k) (fun q => by have := Int32.lt_iff_toInt_lt.mp q; rw [i_0] at this; omega)
          have hv99 : v ≤ 99 := by rw [ev8, nI_toInt hv31] at s2'; omega
          have hiv := lvs_iv (T := view M0 108) (these := these) hn8 hr hI (k := k) (by omega)
          have e2 : ∀ a, 108 ≤ a → a ≤ 123 → (M1).1 a = M0.1 a := ec
          have eA : alk (view M0 108) (view (M1) 108) := fun c _ h20 => view_eq e2 c h20
          refine l_leave_in (M0 := M1) (Q := (lvQ (view M0 108) n these mk0 k)) (o := o) (g := g) (v := v) (mk0 := mk0) (c0 := c0) (p0 := p0) (r0 := r0) (R0 := (lvs (view M0 108) n s mk0 c0 p0 r0 these k x0).1) (by rw [e2 _ (by omega) (by omega)]; exact hn) hn8 (by omega) (by omega) (by omega) hog (by rw [e2 _ (by omega) (by omega)]; exact eo) (by rw [e2 _ (by omega) (by omega)]; exact eg) (by rw [e2 _ (by omega) (by omega)]; exact ev8) (by omega) (lv_good hO hn8 (by omega) ho hg eo eg ev8 hv99 hc h65) (Or.inl eQ) hiv (fun N h1 h2 h3 => ?_) (n + 1) 0 _ (Nat.zero_le _) stF.refl (hR) (hf) (by omega)
          rw [inn_alk eA] at h2 h3
          have eX : (lvs (view M0 108) n s mk0 c0 p0 r0 these (k + 1) x0) = (inn (view M0 108) s mk0 c0 p0 r0 k (lvQ (view M0 108) n these mk0 k) n (lvs (view M0 108) n s mk0 c0 p0 r0 these k x0).1, (lvs (view M0 108) n s mk0 c0 p0 r0 these k x0).2.1, (lvs (view M0 108) n s mk0 c0 p0 r0 these k x0).2.2) := by simp only [lvs]; rw [if_pos eQ, if_pos eQ]
          refine rx_iincN (i := 3) dX5_leave_127 rfl (by decide) rfl rfl ?_
          refine rx_goto (tgt := 23) dX5_leave_130 (by decide) ?_
          refine rx_drop 4 ?_
          refine rx_drop 5 ?_
          exact ih (k + 1) N (by omega) ⟨hst.1.trans h1.G, (funext fun j => h1.1 114 j (by omega)).trans hst.2⟩ (by rw [eX]; exact h2) (by rw [eX]; exact h3) (by rw [eX, h1.1 19 11 (by omega)]; exact hp) (fun j hj => by rw [eX, h1.1 27 j (by omega)]; exact hb j hj) (by omega)
        · skip
          have eQ := c58
          refine rx_aload_n (i := 0) dX5_leave_61 rfl rfl ?_
          refine rx_dup dX5_leave_62 rfl ?_
          refine rx_getI (k := 11) fo_X5_92 kl_19 (by decide) ti_5_11 dX5_leave_63 ?_
          refine rx_iconst (1) dX5_leave_66 rfl ?_
          refine rx_iload_n (i := 3) dX5_leave_67 rfl rfl ?_
          refine rx_ishl dX5_leave_68 ?_
          refine rx_ior dX5_leave_69 ?_
          refine rx_putI (k := 11) fo_X5_92 fn_5_11 kl_19 (by decide) ty_5_11 dX5_leave_70 ?_
          refine rx_aload_n (i := 0) dX5_leave_73 rfl rfl ?_
          refine rx_getR 27 (k := 8) fo_X5_41 kl_19 (by decide) ti_5_8 (by decide) rfl dX5_leave_74 ?_
          refine rx_iload_n (i := 3) dX5_leave_77 rfl rfl ?_
          refine rx_dup2_11 dX5_leave_78 rfl rfl ?_
          refine rx_ialdN kl_27 (by omega) (by first | decide | omega) dX5_leave_79 ?_
          refine rx_aload_n (i := 0) dX5_leave_80 rfl rfl ?_
          refine rx_getR 24 (k := 5) fo_X5_31 kl_19 (by decide) ti_5_5 (by decide) rfl dX5_leave_81 ?_
          refine rx_iload_n (i := 1) dX5_leave_84 rfl rfl ?_
          refine rx_ialdN kl_24 (by omega) (by first | decide | omega) dX5_leave_85 ?_
          refine rx_iand dX5_leave_86 ?_
          refine rx_iastN kl_27 (by omega) (by first | decide | omega) dX5_leave_87 ?_
          refine rx_iconst (0) dX5_leave_88 rfl ?_
          refine rx_istore (i := 5) dX5_leave_89 (by decide) rfl rfl ?_
          have hiv0 := lvs_iv (T := view M0 108) (these := these) hn8 hr hI (k := k) (by omega)
          have h24 : M1.1 24 s = mk0 := by
            have hs := (hiv0.2.1)
            have ⟨tb, q1, q2, q3, q4, q5⟩ := hR
            exact (q3 s hs).1.trans hiv0.2.2.1
          obtain ⟨o, g, ho, hg, hog, eo, eg⟩ := hd k (by omega)
          obtain ⟨⟨s1, s2⟩, -⟩ := hO.2.2.2 k (by omega)
          have s1' : 1 ≤ (M0.1 117 k).toInt := s1
          have s2' : (M0.1 117 k).toInt ≤ 99 := s2
          obtain ⟨v, hv31, ev8⟩ := nI_of (x := M0.1 117 k) (fun q => by have := Int32.lt_iff_toInt_lt.mp q; rw [i_0] at this; omega)
          have hv99 : v ≤ 99 := by rw [ev8, nI_toInt hv31] at s2'; omega
          have hiv := lvs_iv (T := view M0 108) (these := these) hn8 hr hI (k := k) (by omega)
          have e2 : ∀ a, 108 ≤ a → a ≤ 123 → (setI (setI M1 19 11 (M1.1 19 11 ||| bit k)) 27 k ((setI M1 19 11 (M1.1 19 11 ||| bit k)).1 27 k &&& (setI M1 19 11 (M1.1 19 11 ||| bit k)).1 24 s)).1 a = M0.1 a := fun a h1 h2 => ((setI_ne (by omega)).trans (setI_ne (by omega))).trans (ec a h1 h2)
          have eA : alk (view M0 108) (view (setI (setI M1 19 11 (M1.1 19 11 ||| bit k)) 27 k ((setI M1 19 11 (M1.1 19 11 ||| bit k)).1 27 k &&& (setI M1 19 11 (M1.1 19 11 ||| bit k)).1 24 s)) 108) := fun c _ h20 => view_eq e2 c h20
          refine l_leave_in (M0 := setI (setI M1 19 11 (M1.1 19 11 ||| bit k)) 27 k ((setI M1 19 11 (M1.1 19 11 ||| bit k)).1 27 k &&& (setI M1 19 11 (M1.1 19 11 ||| bit k)).1 24 s)) (Q := (lvQ (view M0 108) n these mk0 k)) (o := o) (g := g) (v := v) (mk0 := mk0) (c0 := c0) (p0 := p0) (r0 := r0) (R0 := (lvs (view M0 108) n s mk0 c0 p0 r0 these k x0).1) (by rw [e2 _ (by omega) (by omega)]; exact hn) hn8 (by omega) (by omega) (by omega) hog (by rw [e2 _ (by omega) (by omega)]; exact eo) (by rw [e2 _ (by omega) (by omega)]; exact eg) (by rw [e2 _ (by omega) (by omega)]; exact ev8) (by omega) (lv_good hO hn8 (by omega) ho hg eo eg ev8 hv99 hc h65) (Or.inr ⟨e39.2, hr k (by omega) e39.1 e39.2⟩) hiv (fun N h1 h2 h3 => ?_) (n + 1) 0 _ (Nat.zero_le _) stF.refl (rep_I (rep_I hR (Or.inr (Or.inl ⟨rfl, rfl⟩))) (Or.inl rfl)) ((sI_ne (by omega)).trans ((sI_ne (by omega)).trans hf)) (by omega)
          rw [inn_alk eA] at h2 h3
          have eX : (lvs (view M0 108) n s mk0 c0 p0 r0 these (k + 1) x0) = (inn (view M0 108) s mk0 c0 p0 r0 k (lvQ (view M0 108) n these mk0 k) n (lvs (view M0 108) n s mk0 c0 p0 r0 these k x0).1, (lvs (view M0 108) n s mk0 c0 p0 r0 these k x0).2.1 ||| bit k, upd (lvs (view M0 108) n s mk0 c0 p0 r0 these k x0).2.2 k ((lvs (view M0 108) n s mk0 c0 p0 r0 these k x0).2.2 k &&& mk0)) := by simp only [lvs]; rw [if_neg eQ, if_neg eQ]
          refine rx_iincN (i := 3) dX5_leave_127 rfl (by decide) rfl rfl ?_
          refine rx_goto (tgt := 23) dX5_leave_130 (by decide) ?_
          refine rx_drop 4 ?_
          refine rx_drop 5 ?_
          have hi2 : ∀ a, 108 ≤ a → a ≤ 123 → a ≠ 114 → True := fun _ _ _ _ => trivial
          exact ih (k + 1) N (by omega) ⟨(hst.1.trans ((stG_I (Or.inr ⟨rfl, rfl⟩)).trans (stG_I (Or.inl rfl)))).trans h1.G, (funext fun j => h1.1 114 j (by omega)).trans (((setI_ne (by omega)).trans (setI_ne (by omega))).trans hst.2)⟩ (by rw [eX]; exact h2) (by rw [eX]; exact h3) (by rw [eX, h1.1 19 11 (by omega), sI_ne (by omega), sI_eq, hp]) (fun j hj => by
            rw [eX, h1.1 27 j (by omega)]
            by_cases q : j = k
            · subst q
              rw [sI_eq, sI_na (by omega), sI_na (by omega), hb j hj, h24]
              exact (if_pos rfl).symm
            · rw [sI_ne (by omega), sI_na (by omega), hb j hj]
              exact (if_neg q).symm) (by omega)
set_option maxRecDepth 100000 in
set_option maxHeartbeats 4000000 in
theorem c_X5_leave {M : Mem} {n m s : Nat} {mk0 : Int32} {c0 : Nat → Nat} {p0 these : Int32} {r0 : Nat} {x0 : (Bool × SS) × Int32 × (Nat → Int32)} (w : TW M 108 n m) (hO : OKS (view M 108) n m) (hc : ∀ i, i < n → M.1 109 i = nI (c0 i)) (h65 : ∀ i, c0 i < 65536) (hR : repC M x0.1.2) (hf : M.1 19 14 = if x0.1.1 = true then 0 else 1) (hp : M.1 19 11 = x0.2.1) (hb : ∀ j, j < 10 → M.1 27 j = x0.2.2 j) (hth : M.1 19 10 = these) (hr : ∀ k, k < 10 → bt these k = true → bt mk0 k = false → r0 < 2 ^ 54) (hI : x0.1.2.iv s mk0 c0 p0 r0) (hs30 : s < 3000) : Con yX5_leave cX5_leave 6 none 3 [.ref 19, .int (nI s)] M (fun w N => w = none ∧ stG M N ∧ repC N (lvs (view M 108) n s mk0 c0 p0 r0 these m x0).1.2 ∧ (N.1 19 14 = if (lvs (view M 108) n s mk0 c0 p0 r0 these m x0).1.1 = true then 0 else 1) ∧ N.1 19 11 = (lvs (view M 108) n s mk0 c0 p0 r0 these m x0).2.1 ∧ ∀ j, j < 10 → N.1 27 j = (lvs (view M 108) n s mk0 c0 p0 r0 these m x0).2.2 j) := by
  refine Con.of (own := RX5) (ls := [some (.ref 19), some (.int (nI s)), none, none, none, none]) rfl (by decide +kernel) (Nat.le_of_ble_eq_true rfl) rfl ?_
  have ht : isTown 108 := by unfold isTown; omega
  have hR0 := hR
  obtain ⟨tb, q1, q2, q3, q4, q5⟩ := hR0
  have hmk : (mkL M 108 n).1 24 s = mk0 := by rw [mkL_o (by omega)]; exact (q3 s hI.2.1).1.trans hI.2.2.1
  have hth2 : (mkL M 108 n).1 19 10 = these := by rw [mkL_o (by omega)]; exact hth
  have eA : alk (view M 108) (view (mkL M 108 n) 108) := fun c h5 h20 => view_same (M := M) (M' := mkL M 108 n) (t := 108) (fun c' h1 h2 => by funext j; exact mkL_o (by omega)) c h5 h20
  refine rx_aload_n (i := 0) dX5_leave_0 rfl rfl ?_
  refine rx_getR 108 (k := 0) fo_X5_12 kl_19 (by decide) ti_5_0 (by decide) rfl dX5_leave_1 ?_
  refine rx_cvN (ci := 8) mo_X8_makeList lk_X5_114 (c_X8_makeList ht w) (by decide) rfl rfl (Nat.le_of_ble_eq_true rfl) kl_108 rfl dX5_leave_4 ?_
  refine rx_aload_n (i := 0) dX5_leave_7 rfl rfl ?_
  refine rx_getI (k := 10) fo_X5_70 kl_19 (by decide) ti_5_10 dX5_leave_8 ?_
  refine rx_aload_n (i := 0) dX5_leave_11 rfl rfl ?_
  refine rx_getR 24 (k := 5) fo_X5_31 kl_19 (by decide) ti_5_5 (by decide) rfl dX5_leave_12 ?_
  refine rx_iload_n (i := 1) dX5_leave_15 rfl rfl ?_
  refine rx_ialdN kl_24 (by omega) (by first | decide | omega) dX5_leave_16 ?_
  refine rx_iconst (-1) dX5_leave_17 rfl ?_
  refine rx_ixor dX5_leave_18 ?_
  refine rx_iand dX5_leave_19 ?_
  refine rx_top (these &&& (mk0 ^^^ (-1))) (by rw [hth2, hmk]) ?_
  refine rx_istore_n (i := 2) dX5_leave_20 rfl (by decide) rfl rfl ?_
  refine rx_iconst (0) dX5_leave_21 rfl ?_
  refine rx_istore_n (i := 3) dX5_leave_22 rfl (by decide) rfl rfl ?_
  refine (l_leave_out (M0 := mkL M 108 n) (x0 := x0) (these := these) (w.keep (by rw [mkL_o (by omega)]) (by rw [mkL_o (by omega)]) (fun _ _ => by rw [mkL_o (by omega)]) (fun _ _ => by rw [mkL_o (by omega)])) (hO.alk eA) (fun j hj => by rw [show (114 : Nat) = 108 + 6 from rfl, mkL_l hj]; simp [onL, mkL_o]) (fun i hi => by rw [mkL_o (by omega)]; exact hc i hi) h65 (fun k hk => by rw [b_and, b_not _ (by omega)]) hr hI hs30 (m + 1) 0 _ (Nat.zero_le _) ⟨stG.refl, rfl⟩ (rep_L hR) (by rw [mkL_o (by omega)]; exact hf) (by rw [mkL_o (by omega)]; exact hp) (fun j hj => by rw [mkL_o (by omega)]; exact hb j hj) (by omega)).mono ?_
  rintro pc' ls' st' N ⟨v, h1, ⟨h2, h3, h4, h5, h6, h7⟩, h8⟩
  rw [lvs_alk eA] at h4 h5 h6 h7
  exact ⟨v, h1, ⟨h2, stG_L.trans h3.1, h4, h5, h6, h7⟩, h8⟩
