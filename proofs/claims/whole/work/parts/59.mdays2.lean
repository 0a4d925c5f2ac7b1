theorem mM_140 {M : Mem} {o g i k j : Nat} {a : Nat} (h : a ≠ 141 ∧ a ≠ 146 ∧ a ≠ 151 ∧ a ≠ 152) : (mM M o g i k).1 a j = M.1 a j :=
  (sI_na (by omega)).trans ((sI_na (by omega)).trans ((sI_na (by omega)).trans ((sI_na (by omega)).trans (sI_na (by omega)))))
set_option maxRecDepth 100000 in
set_option maxHeartbeats 4000000 in
theorem c_X11_goDebt {M : Mem} {n m : Nat} {S : Nat → Int32} {z L : Nat} (r : MR M n m S z L) {s : DS} (hD : DR M s) {k : Nat} (hk : k < m) : Con yX11_goDebt cX11_goDebt 3 none 174 [.ref 140, .int (nI k)] M (fun v N => v = none ∧ DR N (goT S z n m s k) ∧ frD M N) := by
  refine Con.of (own := RX11) (ls := [some (.ref 140), some (.int (nI k)), none]) rfl (by decide +kernel) (Nat.le_of_ble_eq_true rfl) rfl ?_
  have ⟨⟨hn, hn8, hm, hm10, hd⟩, hk01, hs, hR, hL⟩ := r
  have ⟨d1, d2, d3, d4, d5⟩ := hD
  refine rx_aload_n (i := 0) dX11_goDebt_0 rfl rfl ?_
  refine rx_iload_n (i := 1) dX11_goDebt_1 rfl rfl ?_
  refine rx_callV (ci := 11) mo_X11_willingTo lk_X11_301 (c_X11_willingTo r hk) (by decide) rfl rfl (Nat.le_of_ble_eq_true rfl) kl_140 rfl dX11_goDebt_2 ?_
  rintro _ N ⟨rfl, hF⟩
  rw [wilT_alk d1]
  have rN := hF.MR r
  have eMV := hF.mv
  obtain ⟨o, g, ho, hg, hog, eo, eg⟩ := rN.1.2.2.2.2 k hk
  obtain ⟨x, hx⟩ : ∃ x, (wilT S z s.1 n m k).1 = x := ⟨_, rfl⟩
  rw [hx]
  refine rx_istore_n (i := 2) dX11_goDebt_5 rfl (by decide) rfl rfl ?_
  refine rx_iload_n (i := 2) dX11_goDebt_6 rfl rfl ?_
  refine rx_if_lt (tgt := 53) dX11_goDebt_7 (by decide) (fun c7 => ?_) (fun c7 => ?_)
  · skip
    have e7 : ¬ 0 ≤ x := fun q => by rw [wlI, if_pos q] at c7; exact absurd q (Int32.not_le.mpr c7)
    refine rx_aload_n (i := 0) dX11_goDebt_53 rfl rfl ?_
    refine rx_getI (k := 15) fo_X11_402 kl_140 (by decide) ti_11_15 dX11_goDebt_54 ?_
    refine rx_top (s.1 18 0) ((hF.1 _ _ (by omega)).trans (congrFun (d1 18 (by omega) (by omega)) 0)) ?_
    refine rx_aload_n (i := 0) dX11_goDebt_57 rfl rfl ?_
    refine rx_getR 150 (k := 11) fo_X11_38 kl_140 (by decide) ti_11_11 (by decide) rfl dX11_goDebt_58 ?_
    refine rx_iload_n (i := 1) dX11_goDebt_61 rfl rfl ?_
    refine rx_ialdN kl_150 (by omega) (by first | decide | omega) dX11_goDebt_62 ?_
    refine rx_top (s.1 9 k) ((hF.1 _ _ (by omega)).trans (congrFun (d1 9 (by omega) (by omega)) k)) ?_
    refine rx_aload_n (i := 0) dX11_goDebt_63 rfl rfl ?_
    refine rx_getR 153 (k := 14) fo_X11_47 kl_140 (by decide) ti_11_14 (by decide) rfl dX11_goDebt_64 ?_
    refine rx_iconst (3) dX11_goDebt_67 rfl ?_
    refine rx_ialdN (k := 3) kl_153 (by omega) (by first | decide | omega) dX11_goDebt_68 ?_
    refine rx_top (s.1 14 3) ((hF.1 _ _ (by omega)).trans (congrFun (d1 14 (by omega) (by omega)) 3)) ?_
    refine rx_iadd dX11_goDebt_69 ?_
    refine rx_icmp_lt (tgt := 92) dX11_goDebt_70 (by decide) (fun c70 => ?_) (fun c70 => ?_)
    · skip
      have e70 : ¬ s.1 9 k + s.1 14 3 ≤ s.1 18 0 := Int32.not_le.mpr c70
      have eg8 : goT S z n m s k = s := by
        simp only [goT]
        rw [if_neg (by rw [hx]; exact e7), if_neg e70]
      exact rx_vret dX11_goDebt_92 ⟨rfl, by rw [eg8]; exact ⟨by rw [eMV]; exact d1, (hF.1 _ _ (by omega)).trans d2, (hF.1 _ _ (by omega)).trans d3, (hF.1 _ _ (by omega)).trans d4, (hF.1 _ _ (by omega)).trans d5⟩, hF.D⟩
    · skip
      have e70 : s.1 9 k + s.1 14 3 ≤ s.1 18 0 := Int32.not_lt.mp c70
      have eg8 : goT S z n m s k = (setT s.1 10 k 2, s.2.1, s.2.2.1, s.2.2.2.1, s.2.2.2.2 ||| bit k) := by
        simp only [goT]
        rw [if_neg (by rw [hx]; exact e7), if_pos e70]
      refine rx_aload_n (i := 0) dX11_goDebt_73 rfl rfl ?_
      refine rx_getR 151 (k := 12) fo_X11_41 kl_140 (by decide) ti_11_12 (by decide) rfl dX11_goDebt_74 ?_
      refine rx_iload_n (i := 1) dX11_goDebt_77 rfl rfl ?_
      refine rx_iconst (2) dX11_goDebt_78 rfl ?_
      refine rx_iastN kl_151 (by omega) (by first | decide | omega) dX11_goDebt_79 ?_
      refine rx_aload_n (i := 0) dX11_goDebt_80 rfl rfl ?_
      refine rx_dup dX11_goDebt_81 rfl ?_
      refine rx_getI (k := 53) fo_X11_399 kl_140 (by decide) ti_11_53 dX11_goDebt_82 ?_
      refine rx_top s.2.2.2.2 (((sI_na (by omega)).trans (hF.1 _ _ (by omega))).trans d5) ?_
      refine rx_iconst (1) dX11_goDebt_85 rfl ?_
      refine rx_iload_n (i := 1) dX11_goDebt_86 rfl rfl ?_
      refine rx_ishl dX11_goDebt_87 ?_
      refine rx_ior dX11_goDebt_88 ?_
      refine rx_putI (k := 53) fo_X11_399 fn_11_53 kl_140 (by decide) ty_11_53 dX11_goDebt_89 ?_
      exact rx_vret dX11_goDebt_92 ⟨rfl, by
        rw [eg8]
        refine ⟨?_, (sI_ne (by omega)).trans ((sI_na (by omega)).trans ((hF.1 _ _ (by omega)).trans d2)), (sI_ne (by omega)).trans ((sI_na (by omega)).trans ((hF.1 _ _ (by omega)).trans d3)), (sI_ne (by omega)).trans ((sI_na (by omega)).trans ((hF.1 _ _ (by omega)).trans d4)), sI_eq⟩
        rw [mv_I (by omega)]
        have := mv_set (M := N) (c := 10) (j := k) (x := 2) (by omega) (by omega)
        show alk _ (mv (setI N 151 k 2))
        rw [show mv (setI N 151 k 2) = setT (mv N) 10 k 2 from this, eMV]
        exact d1.set, hF.D.trans ((frD_I (by omega)).trans (frD_I (by omega)))⟩
  · skip
    have e7 : 0 ≤ x := Decidable.byContradiction fun q => c7 (by rw [wlI, if_neg q]; decide)
    obtain ⟨i, hi, hxi, h10, hmay⟩ := wil_in (S := S) (z := z) (T := s.1) (n := n) (m := m) (k := k) hn8 (by rw [hx]; exact e7)
    have hxi2 : wlI x = nI i := by rw [wlI, if_pos e7, ← hx]; exact hxi
    rw [hxi2]
    have eg8 : goT S z n m s k = (mkT s.1 i k, s.2.1 + 1, s.2.2.1 + prT s.1 i k, s.2.2.2.1 + s.1 8 k, s.2.2.2.2) := by
      simp only [goT]
      rw [if_pos (by rw [hx]; exact e7), hxi, nI_clamp (by omega)]
    have epr : prT (mv N) i k = prT s.1 i k := by rw [eMV]; simp only [prT, d1 2 (by omega) (by omega), d1 8 (by omega) (by omega), d1 1 (by omega) (by omega)]
    have e8 : M.1 149 k = s.1 8 k := congrFun (d1 8 (by omega) (by omega)) k
    refine rx_aload_n (i := 0) dX11_goDebt_10 rfl rfl ?_
    refine rx_dup dX11_goDebt_11 rfl ?_
    refine rx_getI (k := 50) fo_X11_390 kl_140 (by decide) ti_11_50 dX11_goDebt_12 ?_
    refine rx_top s.2.2.1 ((hF.1 _ _ (by omega)).trans d3) ?_
    refine rx_aload_n (i := 0) dX11_goDebt_15 rfl rfl ?_
    refine rx_iload_n (i := 2) dX11_goDebt_16 rfl rfl ?_
    refine rx_iload_n (i := 1) dX11_goDebt_17 rfl rfl ?_
    refine rx_cvI (ci := 11) mo_X11_make lk_X11_304 (c_X11_make (i := i) (by omega) (by omega) (rN.2.1 i hi) (by omega) (by omega) eo eg) (by decide) rfl rfl (Nat.le_of_ble_eq_true rfl) kl_140 rfl dX11_goDebt_18 ?_
    rw [epr]
    refine rx_iadd dX11_goDebt_21 ?_
    refine rx_putI (k := 50) fo_X11_390 fn_11_50 kl_140 (by decide) ty_11_50 dX11_goDebt_22 ?_
    refine rx_aload_n (i := 0) dX11_goDebt_25 rfl rfl ?_
    refine rx_dup dX11_goDebt_26 rfl ?_
    refine rx_getI (k := 51) fo_X11_393 kl_140 (by decide) ti_11_51 dX11_goDebt_27 ?_
    refine rx_top s.2.2.2.1 (((sI_ne (by omega)).trans (mM_140 (by omega))).trans ((hF.1 _ _ (by omega)).trans d4)) ?_
    refine rx_aload_n (i := 0) dX11_goDebt_30 rfl rfl ?_
    refine rx_getR 149 (k := 10) fo_X11_35 kl_140 (by decide) ti_11_10 (by decide) rfl dX11_goDebt_31 ?_
    refine rx_iload_n (i := 1) dX11_goDebt_34 rfl rfl ?_
    refine rx_ialdN kl_149 (by omega) (by first | decide | omega) dX11_goDebt_35 ?_
    refine rx_top (s.1 8 k) (((sI_ne (by omega)).trans ((sI_na (by omega)).trans ((sI_na (by omega)).trans ((sI_na (by omega)).trans ((sI_na (by omega)).trans (sI_na (by omega))))))).trans ((hF.1 _ _ (by omega)).trans e8)) ?_
    refine rx_iadd dX11_goDebt_36 ?_
    refine rx_putI (k := 51) fo_X11_393 fn_11_51 kl_140 (by decide) ty_11_51 dX11_goDebt_37 ?_
    refine rx_aload_n (i := 0) dX11_goDebt_40 rfl rfl ?_
    refine rx_dup dX11_goDebt_41 rfl ?_
    refine rx_getI (k := 52) fo_X11_396 kl_140 (by decide) ti_11_52 dX11_goDebt_42 ?_
    refine rx_top s.2.1 (((sI_ne (by omega)).trans ((sI_ne (by omega)).trans (mM_140 (by omega)))).trans ((hF.1 _ _ (by omega)).trans d2)) ?_
    refine rx_iconst (1) dX11_goDebt_45 rfl ?_
    refine rx_iadd dX11_goDebt_46 ?_
    refine rx_putI (k := 52) fo_X11_396 fn_11_52 kl_140 (by decide) ty_11_52 dX11_goDebt_47 ?_
    refine rx_goto (tgt := 92) dX11_goDebt_50 (by decide) ?_
    exact rx_vret dX11_goDebt_92 ⟨rfl, ⟨by
      rw [eg8, mv_I (by omega), mv_I (by omega), mv_I (by omega), mv_mM eo eg (by omega) (by omega), eMV]
      exact d1.mk, by rw [eg8]; exact sI_eq, by rw [eg8]; exact (sI_ne (by omega)).trans ((sI_ne (by omega)).trans sI_eq), by rw [eg8]; exact (sI_ne (by omega)).trans sI_eq, by rw [eg8]; exact ((sI_ne (by omega)).trans ((sI_ne (by omega)).trans ((sI_ne (by omega)).trans (mM_140 (by omega))))).trans ((hF.1 _ _ (by omega)).trans d5)⟩, hF.D.trans (frD_mM.trans ((frD_I (by omega)).trans ((frD_I (by omega)).trans (frD_I (by omega)))))⟩
