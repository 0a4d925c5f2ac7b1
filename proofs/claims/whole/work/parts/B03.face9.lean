theorem setA_oo {M : Mem} {i a j : Nat} {f : Nat → Int32} (h : a ≠ i) : (setA M i f).1 a j = M.1 a j := if_neg h
theorem bt_ush {x : Int32} {k i : Nat} (hk : k < 32) : bt (ush x (nI k)) i = bt x (k + i) := by
  show (x.toUInt32 >>> ((nI k).toUInt32 &&& Int32.toUInt32 31)).toBitVec.getLsbD i = x.toBitVec.getLsbD (k + i)
  rw [UInt32.toBitVec_shiftRight, BitVec.ushiftRight_eq', BitVec.getLsbD_ushiftRight, (by decide +kernel : ∀ k, k < 32 → (((nI k).toUInt32 &&& Int32.toUInt32 31).toBitVec % 32).toNat = k) k hk]
  rfl
theorem bt_shr {x : Int32} {k i : Nat} (hk : k + i < 32) : bt (x >>> (nI k &&& 31)) i = bt x (k + i) := by
  unfold bt
  rw [Int32.toBitVec_shiftRight, BitVec.sshiftRight_eq', BitVec.getLsbD_sshiftRight, (by decide +kernel : ∀ k, k < 32 → ((nI k &&& 31).toBitVec.smod 32).toNat = k) k (by omega), if_pos hk]
  simp; omega
theorem b_255 : ∀ i, i < 32 → bt 255 i = decide (i < 8) := by decide +kernel
theorem ush_255 {x : Int32} {q : Nat} (hq : q < 4) : ush x (nI (8 * q)) &&& 255 = x >>> (nI (8 * q) &&& 31) &&& 255 := b_ext fun i hi => by
  rw [b_and, b_and, b_255 i hi]
  by_cases h : i < 8
  · rw [bt_ush (by omega), bt_shr (by omega)]
  · simp [h]
theorem mk_alk {T T' : TT} {i k : Nat} (e : alk T T') : alk (mkT T i k) (mkT T' i k) := fun c h5 h20 => by
  funext j
  simp only [mkT, shT, prT, e c h5 h20, e 0 (by omega) (by omega), e 1 (by omega) (by omega), e 2 (by omega) (by omega), e 6 (by omega) (by omega), e 7 (by omega) (by omega), e 8 (by omega) (by omega), e 10 (by omega) (by omega), e 11 (by omega) (by omega), e 12 (by omega) (by omega)]
theorem b4u : ∀ j, j < 256 → ush (nI j) 4 = nI (j / 16) := by decide +kernel
theorem jd_u {t : Int32} {q : Nat} : ush (t >>> (nI (8 * q) &&& 31) &&& 255) 4 = nI (jdD t q) := by
  obtain ⟨j, hj, e⟩ := b255 (t >>> (nI (8 * q) &&& 31))
  unfold jdD
  rw [e, (b4 j hj).1, nI_clamp (by omega)]
  exact b4u j hj
theorem jdR_0 {n m : Nat} {t : Int32} {q : Nat} {T : TT} {a b : Int32} : jdR n m t 0 q T a b = (T, a, b, q) := rfl
theorem jdR_t {n m : Nat} {t : Int32} {f q : Nat} {T : TT} {a b : Int32} (h : (jdD t q < m ∧ T 10 (jdD t q) = 0) ∧ jdP t q < n ∧ mayT T n (jdD t q) (jdP t q) = true) : jdR n m t (f + 1) q T a b = jdR n m t f (q + 1) (mkT T (jdP t q) (jdD t q)) (a + prT T (jdP t q) (jdD t q)) (b + T 8 (jdD t q)) := if_pos h
theorem jdR_f {n m : Nat} {t : Int32} {f q : Nat} {T : TT} {a b : Int32} (h : ¬ ((jdD t q < m ∧ T 10 (jdD t q) = 0) ∧ jdP t q < n ∧ mayT T n (jdD t q) (jdP t q) = true)) : jdR n m t (f + 1) q T a b = (T, a, b, q) := if_neg h
theorem okD.mk {T : TT} {n m i k : Nat} (h : okD T n m) (hi : i < n) (hn : n ≤ 8) (hk : k < m) (hmay : mayT T n k i = true) : okD (mkT T i k) n m := ⟨h.1.mk hi hn hk hmay, h.2.1, h.2.2⟩
theorem may_alk {T T' : TT} {n k i : Nat} (e : alk T T') : mayT T' n k i = mayT T n k i := mayT_same e
theorem TW_al {M : Mem} {T : TT} {t n m : Nat} (hn : n ≤ 8) (hm : m ≤ 10) (h : okD T n m) (e : alk T (view M t)) : TW M t n m := TW_w (by rw [e 15 (by omega) (by omega)]; exact h.2.1) (by rw [e 16 (by omega) (by omega)]; exact h.2.2) hn hm (h.1.alk e)
theorem py_X {M : Mem} {t o g i k : Nat} : sameX M (pyM M t o g i k) (fun z => t ≤ z ∧ z ≤ t + 15) :=
  (((sameX_I (by omega)).trans (sameX_I (by omega))).trans (((sameX_I (by omega)).trans (sameX_I (by omega))).trans (sameX_I (by omega))))
set_option maxRecDepth 100000 in
set_option maxHeartbeats 4000000 in
theorem l_judgeEnd {M N : Mem} {n m N0 q : Nat} {t a b : Int32} {T : TT} (hN0 : N0 ≤ 4) (hq : q ≤ N0) (hF : fcR M N) (hR : (jdR n m t N0 0 (view M 28) 0 0) = (T, a, b, q)) : Reach cX10_judge RX10 9 4 (RetQ cX10_judge (some .int) (fun v N => v = some (.int (jBad N0 (jdR n m t N0 0 (view M 28) 0 0).2.2.2)) ∧ fcR M N ∧ row2C N (jdR n m t N0 0 (view M 28) 0 0).2.1.toInt64 (jdR n m t N0 0 (view M 28) 0 0).2.2.1.toInt64)) 114 [some (.ref 0), some (.int (nI N0)), some (.int t), some (.int a), some (.int b), some (.int (nI q)), none, none, none] [] N := by
  refine rx_aload_n (i := 0) dX10_judge_114 rfl rfl ?_
  refine rx_getR 4 (k := 1) fo_X10_19 kl_0 (by decide) ti_10_1 (by decide) rfl dX10_judge_115 ?_
  refine rx_iload_n (i := 3) dX10_judge_118 rfl rfl ?_
  refine rx_i2l dX10_judge_119 rfl ?_
  refine rx_iload (i := 4) dX10_judge_120 rfl ?_
  refine rx_i2l dX10_judge_122 rfl ?_
  refine rx_cvN (ci := 7) mo_X7_tell_ lk_X10_221 c_X7_tell_ (by decide) rfl rfl (Nat.le_of_ble_eq_true rfl) kl_4 rfl dX10_judge_123 ?_
  refine rx_iload (i := 5) dX10_judge_126 rfl ?_
  refine rx_iload_n (i := 1) dX10_judge_128 rfl rfl ?_
  refine rx_icmp_ne (tgt := 137) dX10_judge_129 (by decide) (fun c129 => ?_) (fun c129 => ?_)
  · skip
    have e129 : ¬ q = N0 := fun z => c129 (by rw [z])
    refine rx_iload (i := 5) dX10_judge_137 rfl ?_
    first | exact rx_iret dX10_judge_139 ⟨by rw [hR]; exact congrArg (fun z => some (Value.int z)) (if_neg e129).symm, hF.trans fcR_r2, by rw [hR]; exact r2_row⟩ | exact rx_iret dX10_judge_139 ⟨by rw [hR]; exact congrArg (fun z => some (Value.int z)) (if_pos e129).symm, hF.trans fcR_r2, by rw [hR]; exact r2_row⟩
  · skip
    have e129 : q = N0 := (nI_eq (by omega) (by omega)).mp c129
    refine rx_bipush (-2) dX10_judge_132 rfl ?_
    refine rx_goto (tgt := 139) dX10_judge_134 (by decide) ?_
    first | exact rx_iret dX10_judge_139 ⟨by rw [hR]; exact congrArg (fun z => some (Value.int z)) (if_neg e129).symm, hF.trans fcR_r2, by rw [hR]; exact r2_row⟩ | exact rx_iret dX10_judge_139 ⟨by rw [hR]; exact congrArg (fun z => some (Value.int z)) (if_pos e129).symm, hF.trans fcR_r2, by rw [hR]; exact r2_row⟩
set_option maxRecDepth 100000 in
set_option maxHeartbeats 4000000 in
theorem l_judge10 {M : Mem} {n m : Nat} {t : Int32} {N0 : Nat} (hn8 : n ≤ 8) (hm10 : m ≤ 10) (hN0 : N0 ≤ 4) : ∀ (N : Nat) (q : Nat) (T : TT) (a : Int32) (b : Int32) (N1 : Mem), (q ≤ N0) → (okD T n m) → (alk T (view N1 44)) → (sameX M N1 (fun z => 44 ≤ z ∧ z ≤ 59)) → (jdR n m t (N0 - q) q T a b = (jdR n m t N0 0 (view M 28) 0 0)) → N0 - q < N → Reach cX10_judge RX10 9 4 (RetQ cX10_judge (some .int) (fun v N => v = some (.int (jBad N0 (jdR n m t N0 0 (view M 28) 0 0).2.2.2)) ∧ fcR M N ∧ row2C N (jdR n m t N0 0 (view M 28) 0 0).2.1.toInt64 (jdR n m t N0 0 (view M 28) 0 0).2.2.1.toInt64)) 30 [some (.ref 0), some (.int (nI N0)), some (.int t), some (.int a), some (.int b), some (.int (nI q)), none, none, none] [] (N1) := by
  intro N
  induction N with
  | zero => intro q T a b N1 hq hk hv hX hR hm; exact absurd ‹_ < 0› (Nat.not_lt_zero _)
  | succ N ih =>
    intro q T a b N1 hq hk hv hX hR hm
    refine rx_iload (i := 5) dX10_judge_30 rfl ?_
    refine rx_iload_n (i := 1) dX10_judge_32 rfl rfl ?_
    refine rx_icmp_ge (tgt := 114) dX10_judge_33 (by decide) (fun c33 => ?_) (fun c33 => ?_)
    · skip
      have f33 := Int32.not_lt.mpr c33
      have e33 : q = N0 := by have := (nI_leI (by omega) (by omega)).mp c33; omega
      subst e33
      have hend := l_judgeEnd hN0 (Nat.le_refl q) (hX.CK (fun a h => by unfold scr; omega)).1 (by rw [← hR, Nat.sub_self]; rfl)
      exact hend
      skip
    · skip
      have f33 := Int32.not_le.mp c33
      have e33 : q < N0 := Nat.lt_of_not_le fun z => c33 (nI_le z (by omega))
      have hR2 : jdR n m t (N0 - (q + 1) + 1) q T a b = (jdR n m t N0 0 (view M 28) 0 0) := by rw [← hR]; congr 1; omega
      have hw := TW_al hn8 hm10 hk hv
      have hO44 : OKS (view N1 44) n m := hk.1.alk hv
      obtain ⟨j1, j2, j3, j4⟩ := jd_eq (t := t) (q := q)
      have e10 : N1.1 55 (jdD t q) = T 10 (jdD t q) := congrFun (hv 10 (by omega) (by omega)) _
      refine rx_iload_n (i := 2) dX10_judge_36 rfl rfl ?_
      refine rx_bipush (8) dX10_judge_37 rfl ?_
      refine rx_iload (i := 5) dX10_judge_39 rfl ?_
      refine rx_imul dX10_judge_41 ?_
      refine rx_top (nI (8 * q)) (by rw [show (8 : Int32) = nI 8 from rfl, pk_mul]) ?_
      refine rx_iushr dX10_judge_42 rfl ?_
      refine rx_sipush (255) dX10_judge_43 rfl ?_
      refine rx_iand dX10_judge_46 ?_
      refine rx_top (t >>> (nI (8 * q) &&& 31) &&& 255) (ush_255 (by omega)) ?_
      refine rx_istore (i := 6) dX10_judge_47 (by decide) rfl rfl ?_
      refine rx_iload (i := 6) dX10_judge_49 rfl ?_
      refine rx_iconst (4) dX10_judge_51 rfl ?_
      refine rx_iushr dX10_judge_52 rfl ?_
      refine rx_top (nI (jdD t q)) (jd_u) ?_
      refine rx_istore (i := 7) dX10_judge_53 (by decide) rfl rfl ?_
      refine rx_iload (i := 6) dX10_judge_55 rfl ?_
      refine rx_bipush (15) dX10_judge_57 rfl ?_
      refine rx_iand dX10_judge_59 ?_
      refine rx_top (nI (jdP t q)) (j2) ?_
      refine rx_istore (i := 8) dX10_judge_60 (by decide) rfl rfl ?_
      refine rx_aload_n (i := 0) dX10_judge_62 rfl rfl ?_
      refine rx_getR 44 (k := 3) fo_X10_30 kl_0 (by decide) ti_10_3 (by decide) rfl dX10_judge_63 ?_
      refine rx_iload (i := 8) dX10_judge_66 rfl ?_
      refine rx_iload (i := 7) dX10_judge_68 rfl ?_
      by_cases hc : (jdD t q < m ∧ T 10 (jdD t q) = 0) ∧ jdP t q < n
      · skip
        refine rx_cvI (ci := 8) mo_X8_canPay lk_X10_236 (c_X8_canPay it44 hw hc.2 hc.1.1 (e10.trans hc.1.2) (fun j hj => by rw [onL_T]; exact hO44.T.bb j hj) hO44.2.2.1) (by decide) rfl rfl (Nat.le_of_ble_eq_true rfl) kl_44 rfl dX10_judge_70 ?_
        have hX2 : sameX M (mkL N1 44 n) (fun z => 44 ≤ z ∧ z ≤ 59) := hX.trans (sameX_L (by omega))
        have hv2 : alk T (view (mkL N1 44 n) 44) := hv.trans (fun c h5 h20 => view_same (fun c' h1 h2 => by funext j; exact mkL_o (by omega)) c h5 h20)
        refine rx_top ((zI (mayT T n (jdD t q) (jdP t q)))) (congrArg zI ((mayL_T hw hc.1.1 hc.2).trans (may_alk hv))) ?_
        refine rx_if_ne (tgt := 79) dX10_judge_73 (by decide) (fun c73 => ?_) (fun c73 => ?_)
        · skip
          have e73 : mayT T n (jdD t q) (jdP t q) = true := zI_n c73
          rw [jdR_t ⟨hc.1, hc.2, e73⟩] at hR2
          obtain ⟨o, g, ho, hg, hog, eo, eg⟩ := hw.2.2.2.2 _ hc.1.1
          have hw2 := TW_al hn8 hm10 hk hv2
          refine rx_iload_n (i := 3) dX10_judge_79 rfl rfl ?_
          refine rx_aload_n (i := 0) dX10_judge_80 rfl rfl ?_
          refine rx_getR 44 (k := 3) fo_X10_30 kl_0 (by decide) ti_10_3 (by decide) rfl dX10_judge_81 ?_
          refine rx_iload (i := 8) dX10_judge_84 rfl ?_
          refine rx_iload (i := 7) dX10_judge_86 rfl ?_
          refine rx_cvI (ci := 8) mo_X8_makePayment lk_X10_243 (c_X8_makePayment it44 hw2 hc.2 hc.1.1 ho hg ((mkL_o (by omega)).trans eo) ((mkL_o (by omega)).trans eg)) (by decide) rfl rfl (Nat.le_of_ble_eq_true rfl) kl_44 rfl dX10_judge_88 ?_
          refine rx_top (prT T (jdP t q) (jdD t q)) (by rw [priceM_T]; unfold prT; rw [hv2 2 (by omega) (by omega), hv2 1 (by omega) (by omega), hv2 8 (by omega) (by omega)]) ?_
          refine rx_iadd dX10_judge_91 ?_
          refine rx_istore_n (i := 3) dX10_judge_92 rfl (by decide) rfl rfl ?_
          refine rx_iload (i := 4) dX10_judge_93 rfl ?_
          refine rx_aload_n (i := 0) dX10_judge_95 rfl rfl ?_
          refine rx_getR 44 (k := 3) fo_X10_30 kl_0 (by decide) ti_10_3 (by decide) rfl dX10_judge_96 ?_
          refine rx_getR 53 (k := 8) fo_X10_166 kl_44 (by decide) ti_8_8 (by decide) rfl dX10_judge_99 ?_
          refine rx_iload (i := 7) dX10_judge_102 rfl ?_
          refine rx_ialdN kl_53 (by omega) (by first | decide | omega) dX10_judge_104 ?_
          refine rx_top (T 8 (jdD t q)) (((sI_na (by omega)).trans ((sI_na (by omega)).trans ((sI_na (by omega)).trans ((shM_o (by omega)).trans (mkL_o (by omega)))))).trans (congrFun (hv 8 (by omega) (by omega)) _)) ?_
          refine rx_iadd dX10_judge_105 ?_
          refine rx_istore (i := 4) dX10_judge_106 (by decide) rfl rfl ?_
          first | refine rx_iincN (i := 5) dX10_judge_108 rfl (by decide) rfl rfl ?_ | refine rx_iinc (i := 5) dX10_judge_108 rfl rfl (by decide) rfl rfl ?_
          refine rx_goto (tgt := 30) dX10_judge_111 (by decide) ?_
          refine rx_drop 8 ?_
          refine rx_drop 7 ?_
          refine rx_drop 6 ?_
          exact ih (q + 1) _ _ _ _ (by omega) (hk.mk hc.2 hn8 hc.1.1 e73) ((mk_alk hv2).trans (view_py (by rw [hv2 6 (by omega) (by omega)] ; exact (congrFun (hv 6 (by omega) (by omega)).symm _).trans eo) (by rw [hv2 7 (by omega) (by omega)]; exact (congrFun (hv 7 (by omega) (by omega)).symm _).trans eg) (by omega) (by omega))) (hX2.trans (py_X.weaken fun a h => h)) hR2 (by omega)
        · skip
          have e73 : mayT T n (jdD t q) (jdP t q) = false := zI_0.mp c73
          rw [jdR_f (fun z => by rw [e73] at z; cases z.2.2)] at hR2
          have hend := l_judgeEnd hN0 hq (hX2.CK (fun a h => by unfold scr; omega)).1 hR2.symm
          refine rx_goto (tgt := 114) dX10_judge_76 (by decide) ?_
          refine rx_drop 8 ?_
          refine rx_drop 7 ?_
          refine rx_drop 6 ?_
          exact hend
      · skip
        refine rx_cvI (ci := 8) mo_X8_canPay lk_X10_236 (c_X8_canPay_no it44 hw (fun z => hc ⟨⟨(nI_ltI (by omega) (by omega)).mp (hw.2.2.1 ▸ z.2.1.2), e10.symm.trans (by have := z.2.2; rw [nI_clamp (by omega)] at this; exact this)⟩, (nI_ltI (by omega) (by omega)).mp (hw.1 ▸ z.1.2)⟩)) (by decide) rfl rfl (Nat.le_of_ble_eq_true rfl) kl_44 rfl dX10_judge_70 ?_
        rw [jdR_f (fun z => hc ⟨z.1, z.2.1⟩)] at hR2
        have hend := l_judgeEnd hN0 hq (hX.CK (fun a h => by unfold scr; omega)).1 hR2.symm
        refine rx_if_ne (tgt := 79) dX10_judge_73 (by decide) (fun c73 => absurd c73 (by decide)) (fun c73 => ?_)
        refine rx_goto (tgt := 114) dX10_judge_76 (by decide) ?_
        refine rx_drop 8 ?_
        refine rx_drop 7 ?_
        refine rx_drop 6 ?_
        exact hend
set_option maxRecDepth 100000 in
set_option maxHeartbeats 4000000 in
theorem c_X10_judge {M : Mem} {n m : Nat} (w : TW M 28 n m) (hO : OKS (view M 28) n m) {t : Int32} {N0 : Nat} (hN0 : N0 ≤ 4) : Con yX10_judge cX10_judge 9 (some .int) 4 [.ref 0, .int (nI N0), .int t] M (fun v N => v = some (.int (jBad N0 (jdR n m t N0 0 (view M 28) 0 0).2.2.2)) ∧ fcR M N ∧ row2C N (jdR n m t N0 0 (view M 28) 0 0).2.1.toInt64 (jdR n m t N0 0 (view M 28) 0 0).2.2.1.toInt64) := by
  refine Con.of (own := RX10) (ls := [some (.ref 0), some (.int (nI N0)), some (.int t), none, none, none, none, none, none]) rfl (by decide +kernel) (Nat.le_of_ble_eq_true rfl) rfl ?_
  have ⟨hn, hn8, hm, hm10, hd⟩ := w
  refine rx_iload_n (i := 1) dX10_judge_0 rfl rfl ?_
  refine rx_if_lt (tgt := 9) dX10_judge_1 (by decide) (fun c1 => ?_) (fun c1 => ?_)
  · skip
    exact absurd (nI_pos' (by omega)) (Int32.not_le.mpr c1)
    skip
  · skip
    refine rx_iload_n (i := 1) dX10_judge_4 rfl rfl ?_
    refine rx_iconst (4) dX10_judge_5 rfl ?_
    refine rx_icmp_le (tgt := 11) dX10_judge_6 (by decide) (fun c6 => ?_) (fun c6 => ?_)
    · skip
      refine rx_aload_n (i := 0) dX10_judge_11 rfl rfl ?_
      refine rx_getR 44 (k := 3) fo_X10_30 kl_0 (by decide) ti_10_3 (by decide) rfl dX10_judge_12 ?_
      refine rx_aload_n (i := 0) dX10_judge_15 rfl rfl ?_
      refine rx_getR 28 (k := 2) fo_X10_26 kl_0 (by decide) ti_10_2 (by decide) rfl dX10_judge_16 ?_
      refine rx_cvN (ci := 8) mo_X8_copyFrom lk_X10_250 (c_X8_copyFrom it44 it28 (by decide)) (by decide) rfl rfl (Nat.le_of_ble_eq_true rfl) kl_44 rfl dX10_judge_19 ?_
      refine rx_iconst (0) dX10_judge_22 rfl ?_
      refine rx_istore_n (i := 3) dX10_judge_23 rfl (by decide) rfl rfl ?_
      refine rx_iconst (0) dX10_judge_24 rfl ?_
      refine rx_istore (i := 4) dX10_judge_25 (by decide) rfl rfl ?_
      refine rx_iconst (0) dX10_judge_27 rfl ?_
      refine rx_istore (i := 5) dX10_judge_28 (by decide) rfl rfl ?_
      refine l_judge10 hn8 hm10 hN0 (N0 + 1) 0 (view M 28) 0 0 (cpM M 44 28) (Nat.zero_le _) ⟨hO, hn, hm⟩ (fun c h5 h20 => view_cp c h5 h20) ⟨fun a ha => cpM_o (by omega), rfl⟩ rfl (by omega)
    · skip
      exact absurd (nI_le (b := 4) hN0 (by omega)) c6
      skip
set_option maxRecDepth 100000 in
set_option maxHeartbeats 4000000 in
theorem c_X10_judge_no {M : Mem} {y t : Int32} (hx : ¬ (0 ≤ y ∧ y ≤ 4)) : Fun yX10_judge cX10_judge 9 (some .int) 4 [.ref 0, .int y, .int t] M (some (.int (-1))) (M) := by
  refine Fun.of (own := RX10) ([some (.ref 0), some (.int y), some (.int t), none, none, none, none, none, none]) rfl (by decide +kernel) (Nat.le_of_ble_eq_true rfl) rfl ?_
  refine rx_iload_n (i := 1) dX10_judge_0 rfl rfl ?_
  refine rx_if_lt (tgt := 9) dX10_judge_1 (by decide) (fun c1 => ?_) (fun c1 => ?_)
  · skip
    have f1 := Int32.not_le.mpr c1
    refine rx_iconst (-1) dX10_judge_9 rfl ?_
    exact rx_fiI dX10_judge_10 rfl rfl
  · skip
    have f1 := Int32.not_lt.mp c1
    refine rx_iload_n (i := 1) dX10_judge_4 rfl rfl ?_
    refine rx_iconst (4) dX10_judge_5 rfl ?_
    refine rx_icmp_le (tgt := 11) dX10_judge_6 (by decide) (fun c6 => ?_) (fun c6 => ?_)
    · skip
      have f6 := Int32.not_lt.mpr c6
      exact absurd ⟨Int32.not_lt.mp c1, c6⟩ hx
      skip
    · skip
      have f6 := Int32.not_le.mp c6
      refine rx_iconst (-1) dX10_judge_9 rfl ?_
      exact rx_fiI dX10_judge_10 rfl rfl
/-- pairs gone through by the class: the lesser ahead of a, or it is a and the greater ahead of b -/
def prC (n a b i j : Nat) : Bool := (!(decide (i = j)) && decide (max i j < n)) && (decide (min i j < a) || (decide (min i j = a) && decide (max i j < b)))
theorem prC_b {n a b i j : Nat} (hb : a < b) (hn : b < n) : prC n a (b + 1) i j = (prC n a b i j || (decide (i = a ∧ j = b) || decide (i = b ∧ j = a))) := by
  unfold prC
  rw [Bool.eq_iff_iff]
  simp only [Bool.and_eq_true, Bool.or_eq_true, Bool.not_eq_true', decide_eq_false_iff_not, decide_eq_true_eq]
  rcases Nat.lt_or_ge i j with h | h
  · rw [Nat.max_eq_right (by omega), Nat.min_eq_left (by omega)]; omega
  · rw [Nat.max_eq_left (by omega), Nat.min_eq_right (by omega)]; omega
theorem prC_a {n a i j : Nat} : prC n (a + 1) (a + 2) i j = prC n a n i j := by
  unfold prC
  rw [Bool.eq_iff_iff]
  simp only [Bool.and_eq_true, Bool.or_eq_true, Bool.not_eq_true', decide_eq_false_iff_not, decide_eq_true_eq]
  rcases Nat.lt_or_ge i j with h | h
  · rw [Nat.max_eq_right (by omega), Nat.min_eq_left (by omega)]; omega
  · rw [Nat.max_eq_left (by omega), Nat.min_eq_right (by omega)]; omega
theorem prC_0 {n i j : Nat} : prC n 0 1 i j = false := by
  unfold prC
  rw [Bool.eq_false_iff]
  simp only [ne_eq, Bool.and_eq_true, Bool.or_eq_true, Bool.not_eq_true', decide_eq_false_iff_not, decide_eq_true_eq]
  rcases Nat.lt_or_ge i j with h | h
  · rw [Nat.max_eq_right (by omega), Nat.min_eq_left (by omega)]; omega
  · rw [Nat.max_eq_left (by omega), Nat.min_eq_right (by omega)]; omega
theorem prC_n {n a i j : Nat} (h : n ≤ a) : prC n a (a + 1) i j = prA n 0 i j := by
  unfold prC prA
  rw [Bool.eq_iff_iff]
  simp only [Bool.and_eq_true, Bool.or_eq_true, Bool.not_eq_true', decide_eq_false_iff_not, decide_eq_true_eq]
  rcases Nat.lt_or_ge i j with h | h
  · rw [Nat.max_eq_right (by omega), Nat.min_eq_left (by omega)]; omega
  · rw [Nat.max_eq_left (by omega), Nat.min_eq_right (by omega)]; omega
/-- the same sums by rows -/
def sumC (f : Nat → Int32) (a : Nat) : Nat → Int32
  | 0 => 0
  | c + 1 => sumC f a c + net2 f a (a + 1 + c)
def totC (f : Nat → Int32) (n : Nat) : Nat → Int32
  | 0 => 0
  | a + 1 => totC f n a + sumC f a (n - (a + 1))
theorem totC_S {f : Nat → Int32} {n : Nat} : ∀ {k : Nat}, k ≤ n → totC f (n + 1) k = totC f n k + fsum (fun a => net2 f a n) k
  | 0, _ => by simp only [totC, fsum]; rw [Int32.add_zero]
  | k + 1, hk => by
    simp only [totC, fsum]
    rw [totC_S (k := k) (by omega), show n + 1 - (k + 1) = n - (k + 1) + 1 by omega, sumC, show k + 1 + (n - (k + 1)) = n by omega]
    rw [Int32.add_assoc, Int32.add_assoc, ← Int32.add_assoc (fsum _ k), Int32.add_comm (fsum _ k), Int32.add_assoc]
theorem net2_c {f : Nat → Int32} {a b : Nat} : net2 f a b = net2 f b a := by unfold net2; rw [mn2i_comm]
theorem totC_n {f : Nat → Int32} : ∀ {n : Nat}, totC f n n = netS f n
  | 0 => rfl
  | n + 1 => by
    have h : totC f (n + 1) (n + 1) = totC f (n + 1) n + sumC f n (n + 1 - (n + 1)) := rfl
    rw [h, Nat.sub_self, totC_S (Nat.le_refl n), totC_n (n := n)]
    show netS f n + fsum (fun a => net2 f a n) n + 0 = netS f n + fsum (fun b => net2 f n b) n
    rw [Int32.add_zero, fsum_congr (fun a _ => net2_c)]
theorem prC_no1 {n a b : Nat} (h : a < b) : prC n a b a b = false := by
  unfold prC
  rw [Nat.max_eq_right (by omega), Nat.min_eq_left (by omega)]
  simp
theorem prC_no2 {n a b : Nat} (h : a < b) : prC n a b b a = false := by
  unfold prC
  rw [Nat.max_eq_left (by omega), Nat.min_eq_right (by omega)]
  simp
theorem soM_A {M : Mem} {f : Nat → Int32} {P P' : Nat → Nat → Bool} {a b : Nat} (ha : a < 8) (hb : b < 8) (hab : a ≠ b) (h : ∀ i j, P' i j = (P i j || (decide (i = a ∧ j = b) || decide (i = b ∧ j = a)))) (h0 : P a b = false) (h1 : P b a = false) :
    soM (setA M 41 (netF f P)) 28 (8 * a + b) (8 * b + a) = setA M 41 (netF f P') ∧ 2 * (if (setA M 41 (netF f P)).1 41 (8 * b + a) < (setA M 41 (netF f P)).1 41 (8 * a + b) then (setA M 41 (netF f P)).1 41 (8 * b + a) else (setA M 41 (netF f P)).1 41 (8 * a + b)) = net2 f a b := by
  have e1 : (setA M 41 (netF f P)).1 41 (8 * a + b) = f (8 * a + b) := (congrFun setA_eq _).trans (netF_at hb h0)
  have e2 : (setA M 41 (netF f P)).1 41 (8 * b + a) = f (8 * b + a) := (congrFun setA_eq _).trans (netF_at ha h1)
  have hne : 8 * b + a ≠ 8 * a + b := by omega
  refine ⟨?_, by rw [e1, e2]; rfl⟩
  rw [netF_s ha hb hab h h0 h1]
  unfold soM
  dsimp only
  rw [show (28 : Nat) + 13 = 41 by rfl, e1, e2, sI_ne (fun z => hne z.2), e2, setI_A, setI_A]
  rfl
set_option maxRecDepth 100000 in
set_option maxHeartbeats 4000000 in
theorem l_netsC {M : Mem} {n m : Nat} (w : TW M 28 n m) {a : Nat} (ha : a < n) {s0 : Int32} {QQ : Nat → List (Option Value) → List Value → Mem → Prop} (K : Reach cX10_nets RX10 4 2 QQ 58 [some (.ref 0), some (.int (s0 + sumC (M.1 41) a (n - (a + 1)))), some (.int (nI a)), none] [] (setA M 41 (netF (M.1 41) (prC n a n)))) : ∀ (N : Nat) (b : Nat) (s : Int32), (b ≤ n) → (a < b) → (s = s0 + sumC (M.1 41) a (b - (a + 1))) → n - b < N → Reach cX10_nets RX10 4 2 (QQ) 19 [some (.ref 0), some (.int s), some (.int (nI a)), some (.int (nI b))] [] (setA M 41 (netF (M.1 41) (prC n a b))) := by
  intro N
  induction N with
  | zero => intro b s hb hab hs hm; exact absurd ‹_ < 0› (Nat.not_lt_zero _)
  | succ N ih =>
    intro b s hb hab hs hm
    have ⟨hn, hn8, hm, hm10, hd⟩ := w
    refine rx_iload_n (i := 3) dX10_nets_19 rfl rfl ?_
    refine rx_aload_n (i := 0) dX10_nets_20 rfl rfl ?_
    refine rx_getR 28 (k := 2) fo_X10_26 kl_0 (by decide) ti_10_2 (by decide) rfl dX10_nets_21 ?_
    refine rx_getI (k := 15) fo_X10_184 kl_28 (by decide) ti_8_15 dX10_nets_24 ?_
    refine rx_top (nI n) ((setA_oo (by omega)).trans hn) ?_
    refine rx_icmp_ge (tgt := 58) dX10_nets_27 (by decide) (fun c27 => ?_) (fun c27 => ?_)
    · skip
      have f27 := Int32.not_lt.mpr c27
      have e27 : b = n := by have := (nI_leI (by omega) (by omega)).mp c27; omega
      subst e27
      subst hs
      refine rx_drop 3 ?_
      exact K
      skip
    · skip
      have f27 := Int32.not_le.mp c27
      have e27 : b < n := Nat.lt_of_not_le fun q => c27 (nI_le q (by omega))
      have hso := soM_A (M := M) (f := M.1 41) (P := prC n a b) (P' := prC n a (b + 1)) (a := a) (b := b) (by omega) (by omega) (by omega) (fun i j => prC_b hab e27) (prC_no1 hab) (prC_no2 hab)
      refine rx_iload_n (i := 1) dX10_nets_30 rfl rfl ?_
      refine rx_aload_n (i := 0) dX10_nets_31 rfl rfl ?_
      refine rx_getR 28 (k := 2) fo_X10_26 kl_0 (by decide) ti_10_2 (by decide) rfl dX10_nets_32 ?_
      refine rx_iload_n (i := 2) dX10_nets_35 rfl rfl ?_
      refine rx_bipush (8) dX10_nets_36 rfl ?_
      refine rx_imul dX10_nets_38 ?_
      refine rx_iload_n (i := 3) dX10_nets_39 rfl rfl ?_
      refine rx_iadd dX10_nets_40 ?_
      refine rx_top (nI (8 * a + b)) (ix8 a b) ?_
      refine rx_iload_n (i := 3) dX10_nets_41 rfl rfl ?_
      refine rx_bipush (8) dX10_nets_42 rfl ?_
      refine rx_imul dX10_nets_44 ?_
      refine rx_iload_n (i := 2) dX10_nets_45 rfl rfl ?_
      refine rx_iadd dX10_nets_46 ?_
      refine rx_top (nI (8 * b + a)) (ix8 b a) ?_
      refine rx_cvI (ci := 8) mo_X8_setOff lk_X10_257 (c_X8_setOff it28 (by omega) (by omega)) (by decide) rfl rfl (Nat.le_of_ble_eq_true rfl) kl_28 rfl dX10_nets_47 ?_
      rw [hso.1]
      refine rx_top (net2 (M.1 41) a b) (hso.2) ?_
      refine rx_iadd dX10_nets_50 ?_
      refine rx_istore_n (i := 1) dX10_nets_51 rfl (by decide) rfl rfl ?_
      first | refine rx_iincN (i := 3) dX10_nets_52 rfl (by decide) rfl rfl ?_ | refine rx_iinc (i := 3) dX10_nets_52 rfl rfl (by decide) rfl rfl ?_
      refine rx_goto (tgt := 19) dX10_nets_55 (by decide) ?_
      exact ih (b + 1) _ (by omega) (by omega) (by rw [hs, show b + 1 - (a + 1) = b - (a + 1) + 1 by omega, sumC, show a + 1 + (b - (a + 1)) = b by omega, Int32.add_assoc]) (by omega)
set_option maxRecDepth 100000 in
set_option maxHeartbeats 4000000 in
theorem l_netsA {M : Mem} {n m : Nat} (w : TW M 28 n m) : ∀ (N : Nat) (a : Nat) (s : Int32), (a ≤ n) → (s = totC (M.1 41) n a) → n - a < N → Reach cX10_nets RX10 4 2 (FQ cX10_nets (some .int) (some (.int (netS (M.1 41) n))) (setI (setA M 41 (netF (M.1 41) (prA n 0))) 0 14 0)) 4 [some (.ref 0), some (.int s), some (.int (nI a)), none] [] (setA M 41 (netF (M.1 41) (prC n a (a + 1)))) := by
  intro N
  induction N with
  | zero => intro a s ha hs hm; exact absurd ‹_ < 0› (Nat.not_lt_zero _)
  | succ N ih =>
    intro a s ha hs hm
    have ⟨hn, hn8, hm, hm10, hd⟩ := w
    refine rx_iload_n (i := 2) dX10_nets_4 rfl rfl ?_
    refine rx_aload_n (i := 0) dX10_nets_5 rfl rfl ?_
    refine rx_getR 28 (k := 2) fo_X10_26 kl_0 (by decide) ti_10_2 (by decide) rfl dX10_nets_6 ?_
    refine rx_getI (k := 15) fo_X10_184 kl_28 (by decide) ti_8_15 dX10_nets_9 ?_
    refine rx_top (nI n) ((setA_oo (by omega)).trans hn) ?_
    refine rx_icmp_ge (tgt := 64) dX10_nets_12 (by decide) (fun c12 => ?_) (fun c12 => ?_)
    · skip
      have f12 := Int32.not_lt.mpr c12
      have e12 : a = n := by have := (nI_leI (by omega) (by omega)).mp c12; omega
      subst e12
      have hfin : netF (M.1 41) (prC a a (a + 1)) = netF (M.1 41) (prA a 0) := by
        funext q
        unfold netF
        rw [prC_n (Nat.le_refl a)]
      rw [hfin]
      subst hs
      refine rx_aload_n (i := 0) dX10_nets_64 rfl rfl ?_
      refine rx_cvN (ci := 10) mo_X10_forgetPayments lk_X10_110 c_X10_forgetPayments (by decide) rfl rfl (Nat.le_of_ble_eq_true rfl) kl_0 rfl dX10_nets_65 ?_
      refine rx_iload_n (i := 1) dX10_nets_68 rfl rfl ?_
      exact rx_fiI dX10_nets_69 totC_n rfl
    · skip
      have f12 := Int32.not_le.mp c12
      have e12 : a < n := Nat.lt_of_not_le fun q => c12 (nI_le q (by omega))
      refine rx_iload_n (i := 2) dX10_nets_15 rfl rfl ?_
      refine rx_iconst (1) dX10_nets_16 rfl ?_
      refine rx_iadd dX10_nets_17 ?_
      refine rx_top (nI (a + 1)) ((nI_succ a).symm) ?_
      refine rx_istore_n (i := 3) dX10_nets_18 rfl (by decide) rfl rfl ?_
      refine l_netsC w e12 (s0 := s) ?_ (n + 1) (a + 1) s (by omega) (by omega) (by rw [Nat.sub_self]; exact (Int32.add_zero s).symm) (by omega)
      first | refine rx_iincN (i := 2) dX10_nets_58 rfl (by decide) rfl rfl ?_ | refine rx_iinc (i := 2) dX10_nets_58 rfl rfl (by decide) rfl rfl ?_
      refine rx_goto (tgt := 4) dX10_nets_61 (by decide) ?_
      have hst : netF (M.1 41) (prC n a n) = netF (M.1 41) (prC n (a + 1) (a + 1 + 1)) := by
        funext q
        unfold netF
        rw [prC_a]
      rw [hst]
      exact ih (a + 1) _ (by omega) (by rw [hs]; rfl) (by omega)
set_option maxRecDepth 100000 in
set_option maxHeartbeats 4000000 in
theorem c_X10_nets {M : Mem} {n m : Nat} (w : TW M 28 n m) : Fun yX10_nets cX10_nets 4 (some .int) 2 [.ref 0] M (some (.int (netS (M.1 41) n))) (setI (setA M 41 (netF (M.1 41) (prA n 0))) 0 14 0) := by
  refine Fun.of (own := RX10) ([some (.ref 0), none, none, none]) rfl (by decide +kernel) (Nat.le_of_ble_eq_true rfl) rfl ?_
  refine rx_iconst (0) dX10_nets_0 rfl ?_
  refine rx_istore_n (i := 1) dX10_nets_1 rfl (by decide) rfl rfl ?_
  refine rx_iconst (0) dX10_nets_2 rfl ?_
  refine rx_istore_n (i := 2) dX10_nets_3 rfl (by decide) rfl rfl ?_
  have h := l_netsA w (n + 1) 0 0 (Nat.zero_le _) rfl (by omega)
  rw [show netF (M.1 41) (prC n 0 (0 + 1)) = M.1 41 from by
    funext q
    unfold netF
    rw [prC_0]
    rfl, setA_id] at h
  exact h
