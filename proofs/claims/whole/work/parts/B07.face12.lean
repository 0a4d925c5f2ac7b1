theorem bt_shl {v : Int32} {c j : Nat} (hc : c < 32) (hj : j < 32) : bt (v <<< (nI c &&& 31)) j = (decide (c ≤ j) && bt v (j - c)) := by
  unfold bt
  rw [Int32.toBitVec_shiftLeft, BitVec.shiftLeft_eq', BitVec.getLsbD_shiftLeft, (by decide +kernel : ∀ c, c < 32 → ((nI c &&& 31).toBitVec.smod 32).toNat = c) c hc]
  by_cases h : c ≤ j
  · simp [h, hj]
  · simp [h, hj]
theorem b_15 : ∀ i, i < 32 → bt 15 i = decide (i < 4) := by decide +kernel
theorem mxI_nI {f : Nat → Int32} {C : Nat} (hC : C < 2 ^ 31) : ∀ {e : Nat}, (∀ q, q < e → ∃ k, k ≤ C ∧ f q = nI k) → ∃ k, k ≤ C ∧ mxI f e = nI k
  | 0, _ => ⟨0, Nat.zero_le _, rfl⟩
  | e + 1, h => by
    simp only [mxI]
    split
    · exact h e (by omega)
    · exact mxI_nI hC (e := e) (fun q hq => h q (by omega))
theorem mpS_10 {T : TT} {n m : Nat} {x : Int32} {j : Nat} (hn : n ≤ 8) (hm : m ≤ 10) (hO : OKS T n m) (hA : AOK T n) (hok : (vsS T n m x j).1 = true) : ∃ k, k ≤ 10 ∧ mpS T n m x j = nI k := by
  have htk : thOK (setT T 14 0 (nI j)) m (thV T m x) := thV_OK (T := setT T 14 0 (nI j)) hm
  obtain ⟨⟨D, hC⟩, -⟩ := vis_pure htk hn hm (show OKS (setT T 14 0 (nI j)) n m from hO) (show AOK (setT T 14 0 (nI j)) n from hA) hok
  exact mxI_nI (by omega) fun q hq => ⟨_, pcN_le, bcS htk hm hC.1 hq⟩
/-- four bits each -/
theorem nib {f : Nat → Int32} {ms : Int32} {q : Nat} (hq : q < 4) (hb : ∀ j, j < 16 → bt ms j = bt (f (j / 4)) (j % 4)) (hf : ∃ k, k ≤ 10 ∧ f q = nI k) : ush ms (nI (4 * q)) &&& 15 = f q := by
  obtain ⟨k, hk, e⟩ := hf
  refine b_ext fun i hi => ?_
  rw [b_and, b_15 i hi, bt_ush (by omega)]
  by_cases h : i < 4
  · rw [hb _ (by omega), show (4 * q + i) / 4 = q by omega, show (4 * q + i) % 4 = i by omega]
    simp [h]
  · have : bt (f q) i = false := by
      rw [e]
      have ht : ∀ k, k ≤ 10 → ∀ i, i < 32 → 4 ≤ i → bt (nI k) i = false := by decide +kernel
      exact ht k hk i hi (by omega)
    rw [this]
    simp [h]
set_option maxRecDepth 100000 in
set_option maxHeartbeats 4000000 in
theorem l_sortsTell {M K0 : Mem} {n m : Nat} {x ms gr : Int32} (hSV : SV K0 n m) (hW : fcW M K0) (hoks : ∀ j, j < 4 → (vsS (view M 28) n m x j).1 = true) (hb : ∀ j, j < 16 → bt ms j = bt (mpS (view M 28) n m x (j / 4)) (j % 4)) (hk : ∀ j, j < 4 → ∃ k, k ≤ 10 ∧ mpS (view M 28) n m x j = nI k) : ∀ (N : Nat) (q : Nat) (N1 : Mem), (q ≤ 4) → (fcR K0 N1) → (rowNC N1 q (fun q => (mpS (view M 28) n m x q).toInt64)) → 4 - q < N → Reach cX10_sorts RX10 7 5 (RetQ cX10_sorts (some .int) (fun v N => SV N n m ∧ (((∀ j, j < 4 → (vsS (view M 28) n m x j).1 = true) ∧ v = some (.int (nI (bstF (mpS (view M 28) n m x) 4))) ∧ fcV M N ∧ rowNC N 4 (fun q => (mpS (view M 28) n m x q).toInt64)) ∨ ((∃ j, j < 4 ∧ (vsS (view M 28) n m x j).1 = false) ∧ v = some (.int (-3)) ∧ fcW M N)))) 94 [some (.ref 0), some (.int x), some (.int ms), some (.int (nI (bstF (mpS (view M 28) n m x) 4))), some (.int gr), some (.int (nI q)), none] [] (N1) := by
  intro N
  induction N with
  | zero => intro q N1 hq hf hr hm; exact absurd ‹_ < 0› (Nat.not_lt_zero _)
  | succ N ih =>
    intro q N1 hq hf hr hm
    refine rx_iload (i := 5) dX10_sorts_94 rfl ?_
    refine rx_iconst (4) dX10_sorts_96 rfl ?_
    refine rx_icmp_ge (tgt := 123) dX10_sorts_97 (by decide) (fun c97 => ?_) (fun c97 => ?_)
    · skip
      have f97 := Int32.not_lt.mpr c97
      have e97 : q = 4 := by have := (nI_leI (a := 4) (by omega) (by omega)).mp c97; omega
      subst e97
      refine rx_iload_n (i := 3) dX10_sorts_123 rfl rfl ?_
      exact rx_iret dX10_sorts_124 ⟨SV_fr hSV hf, Or.inl ⟨hoks, rfl, hW.1.trans hf.V, hr⟩⟩
    · skip
      have f97 := Int32.not_le.mp c97
      have e97 : q < 4 := Nat.lt_of_not_le fun z => c97 (nI_le (a := 4) z (by omega))
      refine rx_aload_n (i := 0) dX10_sorts_100 rfl rfl ?_
      refine rx_getR 4 (k := 1) fo_X10_19 kl_0 (by decide) ti_10_1 (by decide) rfl dX10_sorts_101 ?_
      refine rx_iload_n (i := 2) dX10_sorts_104 rfl rfl ?_
      refine rx_iconst (4) dX10_sorts_105 rfl ?_
      refine rx_iload (i := 5) dX10_sorts_106 rfl ?_
      refine rx_imul dX10_sorts_108 ?_
      refine rx_top (nI (4 * q)) (by rw [show (4 : Int32) = nI 4 from rfl, pk_mul]) ?_
      refine rx_iushr dX10_sorts_109 rfl ?_
      refine rx_bipush (15) dX10_sorts_110 rfl ?_
      refine rx_iand dX10_sorts_112 ?_
      refine rx_top (mpS (view M 28) n m x q) (nib e97 hb (hk q e97)) ?_
      refine rx_i2l dX10_sorts_113 rfl ?_
      refine rx_cvN (ci := 7) mo_X7_add lk_X10_330 (c_X7_add hr.1 (by omega)) (by decide) rfl rfl (Nat.le_of_ble_eq_true rfl) kl_4 rfl dX10_sorts_114 ?_
      first | refine rx_iincN (i := 5) dX10_sorts_117 rfl (by decide) rfl rfl ?_ | refine rx_iinc (i := 5) dX10_sorts_117 rfl rfl (by decide) rfl rfl ?_
      refine rx_goto (tgt := 94) dX10_sorts_120 (by decide) ?_
      exact ih (q + 1) (adR N1 q (mpS (view M 28) n m x q).toInt64) (by omega) (hf.trans fcR_ad) (rowNC_ad hr rfl) (by omega)
set_option maxRecDepth 100000 in
set_option maxHeartbeats 4000000 in
theorem l_X10_sorts {M : Mem} {n m : Nat} {x : Int32} (w : TW M 28 n m) (hO : OKS (view M 28) n m) (hV : SV M n m) (hA : AOK (view M 28) n) : ∀ (N : Nat) (s : Nat) (ms : Int32) (gr : Int32) (fi : Int32) (N1 : Mem), (s ≤ 4) → (stV M N1) → (SV N1 n m) → (∀ j, j < s → (vsS (view M 28) n m x j).1 = true) → (∀ j, j < 16 → bt ms j = (decide (j / 4 < s) && bt (mpS (view M 28) n m x (j / 4)) (j % 4))) → ((s = 0 ∧ gr = -1) ∨ (0 < s ∧ gr = mpS (view M 28) n m x (bstF (mpS (view M 28) n m x) s)))  → (fi = nI (bstF (mpS (view M 28) n m x) s)) → 4 - s < N → Reach cX10_sorts RX10 7 5 (RetQ cX10_sorts (some .int) (fun v N => SV N n m ∧ (((∀ j, j < 4 → (vsS (view M 28) n m x j).1 = true) ∧ v = some (.int (nI (bstF (mpS (view M 28) n m x) 4))) ∧ fcV M N ∧ rowNC N 4 (fun q => (mpS (view M 28) n m x q).toInt64)) ∨ ((∃ j, j < 4 ∧ (vsS (view M 28) n m x j).1 = false) ∧ v = some (.int (-3)) ∧ fcW M N)))) 19 [some (.ref 0), some (.int x), some (.int ms), some (.int fi), some (.int gr), some (.int (nI s)), none] [] (N1) := by
  intro N
  induction N with
  | zero => intro s ms gr fi N1 hs hst hS1 hoks hb hg hfi hm; exact absurd ‹_ < 0› (Nat.not_lt_zero _)
  | succ N ih =>
    intro s ms gr fi N1 hs hst hS1 hoks hb hg hfi hm
    have ⟨hn, hn8, hm, hm10, hd⟩ := w
    have stW := hst.W.1
    have stW2 := hst.W
    refine rx_iload (i := 5) dX10_sorts_19 rfl ?_
    refine rx_iconst (4) dX10_sorts_21 rfl ?_
    refine rx_icmp_ge (tgt := 84) dX10_sorts_22 (by decide) (fun c22 => ?_) (fun c22 => ?_)
    · skip
      have e22 : s = 4 := by have := (nI_leI (a := 4) (by omega) (by omega)).mp c22; omega
      subst hfi
      subst e22
      have hb4 : ∀ j, j < 16 → bt ms j = bt (mpS (view M 28) n m x (j / 4)) (j % 4) := fun j hj => by
        rw [hb j hj]
        have : j / 4 < 4 := by omega
        simp [this]
      refine rx_aload_n (i := 0) dX10_sorts_84 rfl rfl ?_
      refine rx_getR 4 (k := 1) fo_X10_19 kl_0 (by decide) ti_10_1 (by decide) rfl dX10_sorts_85 ?_
      refine rx_cvN (ci := 7) mo_X7_clear lk_X10_212 c_X7_clear (by decide) rfl rfl (Nat.le_of_ble_eq_true rfl) kl_4 rfl dX10_sorts_88 ?_
      refine rx_iconst (0) dX10_sorts_91 rfl ?_
      refine rx_istore (i := 5) dX10_sorts_92 (by decide) rfl rfl ?_
      refine (l_sortsTell (K0 := N1) hS1 stW2 hoks hb4 (fun j hj => mpS_10 hn8 hm10 hO hA (hoks j hj)) 5 0 (setI N1 4 1 0) (Nat.zero_le _) fcR_clr ⟨sI_eq, fun q hq => absurd hq (Nat.not_lt_zero _)⟩ (by omega))
    · skip
      have e22 : s < 4 := Nat.lt_of_not_le fun z => c22 (nI_le (a := 4) z (by omega))
      refine rx_aload_n (i := 0) dX10_sorts_25 rfl rfl ?_
      refine rx_getR 19 (k := 10) fo_X10_70 kl_0 (by decide) ti_10_10 (by decide) rfl dX10_sorts_26 ?_
      refine rx_aload_n (i := 0) dX10_sorts_29 rfl rfl ?_
      refine rx_getR 28 (k := 2) fo_X10_26 kl_0 (by decide) ti_10_2 (by decide) rfl dX10_sorts_30 ?_
      refine rx_iload (i := 5) dX10_sorts_33 rfl ?_
      refine rx_iload_n (i := 1) dX10_sorts_35 rfl rfl ?_
      refine rx_callV (ci := 5) mo_X5_visit lk_X10_292 (c_X5_visit (srt := nI s) (d := x) (stW.tw w) (by rw [show view N1 28 = view M 28 from funext fun c => funext fun j => by unfold view; split; exact hst.1 _ _ (by omega); exact hst.1 _ _ (by omega)]; exact hO) hS1.1 hS1.2.1) (by decide) rfl rfl (Nat.le_of_ble_eq_true rfl) kl_19 rfl dX10_sorts_36 ?_
      rintro _ N2 ⟨rfl, hVS, hst2⟩
      have ev : view N1 28 = view M 28 := by
        funext c j
        unfold view
        split
        · exact hst.1 _ _ (by omega)
        · exact hst.1 _ _ (by omega)
      rw [ev] at hVS ⊢
      have hVS0 := hVS
      have eok : (vsX (setT (view M 28) 14 0 (nI s)) n m x).1 = vsS (view M 28) n m x s := rfl
      rw [eok]
      have hst3 := hst.trans hst2
      have hSV2 : SV N2 n m := by
        have e2 : view N2 28 = view M 28 := by
          funext c j
          unfold view
          split
          · exact hst3.1 _ _ (by omega)
          · exact hst3.1 _ _ (by omega)
        rw [← e2] at hVS
        exact VS_sv hVS hn8 hm10
      refine rx_if_ne (tgt := 45) dX10_sorts_39 (by decide) (fun c39 => ?_) (fun c39 => ?_)
      · skip
        have hok : (vsS (view M 28) n m x s).1 = true := zI_n c39
        obtain ⟨kk, hkk, ekk⟩ := mpS_10 (x := x) (j := s) hn8 hm10 hO hA hok
        refine rx_aload_n (i := 0) dX10_sorts_45 rfl rfl ?_
        refine rx_getR 19 (k := 10) fo_X10_70 kl_0 (by decide) ti_10_10 (by decide) rfl dX10_sorts_46 ?_
        refine rx_cvI (ci := 5) mo_X5_mostPaid lk_X10_307 (c_X5_mostPaid hVS0 (show OKS (setT (view M 28) 14 0 (nI s)) n m from hO) hn8 hm10) (by decide) rfl rfl (Nat.le_of_ble_eq_true rfl) kl_19 rfl dX10_sorts_49 ?_
        refine rx_top (mpS (view M 28) n m x s) (rfl) ?_
        refine rx_istore (i := 6) dX10_sorts_52 (by decide) rfl rfl ?_
        refine rx_iload_n (i := 2) dX10_sorts_54 rfl rfl ?_
        refine rx_iload (i := 6) dX10_sorts_55 rfl ?_
        refine rx_iconst (4) dX10_sorts_57 rfl ?_
        refine rx_iload (i := 5) dX10_sorts_58 rfl ?_
        refine rx_imul dX10_sorts_60 ?_
        refine rx_top (nI (4 * s)) (by rw [show (4 : Int32) = nI 4 from rfl, pk_mul]) ?_
        refine rx_ishl dX10_sorts_61 ?_
        refine rx_ior dX10_sorts_62 ?_
        have hbs : ∀ j, j < 16 → bt (ms ||| mpS (view M 28) n m x s <<< (nI (4 * s) &&& 31)) j = (decide (j / 4 < s + 1) && bt (mpS (view M 28) n m x (j / 4)) (j % 4)) := fun j hj => by
          rw [b_or, hb j hj, bt_shl (by omega) (by omega)]
          by_cases h1 : j / 4 < s
          · have h2 : ¬ 4 * s ≤ j := by omega
            have h3 : j / 4 < s + 1 := by omega
            simp [h1, h2, h3]
          · by_cases h2 : j / 4 = s
            · have h3 : 4 * s ≤ j := by omega
              have h4 : j / 4 < s + 1 := by omega
              rw [h2, show j - 4 * s = j % 4 by omega]
              simp [h3]
            · have h4 : ¬ j / 4 < s + 1 := by omega
              have h5 : bt (mpS (view M 28) n m x s) (j - 4 * s) = false := by
                rw [ekk]
                have ht : ∀ k, k ≤ 10 → ∀ i, i < 16 → 4 ≤ i → bt (nI k) i = false := by decide +kernel
                exact ht kk hkk _ (by omega) (by omega)
              simp [h1, h4, h5]
        refine rx_istore_n (i := 2) dX10_sorts_63 rfl (by decide) rfl rfl ?_
        refine rx_iload (i := 6) dX10_sorts_64 rfl ?_
        refine rx_iload (i := 4) dX10_sorts_66 rfl ?_
        refine rx_icmp_le (tgt := 78) dX10_sorts_68 (by decide) (fun c68 => ?_) (fun c68 => ?_)
        · skip
          have e68 : bstF (mpS (view M 28) n m x) (s + 1) = bstF (mpS (view M 28) n m x) s ∧ 0 < s ∧ gr = mpS (view M 28) n m x (bstF (mpS (view M 28) n m x) s) := by
            rcases hg with ⟨h1, h2⟩ | ⟨h1, h2⟩
            · rw [h2, ekk, i_le, nI_toInt (by omega), show (-1 : Int32).toInt = -1 from rfl] at c68
              omega
            · exact ⟨if_neg (Int32.not_lt.mpr (by rw [← h2]; exact c68)), h1, h2⟩
          first | refine rx_iincN (i := 5) dX10_sorts_78 rfl (by decide) rfl rfl ?_ | refine rx_iinc (i := 5) dX10_sorts_78 rfl rfl (by decide) rfl rfl ?_
          refine rx_goto (tgt := 19) dX10_sorts_81 (by decide) ?_
          refine rx_drop 6 ?_
          exact ih (s + 1) _ _ _ N2 (by omega) hst3 hSV2 (fun j hj => by
            by_cases z : j = s
            · rw [z]; exact hok
            · exact hoks j (by omega)) hbs (Or.inr ⟨by omega, by rw [e68.1]; exact e68.2.2⟩) (by rw [e68.1]; exact hfi) (by omega)
        · skip
          have e68 : bstF (mpS (view M 28) n m x) (s + 1) = s := by
            rcases hg with ⟨h1, h2⟩ | ⟨h1, h2⟩
            · subst h1; exact if_neg (Int32.not_lt.mpr (Int32.le_refl _))
            · exact if_pos (by rw [← h2]; exact Int32.not_le.mp c68)
          refine rx_iload (i := 6) dX10_sorts_71 rfl ?_
          refine rx_istore (i := 4) dX10_sorts_73 (by decide) rfl rfl ?_
          refine rx_iload (i := 5) dX10_sorts_75 rfl ?_
          refine rx_istore_n (i := 3) dX10_sorts_77 rfl (by decide) rfl rfl ?_
          first | refine rx_iincN (i := 5) dX10_sorts_78 rfl (by decide) rfl rfl ?_ | refine rx_iinc (i := 5) dX10_sorts_78 rfl rfl (by decide) rfl rfl ?_
          refine rx_goto (tgt := 19) dX10_sorts_81 (by decide) ?_
          refine rx_drop 6 ?_
          exact ih (s + 1) _ _ _ N2 (by omega) hst3 hSV2 (fun j hj => by
            by_cases z : j = s
            · rw [z]; exact hok
            · exact hoks j (by omega)) hbs (Or.inr ⟨by omega, by rw [e68]⟩) (by rw [e68]) (by omega)
      · skip
        have hok : (vsS (view M 28) n m x s).1 = false := zI_0.mp c39
        refine rx_bipush (-3) dX10_sorts_42 rfl ?_
        exact rx_iret dX10_sorts_44 ⟨hSV2, Or.inr ⟨⟨s, e22, hok⟩, rfl, hst3.W⟩⟩
set_option maxRecDepth 100000 in
set_option maxHeartbeats 4000000 in
theorem c_X10_sorts {M : Mem} {n m : Nat} {x : Int32} (w : TW M 28 n m) (hO : OKS (view M 28) n m) (hV : SV M n m) (hA : AOK (view M 28) n) (hx : 0 ≤ x ∧ x ≤ 99) : Con yX10_sorts cX10_sorts 7 (some .int) 5 [.ref 0, .int x] M (fun v N => SV N n m ∧ (((∀ j, j < 4 → (vsS (view M 28) n m x j).1 = true) ∧ v = some (.int (nI (bstF (mpS (view M 28) n m x) 4))) ∧ fcV M N ∧ rowNC N 4 (fun q => (mpS (view M 28) n m x q).toInt64)) ∨ ((∃ j, j < 4 ∧ (vsS (view M 28) n m x j).1 = false) ∧ v = some (.int (-3)) ∧ fcW M N))) := by
  refine Con.of (own := RX10) (ls := [some (.ref 0), some (.int x), none, none, none, none, none]) rfl (by decide +kernel) (Nat.le_of_ble_eq_true rfl) rfl ?_
  refine rx_iload_n (i := 1) dX10_sorts_0 rfl rfl ?_
  refine rx_csI mo_X10_isDay lk_X10_296 c_X10_isDay (by decide) rfl rfl (Nat.le_of_ble_eq_true rfl) dX10_sorts_1 ?_
  refine rx_top (1) (if_pos hx) ?_
  refine rx_if_ne (tgt := 9) dX10_sorts_4 (by decide) (fun c4 => ?_) (fun c4 => absurd c4 (by decide))
  refine rx_iconst (0) dX10_sorts_9 rfl ?_
  refine rx_istore_n (i := 2) dX10_sorts_10 rfl (by decide) rfl rfl ?_
  refine rx_iconst (0) dX10_sorts_11 rfl ?_
  refine rx_istore_n (i := 3) dX10_sorts_12 rfl (by decide) rfl rfl ?_
  refine rx_iconst (-1) dX10_sorts_13 rfl ?_
  refine rx_istore (i := 4) dX10_sorts_14 (by decide) rfl rfl ?_
  refine rx_iconst (0) dX10_sorts_16 rfl ?_
  refine rx_istore (i := 5) dX10_sorts_17 (by decide) rfl rfl ?_
  exact l_X10_sorts w hO hV hA 5 0 0 (-1) 0 M (Nat.zero_le _) stV.refl hV (fun j hj => absurd hj (Nat.not_lt_zero _)) (fun j hj => by rw [b_0]; simp) (Or.inl ⟨rfl, rfl⟩) rfl (by omega)
set_option maxRecDepth 100000 in
set_option maxHeartbeats 4000000 in
theorem c_X10_sorts_no {M : Mem} {x : Int32} (hx : ¬ (0 ≤ x ∧ x ≤ 99)) : Fun yX10_sorts cX10_sorts 7 (some .int) 5 [.ref 0, .int x] M (some (.int (-1))) (M) := by
  refine Fun.of (own := RX10) ([some (.ref 0), some (.int x), none, none, none, none, none]) rfl (by decide +kernel) (Nat.le_of_ble_eq_true rfl) rfl ?_
  refine rx_iload_n (i := 1) dX10_sorts_0 rfl rfl ?_
  refine rx_csI mo_X10_isDay lk_X10_296 c_X10_isDay (by decide) rfl rfl (Nat.le_of_ble_eq_true rfl) dX10_sorts_1 ?_
  refine rx_if_ne (tgt := 9) dX10_sorts_4 (by decide) (fun c4 => ?_) (fun c4 => ?_)
  · skip
    exact absurd (ite1n c4) hx
    skip
  · skip
    refine rx_iconst (-1) dX10_sorts_7 rfl ?_
    exact rx_fiI dX10_sorts_8 rfl rfl
