theorem VS_mk {M : Mem} {T : TT} {n m : Nat} {x : Int32} (h : VS M T n m x) {s : Nat} (hs : s < (vsX T n m x).1.2.N) : M.1 24 s = (vsX T n m x).1.2.mk s ∧ M.1 25 s = (vsX T n m x).1.2.pr s := by
  obtain ⟨tb, -, -, a3, -⟩ := h.2.2.2.2.2.1
  exact ⟨(a3 s hs).1, (a3 s hs).2.2.2.2.1⟩
set_option maxRecDepth 100000 in
set_option maxHeartbeats 4000000 in
theorem l_X10_tellPayments {M M0 : Mem} {n m : Nat} {x : Int32} (hVS : VS M (view M0 28) n m x) (hO : OKS (view M0 28) n m) (hn8 : n ≤ 8) (hm10 : m ≤ 10) {D : Nat → Nat × Nat × Nat} (hC : CX (view M0 28) n m (thV (view M0 28) m x) (vsX (view M0 28) n m x).1.2 D) {b : Nat} (hb : b < (vsX (view M0 28) n m x).1.2.N) : ∀ (N : Nat) (q : Nat) (N1 : Mem), (q ≤ (pcS (vsX (view M0 28) n m x).1.2 b)) → (fcR M N1) → (rowNC N1 q (fun q => (nI (pyD D b ((pcS (vsX (view M0 28) n m x).1.2 b) - 1 - q))).toInt64)) → (pcS (vsX (view M0 28) n m x).1.2 b) - q < N → Reach cX10_tellPayments RX10 4 2 (RetQ cX10_tellPayments none (fun v N => v = none ∧ fcR M N ∧ rowNC N (pcS (vsX (view M0 28) n m x).1.2 b) (fun q => (nI (pyD D b ((pcS (vsX (view M0 28) n m x).1.2 b) - 1 - q))).toInt64))) 22 [some (.ref 0), some (.int (nI b)), some (.int (nI (pcS (vsX (view M0 28) n m x).1.2 b))), some (.int (nI q))] [] (N1) := by
  intro N
  induction N with
  | zero => intro q N1 hq hf hr hm; exact absurd ‹_ < 0› (Nat.not_lt_zero _)
  | succ N ih =>
    intro q N1 hq hf hr hm
    have htk : thOK (view M0 28) m (thV (view M0 28) m x) := thV_OK hm10
    have hSN : (vsX (view M0 28) n m x).1.2.N ≤ 3000 := hC.2.2.2.1
    have hl10 : (pcS (vsX (view M0 28) n m x).1.2 b) ≤ 10 := pcN_le
    refine rx_iload_n (i := 3) dX10_tellPayments_22 rfl rfl ?_
    refine rx_iload_n (i := 2) dX10_tellPayments_23 rfl rfl ?_
    refine rx_icmp_ge (tgt := 54) dX10_tellPayments_24 (by decide) (fun c24 => ?_) (fun c24 => ?_)
    · skip
      have f24 := Int32.not_lt.mpr c24
      have e24 : q = (pcS (vsX (view M0 28) n m x).1.2 b) := by have := (nI_leI (by omega) (by omega)).mp c24; omega
      exact rx_vret dX10_tellPayments_54 ⟨rfl, hf, e24 ▸ hr⟩
    · skip
      have f24 := Int32.not_le.mp c24
      have e24 : q < (pcS (vsX (view M0 28) n m x).1.2 b) := Nat.lt_of_not_le fun z => c24 (nI_le z (by omega))
      have hj : (pcS (vsX (view M0 28) n m x).1.2 b) - 1 - q < (pcS (vsX (view M0 28) n m x).1.2 b) := by omega
      obtain ⟨r1, r2⟩ := row_mod htk hn8 hm10 hO hC.1 hC.2.1 hb hj
      obtain ⟨k1, i1, o1, g1, h1, h2, h3⟩ := lq_og htk hn8 hO r2
      have eo : view M0 28 6 (D (anc D b ((pcS (vsX (view M0 28) n m x).1.2 b) - 1 - q))).2.1 = nI (oK (view M0 28) (D (anc D b ((pcS (vsX (view M0 28) n m x).1.2 b) - 1 - q))).2.1) := by
        obtain ⟨-, -, o, g, ho, hg, hog, eo, eg⟩ := hO.2.2.2 _ k1
        unfold oK; rw [eo, nI_clamp (by omega)]
      have eg := (kv_m hn8 hO k1).1
      have hVN := VS_fr hVS hf
      refine rx_aload_n (i := 0) dX10_tellPayments_27 rfl rfl ?_
      refine rx_getR 4 (k := 1) fo_X10_19 kl_0 (by decide) ti_10_1 (by decide) rfl dX10_tellPayments_28 ?_
      refine rx_aload_n (i := 0) dX10_tellPayments_31 rfl rfl ?_
      refine rx_getR 19 (k := 10) fo_X10_70 kl_0 (by decide) ti_10_10 (by decide) rfl dX10_tellPayments_32 ?_
      refine rx_iload_n (i := 1) dX10_tellPayments_35 rfl rfl ?_
      refine rx_iload_n (i := 2) dX10_tellPayments_36 rfl rfl ?_
      refine rx_iconst (1) dX10_tellPayments_37 rfl ?_
      refine rx_isub dX10_tellPayments_38 ?_
      refine rx_iload_n (i := 3) dX10_tellPayments_39 rfl rfl ?_
      refine rx_isub dX10_tellPayments_40 ?_
      refine rx_top (nI ((pcS (vsX (view M0 28) n m x).1.2 b) - 1 - q)) (by rw [show (1 : Int32) = nI 1 from rfl, pk_sub (by omega), pk_sub (by omega)]) ?_
      refine rx_cvI (ci := 5) mo_X5_payment lk_X10_327 (c_X5_payment hVN hO hn8 hm10 hb (b := (pcS (vsX (view M0 28) n m x).1.2 b) - 1 - q) (by omega) k1 (by omega) (o := oK (view M0 28) (D (anc D b ((pcS (vsX (view M0 28) n m x).1.2 b) - 1 - q))).2.1) (g := gK (view M0 28) (D (anc D b ((pcS (vsX (view M0 28) n m x).1.2 b) - 1 - q))).2.1) (by omega) (by omega) h2 h3 h1 eo eg r1) (by decide) rfl rfl (Nat.le_of_ble_eq_true rfl) kl_19 rfl dX10_tellPayments_41 ?_
      refine rx_top (nI (pyD D b ((pcS (vsX (view M0 28) n m x).1.2 b) - 1 - q))) (rfl) ?_
      refine rx_i2l dX10_tellPayments_44 rfl ?_
      refine rx_cvN (ci := 7) mo_X7_add lk_X10_330 (c_X7_add hr.1 (by omega)) (by decide) rfl rfl (Nat.le_of_ble_eq_true rfl) kl_4 rfl dX10_tellPayments_45 ?_
      first | refine rx_iincN (i := 3) dX10_tellPayments_48 rfl (by decide) rfl rfl ?_ | refine rx_iinc (i := 3) dX10_tellPayments_48 rfl rfl (by decide) rfl rfl ?_
      refine rx_goto (tgt := 22) dX10_tellPayments_51 (by decide) ?_
      exact ih (q + 1) (adR N1 q (nI (pyD D b ((pcS (vsX (view M0 28) n m x).1.2 b) - 1 - q))).toInt64) (by omega) (hf.trans fcR_ad) (rowNC_ad hr rfl) (by omega)
set_option maxRecDepth 100000 in
set_option maxHeartbeats 4000000 in
theorem c_X10_tellPayments {M M0 : Mem} {n m : Nat} {x : Int32} (hVS : VS M (view M0 28) n m x) (hO : OKS (view M0 28) n m) (hn8 : n ≤ 8) (hm10 : m ≤ 10) {D : Nat → Nat × Nat × Nat} (hC : CX (view M0 28) n m (thV (view M0 28) m x) (vsX (view M0 28) n m x).1.2 D) {b : Nat} (hb : b < (vsX (view M0 28) n m x).1.2.N) : Con yX10_tellPayments cX10_tellPayments 4 none 2 [.ref 0, .int (nI b)] M (fun v N => v = none ∧ fcR M N ∧ rowNC N (pcS (vsX (view M0 28) n m x).1.2 b) (fun q => (nI (pyD D b ((pcS (vsX (view M0 28) n m x).1.2 b) - 1 - q))).toInt64)) := by
  refine Con.of (own := RX10) (ls := [some (.ref 0), some (.int (nI b)), none, none]) rfl (by decide +kernel) (Nat.le_of_ble_eq_true rfl) rfl ?_
  have htk : thOK (view M0 28) m (thV (view M0 28) m x) := thV_OK hm10
  have hSN : (vsX (view M0 28) n m x).1.2.N ≤ 3000 := hC.2.2.2.1
  have hl10 : (pcS (vsX (view M0 28) n m x).1.2 b) ≤ 10 := pcN_le
  refine rx_aload_n (i := 0) dX10_tellPayments_0 rfl rfl ?_
  refine rx_getR 19 (k := 10) fo_X10_70 kl_0 (by decide) ti_10_10 (by decide) rfl dX10_tellPayments_1 ?_
  refine rx_getR 24 (k := 5) fo_X10_319 kl_19 (by decide) ti_5_5 (by decide) rfl dX10_tellPayments_4 ?_
  refine rx_iload_n (i := 1) dX10_tellPayments_7 rfl rfl ?_
  refine rx_ialdN kl_24 (by omega) (by first | decide | omega) dX10_tellPayments_8 ?_
  refine rx_top ((vsX (view M0 28) n m x).1.2.mk b) ((VS_mk hVS hb).1) ?_
  refine rx_csI mo_J6_bitCount_0f7a4 lk_X10_322 c_J6_bitCount_0f7a4 (by decide) rfl rfl (Nat.le_of_ble_eq_true rfl) dX10_tellPayments_9 ?_
  refine rx_top (nI (pcS (vsX (view M0 28) n m x).1.2 b)) (bcS htk hm10 hC.1 hb) ?_
  refine rx_istore_n (i := 2) dX10_tellPayments_12 rfl (by decide) rfl rfl ?_
  refine rx_aload_n (i := 0) dX10_tellPayments_13 rfl rfl ?_
  refine rx_getR 4 (k := 1) fo_X10_19 kl_0 (by decide) ti_10_1 (by decide) rfl dX10_tellPayments_14 ?_
  refine rx_cvN (ci := 7) mo_X7_clear lk_X10_212 c_X7_clear (by decide) rfl rfl (Nat.le_of_ble_eq_true rfl) kl_4 rfl dX10_tellPayments_17 ?_
  refine rx_iconst (0) dX10_tellPayments_20 rfl ?_
  refine rx_istore_n (i := 3) dX10_tellPayments_21 rfl (by decide) rfl rfl ?_
  refine (l_X10_tellPayments hVS hO hn8 hm10 hC hb ((pcS (vsX (view M0 28) n m x).1.2 b) + 1) 0 (setI M 4 1 0) (Nat.zero_le _) fcR_clr ⟨sI_eq, fun q hq => absurd hq (Nat.not_lt_zero _)⟩ (by omega))
set_option maxRecDepth 100000 in
set_option maxHeartbeats 4000000 in
theorem c_X10_all {M : Mem} {n m : Nat} {x : Int32} (w : TW M 28 n m) (hO : OKS (view M 28) n m) (hV : SV M n m) (hA : AOK (view M 28) n) (hx : 0 ≤ x ∧ x ≤ 99) : Con yX10_all cX10_all 3 (some .int) 6 [.ref 0, .int x] M (fun v N => VS N (view M 28) n m x ∧ (((vsX (view M 28) n m x).1.1 = true ∧ fcV M N ∧ ((ceN (vsX (view M 28) n m x).1.2 (thV (view M 28) m x) (vsX (view M 28) n m x).1.2.N = none ∧ v = some (.int (-2)) ∧ fcW M N) ∨ ∃ b D, ceN (vsX (view M 28) n m x).1.2 (thV (view M 28) m x) (vsX (view M 28) n m x).1.2.N = some b ∧ v = some (.int ((vsX (view M 28) n m x).1.2.pr b)) ∧ CX (view M 28) n m (thV (view M 28) m x) (vsX (view M 28) n m x).1.2 D ∧ rowNC N (pcS (vsX (view M 28) n m x).1.2 b) (fun q => (nI (pyD D b ((pcS (vsX (view M 28) n m x).1.2 b) - 1 - q))).toInt64))) ∨ ((vsX (view M 28) n m x).1.1 = false ∧ v = some (.int (-3)) ∧ fcW M N))) := by
  refine Con.of (own := RX10) (ls := [some (.ref 0), some (.int x), none]) rfl (by decide +kernel) (Nat.le_of_ble_eq_true rfl) rfl ?_
  have ⟨hn, hn8, hm, hm10, hd⟩ := w
  refine rx_iload_n (i := 1) dX10_all_0 rfl rfl ?_
  refine rx_csI mo_X10_isDay lk_X10_296 c_X10_isDay (by decide) rfl rfl (Nat.le_of_ble_eq_true rfl) dX10_all_1 ?_
  refine rx_top (1) (if_pos hx) ?_
  refine rx_if_ne (tgt := 9) dX10_all_4 (by decide) (fun c4 => ?_) (fun c4 => absurd c4 (by decide))
  refine rx_aload_n (i := 0) dX10_all_9 rfl rfl ?_
  refine rx_iload_n (i := 1) dX10_all_10 rfl rfl ?_
  refine rx_callV (ci := 10) mo_X10_visit lk_X10_299 (c_X10_visit (x := x) w hO hV) (by decide) rfl rfl (Nat.le_of_ble_eq_true rfl) kl_0 rfl dX10_all_11 ?_
  rintro _ N ⟨rfl, hVS, hst⟩
  have hW := hst.W
  refine rx_if_ne (tgt := 20) dX10_all_14 (by decide) (fun c14 => ?_) (fun c14 => ?_)
  · skip
    have hok : (vsX (view M 28) n m x).1.1 = true := zI_n c14
    have htk : thOK (view M 28) m (thV (view M 28) m x) := thV_OK hm10
    obtain ⟨⟨D, hC⟩, hPB⟩ := vis_pure htk hn8 hm10 hO hA hok
    have hSN : (vsX (view M 28) n m x).1.2.N ≤ 3000 := hC.2.2.2.1
    refine rx_aload_n (i := 0) dX10_all_20 rfl rfl ?_
    refine rx_getR 19 (k := 10) fo_X10_70 kl_0 (by decide) ti_10_10 (by decide) rfl dX10_all_21 ?_
    refine rx_cvI (ci := 5) mo_X5_cheapestEnd lk_X10_310 (c_X5_cheapestEnd hVS hO hn8 hm10) (by decide) rfl rfl (Nat.le_of_ble_eq_true rfl) kl_19 rfl dX10_all_24 ?_
    cases hce : ceN (vsX (view M 28) n m x).1.2 (thV (view M 28) m x) (vsX (view M 28) n m x).1.2.N
    · skip
      skip
      refine rx_istore_n (i := 2) dX10_all_27 rfl (by decide) rfl rfl ?_
      refine rx_iload_n (i := 2) dX10_all_28 rfl rfl ?_
      refine rx_if_ge (tgt := 35) dX10_all_29 (by decide) (fun c29 => absurd c29 (by decide)) (fun c29 => ?_)
      refine rx_bipush (-2) dX10_all_32 rfl ?_
      exact rx_iret dX10_all_34 ⟨hVS, Or.inl ⟨hok, hW.1, Or.inl ⟨rfl, rfl, hW⟩⟩⟩
    · skip
      rename_i b
      obtain ⟨hb, hbm⟩ := ceN_lt hce
      refine rx_istore_n (i := 2) dX10_all_27 rfl (by decide) rfl rfl ?_
      refine rx_iload_n (i := 2) dX10_all_28 rfl rfl ?_
      refine rx_if_ge (tgt := 35) dX10_all_29 (by decide) (fun c29 => ?_) (fun c29 => absurd (nI_pos' (by omega)) c29)
      refine rx_aload_n (i := 0) dX10_all_35 rfl rfl ?_
      refine rx_iload_n (i := 2) dX10_all_36 rfl rfl ?_
      refine rx_callV (ci := 10) mo_X10_tellPayments lk_X10_313 (c_X10_tellPayments (M0 := M) hVS hO hn8 hm10 hC hb) (by decide) rfl rfl (Nat.le_of_ble_eq_true rfl) kl_0 rfl dX10_all_37 ?_
      rintro _ N2 ⟨rfl, hf, hr⟩
      refine rx_aload_n (i := 0) dX10_all_40 rfl rfl ?_
      refine rx_getR 19 (k := 10) fo_X10_70 kl_0 (by decide) ti_10_10 (by decide) rfl dX10_all_41 ?_
      refine rx_getR 25 (k := 6) fo_X10_316 kl_19 (by decide) ti_5_6 (by decide) rfl dX10_all_44 ?_
      refine rx_iload_n (i := 2) dX10_all_47 rfl rfl ?_
      refine rx_ialdN kl_25 (by omega) (by first | decide | omega) dX10_all_48 ?_
      refine rx_top ((vsX (view M 28) n m x).1.2.pr b) ((VS_mk (VS_fr hVS hf) hb).2) ?_
      exact rx_iret dX10_all_49 ⟨VS_fr hVS hf, Or.inl ⟨hok, hW.1.trans hf.V, Or.inr ⟨b, D, rfl, rfl, hC, hr⟩⟩⟩
  · skip
    have hok : (vsX (view M 28) n m x).1.1 = false := zI_0.mp c14
    refine rx_bipush (-3) dX10_all_17 rfl ?_
    exact rx_iret dX10_all_19 ⟨hVS, Or.inr ⟨hok, rfl, hW⟩⟩
set_option maxRecDepth 100000 in
set_option maxHeartbeats 4000000 in
theorem c_X10_all_no {M : Mem} {x : Int32} (hx : ¬ (0 ≤ x ∧ x ≤ 99)) : Fun yX10_all cX10_all 3 (some .int) 6 [.ref 0, .int x] M (some (.int (-1))) (M) := by
  refine Fun.of (own := RX10) ([some (.ref 0), some (.int x), none]) rfl (by decide +kernel) (Nat.le_of_ble_eq_true rfl) rfl ?_
  refine rx_iload_n (i := 1) dX10_all_0 rfl rfl ?_
  refine rx_csI mo_X10_isDay lk_X10_296 c_X10_isDay (by decide) rfl rfl (Nat.le_of_ble_eq_true rfl) dX10_all_1 ?_
  refine rx_if_ne (tgt := 9) dX10_all_4 (by decide) (fun c4 => ?_) (fun c4 => ?_)
  · skip
    exact absurd (ite1n c4) hx
    skip
  · skip
    refine rx_iconst (-1) dX10_all_7 rfl ?_
    exact rx_fiI dX10_all_8 rfl rfl
set_option maxRecDepth 100000 in
set_option maxHeartbeats 4000000 in
theorem c_X10_ahead {M : Mem} {n m : Nat} {x : Int32} (w : TW M 28 n m) (hO : OKS (view M 28) n m) (hV : SV M n m) (hA : AOK (view M 28) n) (hx : 0 ≤ x ∧ x ≤ 99) {k : Nat} (hk : k < m) : Con yX10_ahead cX10_ahead 3 (some .int) 6 [.ref 0, .int (nI k), .int x] M (fun v N => VS N (view M 28) n m x ∧ (((vsX (view M 28) n m x).1.1 = true ∧ fcV M N ∧ v = some (.int (if anyB (adP (view M 28) n (thV (view M 28) m x) (vsX (view M 28) n m x).1.2 k) (vsX (view M 28) n m x).1.2.N = true then adF (view M 28) n (thV (view M 28) m x) (vsX (view M 28) n m x).1.2 k (vsX (view M 28) n m x).1.2.N else -2)) ∧ fcW M N) ∨ ((vsX (view M 28) n m x).1.1 = false ∧ v = some (.int (-3)) ∧ fcW M N))) := by
  refine Con.of (own := RX10) (ls := [some (.ref 0), some (.int (nI k)), some (.int x)]) rfl (by decide +kernel) (Nat.le_of_ble_eq_true rfl) rfl ?_
  have ⟨hn, hn8, hm, hm10, hd⟩ := w
  refine rx_aload_n (i := 0) dX10_ahead_0 rfl rfl ?_
  refine rx_getR 28 (k := 2) fo_X10_26 kl_0 (by decide) ti_10_2 (by decide) rfl dX10_ahead_1 ?_
  refine rx_iload_n (i := 1) dX10_ahead_4 rfl rfl ?_
  refine rx_cvI (ci := 8) mo_X8_isDebt lk_X10_157 (c_X8_isDebt it28) (by decide) rfl rfl (Nat.le_of_ble_eq_true rfl) kl_28 rfl dX10_ahead_5 ?_
  refine rx_top (1) (by rw [hm]; exact one_i hk (by omega)) ?_
  refine rx_if_eq (tgt := 18) dX10_ahead_8 (by decide) (fun c8 => absurd c8 (by decide)) (fun c8 => ?_)
  refine rx_iload_n (i := 2) dX10_ahead_11 rfl rfl ?_
  refine rx_csI mo_X10_isDay lk_X10_296 c_X10_isDay (by decide) rfl rfl (Nat.le_of_ble_eq_true rfl) dX10_ahead_12 ?_
  refine rx_top (1) (if_pos hx) ?_
  refine rx_if_ne (tgt := 20) dX10_ahead_15 (by decide) (fun c15 => ?_) (fun c15 => absurd c15 (by decide))
  refine rx_aload_n (i := 0) dX10_ahead_20 rfl rfl ?_
  refine rx_iload_n (i := 2) dX10_ahead_21 rfl rfl ?_
  refine rx_callV (ci := 10) mo_X10_visit lk_X10_299 (c_X10_visit (x := x) w hO hV) (by decide) rfl rfl (Nat.le_of_ble_eq_true rfl) kl_0 rfl dX10_ahead_22 ?_
  rintro _ N ⟨rfl, hVS, hst⟩
  have hW := hst.W
  refine rx_if_ne (tgt := 31) dX10_ahead_25 (by decide) (fun c25 => ?_) (fun c25 => ?_)
  · skip
    have hok : (vsX (view M 28) n m x).1.1 = true := zI_n c25
    have htk : thOK (view M 28) m (thV (view M 28) m x) := thV_OK hm10
    obtain ⟨⟨D, hC⟩, hPB⟩ := vis_pure htk hn8 hm10 hO hA hok
    have hSN : (vsX (view M 28) n m x).1.2.N ≤ 3000 := hC.2.2.2.1
    obtain ⟨ha1, ha2⟩ := ahead_eq htk hn8 hm10 hC hPB (show k < 10 by omega)
    have ha1 : bt (vsX (view M 28) n m x).2.1 k = true ↔ anyB (adP (view M 28) n (thV (view M 28) m x) (vsX (view M 28) n m x).1.2 k) (vsX (view M 28) n m x).1.2.N = true := ha1
    refine rx_aload_n (i := 0) dX10_ahead_31 rfl rfl ?_
    refine rx_getR 19 (k := 10) fo_X10_70 kl_0 (by decide) ti_10_10 (by decide) rfl dX10_ahead_32 ?_
    refine rx_getI (k := 11) fo_X10_336 kl_19 (by decide) ti_5_11 dX10_ahead_35 ?_
    refine rx_top ((vsX (view M 28) n m x).2.1) (hVS.2.2.2.2.2.2.2.1) ?_
    refine rx_iconst (1) dX10_ahead_38 rfl ?_
    refine rx_iload_n (i := 1) dX10_ahead_39 rfl rfl ?_
    refine rx_ishl dX10_ahead_40 ?_
    refine rx_iand dX10_ahead_41 ?_
    refine rx_if_ne (tgt := 48) dX10_ahead_42 (by decide) (fun c42 => ?_) (fun c42 => ?_)
    · skip
      try have e42 := (and_bitn _ (by omega)).mp c42
      have e42 : bt (vsX (view M 28) n m x).2.1 k = true := (and_bitn _ (by omega)).mp c42
      refine rx_aload_n (i := 0) dX10_ahead_48 rfl rfl ?_
      refine rx_getR 19 (k := 10) fo_X10_70 kl_0 (by decide) ti_10_10 (by decide) rfl dX10_ahead_49 ?_
      refine rx_getR 27 (k := 8) fo_X10_353 kl_19 (by decide) ti_5_8 (by decide) rfl dX10_ahead_52 ?_
      refine rx_iload_n (i := 1) dX10_ahead_55 rfl rfl ?_
      refine rx_ialdN kl_27 (by omega) (by first | decide | omega) dX10_ahead_56 ?_
      refine rx_top (adF (view M 28) n (thV (view M 28) m x) (vsX (view M 28) n m x).1.2 k (vsX (view M 28) n m x).1.2.N) ((hVS.2.2.2.2.2.2.2.2 k (by omega)).trans (ha2 e42)) ?_
      exact rx_iret dX10_ahead_57 ⟨hVS, Or.inl ⟨hok, hW.1, by rw [if_pos (ha1.mp e42)], hW⟩⟩
    · skip
      try have e42 := (and_bit _ (by omega)).mp c42
      have e42 : bt (vsX (view M 28) n m x).2.1 k = false := (and_bit _ (by omega)).mp c42
      refine rx_bipush (-2) dX10_ahead_45 rfl ?_
      exact rx_iret dX10_ahead_47 ⟨hVS, Or.inl ⟨hok, hW.1, by rw [if_neg (fun z => absurd (ha1.mpr z) (by rw [e42]; decide))], hW⟩⟩
  · skip
    have hok : (vsX (view M 28) n m x).1.1 = false := zI_0.mp c25
    refine rx_bipush (-3) dX10_ahead_28 rfl ?_
    exact rx_iret dX10_ahead_30 ⟨hVS, Or.inr ⟨hok, rfl, hW⟩⟩
set_option maxRecDepth 100000 in
set_option maxHeartbeats 4000000 in
theorem c_X10_ahead_no {M : Mem} {n m : Nat} (w : TW M 28 n m) {y x : Int32} (hx : ¬ ((0 ≤ y ∧ y < nI m) ∧ 0 ≤ x ∧ x ≤ 99)) : Fun yX10_ahead cX10_ahead 3 (some .int) 6 [.ref 0, .int y, .int x] M (some (.int (-1))) (M) := by
  refine Fun.of (own := RX10) ([some (.ref 0), some (.int y), some (.int x)]) rfl (by decide +kernel) (Nat.le_of_ble_eq_true rfl) rfl ?_
  have ⟨hn, hn8, hm, hm10, hd⟩ := w
  refine rx_aload_n (i := 0) dX10_ahead_0 rfl rfl ?_
  refine rx_getR 28 (k := 2) fo_X10_26 kl_0 (by decide) ti_10_2 (by decide) rfl dX10_ahead_1 ?_
  refine rx_iload_n (i := 1) dX10_ahead_4 rfl rfl ?_
  refine rx_cvI (ci := 8) mo_X8_isDebt lk_X10_157 (c_X8_isDebt it28) (by decide) rfl rfl (Nat.le_of_ble_eq_true rfl) kl_28 rfl dX10_ahead_5 ?_
  rw [hm]
  refine rx_if_eq (tgt := 18) dX10_ahead_8 (by decide) (fun c8 => ?_) (fun c8 => ?_)
  · skip
    refine rx_iconst (-1) dX10_ahead_18 rfl ?_
    exact rx_fiI dX10_ahead_19 rfl rfl
  · skip
    have e8 := ite1n c8
    refine rx_iload_n (i := 2) dX10_ahead_11 rfl rfl ?_
    refine rx_csI mo_X10_isDay lk_X10_296 c_X10_isDay (by decide) rfl rfl (Nat.le_of_ble_eq_true rfl) dX10_ahead_12 ?_
    refine rx_if_ne (tgt := 20) dX10_ahead_15 (by decide) (fun c15 => ?_) (fun c15 => ?_)
    · skip
      exact absurd ⟨e8, ite1n c15⟩ hx
      skip
    · skip
      refine rx_iconst (-1) dX10_ahead_18 rfl ?_
      exact rx_fiI dX10_ahead_19 rfl rfl
