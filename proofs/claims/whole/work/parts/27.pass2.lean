
theorem view_S {M : Mem} {t c : Nat} {x : Int32} (h : 15 ≤ c) : view (setI M t c x) t = setS (view M t) c x := by
  funext c' j'
  simp only [view, setS, setI]
  by_cases h1 : c' < 15
  · rw [if_pos h1, if_pos h1, if_neg (by omega), if_neg (by omega)]
  · rw [if_neg h1, if_neg h1]
    by_cases h2 : c' = c
    · rw [if_pos ⟨trivial, h2⟩, if_pos h2]
    · rw [if_neg (fun q => h2 q.2), if_neg h2]
theorem alk_setS {T T' : TT} {c : Nat} {x : Int32} (h : alk T T') : alk (setS T c x) (setS T' c x) := by
  intro c' h5 h20
  funext j'
  simp only [setS, h c' h5 h20]
theorem alk.noon {T T' : TT} {n : Nat} (h : alk T T') : alk (noonT T n) (noonT T' n) := by
  intro c h5 h20
  funext j
  simp only [noonT, h 0 (by omega) (by omega), h 3 (by omega) (by omega), h c h5 h20]

set_option maxRecDepth 100000 in
set_option maxHeartbeats 4000000 in
theorem l_pass_out {t : Nat} (ht : isTown t) {M0 : Mem} {n m z : Nat} (hn8 : n ≤ 8) (hm10 : m ≤ 10) (hz : M0.1 7 2 = nI z) (hz40 : z ≤ 40) {S : Nat → Int32} (hS : M0.1 8 = S) {N0 : Nat} (hN : N0 < 2 ^ 31) {s0 : DS} (hO0 : okD s0.1 n m) : ∀ (N : Nat) (e : Nat) (M1 : Mem), (e ≤ N0) → (dyM M0 M1 t (daysT S z n m s0 e)) → N0 - e < N → Reach cX0_pass RX0 9 5 (RetQ cX0_pass none (fun _ N => dyM M0 N t (daysT S z n m s0 N0))) 23 [some (.ref 17), some (.ref t), some (.ref 7), some (.int (nI N0)), some (.int (nI e)), none, none, none, none] [] (M1) := by
  intro N
  induction N with
  | zero => intro e M1 he hd hm; exact absurd ‹_ < 0› (Nat.not_lt_zero _)
  | succ N ih =>
    intro e M1 he hd hm
    have hge := town_ge ht
    have hO : okD (daysT S z n m s0 e).1 n m := hO0.days hn8 e
    obtain ⟨hal, p1, p2, p3, p4, hs⟩ := hd
    have w1 : TW M1 t n m := TW_of hal hO.1 hO.2.1 hO.2.2 hn8 hm10
    have hz1 : M1.1 7 2 = nI z := by rw [hs.1 7 (by unfold pD; omega)]; exact hz
    have hS1 : M1.1 8 = S := by rw [hs.1 8 (by unfold pD; omega)]; exact hS
    have hOT : OKT (view M1 t) n := (hO.1.alk hal).T
    have hOn : okD (noonT (daysT S z n m s0 e).1 n) n m := hO.noon
    have hD99 : ∀ k, k < m → (noonT (daysT S z n m s0 e).1 n 9 k).toNatClampNeg ≤ 99 := fun k hk => by
      obtain ⟨-, ⟨d, e2, hd99⟩, -⟩ := hOn.1.2.2.2 k hk
      rw [e2, nI_clamp (by omega)]; exact hd99
    have w2 : TW (cnL M1 t n) t n m := TW_of (hal.noon.trans view_cn) hOn.1 hOn.2.1 hOn.2.2 hn8 hm10
    refine rx_iload (i := 4) dX0_pass_23 rfl ?_
    refine rx_iload_n (i := 3) dX0_pass_25 rfl rfl ?_
    refine rx_icmp_ge (tgt := 184) dX0_pass_26 (by decide) (fun c26 => ?_) (fun c26 => ?_)
    · skip
      have f26 := Int32.not_lt.mpr c26
      have e26 := (nI_leI (by omega) (by omega)).mp c26
      obtain rfl : e = N0 := by omega
      exact rx_vret dX0_pass_184 ⟨hal, p1, p2, p3, p4, hs⟩
    · skip
      have f26 := Int32.not_le.mp c26
      have e26 : e < N0 := Nat.not_le.mp fun q => c26 (nI_le q (by omega))
      refine rx_aload_n (i := 1) dX0_pass_29 rfl rfl ?_
      refine rx_cvI (ci := 8) mo_X8_countList lk_X0_28 (c_X8_countList ht w1) (by decide) rfl rfl (Nat.le_of_ble_eq_true rfl) (kt_0 ht) rfl dX0_pass_30 ?_
      refine rx_pop dX0_pass_33 rfl ?_
      refine rx_aload_n (i := 0) dX0_pass_34 rfl rfl ?_
      refine rx_aload_n (i := 1) dX0_pass_35 rfl rfl ?_
      refine rx_callV (ci := 0) mo_X0_sortDue lk_X0_34 (c_X0_sortDue (D := fun k => (noonT (daysT S z n m s0 e).1 n 9 k).toNatClampNeg) ht w2 (fun k hk => ⟨by rw [show (cnL M1 t n).1 (t + 10) k = noonT (daysT S z n m s0 e).1 n 9 k from congrFun ((hal.noon.trans view_cn) 9 (by omega) (by omega)) k]; obtain ⟨-, ⟨d, e2, hd99⟩, -⟩ := hOn.1.2.2.2 k hk; rw [e2, nI_clamp (by omega)], hD99 k hk⟩)) (by decide) rfl rfl (Nat.le_of_ble_eq_true rfl) kl_17 rfl dX0_pass_36 ?_
      rintro _ M2 ⟨hs2, l, rfl, hlm, hst, hmem, hho⟩
      have hal2 : alk (noonT (daysT S z n m s0 e).1 n) (view M2 t) := by
        refine (hal.noon.trans view_cn).trans fun c h5 h20 => ?_
        exact view_same (fun c h1 h2 => hs2.1 _ (by omega)) c h5 h20
      have hl : l = dueOf (noonT (daysT S z n m s0 e).1 n) m := by
        refine srtd_uniq hst (dueLst_srtd (by omega)) fun k => ?_
        rw [hmem k]
        unfold dueOf
        rw [dueLst_mem (D := fun k => (noonT (daysT S z n m s0 e).1 n 9 k).toNatClampNeg) hD99]
        have q10 : (cnL M1 t n).1 (t + 11) k = noonT (daysT S z n m s0 e).1 n 10 k := congrFun ((hal.noon.trans view_cn) 10 (by omega) (by omega)) k
        have q9 : (cnL M1 t n).1 (t + 10) k = noonT (daysT S z n m s0 e).1 n 9 k := congrFun ((hal.noon.trans view_cn) 9 (by omega) (by omega)) k
        have q18 : (cnL M1 t n).1 t 18 = noonT (daysT S z n m s0 e).1 n 18 0 := congrFun ((hal.noon.trans view_cn) 18 (by omega) (by omega)) 0
        rw [q10, q9, q18]
      have h17 : M2.1 17 = M1.1 17 := by rw [hs2.1 17 (by omega)]; funext j; exact cnL_o (by omega)
      refine rx_istore (i := 5) dX0_pass_39 (by decide) rfl rfl ?_
      refine rx_iconst (0) dX0_pass_41 rfl ?_
      refine rx_istore (i := 6) dX0_pass_42 (by decide) rfl rfl ?_
      refine l_pass_in ht hn8 hm10 hz hz40 hS (l := l) (fun k hk => ((hmem k).mp hk).1) (by omega) (s0 := (noonT (daysT S z n m s0 e).1 n, (daysT S z n m s0 e).2)) (fun M3 hd3 => ?_) (l.length + 1) 0 (noonT (daysT S z n m s0 e).1 n, (daysT S z n m s0 e).2) M2 (Nat.zero_le _) ⟨hal2, by rw [h17]; exact p1, by rw [h17]; exact p2, by rw [h17]; exact p3, by rw [h17]; exact p4, (hs.trans (show sameX M1 (cnL M1 t n) (pD t) from ⟨fun a ha => by funext j; exact cnL_o (fun q => ha (by unfold pD; omega)), rfl⟩)).trans (hs2.weaken fun a h => by unfold pD; omega)⟩ hOn hho (by rw [List.drop_zero]) (by omega)
      obtain ⟨hal3, t1, t2, t3, t4, hs3⟩ := hd3
      refine rx_aload_n (i := 1) dX0_pass_168 rfl rfl ?_
      refine rx_dup dX0_pass_169 rfl ?_
      refine rx_getI (k := 18) fo_X0_50 (kt_0 ht) (by decide) ti_8_18 dX0_pass_170 ?_
      refine rx_iconst (1) dX0_pass_173 rfl ?_
      refine rx_iadd dX0_pass_174 ?_
      refine rx_putI (k := 18) fo_X0_50 fn_8_18 (kt_0 ht) (by decide) ty_8_18 dX0_pass_175 ?_
      first | refine rx_iincN (i := 4) dX0_pass_178 rfl (by decide) rfl rfl ?_ | refine rx_iinc (i := 4) dX0_pass_178 rfl rfl (by decide) rfl rfl ?_
      refine rx_goto (tgt := 23) dX0_pass_181 (by decide) ?_
      refine rx_drop 5 ?_
      refine rx_drop 6 ?_
      refine rx_drop 7 ?_
      refine rx_drop 8 ?_
      have hfold : l.foldl (goT S z n m) (noonT (daysT S z n m s0 e).1 n, (daysT S z n m s0 e).2) = (dueOf (noonT (daysT S z n m s0 e).1 n) m).foldl (goT S z n m) (noonT (daysT S z n m s0 e).1 n, (daysT S z n m s0 e).2) := by rw [hl]
      have e18 : M3.1 t 18 = (l.foldl (goT S z n m) (noonT (daysT S z n m s0 e).1 n, (daysT S z n m s0 e).2)).1 18 0 := congrFun (hal3 18 (by omega) (by omega)) 0
      refine ih (e + 1) _ (by omega) ?_ (by omega)
      show dyM M0 _ t (dayT S z n m (daysT S z n m s0 e))
      unfold dayT
      simp only
      rw [← hfold]
      exact ⟨by rw [view_S (by omega), e18]; exact (alk_setS hal3), by rw [sI_na (by omega)]; exact t1, by rw [sI_na (by omega)]; exact t2, by rw [sI_na (by omega)]; exact t3, by rw [sI_na (by omega)]; exact t4, hs3.trans (sameX_I (by unfold pD; omega))⟩
set_option maxRecDepth 100000 in
set_option maxHeartbeats 4000000 in
theorem c_X0_pass {t : Nat} (ht : isTown t) {M : Mem} {n m z N0 : Nat} (hz : M.1 7 2 = nI z) (hz40 : z ≤ 40) (hn8 : n ≤ 8) (hm10 : m ≤ 10) (hN : N0 < 2 ^ 31) (hO : okD (view M t) n m) : Con yX0_pass cX0_pass 9 none 5 [.ref 17, .ref t, .ref 7, .int (nI N0)] M (fun v N => v = none ∧ dyM M N t (daysT (M.1 8) z n m (view M t, 0, 0, 0, 0) N0)) := by
  refine Con.of (own := RX0) (ls := [some (.ref 17), some (.ref t), some (.ref 7), some (.int (nI N0)), none, none, none, none, none]) rfl (by decide +kernel) (Nat.le_of_ble_eq_true rfl) rfl ?_
  refine rx_aload_n (i := 0) dX0_pass_0 rfl rfl ?_
  refine rx_iconst (0) dX0_pass_1 rfl ?_
  refine rx_putI (k := 1) fo_X0_15 fn_0_1 kl_17 (by decide) ty_0_1 dX0_pass_2 ?_
  refine rx_aload_n (i := 0) dX0_pass_5 rfl rfl ?_
  refine rx_iconst (0) dX0_pass_6 rfl ?_
  refine rx_putI (k := 2) fo_X0_19 fn_0_2 kl_17 (by decide) ty_0_2 dX0_pass_7 ?_
  refine rx_aload_n (i := 0) dX0_pass_10 rfl rfl ?_
  refine rx_iconst (0) dX0_pass_11 rfl ?_
  refine rx_putI (k := 3) fo_X0_22 fn_0_3 kl_17 (by decide) ty_0_3 dX0_pass_12 ?_
  refine rx_aload_n (i := 0) dX0_pass_15 rfl rfl ?_
  refine rx_iconst (0) dX0_pass_16 rfl ?_
  refine rx_putI (k := 4) fo_X0_25 fn_0_4 kl_17 (by decide) ty_0_4 dX0_pass_17 ?_
  refine rx_iconst (0) dX0_pass_20 rfl ?_
  refine rx_istore (i := 4) dX0_pass_21 (by decide) rfl rfl ?_
  have hge := town_ge ht
  refine (l_pass_out ht hn8 hm10 hz hz40 rfl hN (s0 := (view M t, 0, 0, 0, 0)) hO (N0 + 1) 0 _ (Nat.zero_le _) ?_ (by omega)).mono ?_
  · refine ⟨by rw [view_I (by omega), view_I (by omega), view_I (by omega), view_I (by omega)]; exact alk.refl, ?_, ?_, ?_, sI_eq, (((sameX_I (by unfold pD; omega)).trans (sameX_I (by unfold pD; omega))).trans (sameX_I (by unfold pD; omega))).trans (sameX_I (by unfold pD; omega))⟩
    · rw [sI_ne (by omega), sI_ne (by omega), sI_ne (by omega), sI_eq]; rfl
    · rw [sI_ne (by omega), sI_ne (by omega), sI_eq]; rfl
    · rw [sI_ne (by omega), sI_eq]; rfl
  · rintro pc' ls' st' N ⟨v, h1, h2, h3⟩
    exact ⟨v, h1, ⟨h3.1, h2⟩, h3⟩
