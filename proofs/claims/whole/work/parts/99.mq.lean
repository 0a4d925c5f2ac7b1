theorem frK.refl {M : Mem} : frK M M := ⟨frQ.refl, rfl, rfl⟩
theorem frK.trans {M N K : Mem} (h : frK M N) (h2 : frK N K) : frK M K := ⟨h.1.trans h2.1, h2.2.1.trans h.2.1, h2.2.2.trans h.2.2⟩
theorem frK_t0 {M : Mem} : frK M (t0 M) := ⟨frQ_t0, sI_ne (by omega), rfl⟩
theorem FS.I {M : Mem} {T : TT} {n m : Nat} {these : Int32} {S : SS} {D : Nat → Nat × Nat × Nat} {rk W : Nat → Nat} (h : FS M T n m these S D rk W) {a j : Nat} {x : Int32} (ha : a = 140 ∧ j ≠ 44 ∨ 166 < a ∧ a ≠ 168) : FS (setI M a j x) T n m these S D rk W := by
  obtain ⟨h1, h2, h3, h4, h5, h6, h7⟩ := h
  have e : ∀ b, 159 ≤ b → b ≤ 168 → b ≠ 167 → (setI M a j x).1 b = M.1 b := fun b b1 b2 b3 => funext fun q => sI_na (by omega)
  unfold FS RR lsW
  rw [e 162 (by omega) (by omega) (by omega), e 163 (by omega) (by omega) (by omega), e 164 (by omega) (by omega) (by omega), e 165 (by omega) (by omega) (by omega), e 161 (by omega) (by omega) (by omega)]
  exact ⟨h1, repM_keep h2 (sI_ne (by omega)) (e _ (by omega) (by omega) (by omega)) (e _ (by omega) (by omega) (by omega)) rfl (e _ (by omega) (by omega) (by omega)), h3, h4, h5, h6, h7⟩
theorem FS.tl {M : Mem} {T : TT} {n m : Nat} {these : Int32} {S : SS} {D : Nat → Nat × Nat × Nat} {rk W : Nat → Nat} (h : FS M T n m these S D rk W) {s : Nat} {v : Int64} : FS (mt M s v) T n m these S D rk W := by
  have h2 : FS (setJ M 155 s v) T n m these S D rk W := by
    obtain ⟨h1, h2, h3, h4, h5, h6, h7⟩ := h
    exact ⟨h1, repM_keep h2 rfl rfl rfl (funext fun q => sJ_na (by omega)) rfl, h3, h4, h5, h6, h7⟩
  exact h2.I (by omega)
theorem mxI_congr {f g : Nat → Int32} : ∀ {n : Nat}, (∀ q, q < n → f q = g q) → mxI f n = mxI g n
  | 0, _ => rfl
  | n + 1, h => by simp only [mxI]; rw [mxI_congr (n := n) (fun q hq => h q (by omega)), h n (by omega)]
set_option maxRecDepth 100000 in
set_option maxHeartbeats 4000000 in
theorem l_X11_most {M : Mem} {n m : Nat} {T : TT} {th x : Int32} {S : SS} {D : Nat → Nat × Nat × Nat} {rk W : Nat → Nat} (w : MW M n m) (hF : FS M T n m th S D rk W) : ∀ (N : Nat) (i : Nat) (s : Int32), (i ≤ S.N) → (s = mxI (fun s => sumT (mv M) m (S.mk s)) i) → S.N - i < N → Reach cX11_most RX11 4 5 (RetQ cX11_most (some .int) (fun v N => v = some (.int (mxI (fun s => bcnt (S.mk s)) S.N)) ∧ frQ M N ∧ row2 N (mxI (fun s => sumT (mv M) m (S.mk s)) S.N).toInt64 (nI S.N).toInt64)) 29 [some (.ref 140), some (.int x), some (.int s), some (.int (nI i))] [] (M) := by
  intro N
  induction N with
  | zero => intro i s hi hs2 hm; exact absurd ‹_ < 0› (Nat.not_lt_zero _)
  | succ N ih =>
    intro i s hi hs2 hm
    have hN3 := (repM_N hF.2.1).2
    refine rx_iload_n (i := 3) dX11_most_29 rfl rfl ?_
    refine rx_aload_n (i := 0) dX11_most_30 rfl rfl ?_
    refine rx_getI (k := 44) fo_X11_325 kl_140 (by decide) ti_11_44 dX11_most_31 ?_
    refine rx_top (nI S.N) (repM_N hF.2.1).1 ?_
    refine rx_icmp_ge (tgt := 58) dX11_most_34 (by decide) (fun c34 => ?_) (fun c34 => ?_)
    · skip
      have f34 := Int32.not_lt.mpr c34
      have e34 : i = S.N := by have := (nI_leI (by omega) (by omega)).mp c34; omega
      subst e34
      refine rx_aload_n (i := 0) dX11_most_58 rfl rfl ?_
      refine rx_iconst (0) dX11_most_59 rfl ?_
      refine rx_putI (k := 20) fo_X11_129 fn_11_20 kl_140 (by decide) ty_11_20 dX11_most_60 ?_
      have h20 := hF.I (a := 140) (j := 20) (x := 0) (by omega)
      refine rx_aload_n (i := 0) dX11_most_63 rfl rfl ?_
      refine rx_iload_n (i := 2) dX11_most_64 rfl rfl ?_
      refine rx_i2l dX11_most_65 rfl ?_
      refine rx_cvN (ci := 11) mo_X11_tell lk_X11_294 (c_X11_tell (s := 0) sI_eq (by omega)) (by decide) rfl rfl (Nat.le_of_ble_eq_true rfl) kl_140 rfl dX11_most_66 ?_
      have h2 := h20.tl (s := 0) (v := s.toInt64)
      refine rx_aload_n (i := 0) dX11_most_69 rfl rfl ?_
      refine rx_aload_n (i := 0) dX11_most_70 rfl rfl ?_
      refine rx_getI (k := 44) fo_X11_325 kl_140 (by decide) ti_11_44 dX11_most_71 ?_
      refine rx_top (nI S.N) ((repM_N h2.2.1).1) ?_
      refine rx_i2l dX11_most_74 rfl ?_
      refine rx_cvN (ci := 11) mo_X11_tell lk_X11_294 (c_X11_tell (s := 1) mt_20 (by omega)) (by decide) rfl rfl (Nat.le_of_ble_eq_true rfl) kl_140 rfl dX11_most_75 ?_
      have h3 := h2.tl (s := 1) (v := (nI S.N).toInt64)
      refine rx_aload_n (i := 0) dX11_most_78 rfl rfl ?_
      refine rx_cvI (ci := 11) mo_X11_mostPaid lk_X11_364 (c_X11_mostPaid (repM_N h3.2.1).1 (repM_N h3.2.1).2) (by decide) rfl rfl (Nat.le_of_ble_eq_true rfl) kl_140 rfl dX11_most_79 ?_
      exact rx_iret dX11_most_82 ⟨congrArg (fun z => some (Value.int z)) (mxI_congr fun q hq => congrArg bcnt (repM_s h3.2.1 hq).1), (frQ_I (by omega)).trans (frQ_mt.trans frQ_mt), by rw [hs2]; exact mt_row2⟩
    · skip
      have f34 := Int32.not_le.mp c34
      have e34 : i < S.N := Nat.lt_of_not_le fun q => c34 (nI_le q (by omega))
      refine rx_iload_n (i := 2) dX11_most_37 rfl rfl ?_
      refine rx_aload_n (i := 0) dX11_most_38 rfl rfl ?_
      refine rx_aload_n (i := 0) dX11_most_39 rfl rfl ?_
      refine rx_getR 159 (k := 35) fo_X11_74 kl_140 (by decide) ti_11_35 (by decide) rfl dX11_most_40 ?_
      refine rx_iload_n (i := 3) dX11_most_43 rfl rfl ?_
      refine rx_ialdN kl_159 (by omega) (by first | decide | omega) dX11_most_44 ?_
      refine rx_top (S.mk i) ((repM_s hF.2.1 e34).1) ?_
      refine rx_cvI (ci := 11) mo_X11_sumOf lk_X11_361 (c_X11_sumOf w) (by decide) rfl rfl (Nat.le_of_ble_eq_true rfl) kl_140 rfl dX11_most_45 ?_
      refine rx_mmax (List.mem_of_getElem? (i := 1715) (by decide +kernel)) (by decide) (Nat.le_of_ble_eq_true rfl) dX11_most_48 ?_
      refine rx_istore_n (i := 2) dX11_most_51 rfl (by decide) rfl rfl ?_
      first | refine rx_iincN (i := 3) dX11_most_52 rfl (by decide) rfl rfl ?_ | refine rx_iinc (i := 3) dX11_most_52 rfl rfl (by decide) rfl rfl ?_
      refine rx_goto (tgt := 29) dX11_most_55 (by decide) ?_
      exact ih (i + 1) _ (by omega) (by rw [hs2]; rfl) (by omega)
set_option maxRecDepth 100000 in
set_option maxHeartbeats 4000000 in
theorem c_X11_most {M : Mem} {n m : Nat} {x : Int32} (w : MW M n m) (hs : sortOK (M.1 153 0)) (hO : OKS (mv M) n m) (hA : AOK (mv M) n) (hx : 0 ≤ x ∧ x ≤ 99) : Con yX11_most cX11_most 4 (some .int) 5 [.ref 140, .int x] M (fun v N => ((vis (mv M) n m (thV (mv M) m x)).1.1 = true ∧ frQ M N ∧ v = some (.int (mxI (fun s => bcnt ((vis (mv M) n m (thV (mv M) m x)).1.2.mk s)) (vis (mv M) n m (thV (mv M) m x)).1.2.N)) ∧ row2 N (mxI (fun s => sumT (mv M) m ((vis (mv M) n m (thV (mv M) m x)).1.2.mk s)) (vis (mv M) n m (thV (mv M) m x)).1.2.N).toInt64 (nI (vis (mv M) n m (thV (mv M) m x)).1.2.N).toInt64) ∨ ((vis (mv M) n m (thV (mv M) m x)).1.1 = false ∧ v = some (.int (-3)) ∧ frK M N)) := by
  refine Con.of (own := RX11) (ls := [some (.ref 140), some (.int x), none, none]) rfl (by decide +kernel) (Nat.le_of_ble_eq_true rfl) rfl ?_
  have w0 := w.t0
  have ⟨hn, hn8, hm, hm10, hd⟩ := w
  refine rx_aload_n (i := 0) dX11_most_0 rfl rfl ?_
  refine rx_iconst (0) dX11_most_1 rfl ?_
  refine rx_putI (k := 21) fo_X11_126 fn_11_21 kl_140 (by decide) ty_11_21 dX11_most_2 ?_
  refine rx_iload_n (i := 1) dX11_most_5 rfl rfl ?_
  refine rx_csI mo_X11_isDay lk_X11_355 c_X11_isDay (by decide) rfl rfl (Nat.le_of_ble_eq_true rfl) dX11_most_6 ?_
  refine rx_top (1) (if_pos hx) ?_
  refine rx_if_ne (tgt := 14) dX11_most_9 (by decide) (fun c9 => ?_) (fun c9 => absurd c9 (by decide))
  refine rx_aload_n (i := 0) dX11_most_14 rfl rfl ?_
  refine rx_iload_n (i := 1) dX11_most_15 rfl rfl ?_
  refine rx_callV (ci := 11) mo_X11_findStates lk_X11_358 (c_X11_findStates (M := t0 M) (x := x) w0 (show sortOK ((t0 M).1 153 0) from hs) (by rw [t0_mv]; exact hO) (by rw [t0_mv]; exact hA)) (by decide) rfl rfl (Nat.le_of_ble_eq_true rfl) kl_140 rfl dX11_most_16 ?_
  rintro _ N0 ⟨rfl, hK, h46, -, hF⟩
  rw [t0_mv] at h46 hF ⊢
  have hK := frK_t0.trans hK
  have wN := frQ.MW hK.1 w
  have emv := frQ.mv hK.1
  refine rx_if_ne (tgt := 25) dX11_most_19 (by decide) (fun c19 => ?_) (fun c19 => ?_)
  · skip
    have hok : (vis (mv M) n m (thV (mv M) m x)).1.1 = true := zI_n c19
    obtain ⟨D, rk, W, hF⟩ := hF hok
    have hNN := repM_N hF.2.1
    obtain ⟨hN0, hN3⟩ := hNN
    refine rx_iconst (0) dX11_most_25 rfl ?_
    refine rx_istore_n (i := 2) dX11_most_26 rfl (by decide) rfl rfl ?_
    refine rx_iconst (0) dX11_most_27 rfl ?_
    refine rx_istore_n (i := 3) dX11_most_28 rfl (by decide) rfl rfl ?_
    refine (l_X11_most wN hF (x := x) ((vis (mv M) n m (thV (mv M) m x)).1.2.N + 1) 0 0 (Nat.zero_le _) rfl (by omega)).mono ?_
    rintro pc' ls' st' N ⟨v, h1, ⟨h2, h3, h4⟩, h5⟩
    rw [emv] at h4
    exact ⟨v, h1, Or.inl ⟨hok, hK.1.trans h3, h2, h4⟩, h5⟩
  · skip
    have hok : (vis (mv M) n m (thV (mv M) m x)).1.1 = false := zI_0.mp c19
    refine rx_bipush (-3) dX11_most_22 rfl ?_
    exact rx_iret dX11_most_24 (Or.inr ⟨hok, rfl, hK⟩)
set_option maxRecDepth 100000 in
set_option maxHeartbeats 4000000 in
theorem c_X11_most_no {M : Mem} {x : Int32} (hx : ¬ (0 ≤ x ∧ x ≤ 99)) : Fun yX11_most cX11_most 4 (some .int) 5 [.ref 140, .int x] M (some (.int (-1))) (t0 M) := by
  refine Fun.of (own := RX11) ([some (.ref 140), some (.int x), none, none]) rfl (by decide +kernel) (Nat.le_of_ble_eq_true rfl) rfl ?_
  refine rx_aload_n (i := 0) dX11_most_0 rfl rfl ?_
  refine rx_iconst (0) dX11_most_1 rfl ?_
  refine rx_putI (k := 21) fo_X11_126 fn_11_21 kl_140 (by decide) ty_11_21 dX11_most_2 ?_
  refine rx_iload_n (i := 1) dX11_most_5 rfl rfl ?_
  refine rx_csI mo_X11_isDay lk_X11_355 c_X11_isDay (by decide) rfl rfl (Nat.le_of_ble_eq_true rfl) dX11_most_6 ?_
  refine rx_if_ne (tgt := 14) dX11_most_9 (by decide) (fun c9 => ?_) (fun c9 => ?_)
  · skip
    exact absurd (ite1n c9) hx
    skip
  · skip
    refine rx_iconst (-1) dX11_most_12 rfl ?_
    exact rx_fiI dX11_most_13 rfl rfl
set_option maxRecDepth 100000 in
set_option maxHeartbeats 4000000 in
theorem l_X11_never {M : Mem} {n m : Nat} {T : TT} {th x : Int32} {S : SS} {D : Nat → Nat × Nat × Nat} {rk W : Nat → Nat} (w : MW M n m) (hF : FS M T n m th S D rk W) (h46 : M.1 140 46 = th) : ∀ (N : Nat) (i : Nat) (s : Int32), (i ≤ S.N) → (s = orI S.mk i) → S.N - i < N → Reach cX11_never RX11 4 5 (FQ cX11_never (some .int) (some (.int (th &&& (orI S.mk S.N ^^^ -1)))) M) 29 [some (.ref 140), some (.int x), some (.int s), some (.int (nI i))] [] (M) := by
  intro N
  induction N with
  | zero => intro i s hi hs2 hm; exact absurd ‹_ < 0› (Nat.not_lt_zero _)
  | succ N ih =>
    intro i s hi hs2 hm
    have hN3 := (repM_N hF.2.1).2
    refine rx_iload_n (i := 3) dX11_never_29 rfl rfl ?_
    refine rx_aload_n (i := 0) dX11_never_30 rfl rfl ?_
    refine rx_getI (k := 44) fo_X11_325 kl_140 (by decide) ti_11_44 dX11_never_31 ?_
    refine rx_top (nI S.N) (repM_N hF.2.1).1 ?_
    refine rx_icmp_ge (tgt := 52) dX11_never_34 (by decide) (fun c34 => ?_) (fun c34 => ?_)
    · skip
      have f34 := Int32.not_lt.mpr c34
      have e34 : i = S.N := by have := (nI_leI (by omega) (by omega)).mp c34; omega
      subst e34
      refine rx_aload_n (i := 0) dX11_never_52 rfl rfl ?_
      refine rx_getI (k := 46) fo_X11_331 kl_140 (by decide) ti_11_46 dX11_never_53 ?_
      refine rx_top (th) (h46) ?_
      refine rx_iload_n (i := 2) dX11_never_56 rfl rfl ?_
      refine rx_iconst (-1) dX11_never_57 rfl ?_
      refine rx_ixor dX11_never_58 ?_
      refine rx_iand dX11_never_59 ?_
      exact rx_fiI dX11_never_60 (by rw [hs2]) rfl
    · skip
      have f34 := Int32.not_le.mp c34
      have e34 : i < S.N := Nat.lt_of_not_le fun q => c34 (nI_le q (by omega))
      refine rx_iload_n (i := 2) dX11_never_37 rfl rfl ?_
      refine rx_aload_n (i := 0) dX11_never_38 rfl rfl ?_
      refine rx_getR 159 (k := 35) fo_X11_74 kl_140 (by decide) ti_11_35 (by decide) rfl dX11_never_39 ?_
      refine rx_iload_n (i := 3) dX11_never_42 rfl rfl ?_
      refine rx_ialdN kl_159 (by omega) (by first | decide | omega) dX11_never_43 ?_
      refine rx_top (S.mk i) ((repM_s hF.2.1 e34).1) ?_
      refine rx_ior dX11_never_44 ?_
      refine rx_istore_n (i := 2) dX11_never_45 rfl (by decide) rfl rfl ?_
      first | refine rx_iincN (i := 3) dX11_never_46 rfl (by decide) rfl rfl ?_ | refine rx_iinc (i := 3) dX11_never_46 rfl rfl (by decide) rfl rfl ?_
      refine rx_goto (tgt := 29) dX11_never_49 (by decide) ?_
      exact ih (i + 1) _ (by omega) (by rw [hs2]; rfl) (by omega)
set_option maxRecDepth 100000 in
set_option maxHeartbeats 4000000 in
theorem c_X11_never {M : Mem} {n m : Nat} {x : Int32} (w : MW M n m) (hs : sortOK (M.1 153 0)) (hO : OKS (mv M) n m) (hA : AOK (mv M) n) (hx : 0 ≤ x ∧ x ≤ 99) : Con yX11_never cX11_never 4 (some .int) 5 [.ref 140, .int x] M (fun v N => ((vis (mv M) n m (thV (mv M) m x)).1.1 = true ∧ frQ M N ∧ v = some (.int ((thV (mv M) m x) &&& (orI (vis (mv M) n m (thV (mv M) m x)).1.2.mk (vis (mv M) n m (thV (mv M) m x)).1.2.N ^^^ -1))) ∧ frK M N) ∨ ((vis (mv M) n m (thV (mv M) m x)).1.1 = false ∧ v = some (.int (-3)) ∧ frK M N)) := by
  refine Con.of (own := RX11) (ls := [some (.ref 140), some (.int x), none, none]) rfl (by decide +kernel) (Nat.le_of_ble_eq_true rfl) rfl ?_
  have w0 := w.t0
  have ⟨hn, hn8, hm, hm10, hd⟩ := w
  refine rx_aload_n (i := 0) dX11_never_0 rfl rfl ?_
  refine rx_iconst (0) dX11_never_1 rfl ?_
  refine rx_putI (k := 21) fo_X11_126 fn_11_21 kl_140 (by decide) ty_11_21 dX11_never_2 ?_
  refine rx_iload_n (i := 1) dX11_never_5 rfl rfl ?_
  refine rx_csI mo_X11_isDay lk_X11_355 c_X11_isDay (by decide) rfl rfl (Nat.le_of_ble_eq_true rfl) dX11_never_6 ?_
  refine rx_top (1) (if_pos hx) ?_
  refine rx_if_ne (tgt := 14) dX11_never_9 (by decide) (fun c9 => ?_) (fun c9 => absurd c9 (by decide))
  refine rx_aload_n (i := 0) dX11_never_14 rfl rfl ?_
  refine rx_iload_n (i := 1) dX11_never_15 rfl rfl ?_
  refine rx_callV (ci := 11) mo_X11_findStates lk_X11_358 (c_X11_findStates (M := t0 M) (x := x) w0 (show sortOK ((t0 M).1 153 0) from hs) (by rw [t0_mv]; exact hO) (by rw [t0_mv]; exact hA)) (by decide) rfl rfl (Nat.le_of_ble_eq_true rfl) kl_140 rfl dX11_never_16 ?_
  rintro _ N0 ⟨rfl, hK, h46, -, hF⟩
  rw [t0_mv] at h46 hF ⊢
  have hK := frK_t0.trans hK
  have wN := frQ.MW hK.1 w
  have emv := frQ.mv hK.1
  refine rx_if_ne (tgt := 25) dX11_never_19 (by decide) (fun c19 => ?_) (fun c19 => ?_)
  · skip
    have hok : (vis (mv M) n m (thV (mv M) m x)).1.1 = true := zI_n c19
    obtain ⟨D, rk, W, hF⟩ := hF hok
    have hNN := repM_N hF.2.1
    obtain ⟨hN0, hN3⟩ := hNN
    refine rx_iconst (0) dX11_never_25 rfl ?_
    refine rx_istore_n (i := 2) dX11_never_26 rfl (by decide) rfl rfl ?_
    refine rx_iconst (0) dX11_never_27 rfl ?_
    refine rx_istore_n (i := 3) dX11_never_28 rfl (by decide) rfl rfl ?_
    refine (l_X11_never wN hF h46 (x := x) ((vis (mv M) n m (thV (mv M) m x)).1.2.N + 1) 0 0 (Nat.zero_le _) rfl (by omega)).mono ?_
    rintro pc' ls' st' N ⟨v, h1, ⟨h2, h3⟩, h5⟩
    exact ⟨v, h1, Or.inl ⟨hok, by rw [h3]; exact hK.1, h2, by rw [h3]; exact hK⟩, h5⟩
  · skip
    have hok : (vis (mv M) n m (thV (mv M) m x)).1.1 = false := zI_0.mp c19
    refine rx_bipush (-3) dX11_never_22 rfl ?_
    exact rx_iret dX11_never_24 (Or.inr ⟨hok, rfl, hK⟩)
set_option maxRecDepth 100000 in
set_option maxHeartbeats 4000000 in
theorem c_X11_never_no {M : Mem} {x : Int32} (hx : ¬ (0 ≤ x ∧ x ≤ 99)) : Fun yX11_never cX11_never 4 (some .int) 5 [.ref 140, .int x] M (some (.int (-1))) (t0 M) := by
  refine Fun.of (own := RX11) ([some (.ref 140), some (.int x), none, none]) rfl (by decide +kernel) (Nat.le_of_ble_eq_true rfl) rfl ?_
  refine rx_aload_n (i := 0) dX11_never_0 rfl rfl ?_
  refine rx_iconst (0) dX11_never_1 rfl ?_
  refine rx_putI (k := 21) fo_X11_126 fn_11_21 kl_140 (by decide) ty_11_21 dX11_never_2 ?_
  refine rx_iload_n (i := 1) dX11_never_5 rfl rfl ?_
  refine rx_csI mo_X11_isDay lk_X11_355 c_X11_isDay (by decide) rfl rfl (Nat.le_of_ble_eq_true rfl) dX11_never_6 ?_
  refine rx_if_ne (tgt := 14) dX11_never_9 (by decide) (fun c9 => ?_) (fun c9 => ?_)
  · skip
    exact absurd (ite1n c9) hx
    skip
  · skip
    refine rx_iconst (-1) dX11_never_12 rfl ?_
    exact rx_fiI dX11_never_13 rfl rfl
