/-- the class's states can be kept: they are those of a town of old, which may be this one -/
def SV (M : Mem) (n m : Nat) : Prop := (M.1 19 13 = 0 ∨ (M.1 19 13 = 1 ∧ ∃ T0 n0 m0 x0, VS M T0 n0 m0 x0 ∧ n0 ≤ 8 ∧ m0 ≤ 10)) ∧ (M.1 108 15 = nI n → M.1 108 16 = nI m → (∀ j, j < n → M.1 110 j = M.1 30 j ∧ M.1 111 j = M.1 31 j) ∧ ∀ k, k < m → M.1 115 k = M.1 35 k ∧ M.1 116 k = M.1 36 k ∧ M.1 117 k = M.1 37 k ∧ M.1 118 k = M.1 38 k) ∧ ∃ a b, M.1 108 15 = nI a ∧ M.1 108 16 = nI b ∧ a ≤ n ∧ b ≤ m
theorem repC_cg {M N : Mem} {S : SS} (h : repC M S) (h1 : ∀ a j, 19 ≤ a → a ≤ 27 → N.1 a j = M.1 a j) (h2 : ∀ a, 20 ≤ a → a ≤ 23 → N.2.1 a = M.2.1 a) : repC N S := by
  obtain ⟨tb, a1, a2, a3, a4, a5⟩ := h
  refine ⟨tb, (h1 _ _ (by omega) (by omega)).trans a1, a2, fun s hs => ?_, fun p hp => (h1 _ _ (by omega) (by omega)).trans (a4 p hp), a5⟩
  rw [h1 24 s (by omega) (by omega), h1 25 s (by omega) (by omega), h2 20 (by omega) (by omega), h2 21 (by omega) (by omega), h2 22 (by omega) (by omega), h2 23 (by omega) (by omega)]
  exact a3 s hs
theorem VS_cg {M N : Mem} {T : TT} {n m : Nat} {x : Int32} (h : VS M T n m x) (h1 : ∀ a j, 19 ≤ a → a ≤ 27 → N.1 a j = M.1 a j) (h2 : ∀ a, 20 ≤ a → a ≤ 23 → N.2.1 a = M.2.1 a) (h3 : ∀ a j, 108 ≤ a → a ≤ 123 → N.1 a j = M.1 a j) : VS N T n m x := by
  obtain ⟨v1, v2, v3, ⟨v4, v5⟩, v6, v7, v8, v9, v10⟩ := h
  refine ⟨(h1 _ _ (by omega) (by omega)).trans v1, (h1 _ _ (by omega) (by omega)).trans v2, ?_, ⟨(h3 _ _ (by omega) (by omega)).trans v4, (h3 _ _ (by omega) (by omega)).trans v5⟩, (h1 _ _ (by omega) (by omega)).trans v6, repC_cg v7 h1 h2, (h1 _ _ (by omega) (by omega)).trans v8, (h1 _ _ (by omega) (by omega)).trans v9, fun j hj => (h1 _ _ (by omega) (by omega)).trans (v10 j hj)⟩
  have e : ∀ c, c < 20 → view N 108 c = view M 108 c := view_eq fun a h5 h6 => funext fun j => h3 a j h5 (by omega)
  exact v3.trans (alk.ag (T := view M 108) (T' := view N 108) fun c _ h20 => e c h20)
theorem VS_sv {M : Mem} {n m : Nat} {x : Int32} {srt : Int32} (h : VS M (setT (view M 28) 14 0 srt) n m x) (hn : n ≤ 8) (hm : m ≤ 10) : SV M n m := by
  refine ⟨Or.inr ⟨h.1, _, n, m, x, h, hn, hm⟩, fun _ _ => ?_, n, m, h.2.2.2.1.1, h.2.2.2.1.2, Nat.le_refl _, Nat.le_refl _⟩
  obtain ⟨-, -, ⟨va, vb, -⟩, -⟩ := h
  exact ⟨fun j hj => ⟨(va j hj).2.1, (va j hj).2.2.1⟩, fun k hk => ⟨(vb k hk).1, (vb k hk).2.1, (vb k hk).2.2.1, (vb k hk).2.2.2.1⟩⟩
/-- nothing but the states, the row and what is free -/
def fcV (M N : Mem) : Prop := (∀ a j, ¬ scr a → ¬ (a = 4 ∧ j = 1) → ¬ ((19 ≤ a ∧ a ≤ 27) ∨ (108 ≤ a ∧ a ≤ 123)) → N.1 a j = M.1 a j) ∧ (∀ a, a ≠ 5 → ¬ (20 ≤ a ∧ a ≤ 23) → N.2.1 a = M.2.1 a) ∧ N.2.2 = M.2.2
def fcW (M N : Mem) : Prop := fcV M N ∧ N.1 4 1 = M.1 4 1 ∧ N.2.1 5 = M.2.1 5
theorem fcV.trans {M N K : Mem} (h : fcV M N) (h2 : fcV N K) : fcV M K := ⟨fun a j q r s => (h2.1 a j q r s).trans (h.1 a j q r s), fun a q r => (h2.2.1 a q r).trans (h.2.1 a q r), h2.2.2.trans h.2.2⟩
theorem fcW.trans {M N K : Mem} (h : fcW M N) (h2 : fcW N K) : fcW M K := ⟨h.1.trans h2.1, h2.2.1.trans h.2.1, h2.2.2.trans h.2.2⟩
theorem fcR.V {M N : Mem} (h : fcR M N) : fcV M N := ⟨fun a j q r _ => h.1 a j q r, fun a q _ => h.2.1 a q, h.2.2⟩
theorem fcK.W {M N : Mem} (h : fcK M N) : fcW M N := ⟨h.1.V, h.2.1, h.2.2⟩
theorem stV.W {M N : Mem} (h : stV M N) : fcW M N := ⟨⟨fun a j _ _ s => h.1 a j (by omega), fun a _ r => h.2.1 a (by omega), h.2.2⟩, h.1 _ _ (by omega), h.2.1 _ (by omega)⟩
theorem fcV.tw {M N : Mem} {n m : Nat} (h : fcV M N) (w : TW M 28 n m) : TW N 28 n m := w.keep (h.1 _ _ (by unfold scr; omega) (by omega) (by omega)) (h.1 _ _ (by unfold scr; omega) (by omega) (by omega)) (fun _ _ => h.1 _ _ (by unfold scr; omega) (by omega) (by omega)) (fun _ _ => h.1 _ _ (by unfold scr; omega) (by omega) (by omega))
theorem fcV.vw {M N : Mem} (h : fcV M N) : alk (view M 28) (view N 28) := fun c h5 h20 => view_same (M := M) (M' := N) (t := 28) (fun c' h1 h2 => by funext j; exact h.1 _ _ (by unfold scr; omega) (by omega) (by omega)) c h5 h20
theorem VS_fr {M N : Mem} {T : TT} {n m : Nat} {x : Int32} (h : VS M T n m x) (f : fcR M N) : VS N T n m x := VS_cg h (fun a j h1 h2 => f.1 a j (by unfold scr; omega) (by omega)) (fun a h1 h2 => f.2.1 a (by omega)) (fun a j h1 h2 => f.1 a j (by unfold scr; omega) (by omega))
theorem SV_cg {M N : Mem} {n m : Nat} (h : SV M n m) (h1 : ∀ a j, 19 ≤ a → a ≤ 27 → N.1 a j = M.1 a j) (h2 : ∀ a, 20 ≤ a → a ≤ 23 → N.2.1 a = M.2.1 a) (h3 : ∀ a j, 108 ≤ a → a ≤ 123 → N.1 a j = M.1 a j) (h4 : (∀ j, j < n → N.1 30 j = M.1 30 j ∧ N.1 31 j = M.1 31 j) ∧ ∀ k, k < m → N.1 35 k = M.1 35 k ∧ N.1 36 k = M.1 36 k ∧ N.1 37 k = M.1 37 k ∧ N.1 38 k = M.1 38 k) : SV N n m := by
  refine ⟨h.1.imp (fun z => (h1 _ _ (by omega) (by omega)).trans z) (fun ⟨z, T0, n0, m0, x0, z2, z3⟩ => ⟨(h1 _ _ (by omega) (by omega)).trans z, T0, n0, m0, x0, VS_cg z2 h1 h2 h3, z3⟩), fun e1 e2 => ?_, (by obtain ⟨a, b, c, d, e⟩ := h.2.2; exact ⟨a, b, (h3 _ _ (by omega) (by omega)).trans c, (h3 _ _ (by omega) (by omega)).trans d, e⟩)⟩
  obtain ⟨a1, a2⟩ := h.2.1 ((h3 _ _ (by omega) (by omega)).symm.trans e1) ((h3 _ _ (by omega) (by omega)).symm.trans e2)
  refine ⟨fun j hj => ?_, fun k hk => ?_⟩
  · rw [h3 110 j (by omega) (by omega), h3 111 j (by omega) (by omega), (h4.1 j hj).1, (h4.1 j hj).2]; exact a1 j hj
  · obtain ⟨b1, b2, b3, b4⟩ := h4.2 k hk
    rw [h3 115 k (by omega) (by omega), h3 116 k (by omega) (by omega), h3 117 k (by omega) (by omega), h3 118 k (by omega) (by omega), b1, b2, b3, b4]; exact a2 k hk
theorem SV_fr {M N : Mem} {n m : Nat} (h : SV M n m) (f : fcR M N) : SV N n m := SV_cg h (fun a j h1 h2 => f.1 a j (by unfold scr; omega) (by omega)) (fun a h1 h2 => f.2.1 a (by omega)) (fun a j h1 h2 => f.1 a j (by unfold scr; omega) (by omega)) ⟨fun j _ => ⟨f.1 _ _ (by unfold scr; omega) (by omega), f.1 _ _ (by unfold scr; omega) (by omega)⟩, fun k _ => ⟨f.1 _ _ (by unfold scr; omega) (by omega), f.1 _ _ (by unfold scr; omega) (by omega), f.1 _ _ (by unfold scr; omega) (by omega), f.1 _ _ (by unfold scr; omega) (by omega)⟩⟩
theorem setT_id {T : TT} {c j : Nat} : setT T c j (T c j) = T := by
  funext a b
  unfold setT
  split
  · next h => rw [h.1, h.2]
  · rfl
set_option maxRecDepth 100000 in
set_option maxHeartbeats 4000000 in
theorem c_X10_visit {M : Mem} {n m : Nat} {x : Int32} (w : TW M 28 n m) (hO : OKS (view M 28) n m) (hV : SV M n m) : Con yX10_visit cX10_visit 2 (some .boolean) 5 [.ref 0, .int x] M (fun v N => v = some (.int (zI (vsX (view M 28) n m x).1.1)) ∧ VS N (view M 28) n m x ∧ stV M N) := by
  refine Con.of (own := RX10) (ls := [some (.ref 0), some (.int x)]) rfl (by decide +kernel) (Nat.le_of_ble_eq_true rfl) rfl ?_
  have ⟨hn, hn8, hm, hm10, hd⟩ := w
  refine rx_aload_n (i := 0) dX10_visit_0 rfl rfl ?_
  refine rx_getR 19 (k := 10) fo_X10_70 kl_0 (by decide) ti_10_10 (by decide) rfl dX10_visit_1 ?_
  refine rx_aload_n (i := 0) dX10_visit_4 rfl rfl ?_
  refine rx_getR 28 (k := 2) fo_X10_26 kl_0 (by decide) ti_10_2 (by decide) rfl dX10_visit_5 ?_
  refine rx_aload_n (i := 0) dX10_visit_8 rfl rfl ?_
  refine rx_getR 28 (k := 2) fo_X10_26 kl_0 (by decide) ti_10_2 (by decide) rfl dX10_visit_9 ?_
  refine rx_getR 43 (k := 14) fo_X10_181 kl_28 (by decide) ti_8_14 (by decide) rfl dX10_visit_12 ?_
  refine rx_iconst (0) dX10_visit_15 rfl ?_
  refine rx_ialdN (k := 0) kl_43 (by omega) (by first | decide | omega) dX10_visit_16 ?_
  refine rx_iload_n (i := 1) dX10_visit_17 rfl rfl ?_
  refine rx_callV (ci := 5) mo_X5_visit lk_X10_292 (c_X5_visit (srt := M.1 43 0) (d := x) w hO hV.1 hV.2.1) (by decide) rfl rfl (Nat.le_of_ble_eq_true rfl) kl_19 rfl dX10_visit_18 ?_
  rintro _ N ⟨rfl, h1, h2⟩
  have e : setT (view M 28) 14 0 (M.1 43 0) = view M 28 := setT_id
  rw [e] at h1 ⊢
  exact rx_zret dX10_visit_21 (zI_01 _) ⟨rfl, h1, h2⟩
set_option maxRecDepth 100000 in
set_option maxHeartbeats 4000000 in
theorem c_X10_most {M : Mem} {n m : Nat} {x : Int32} (w : TW M 28 n m) (hO : OKS (view M 28) n m) (hV : SV M n m) (hA : AOK (view M 28) n) (hx : 0 ≤ x ∧ x ≤ 99) : Con yX10_most cX10_most 2 (some .int) 6 [.ref 0, .int x] M (fun v N => VS N (view M 28) n m x ∧ (((vsX (view M 28) n m x).1.1 = true ∧ fcV M N ∧ v = some (.int (mxI (fun s => bcnt ((vsX (view M 28) n m x).1.2.mk s)) (vsX (view M 28) n m x).1.2.N)) ∧ row2C N (mxI (fun s => sumT (view M 28) m ((vsX (view M 28) n m x).1.2.mk s)) (vsX (view M 28) n m x).1.2.N).toInt64 (nI (vsX (view M 28) n m x).1.2.N).toInt64) ∨ ((vsX (view M 28) n m x).1.1 = false ∧ v = some (.int (-3)) ∧ fcW M N))) := by
  refine Con.of (own := RX10) (ls := [some (.ref 0), some (.int x)]) rfl (by decide +kernel) (Nat.le_of_ble_eq_true rfl) rfl ?_
  have ⟨hn, hn8, hm, hm10, hd⟩ := w
  refine rx_iload_n (i := 1) dX10_most_0 rfl rfl ?_
  refine rx_csI mo_X10_isDay lk_X10_296 c_X10_isDay (by decide) rfl rfl (Nat.le_of_ble_eq_true rfl) dX10_most_1 ?_
  refine rx_top (1) (if_pos hx) ?_
  refine rx_if_ne (tgt := 9) dX10_most_4 (by decide) (fun c4 => ?_) (fun c4 => absurd c4 (by decide))
  refine rx_aload_n (i := 0) dX10_most_9 rfl rfl ?_
  refine rx_iload_n (i := 1) dX10_most_10 rfl rfl ?_
  refine rx_callV (ci := 10) mo_X10_visit lk_X10_299 (c_X10_visit (x := x) w hO hV) (by decide) rfl rfl (Nat.le_of_ble_eq_true rfl) kl_0 rfl dX10_most_11 ?_
  rintro _ N ⟨rfl, hVS, hst⟩
  have hW := hst.W
  refine rx_if_ne (tgt := 20) dX10_most_14 (by decide) (fun c14 => ?_) (fun c14 => ?_)
  · skip
    have hok : (vsX (view M 28) n m x).1.1 = true := zI_n c14
    have htk : thOK (view M 28) m (thV (view M 28) m x) := thV_OK hm10
    obtain ⟨⟨D, hC⟩, hPB⟩ := vis_pure htk hn8 hm10 hO hA hok
    have hSN : (vsX (view M 28) n m x).1.2.N ≤ 3000 := hC.2.2.2.1
    refine rx_aload_n (i := 0) dX10_most_20 rfl rfl ?_
    refine rx_getR 4 (k := 1) fo_X10_19 kl_0 (by decide) ti_10_1 (by decide) rfl dX10_most_21 ?_
    refine rx_aload_n (i := 0) dX10_most_24 rfl rfl ?_
    refine rx_getR 19 (k := 10) fo_X10_70 kl_0 (by decide) ti_10_10 (by decide) rfl dX10_most_25 ?_
    refine rx_cvI (ci := 5) mo_X5_greatestSum lk_X10_301 (c_X5_greatestSum hVS hO hn8 hm10) (by decide) rfl rfl (Nat.le_of_ble_eq_true rfl) kl_19 rfl dX10_most_28 ?_
    refine rx_i2l dX10_most_31 rfl ?_
    refine rx_aload_n (i := 0) dX10_most_32 rfl rfl ?_
    refine rx_getR 19 (k := 10) fo_X10_70 kl_0 (by decide) ti_10_10 (by decide) rfl dX10_most_33 ?_
    refine rx_getI (k := 9) fo_X10_304 kl_19 (by decide) ti_5_9 dX10_most_36 ?_
    refine rx_top (nI (vsX (view M 28) n m x).1.2.N) (hVS.2.2.2.2.2.1.elim fun tb h => h.1) ?_
    refine rx_i2l dX10_most_39 rfl ?_
    refine rx_cvN (ci := 7) mo_X7_tell_ lk_X10_221 c_X7_tell_ (by decide) rfl rfl (Nat.le_of_ble_eq_true rfl) kl_4 rfl dX10_most_40 ?_
    have hVS2 := VS_fr hVS (fcR_r2 (M := N) (a := (mxI (fun s => sumT (view M 28) m ((vsX (view M 28) n m x).1.2.mk s)) (vsX (view M 28) n m x).1.2.N).toInt64) (b := (nI (vsX (view M 28) n m x).1.2.N).toInt64))
    refine rx_aload_n (i := 0) dX10_most_43 rfl rfl ?_
    refine rx_getR 19 (k := 10) fo_X10_70 kl_0 (by decide) ti_10_10 (by decide) rfl dX10_most_44 ?_
    refine rx_cvI (ci := 5) mo_X5_mostPaid lk_X10_307 (c_X5_mostPaid hVS2 hO hn8 hm10) (by decide) rfl rfl (Nat.le_of_ble_eq_true rfl) kl_19 rfl dX10_most_47 ?_
    exact rx_iret dX10_most_50 ⟨hVS2, Or.inl ⟨hok, hW.1.trans fcR_r2.V, rfl, r2_row⟩⟩
  · skip
    have hok : (vsX (view M 28) n m x).1.1 = false := zI_0.mp c14
    refine rx_bipush (-3) dX10_most_17 rfl ?_
    exact rx_iret dX10_most_19 ⟨hVS, Or.inr ⟨hok, rfl, hW⟩⟩
set_option maxRecDepth 100000 in
set_option maxHeartbeats 4000000 in
theorem c_X10_most_no {M : Mem} {x : Int32} (hx : ¬ (0 ≤ x ∧ x ≤ 99)) : Fun yX10_most cX10_most 2 (some .int) 6 [.ref 0, .int x] M (some (.int (-1))) (M) := by
  refine Fun.of (own := RX10) ([some (.ref 0), some (.int x)]) rfl (by decide +kernel) (Nat.le_of_ble_eq_true rfl) rfl ?_
  refine rx_iload_n (i := 1) dX10_most_0 rfl rfl ?_
  refine rx_csI mo_X10_isDay lk_X10_296 c_X10_isDay (by decide) rfl rfl (Nat.le_of_ble_eq_true rfl) dX10_most_1 ?_
  refine rx_if_ne (tgt := 9) dX10_most_4 (by decide) (fun c4 => ?_) (fun c4 => ?_)
  · skip
    exact absurd (ite1n c4) hx
    skip
  · skip
    refine rx_iconst (-1) dX10_most_7 rfl ?_
    exact rx_fiI dX10_most_8 rfl rfl
set_option maxRecDepth 100000 in
set_option maxHeartbeats 4000000 in
theorem c_X10_never {M : Mem} {n m : Nat} {x : Int32} (w : TW M 28 n m) (hO : OKS (view M 28) n m) (hV : SV M n m) (hA : AOK (view M 28) n) (hx : 0 ≤ x ∧ x ≤ 99) : Con yX10_never cX10_never 2 (some .int) 6 [.ref 0, .int x] M (fun v N => VS N (view M 28) n m x ∧ (((vsX (view M 28) n m x).1.1 = true ∧ fcV M N ∧ v = some (.int ((thV (view M 28) m x) &&& (orI (vsX (view M 28) n m x).1.2.mk (vsX (view M 28) n m x).1.2.N ^^^ -1))) ∧ fcW M N) ∨ ((vsX (view M 28) n m x).1.1 = false ∧ v = some (.int (-3)) ∧ fcW M N))) := by
  refine Con.of (own := RX10) (ls := [some (.ref 0), some (.int x)]) rfl (by decide +kernel) (Nat.le_of_ble_eq_true rfl) rfl ?_
  have ⟨hn, hn8, hm, hm10, hd⟩ := w
  refine rx_iload_n (i := 1) dX10_never_0 rfl rfl ?_
  refine rx_csI mo_X10_isDay lk_X10_296 c_X10_isDay (by decide) rfl rfl (Nat.le_of_ble_eq_true rfl) dX10_never_1 ?_
  refine rx_top (1) (if_pos hx) ?_
  refine rx_if_ne (tgt := 9) dX10_never_4 (by decide) (fun c4 => ?_) (fun c4 => absurd c4 (by decide))
  refine rx_aload_n (i := 0) dX10_never_9 rfl rfl ?_
  refine rx_iload_n (i := 1) dX10_never_10 rfl rfl ?_
  refine rx_callV (ci := 10) mo_X10_visit lk_X10_299 (c_X10_visit (x := x) w hO hV) (by decide) rfl rfl (Nat.le_of_ble_eq_true rfl) kl_0 rfl dX10_never_11 ?_
  rintro _ N ⟨rfl, hVS, hst⟩
  have hW := hst.W
  refine rx_if_ne (tgt := 20) dX10_never_14 (by decide) (fun c14 => ?_) (fun c14 => ?_)
  · skip
    have hok : (vsX (view M 28) n m x).1.1 = true := zI_n c14
    have htk : thOK (view M 28) m (thV (view M 28) m x) := thV_OK hm10
    obtain ⟨⟨D, hC⟩, hPB⟩ := vis_pure htk hn8 hm10 hO hA hok
    have hSN : (vsX (view M 28) n m x).1.2.N ≤ 3000 := hC.2.2.2.1
    refine rx_aload_n (i := 0) dX10_never_20 rfl rfl ?_
    refine rx_getR 19 (k := 10) fo_X10_70 kl_0 (by decide) ti_10_10 (by decide) rfl dX10_never_21 ?_
    refine rx_getI (k := 10) fo_X10_333 kl_19 (by decide) ti_5_10 dX10_never_24 ?_
    refine rx_top ((thV (view M 28) m x)) (hVS.2.2.2.2.1) ?_
    refine rx_aload_n (i := 0) dX10_never_27 rfl rfl ?_
    refine rx_getR 19 (k := 10) fo_X10_70 kl_0 (by decide) ti_10_10 (by decide) rfl dX10_never_28 ?_
    refine rx_getI (k := 11) fo_X10_336 kl_19 (by decide) ti_5_11 dX10_never_31 ?_
    refine rx_top ((vsX (view M 28) n m x).2.1) (hVS.2.2.2.2.2.2.2.1) ?_
    refine rx_iconst (-1) dX10_never_34 rfl ?_
    refine rx_ixor dX10_never_35 ?_
    refine rx_iand dX10_never_36 ?_
    refine rx_top ((thV (view M 28) m x) &&& (orI (vsX (view M 28) n m x).1.2.mk (vsX (view M 28) n m x).1.2.N ^^^ -1)) (never_eq htk hn8 hm10 hO hC hPB.1) ?_
    exact rx_iret dX10_never_37 ⟨hVS, Or.inl ⟨hok, hW.1, rfl, hW⟩⟩
  · skip
    have hok : (vsX (view M 28) n m x).1.1 = false := zI_0.mp c14
    refine rx_bipush (-3) dX10_never_17 rfl ?_
    exact rx_iret dX10_never_19 ⟨hVS, Or.inr ⟨hok, rfl, hW⟩⟩
set_option maxRecDepth 100000 in
set_option maxHeartbeats 4000000 in
theorem c_X10_never_no {M : Mem} {x : Int32} (hx : ¬ (0 ≤ x ∧ x ≤ 99)) : Fun yX10_never cX10_never 2 (some .int) 6 [.ref 0, .int x] M (some (.int (-1))) (M) := by
  refine Fun.of (own := RX10) ([some (.ref 0), some (.int x)]) rfl (by decide +kernel) (Nat.le_of_ble_eq_true rfl) rfl ?_
  refine rx_iload_n (i := 1) dX10_never_0 rfl rfl ?_
  refine rx_csI mo_X10_isDay lk_X10_296 c_X10_isDay (by decide) rfl rfl (Nat.le_of_ble_eq_true rfl) dX10_never_1 ?_
  refine rx_if_ne (tgt := 9) dX10_never_4 (by decide) (fun c4 => ?_) (fun c4 => ?_)
  · skip
    exact absurd (ite1n c4) hx
    skip
  · skip
    refine rx_iconst (-1) dX10_never_7 rfl ?_
    exact rx_fiI dX10_never_8 rfl rfl
set_option maxRecDepth 100000 in
set_option maxHeartbeats 4000000 in
theorem c_X10_ways {M : Mem} {n m : Nat} {x : Int32} (w : TW M 28 n m) (hO : OKS (view M 28) n m) (hV : SV M n m) (hA : AOK (view M 28) n) (hx : 0 ≤ x ∧ x ≤ 99) : Con yX10_ways cX10_ways 4 (some .long) 6 [.ref 0, .int x] M (fun v N => VS N (view M 28) n m x ∧ (((vsX (view M 28) n m x).1.1 = true ∧ fcV M N ∧ v = some (.long (lsum (fun s => if (vsX (view M 28) n m x).1.2.mk s = (thV (view M 28) m x) then (vsX (view M 28) n m x).1.2.wy s else 0) (vsX (view M 28) n m x).1.2.N)) ∧ ((0 < lsum (fun s => if (vsX (view M 28) n m x).1.2.mk s = (thV (view M 28) m x) then (vsX (view M 28) n m x).1.2.wy s else 0) (vsX (view M 28) n m x).1.2.N ∧ row1C N (fbor (fun _ => true) n &&& (orI (fun s => if (vsX (view M 28) n m x).1.2.mk s = (thV (view M 28) m x) then pyS (view M 28) n m (vsX (view M 28) n m x).1.2 s else 0) (vsX (view M 28) n m x).1.2.N ^^^ -1)).toInt64) ∨ (¬ 0 < lsum (fun s => if (vsX (view M 28) n m x).1.2.mk s = (thV (view M 28) m x) then (vsX (view M 28) n m x).1.2.wy s else 0) (vsX (view M 28) n m x).1.2.N ∧ fcW M N))) ∨ ((vsX (view M 28) n m x).1.1 = false ∧ v = some (.long (-3)) ∧ fcW M N))) := by
  refine Con.of (own := RX10) (ls := [some (.ref 0), some (.int x), none, none]) rfl (by decide +kernel) (Nat.le_of_ble_eq_true rfl) rfl ?_
  have ⟨hn, hn8, hm, hm10, hd⟩ := w
  refine rx_iload_n (i := 1) dX10_ways_0 rfl rfl ?_
  refine rx_csI mo_X10_isDay lk_X10_296 c_X10_isDay (by decide) rfl rfl (Nat.le_of_ble_eq_true rfl) dX10_ways_1 ?_
  refine rx_top (1) (if_pos hx) ?_
  refine rx_if_ne (tgt := 11) dX10_ways_4 (by decide) (fun c4 => ?_) (fun c4 => absurd c4 (by decide))
  refine rx_aload_n (i := 0) dX10_ways_11 rfl rfl ?_
  refine rx_iload_n (i := 1) dX10_ways_12 rfl rfl ?_
  refine rx_callV (ci := 10) mo_X10_visit lk_X10_299 (c_X10_visit (x := x) w hO hV) (by decide) rfl rfl (Nat.le_of_ble_eq_true rfl) kl_0 rfl dX10_ways_13 ?_
  rintro _ N ⟨rfl, hVS, hst⟩
  have hW := hst.W
  refine rx_if_ne (tgt := 23) dX10_ways_16 (by decide) (fun c16 => ?_) (fun c16 => ?_)
  · skip
    have hok : (vsX (view M 28) n m x).1.1 = true := zI_n c16
    have htk : thOK (view M 28) m (thV (view M 28) m x) := thV_OK hm10
    obtain ⟨⟨D, hC⟩, hPB⟩ := vis_pure htk hn8 hm10 hO hA hok
    have hSN : (vsX (view M 28) n m x).1.2.N ≤ 3000 := hC.2.2.2.1
    refine rx_aload_n (i := 0) dX10_ways_23 rfl rfl ?_
    refine rx_getR 19 (k := 10) fo_X10_70 kl_0 (by decide) ti_10_10 (by decide) rfl dX10_ways_24 ?_
    refine rx_cvL (ci := 5) mo_X5_fullWays lk_X10_343 (c_X5_fullWays hVS hO hn8 hm10) (by decide) rfl rfl (Nat.le_of_ble_eq_true rfl) kl_19 rfl dX10_ways_27 ?_
    refine rx_lstore_n (i := 2) dX10_ways_30 rfl (by decide) rfl rfl ?_
    refine rx_lload_n (i := 2) dX10_ways_31 rfl rfl ?_
    refine rx_lconst (0) dX10_ways_32 rfl ?_
    refine rx_lcmp dX10_ways_33 ?_
    refine rx_if_le (tgt := 62) dX10_ways_34 (by decide) (fun c34 => ?_) (fun c34 => ?_)
    · skip
      have e34 : ¬ 0 < lsum (fun s => if (vsX (view M 28) n m x).1.2.mk s = (thV (view M 28) m x) then (vsX (view M 28) n m x).1.2.wy s else 0) (vsX (view M 28) n m x).1.2.N := Int64.not_lt.mpr ((lg_cmp_le _ _).mp c34)
      refine rx_lload_n (i := 2) dX10_ways_62 rfl rfl ?_
      first | exact rx_lret dX10_ways_63 ⟨hVS, Or.inl ⟨hok, hW.1, rfl, Or.inr ⟨e34, hW⟩⟩⟩ | exact rx_lret dX10_ways_63 ⟨VS_fr hVS fcR_r1, Or.inl ⟨hok, hW.1.trans fcR_r1.V, rfl, Or.inl ⟨e34, r1_row⟩⟩⟩
    · skip
      have e34 : 0 < lsum (fun s => if (vsX (view M 28) n m x).1.2.mk s = (thV (view M 28) m x) then (vsX (view M 28) n m x).1.2.wy s else 0) (vsX (view M 28) n m x).1.2.N := Int64.not_le.mp (fun z => c34 ((lg_cmp_le _ _).mpr z))
      refine rx_aload_n (i := 0) dX10_ways_37 rfl rfl ?_
      refine rx_getR 4 (k := 1) fo_X10_19 kl_0 (by decide) ti_10_1 (by decide) rfl dX10_ways_38 ?_
      refine rx_aload_n (i := 0) dX10_ways_41 rfl rfl ?_
      refine rx_getR 28 (k := 2) fo_X10_26 kl_0 (by decide) ti_10_2 (by decide) rfl dX10_ways_42 ?_
      refine rx_cvI (ci := 8) mo_X8_everybody lk_X10_347 (c_X8_everybody it28 (hW.1.tw w)) (by decide) rfl rfl (Nat.le_of_ble_eq_true rfl) kl_28 rfl dX10_ways_45 ?_
      refine rx_aload_n (i := 0) dX10_ways_48 rfl rfl ?_
      refine rx_getR 19 (k := 10) fo_X10_70 kl_0 (by decide) ti_10_10 (by decide) rfl dX10_ways_49 ?_
      refine rx_cvI (ci := 5) mo_X5_allPayers lk_X10_350 (c_X5_allPayers hVS hO hn8 hm10) (by decide) rfl rfl (Nat.le_of_ble_eq_true rfl) kl_19 rfl dX10_ways_52 ?_
      refine rx_iconst (-1) dX10_ways_55 rfl ?_
      refine rx_ixor dX10_ways_56 ?_
      refine rx_iand dX10_ways_57 ?_
      refine rx_i2l dX10_ways_58 rfl ?_
      refine rx_cvN (ci := 7) mo_X7_tell lk_X10_233 c_X7_tell (by decide) rfl rfl (Nat.le_of_ble_eq_true rfl) kl_4 rfl dX10_ways_59 ?_
      refine rx_lload_n (i := 2) dX10_ways_62 rfl rfl ?_
      first | exact rx_lret dX10_ways_63 ⟨hVS, Or.inl ⟨hok, hW.1, rfl, Or.inr ⟨e34, hW⟩⟩⟩ | exact rx_lret dX10_ways_63 ⟨VS_fr hVS fcR_r1, Or.inl ⟨hok, hW.1.trans fcR_r1.V, rfl, Or.inl ⟨e34, r1_row⟩⟩⟩
  · skip
    have hok : (vsX (view M 28) n m x).1.1 = false := zI_0.mp c16
    refine rx_ldc2 (own := RX10) (v := (-3)) (List.mem_of_getElem? (i := 1122) (by decide +kernel)) dX10_ways_19 ?_
    exact rx_lret dX10_ways_22 ⟨hVS, Or.inr ⟨hok, rfl, hW⟩⟩
set_option maxRecDepth 100000 in
set_option maxHeartbeats 4000000 in
theorem c_X10_ways_no {M : Mem} {x : Int32} (hx : ¬ (0 ≤ x ∧ x ≤ 99)) : Fun yX10_ways cX10_ways 4 (some .long) 6 [.ref 0, .int x] M (some (.long (-1))) (M) := by
  refine Fun.of (own := RX10) ([some (.ref 0), some (.int x), none, none]) rfl (by decide +kernel) (Nat.le_of_ble_eq_true rfl) rfl ?_
  refine rx_iload_n (i := 1) dX10_ways_0 rfl rfl ?_
  refine rx_csI mo_X10_isDay lk_X10_296 c_X10_isDay (by decide) rfl rfl (Nat.le_of_ble_eq_true rfl) dX10_ways_1 ?_
  refine rx_if_ne (tgt := 11) dX10_ways_4 (by decide) (fun c4 => ?_) (fun c4 => ?_)
  · skip
    exact absurd (ite1n c4) hx
    skip
  · skip
    refine rx_ldc2 (own := RX10) (v := (-1)) (List.mem_of_getElem? (i := 1121) (by decide +kernel)) dX10_ways_7 ?_
    exact rx_fiL dX10_ways_10 rfl rfl
theorem few_m1 {q : Nat → Bool} {f : Nat → Int32} {e : Nat} (h : ∀ t, t < e → ∃ k, k < 1024 ∧ f t = nI k) : fewN q f e = -1 ∨ ∃ k, k < 1024 ∧ fewN q f e = nI k := by
  have hp : ∀ t, t < e → f t = nI (f t).toNatClampNeg ∧ (f t).toNatClampNeg < 1024 := fun t ht => by
    obtain ⟨k, hk, e⟩ := h t ht
    rw [e, nI_clamp (by omega)]; exact ⟨rfl, hk⟩
  rcases fewN_sp (q := q) (p := fun t => (f t).toNatClampNeg) hp with h | ⟨t, t1, -, t3, -⟩
  · exact Or.inl h.1
  · exact Or.inr ⟨_, (hp t t1).2, t3⟩
set_option maxRecDepth 100000 in
set_option maxHeartbeats 4000000 in
theorem c_X10_fewest {M : Mem} {n m : Nat} {x : Int32} (w : TW M 28 n m) (hO : OKS (view M 28) n m) (hV : SV M n m) (hA : AOK (view M 28) n) (hx : 0 ≤ x ∧ x ≤ 99) : Con yX10_fewest cX10_fewest 3 (some .int) 6 [.ref 0, .int x] M (fun v N => VS N (view M 28) n m x ∧ (((vsX (view M 28) n m x).1.1 = true ∧ fcV M N ∧ ((fewN (fun t => decide ((vsX (view M 28) n m x).1.2.mk t = (thV (view M 28) m x))) (pyS (view M 28) n m (vsX (view M 28) n m x).1.2) (vsX (view M 28) n m x).1.2.N = -1 ∧ v = some (.int (-2)) ∧ fcW M N) ∨ (fewN (fun t => decide ((vsX (view M 28) n m x).1.2.mk t = (thV (view M 28) m x))) (pyS (view M 28) n m (vsX (view M 28) n m x).1.2) (vsX (view M 28) n m x).1.2.N ≠ -1 ∧ v = some (.int (bcnt (fewN (fun t => decide ((vsX (view M 28) n m x).1.2.mk t = (thV (view M 28) m x))) (pyS (view M 28) n m (vsX (view M 28) n m x).1.2) (vsX (view M 28) n m x).1.2.N))) ∧ row1C N (fewN (fun t => decide ((vsX (view M 28) n m x).1.2.mk t = (thV (view M 28) m x))) (pyS (view M 28) n m (vsX (view M 28) n m x).1.2) (vsX (view M 28) n m x).1.2.N).toInt64))) ∨ ((vsX (view M 28) n m x).1.1 = false ∧ v = some (.int (-3)) ∧ fcW M N))) := by
  refine Con.of (own := RX10) (ls := [some (.ref 0), some (.int x), none]) rfl (by decide +kernel) (Nat.le_of_ble_eq_true rfl) rfl ?_
  have ⟨hn, hn8, hm, hm10, hd⟩ := w
  refine rx_iload_n (i := 1) dX10_fewest_0 rfl rfl ?_
  refine rx_csI mo_X10_isDay lk_X10_296 c_X10_isDay (by decide) rfl rfl (Nat.le_of_ble_eq_true rfl) dX10_fewest_1 ?_
  refine rx_top (1) (if_pos hx) ?_
  refine rx_if_ne (tgt := 9) dX10_fewest_4 (by decide) (fun c4 => ?_) (fun c4 => absurd c4 (by decide))
  refine rx_aload_n (i := 0) dX10_fewest_9 rfl rfl ?_
  refine rx_iload_n (i := 1) dX10_fewest_10 rfl rfl ?_
  refine rx_callV (ci := 10) mo_X10_visit lk_X10_299 (c_X10_visit (x := x) w hO hV) (by decide) rfl rfl (Nat.le_of_ble_eq_true rfl) kl_0 rfl dX10_fewest_11 ?_
  rintro _ N ⟨rfl, hVS, hst⟩
  have hW := hst.W
  refine rx_if_ne (tgt := 20) dX10_fewest_14 (by decide) (fun c14 => ?_) (fun c14 => ?_)
  · skip
    have hok : (vsX (view M 28) n m x).1.1 = true := zI_n c14
    have htk : thOK (view M 28) m (thV (view M 28) m x) := thV_OK hm10
    obtain ⟨⟨D, hC⟩, hPB⟩ := vis_pure htk hn8 hm10 hO hA hok
    have hSN : (vsX (view M 28) n m x).1.2.N ≤ 3000 := hC.2.2.2.1
    refine rx_aload_n (i := 0) dX10_fewest_20 rfl rfl ?_
    refine rx_getR 19 (k := 10) fo_X10_70 kl_0 (by decide) ti_10_10 (by decide) rfl dX10_fewest_21 ?_
    refine rx_cvI (ci := 5) mo_X5_fewestPayers lk_X10_356 (c_X5_fewestPayers hVS hO hn8 hm10) (by decide) rfl rfl (Nat.le_of_ble_eq_true rfl) kl_19 rfl dX10_fewest_24 ?_
    have hfw := few_m1 (q := fun t => decide ((vsX (view M 28) n m x).1.2.mk t = (thV (view M 28) m x))) (f := pyS (view M 28) n m (vsX (view M 28) n m x).1.2) (e := (vsX (view M 28) n m x).1.2.N) (fun t _ => by
      have h2n : 2 ^ n ≤ 256 := (by decide +kernel : ∀ n, n ≤ 8 → 2 ^ n ≤ 256) n hn8
      obtain ⟨k, hk, e⟩ := py_nI (T := view M 28) (m := m) (S := (vsX (view M 28) n m x).1.2) (t := t) hn8
      exact ⟨k, by omega, e⟩)
    refine rx_top (fewN (fun t => decide ((vsX (view M 28) n m x).1.2.mk t = (thV (view M 28) m x))) (pyS (view M 28) n m (vsX (view M 28) n m x).1.2) (vsX (view M 28) n m x).1.2.N) (rfl) ?_
    refine rx_istore_n (i := 2) dX10_fewest_27 rfl (by decide) rfl rfl ?_
    refine rx_iload_n (i := 2) dX10_fewest_28 rfl rfl ?_
    refine rx_if_ge (tgt := 35) dX10_fewest_29 (by decide) (fun c29 => ?_) (fun c29 => ?_)
    · skip
      have e29 : fewN (fun t => decide ((vsX (view M 28) n m x).1.2.mk t = (thV (view M 28) m x))) (pyS (view M 28) n m (vsX (view M 28) n m x).1.2) (vsX (view M 28) n m x).1.2.N ≠ -1 := fun z => by rw [z] at c29; exact absurd c29 (by decide)
      refine rx_aload_n (i := 0) dX10_fewest_35 rfl rfl ?_
      refine rx_getR 4 (k := 1) fo_X10_19 kl_0 (by decide) ti_10_1 (by decide) rfl dX10_fewest_36 ?_
      refine rx_iload_n (i := 2) dX10_fewest_39 rfl rfl ?_
      refine rx_i2l dX10_fewest_40 rfl ?_
      refine rx_cvN (ci := 7) mo_X7_tell lk_X10_233 c_X7_tell (by decide) rfl rfl (Nat.le_of_ble_eq_true rfl) kl_4 rfl dX10_fewest_41 ?_
      refine rx_iload_n (i := 2) dX10_fewest_44 rfl rfl ?_
      refine rx_csI mo_J6_bitCount_0f7a4 lk_X10_322 c_J6_bitCount_0f7a4 (by decide) rfl rfl (Nat.le_of_ble_eq_true rfl) dX10_fewest_45 ?_
      exact rx_iret dX10_fewest_48 ⟨VS_fr hVS fcR_r1, Or.inl ⟨hok, hW.1.trans fcR_r1.V, Or.inr ⟨e29, rfl, r1_row⟩⟩⟩
    · skip
      have e29 : fewN (fun t => decide ((vsX (view M 28) n m x).1.2.mk t = (thV (view M 28) m x))) (pyS (view M 28) n m (vsX (view M 28) n m x).1.2) (vsX (view M 28) n m x).1.2.N = -1 := hfw.resolve_right fun ⟨k, hk, e⟩ => c29 (by rw [e]; exact nI_pos' (by omega))
      refine rx_bipush (-2) dX10_fewest_32 rfl ?_
      exact rx_iret dX10_fewest_34 ⟨hVS, Or.inl ⟨hok, hW.1, Or.inl ⟨e29, rfl, hW⟩⟩⟩
  · skip
    have hok : (vsX (view M 28) n m x).1.1 = false := zI_0.mp c14
    refine rx_bipush (-3) dX10_fewest_17 rfl ?_
    exact rx_iret dX10_fewest_19 ⟨hVS, Or.inr ⟨hok, rfl, hW⟩⟩
set_option maxRecDepth 100000 in
set_option maxHeartbeats 4000000 in
theorem c_X10_fewest_no {M : Mem} {x : Int32} (hx : ¬ (0 ≤ x ∧ x ≤ 99)) : Fun yX10_fewest cX10_fewest 3 (some .int) 6 [.ref 0, .int x] M (some (.int (-1))) (M) := by
  refine Fun.of (own := RX10) ([some (.ref 0), some (.int x), none]) rfl (by decide +kernel) (Nat.le_of_ble_eq_true rfl) rfl ?_
  refine rx_iload_n (i := 1) dX10_fewest_0 rfl rfl ?_
  refine rx_csI mo_X10_isDay lk_X10_296 c_X10_isDay (by decide) rfl rfl (Nat.le_of_ble_eq_true rfl) dX10_fewest_1 ?_
  refine rx_if_ne (tgt := 9) dX10_fewest_4 (by decide) (fun c4 => ?_) (fun c4 => ?_)
  · skip
    exact absurd (ite1n c4) hx
    skip
  · skip
    refine rx_iconst (-1) dX10_fewest_7 rfl ?_
    exact rx_fiI dX10_fewest_8 rfl rfl
