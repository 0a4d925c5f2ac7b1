theorem fsum_le {f : Nat → Int32} {C : Nat} : ∀ {n : Nat}, (∀ k, k < n → 0 ≤ (f k).toInt ∧ (f k).toInt ≤ C) → n * C < 2 ^ 31 → 0 ≤ (fsum f n).toInt ∧ (fsum f n).toInt ≤ (n * C : Nat)
  | 0, _, _ => ⟨by show 0 ≤ (0 : Int32).toInt; rw [i_0]; omega, by show (0 : Int32).toInt ≤ _; rw [i_0]; omega⟩
  | n + 1, h, hC => by
    rw [Nat.succ_mul] at hC ⊢
    obtain ⟨h1, h2⟩ := fsum_le (n := n) (fun k hk => h k (by omega)) (by omega)
    have h3 := h n (by omega)
    simp only [fsum]
    rw [i_add (by omega) (by omega)]
    omega
theorem bd_le {T : TT} {n m : Nat} (hn : n ≤ 8) (hm : m ≤ 10) (hO : OKS T n m) {srt b who : Int32} : bdT T n m srt b who < 1000000000 := by
  unfold bdT sumT
  have h1 := fsum_le (f := fun k => if bt who k = true then T 0 k - T 3 k else 0) (C := 8000) (n := n) (fun k hk => by
    have a1 := hO.1 k hk
    have a2 := hO.le hk
    show 0 ≤ (if bt who k = true then T 0 k - T 3 k else 0).toInt ∧ (if bt who k = true then T 0 k - T 3 k else 0).toInt ≤ _
    split
    · rw [i_sub (by omega) (by omega)]; omega
    · rw [i_0]; omega) (by omega)
  have h2 := fsum_le (f := fun k => if bt (lfT T n m srt b who) k = true then T 8 k else 0) (C := 99) (n := m) (fun k hk => by
    have a1 := (hO.2.2.2 k hk).1
    show 0 ≤ (if bt (lfT T n m srt b who) k = true then T 8 k else 0).toInt ∧ (if bt (lfT T n m srt b who) k = true then T 8 k else 0).toInt ≤ _
    split
    · omega
    · rw [i_0]; omega) (by omega)
  rw [Int32.lt_iff_toInt_lt, i_add (by omega) (by omega), show (1000000000 : Int32).toInt = 1000000000 from rfl]
  omega
theorem mn_le {f : Nat → Int32} {j : Nat} : ∀ {e : Nat}, j < e → mnI f e ≤ f j
  | 0, h => absurd h (Nat.not_lt_zero _)
  | e + 1, h => by
    simp only [mnI]
    by_cases q : j = e
    · subst q
      split
      · exact Int32.le_refl _
      · next z => exact Int32.not_lt.mp z
    · have := mn_le (f := f) (j := j) (e := e) (by omega)
      split
      · next z => exact Int32.le_trans (Int32.le_of_lt z) this
      · exact this
/-- the least bar is the greatest flow -/
theorem lb_mn {f : Nat → Int32} : ∀ {e : Nat}, (∀ j, j < e + 1 → f j < 1000000000) → (lbM f (e + 1)).2 = mnI f (e + 1) ∧ f (lbM f (e + 1)).1 = mnI f (e + 1) ∧ (lbM f (e + 1)).1 < e + 1 ∧ ∀ j, j < (lbM f (e + 1)).1 → f j ≠ mnI f (e + 1)
  | 0, h => by
    have h0 := h 0 (by omega)
    have h1 : f 0 < 2147483647 := Int32.lt_trans h0 (by decide)
    have e1 : lbM f (0 + 1) = (0, f 0) := if_pos h1
    have e2 : mnI f (0 + 1) = f 0 := if_pos h0
    rw [e1, e2]
    exact ⟨rfl, rfl, by omega, fun j hj => absurd hj (Nat.not_lt_zero _)⟩
  | e + 1, h => by
    obtain ⟨a1, a2, a3, a4⟩ := lb_mn (f := f) (e := e) (fun j hj => h j (by omega))
    have e1 : lbM f (e + 1 + 1) = if f (e + 1) < (lbM f (e + 1)).2 then (e + 1, f (e + 1)) else lbM f (e + 1) := rfl
    have e2 : mnI f (e + 1 + 1) = if f (e + 1) < mnI f (e + 1) then f (e + 1) else mnI f (e + 1) := rfl
    rw [e1, e2, a1]
    by_cases q : f (e + 1) < mnI f (e + 1)
    · rw [if_pos q, if_pos q]
      refine ⟨rfl, rfl, Nat.lt_succ_self _, fun j hj z => ?_⟩
      have h5 : mnI f (e + 1) ≤ f j := mn_le (by have : j < e + 1 := hj; exact this)
      rw [z] at h5
      exact absurd q (Int32.not_lt.mpr h5)
    · rw [if_neg q, if_neg q]
      exact ⟨a1, a2, by omega, a4⟩
theorem r1_f {M : Mem} {v : Int64} {a : Nat} (h : a ≠ 4) : (r1M M v).1 a = M.1 a := funext fun j => (sI_na h).trans (show (setI M 4 1 0).1 a j = _ from sI_na h)
theorem bar_r1 {M : Mem} {v : Int64} {n m : Nat} {b : Int32} : barM (r1M M v) n m b = barM M n m b := by
  unfold barM sbM
  rw [r1_f (by omega), r1_f (by omega), r1_f (by omega), r1_f (by omega)]
/-- what a look shows -/
theorem look_e {M N : Mem} {n m : Nat} {srt x : Int32} (hX : sameX (lkM M n m srt x) N (fun z => z = 16)) {a j : Nat} (h1 : a ≠ 16) (h2 : a ≠ 15) (h3 : a ≠ 130) (h4 : ¬ (a = 139 ∧ j = 0)) : N.1 a j = (cpM M 124 28).1 a j := by
  have e1 : N.1 a j = (lkM M n m srt x).1 a j := congrFun (hX.1 a h1) j
  have e2 : (lkM M n m srt x).1 a j = (mkL (setI (cpM M 124 28) 139 0 srt) 124 n).1 a j := sI_na h2
  have e3 : (mkL (setI (cpM M 124 28) 139 0 srt) 124 n).1 a j = (setI (cpM M 124 28) 139 0 srt).1 a j := mkL_o h3
  rw [e1, e2, e3, sI_ne h4]
theorem look_v {M N : Mem} {n m : Nat} {srt x : Int32} (hX : sameX (lkM M n m srt x) N (fun z => z = 16)) {c : Nat} (h1 : c < 15) (h2 : c ≠ 5) (h3 : c ≠ 14) (j : Nat) : N.1 (125 + c) j = view M 28 c j := by
  rw [look_e hX (by omega) (by omega) (by omega) (by omega)]
  have h := congrFun (view_cp (M := M) (t := 124) (o := 28) c h2 (by omega)) j
  unfold view at h ⊢
  rw [if_pos h1, if_pos h1] at h
  rw [if_pos h1]
  exact h
theorem look_tw {M N : Mem} {n m : Nat} {srt x : Int32} (w : TW M 28 n m) (hX : sameX (lkM M n m srt x) N (fun z => z = 16)) : TW N 124 n m :=
  (TW_cp (t := 124) w).keep (look_e hX (by omega) (by omega) (by omega) (by omega)) (look_e hX (by omega) (by omega) (by omega) (by omega)) (fun k _ => look_e hX (by omega) (by omega) (by omega) (by omega)) (fun k _ => look_e hX (by omega) (by omega) (by omega) (by omega))
theorem look_15 {M N : Mem} {n m : Nat} {srt x : Int32} (hX : sameX (lkM M n m srt x) N (fun z => z = 16)) : N.1 15 2 = thV (view M 28) m x := by
  rw [hX.1 15 (by decide)]
  unfold lkM
  rw [sI_eq]
  rfl
theorem look_16 {M N : Mem} {n m : Nat} {srt x : Int32} (hm : m ≤ 10) (h16 : ∀ k, k < m → N.1 16 k = (fun k => if dueT (view M 28) x k = true then fbor (ptT (view M 28) n srt k) n else 0) k) {k : Nat} (hk : k < m) : N.1 16 k = if bt (thV (view M 28) m x) k = true then fbor (ptT (view M 28) n srt k) n else 0 := by
  rw [h16 k hk]
  dsimp only
  have : dueT (view M 28) x k = bt (thV (view M 28) m x) k := by rw [thV, b_fbor _ m (by omega)]; simp [hk]
  rw [this]
theorem look_lf {M N : Mem} {n m : Nat} {srt x : Int32} (hm : m ≤ 10) (h16 : ∀ k, k < m → N.1 16 k = (fun k => if dueT (view M 28) x k = true then fbor (ptT (view M 28) n srt k) n else 0) k) (b : Int32) : fbor (fun k => !(decide (N.1 16 k &&& (b ^^^ (-1)) = 0))) m = lfT (view M 28) n m srt (thV (view M 28) m x) b := by
  unfold lfT
  refine fbor_congr fun k hk => ?_
  rw [look_16 hm h16 hk]
  by_cases hb : bt (thV (view M 28) m x) k = true
  · rw [if_pos hb, hb, Bool.true_and]
  · rw [if_neg hb, Bool.eq_false_iff.mpr hb, Bool.false_and]
    have : (0 : Int32) &&& (b ^^^ -1) = 0 := b_ext fun i _ => by rw [b_and, b_0, Bool.false_and]
    rw [this]; rfl
theorem look_sb {M N : Mem} {n m : Nat} {srt x : Int32} (hm : m ≤ 10) (hX : sameX (lkM M n m srt x) N (fun z => z = 16)) (h16 : ∀ k, k < m → N.1 16 k = (fun k => if dueT (view M 28) x k = true then fbor (ptT (view M 28) n srt k) n else 0) k) (b : Int32) : sbM N m b = sumT (view M 28) m (lfT (view M 28) n m srt (thV (view M 28) m x) b) := by
  unfold sbM sumT
  rw [look_lf hm h16 b]
  have e : N.1 133 = view M 28 8 := funext fun j => look_v hX (c := 8) (by omega) (by omega) (by omega) j
  rw [e]
theorem look_bd {M N : Mem} {n m : Nat} {srt x : Int32} (hm : m ≤ 10) (hX : sameX (lkM M n m srt x) N (fun z => z = 16)) (h16 : ∀ k, k < m → N.1 16 k = (fun k => if dueT (view M 28) x k = true then fbor (ptT (view M 28) n srt k) n else 0) k) (b : Int32) : barM N n m b = bdT (view M 28) n m srt (thV (view M 28) m x) b := by
  unfold barM bdT
  have e0 : N.1 125 = view M 28 0 := funext fun j => look_v hX (c := 0) (by omega) (by omega) (by omega) j
  have e3 : N.1 128 = view M 28 3 := funext fun j => look_v hX (c := 3) (by omega) (by omega) (by omega) j
  rw [look_sb hm hX h16 b, e0, e3]
theorem look_no {M N : Mem} {n m : Nat} {srt x : Int32} (hm : m ≤ 10) (hX : sameX (lkM M n m srt x) N (fun z => z = 16)) (h16 : ∀ k, k < m → N.1 16 k = (fun k => if dueT (view M 28) x k = true then fbor (ptT (view M 28) n srt k) n else 0) k) : fbor (fun k => bt (N.1 15 2) k && decide (fsum (fun i => if bt (N.1 16 k) i = true then N.1 125 i - N.1 128 i else 0) n < N.1 133 k)) m = notT (view M 28) n m srt (thV (view M 28) m x) := by
  unfold notT
  have e0 : N.1 125 = view M 28 0 := funext fun j => look_v hX (c := 0) (by omega) (by omega) (by omega) j
  have e3 : N.1 128 = view M 28 3 := funext fun j => look_v hX (c := 3) (by omega) (by omega) (by omega) j
  have e8 : N.1 133 = view M 28 8 := funext fun j => look_v hX (c := 8) (by omega) (by omega) (by omega) j
  rw [look_15 hX, e0, e3, e8]
  refine fbor_congr fun k hk => ?_
  rw [look_16 hm h16 hk]
  by_cases hb : bt (thV (view M 28) m x) k = true
  · rw [if_pos hb]
  · rw [Bool.eq_false_iff.mpr hb, Bool.false_and, Bool.false_and]
theorem look_K {M N : Mem} {n m : Nat} {srt x : Int32} (hX : sameX (lkM M n m srt x) N (fun z => z = 16)) : fcK M N := by
  have h1 : sameX M (cpM M 124 28) (fun z => z = 15 ∨ z = 16 ∨ (124 ≤ z ∧ z ≤ 139)) := ⟨fun a ha => cpM_o (by omega), rfl⟩
  have h2 : sameX (cpM M 124 28) (setI (cpM M 124 28) 139 0 srt) (fun z => z = 15 ∨ z = 16 ∨ (124 ≤ z ∧ z ≤ 139)) := sameX_I (by omega)
  have h3 : sameX (setI (cpM M 124 28) 139 0 srt) (mkL (setI (cpM M 124 28) 139 0 srt) 124 n) (fun z => z = 15 ∨ z = 16 ∨ (124 ≤ z ∧ z ≤ 139)) := sameX_L (by omega)
  have h4 : sameX (mkL (setI (cpM M 124 28) 139 0 srt) 124 n) (lkM M n m srt x) (fun z => z = 15 ∨ z = 16 ∨ (124 ≤ z ∧ z ≤ 139)) := sameX_I (by omega)
  exact (((h1.trans h2).trans h3).trans (h4.trans (hX.weaken fun a h => Or.inr (Or.inl h)))).CK fun a h => by unfold scr; omega
theorem look_bar {M N : Mem} {n m : Nat} {srt x : Int32} (w : TW M 28 n m) (hX : sameX (lkM M n m srt x) N (fun z => z = 16)) (h16 : ∀ k, k < m → N.1 16 k = (fun k => if dueT (view M 28) x k = true then fbor (ptT (view M 28) n srt k) n else 0) k) :
    TW N 124 n m ∧ (∀ b, barM N n m b = bdT (view M 28) n m srt (thV (view M 28) m x) b) ∧ (∀ b, fbor (fun k => !(decide (N.1 16 k &&& (b ^^^ (-1)) = 0))) m = lfT (view M 28) n m srt (thV (view M 28) m x) b) ∧ (∀ b, sbM N m b = sumT (view M 28) m (lfT (view M 28) n m srt (thV (view M 28) m x) b)) ∧
    fbor (fun k => bt (N.1 15 2) k && decide (fsum (fun i => if bt (N.1 16 k) i = true then N.1 125 i - N.1 128 i else 0) n < N.1 133 k)) m = notT (view M 28) n m srt (thV (view M 28) m x) ∧ fcK M N :=
  ⟨look_tw w hX, look_bd w.2.2.2.1 hX h16, look_lf w.2.2.2.1 h16, look_sb w.2.2.2.1 hX h16, look_no w.2.2.2.1 hX h16, look_K hX⟩
set_option maxRecDepth 100000 in
set_option maxHeartbeats 4000000 in
theorem c_X10_flow {M : Mem} {n m : Nat} {x : Int32} (w : TW M 28 n m) (hO : OKS (view M 28) n m) (hx : 0 ≤ x ∧ x ≤ 99) : Con yX10_flow cX10_flow 2 (some .int) 4 [.ref 0, .int x] M (fun v N => v = some (.int (floT (view M 28) n m (M.1 43 0) (thV (view M 28) m x))) ∧ fcR M N ∧ row1C N (notT (view M 28) n m (M.1 43 0) (thV (view M 28) m x)).toInt64) := by
  refine Con.of (own := RX10) (ls := [some (.ref 0), some (.int x)]) rfl (by decide +kernel) (Nat.le_of_ble_eq_true rfl) rfl ?_
  have ⟨hn, hn8, hm, hm10, hd⟩ := w
  refine rx_iload_n (i := 1) dX10_flow_0 rfl rfl ?_
  refine rx_csI mo_X10_isDay lk_X10_296 c_X10_isDay (by decide) rfl rfl (Nat.le_of_ble_eq_true rfl) dX10_flow_1 ?_
  refine rx_top (1) (if_pos hx) ?_
  refine rx_if_ne (tgt := 9) dX10_flow_4 (by decide) (fun c4 => ?_) (fun c4 => absurd c4 (by decide))
  refine rx_aload_n (i := 0) dX10_flow_9 rfl rfl ?_
  refine rx_getR 15 (k := 11) fo_X10_77 kl_0 (by decide) ti_10_11 (by decide) rfl dX10_flow_10 ?_
  refine rx_aload_n (i := 0) dX10_flow_13 rfl rfl ?_
  refine rx_getR 28 (k := 2) fo_X10_26 kl_0 (by decide) ti_10_2 (by decide) rfl dX10_flow_14 ?_
  refine rx_aload_n (i := 0) dX10_flow_17 rfl rfl ?_
  refine rx_getR 28 (k := 2) fo_X10_26 kl_0 (by decide) ti_10_2 (by decide) rfl dX10_flow_18 ?_
  refine rx_getR 43 (k := 14) fo_X10_181 kl_28 (by decide) ti_8_14 (by decide) rfl dX10_flow_21 ?_
  refine rx_iconst (0) dX10_flow_24 rfl ?_
  refine rx_ialdN (k := 0) kl_43 (by omega) (by first | decide | omega) dX10_flow_25 ?_
  refine rx_iload_n (i := 1) dX10_flow_26 rfl rfl ?_
  refine rx_callV (ci := 2) mo_X2_look lk_X10_359 (c_X2_look (srt := (M.1 43 0)) (x := x) w hO.T) (by decide) rfl rfl (Nat.le_of_ble_eq_true rfl) kl_15 rfl dX10_flow_27 ?_
  rintro _ N ⟨rfl, hX, h16⟩
  obtain ⟨wN, eb, elf, esb, eno, hK⟩ := look_bar w hX h16
  have hlb : ∀ e, lbM (fun b => barM N n m (nI b)) e = lbM (fun b => bdT (view M 28) n m (M.1 43 0) (thV (view M 28) m x) (nI b)) e := fun e => by rw [show (fun b => barM N n m (nI b)) = fun b => bdT (view M 28) n m (M.1 43 0) (thV (view M 28) m x) (nI b) from funext fun b => eb (nI b)]
  obtain ⟨p2, ep2⟩ : ∃ p2, 2 ^ n = p2 + 1 := ⟨2 ^ n - 1, by have := Nat.pow_pos (n := n) (show 0 < 2 by omega); omega⟩
  have hmn := lb_mn (f := fun b => bdT (view M 28) n m (M.1 43 0) (thV (view M 28) m x) (nI b)) (e := p2) (fun j _ => bd_le hn8 hm10 hO)
  rw [← ep2] at hmn
  refine rx_aload_n (i := 0) dX10_flow_30 rfl rfl ?_
  refine rx_getR 4 (k := 1) fo_X10_19 kl_0 (by decide) ti_10_1 (by decide) rfl dX10_flow_31 ?_
  refine rx_aload_n (i := 0) dX10_flow_34 rfl rfl ?_
  refine rx_getR 15 (k := 11) fo_X10_77 kl_0 (by decide) ti_10_11 (by decide) rfl dX10_flow_35 ?_
  refine rx_cvI (ci := 2) mo_X2_tooGreat lk_X10_363 (c_X2_tooGreat wN) (by decide) rfl rfl (Nat.le_of_ble_eq_true rfl) kl_15 rfl dX10_flow_38 ?_
  refine rx_top (notT (view M 28) n m (M.1 43 0) (thV (view M 28) m x)) (eno) ?_
  refine rx_i2l dX10_flow_41 rfl ?_
  refine rx_cvN (ci := 7) mo_X7_tell lk_X10_233 c_X7_tell (by decide) rfl rfl (Nat.le_of_ble_eq_true rfl) kl_4 rfl dX10_flow_42 ?_
  have hr1 := fcR_r1 (M := N) (a := (notT (view M 28) n m (M.1 43 0) (thV (view M 28) m x)).toInt64)
  have wR : TW (r1M N (notT (view M 28) n m (M.1 43 0) (thV (view M 28) m x)).toInt64) 124 n m := wN.keep (congrFun (r1_f (by omega)) _) (congrFun (r1_f (by omega)) _) (fun _ _ => congrFun (r1_f (by omega)) _) (fun _ _ => congrFun (r1_f (by omega)) _)
  refine rx_aload_n (i := 0) dX10_flow_45 rfl rfl ?_
  refine rx_getR 15 (k := 11) fo_X10_77 kl_0 (by decide) ti_10_11 (by decide) rfl dX10_flow_46 ?_
  refine rx_cvI (ci := 2) mo_X2_greatestFlow lk_X10_366 (c_X2_greatestFlow wR) (by decide) rfl rfl (Nat.le_of_ble_eq_true rfl) kl_15 rfl dX10_flow_49 ?_
  simp only [bar_r1]
  refine rx_top (floT (view M 28) n m (M.1 43 0) (thV (view M 28) m x)) (by rw [eb, hlb]; exact hmn.2.1) ?_
  exact rx_iret dX10_flow_52 ⟨rfl, hK.1.trans fcR_r1, r1_row⟩
set_option maxRecDepth 100000 in
set_option maxHeartbeats 4000000 in
theorem c_X10_flow_no {M : Mem} {x : Int32} (hx : ¬ (0 ≤ x ∧ x ≤ 99)) : Fun yX10_flow cX10_flow 2 (some .int) 4 [.ref 0, .int x] M (some (.int (-1))) (M) := by
  refine Fun.of (own := RX10) ([some (.ref 0), some (.int x)]) rfl (by decide +kernel) (Nat.le_of_ble_eq_true rfl) rfl ?_
  refine rx_iload_n (i := 1) dX10_flow_0 rfl rfl ?_
  refine rx_csI mo_X10_isDay lk_X10_296 c_X10_isDay (by decide) rfl rfl (Nat.le_of_ble_eq_true rfl) dX10_flow_1 ?_
  refine rx_if_ne (tgt := 9) dX10_flow_4 (by decide) (fun c4 => ?_) (fun c4 => ?_)
  · skip
    exact absurd (ite1n c4) hx
    skip
  · skip
    refine rx_iconst (-1) dX10_flow_7 rfl ?_
    exact rx_fiI dX10_flow_8 rfl rfl
set_option maxRecDepth 100000 in
set_option maxHeartbeats 4000000 in
theorem c_X10_proof {M : Mem} {n m : Nat} {x : Int32} (w : TW M 28 n m) (hO : OKS (view M 28) n m) (hx : 0 ≤ x ∧ x ≤ 99) : Con yX10_proof cX10_proof 3 (some .int) 4 [.ref 0, .int x] M (fun v N => ∃ W, W < 2 ^ n ∧ bdT (view M 28) n m (M.1 43 0) (thV (view M 28) m x) (nI W) = floT (view M 28) n m (M.1 43 0) (thV (view M 28) m x) ∧ (∀ q, q < W → bdT (view M 28) n m (M.1 43 0) (thV (view M 28) m x) (nI q) ≠ floT (view M 28) n m (M.1 43 0) (thV (view M 28) m x)) ∧ v = some (.int (nI W)) ∧ fcR M N ∧ row2C N (sumT (view M 28) m (lfT (view M 28) n m (M.1 43 0) (thV (view M 28) m x) (nI W))).toInt64 (lfT (view M 28) n m (M.1 43 0) (thV (view M 28) m x) (nI W)).toInt64) := by
  refine Con.of (own := RX10) (ls := [some (.ref 0), some (.int x), none]) rfl (by decide +kernel) (Nat.le_of_ble_eq_true rfl) rfl ?_
  have ⟨hn, hn8, hm, hm10, hd⟩ := w
  refine rx_iload_n (i := 1) dX10_proof_0 rfl rfl ?_
  refine rx_csI mo_X10_isDay lk_X10_296 c_X10_isDay (by decide) rfl rfl (Nat.le_of_ble_eq_true rfl) dX10_proof_1 ?_
  refine rx_top (1) (if_pos hx) ?_
  refine rx_if_ne (tgt := 9) dX10_proof_4 (by decide) (fun c4 => ?_) (fun c4 => absurd c4 (by decide))
  refine rx_aload_n (i := 0) dX10_proof_9 rfl rfl ?_
  refine rx_getR 15 (k := 11) fo_X10_77 kl_0 (by decide) ti_10_11 (by decide) rfl dX10_proof_10 ?_
  refine rx_aload_n (i := 0) dX10_proof_13 rfl rfl ?_
  refine rx_getR 28 (k := 2) fo_X10_26 kl_0 (by decide) ti_10_2 (by decide) rfl dX10_proof_14 ?_
  refine rx_aload_n (i := 0) dX10_proof_17 rfl rfl ?_
  refine rx_getR 28 (k := 2) fo_X10_26 kl_0 (by decide) ti_10_2 (by decide) rfl dX10_proof_18 ?_
  refine rx_getR 43 (k := 14) fo_X10_181 kl_28 (by decide) ti_8_14 (by decide) rfl dX10_proof_21 ?_
  refine rx_iconst (0) dX10_proof_24 rfl ?_
  refine rx_ialdN (k := 0) kl_43 (by omega) (by first | decide | omega) dX10_proof_25 ?_
  refine rx_iload_n (i := 1) dX10_proof_26 rfl rfl ?_
  refine rx_callV (ci := 2) mo_X2_look lk_X10_359 (c_X2_look (srt := (M.1 43 0)) (x := x) w hO.T) (by decide) rfl rfl (Nat.le_of_ble_eq_true rfl) kl_15 rfl dX10_proof_27 ?_
  rintro _ N ⟨rfl, hX, h16⟩
  obtain ⟨wN, eb, elf, esb, eno, hK⟩ := look_bar w hX h16
  have hlb : ∀ e, lbM (fun b => barM N n m (nI b)) e = lbM (fun b => bdT (view M 28) n m (M.1 43 0) (thV (view M 28) m x) (nI b)) e := fun e => by rw [show (fun b => barM N n m (nI b)) = fun b => bdT (view M 28) n m (M.1 43 0) (thV (view M 28) m x) (nI b) from funext fun b => eb (nI b)]
  obtain ⟨p2, ep2⟩ : ∃ p2, 2 ^ n = p2 + 1 := ⟨2 ^ n - 1, by have := Nat.pow_pos (n := n) (show 0 < 2 by omega); omega⟩
  have hmn := lb_mn (f := fun b => bdT (view M 28) n m (M.1 43 0) (thV (view M 28) m x) (nI b)) (e := p2) (fun j _ => bd_le hn8 hm10 hO)
  rw [← ep2] at hmn
  refine rx_aload_n (i := 0) dX10_proof_30 rfl rfl ?_
  refine rx_getR 15 (k := 11) fo_X10_77 kl_0 (by decide) ti_10_11 (by decide) rfl dX10_proof_31 ?_
  refine rx_cvI (ci := 2) mo_X2_leastBar lk_X10_369 (c_X2_leastBar wN) (by decide) rfl rfl (Nat.le_of_ble_eq_true rfl) kl_15 rfl dX10_proof_34 ?_
  rw [hlb]
  obtain ⟨W, eW⟩ : ∃ W, (lbM (fun b => bdT (view M 28) n m (M.1 43 0) (thV (view M 28) m x) (nI b)) (2 ^ n)).1 = W := ⟨_, rfl⟩
  rw [eW] at hmn ⊢
  refine rx_istore_n (i := 2) dX10_proof_37 rfl (by decide) rfl rfl ?_
  refine rx_aload_n (i := 0) dX10_proof_38 rfl rfl ?_
  refine rx_getR 4 (k := 1) fo_X10_19 kl_0 (by decide) ti_10_1 (by decide) rfl dX10_proof_39 ?_
  refine rx_aload_n (i := 0) dX10_proof_42 rfl rfl ?_
  refine rx_getR 15 (k := 11) fo_X10_77 kl_0 (by decide) ti_10_11 (by decide) rfl dX10_proof_43 ?_
  refine rx_iload_n (i := 2) dX10_proof_46 rfl rfl ?_
  refine rx_cvI (ci := 2) mo_X2_sumsBehind lk_X10_372 (c_X2_sumsBehind wN) (by decide) rfl rfl (Nat.le_of_ble_eq_true rfl) kl_15 rfl dX10_proof_47 ?_
  refine rx_top (sumT (view M 28) m (lfT (view M 28) n m (M.1 43 0) (thV (view M 28) m x) (nI W))) (esb _) ?_
  refine rx_i2l dX10_proof_50 rfl ?_
  refine rx_aload_n (i := 0) dX10_proof_51 rfl rfl ?_
  refine rx_getR 15 (k := 11) fo_X10_77 kl_0 (by decide) ti_10_11 (by decide) rfl dX10_proof_52 ?_
  refine rx_iload_n (i := 2) dX10_proof_55 rfl rfl ?_
  refine rx_cvI (ci := 2) mo_X2_debtsBehind lk_X10_375 (c_X2_debtsBehind wN) (by decide) rfl rfl (Nat.le_of_ble_eq_true rfl) kl_15 rfl dX10_proof_56 ?_
  refine rx_top (lfT (view M 28) n m (M.1 43 0) (thV (view M 28) m x) (nI W)) (elf _) ?_
  refine rx_i2l dX10_proof_59 rfl ?_
  refine rx_cvN (ci := 7) mo_X7_tell_ lk_X10_221 c_X7_tell_ (by decide) rfl rfl (Nat.le_of_ble_eq_true rfl) kl_4 rfl dX10_proof_60 ?_
  refine rx_iload_n (i := 2) dX10_proof_63 rfl rfl ?_
  exact rx_iret dX10_proof_64 ⟨W, hmn.2.2.1, hmn.2.1, hmn.2.2.2, rfl, hK.1.trans fcR_r2, r2_row⟩
set_option maxRecDepth 100000 in
set_option maxHeartbeats 4000000 in
theorem c_X10_proof_no {M : Mem} {x : Int32} (hx : ¬ (0 ≤ x ∧ x ≤ 99)) : Fun yX10_proof cX10_proof 3 (some .int) 4 [.ref 0, .int x] M (some (.int (-1))) (M) := by
  refine Fun.of (own := RX10) ([some (.ref 0), some (.int x), none]) rfl (by decide +kernel) (Nat.le_of_ble_eq_true rfl) rfl ?_
  refine rx_iload_n (i := 1) dX10_proof_0 rfl rfl ?_
  refine rx_csI mo_X10_isDay lk_X10_296 c_X10_isDay (by decide) rfl rfl (Nat.le_of_ble_eq_true rfl) dX10_proof_1 ?_
  refine rx_if_ne (tgt := 9) dX10_proof_4 (by decide) (fun c4 => ?_) (fun c4 => ?_)
  · skip
    exact absurd (ite1n c4) hx
    skip
  · skip
    refine rx_iconst (-1) dX10_proof_7 rfl ?_
    exact rx_fiI dX10_proof_8 rfl rfl
theorem flo_alk {T T' : TT} {n m : Nat} {srt b : Int32} (e : alk T T') : floT T' n m srt b = floT T n m srt b := by
  unfold floT bdT lfT sumT
  rw [e 0 (by omega) (by omega), e 3 (by omega) (by omega), e 8 (by omega) (by omega)]
  have hp : ptT T' n srt = ptT T n srt := by
    funext k i
    unfold ptT
    have h1 : onT T' = onT T := by funext j; simp only [onT, e 14 (by omega) (by omega), e 4 (by omega) (by omega), e 0 (by omega) (by omega), e 3 (by omega) (by omega)]
    rw [e 6 (by omega) (by omega), e 7 (by omega) (by omega), e 14 (by omega) (by omega), h1]
  rw [hp]
theorem thV_alk {T T' : TT} {m : Nat} {x : Int32} (e : alk T T') : thV T' m x = thV T m x := by
  unfold thV
  refine fbor_congr fun k _ => ?_
  unfold dueT
  rw [e 10 (by omega) (by omega), e 9 (by omega) (by omega)]
set_option maxRecDepth 100000 in
set_option maxHeartbeats 4000000 in
theorem c_X10_gap {M : Mem} {n m : Nat} {x : Int32} (w : TW M 28 n m) (hO : OKS (view M 28) n m) (hx : 0 ≤ x ∧ x ≤ 99) {y : Int32} (hy : 0 ≤ y ∧ y ≤ 3) : Con yX10_gap cX10_gap 4 (some .int) 4 [.ref 0, .int y, .int x] M (fun v N => v = some (.int (floT (view M 28) n m y (thV (view M 28) m x) - floT (view M 28) n m (M.1 43 0) (thV (view M 28) m x))) ∧ fcK M N) := by
  refine Con.of (own := RX10) (ls := [some (.ref 0), some (.int y), some (.int x), none]) rfl (by decide +kernel) (Nat.le_of_ble_eq_true rfl) rfl ?_
  have ⟨hn, hn8, hm, hm10, hd⟩ := w
  refine rx_iload_n (i := 1) dX10_gap_0 rfl rfl ?_
  refine rx_if_lt (tgt := 16) dX10_gap_1 (by decide) (fun c1 => ?_) (fun c1 => ?_)
  · skip
    exact absurd hy.1 (Int32.not_le.mpr c1)
    skip
  · skip
    refine rx_iload_n (i := 1) dX10_gap_4 rfl rfl ?_
    refine rx_iconst (4) dX10_gap_5 rfl ?_
    refine rx_icmp_ge (tgt := 16) dX10_gap_6 (by decide) (fun c6 => ?_) (fun c6 => ?_)
    · skip
      exact absurd (Int32.lt_of_le_of_lt hy.2 (show (3 : Int32) < 4 by decide)) (Int32.not_lt.mpr c6)
      skip
    · skip
      refine rx_iload_n (i := 2) dX10_gap_9 rfl rfl ?_
      refine rx_csI mo_X10_isDay lk_X10_296 c_X10_isDay (by decide) rfl rfl (Nat.le_of_ble_eq_true rfl) dX10_gap_10 ?_
      refine rx_top (1) (if_pos hx) ?_
      refine rx_if_ne (tgt := 18) dX10_gap_13 (by decide) (fun c13 => ?_) (fun c13 => absurd c13 (by decide))
      refine rx_aload_n (i := 0) dX10_gap_18 rfl rfl ?_
      refine rx_getR 15 (k := 11) fo_X10_77 kl_0 (by decide) ti_10_11 (by decide) rfl dX10_gap_19 ?_
      refine rx_aload_n (i := 0) dX10_gap_22 rfl rfl ?_
      refine rx_getR 28 (k := 2) fo_X10_26 kl_0 (by decide) ti_10_2 (by decide) rfl dX10_gap_23 ?_
      refine rx_aload_n (i := 0) dX10_gap_26 rfl rfl ?_
      refine rx_getR 28 (k := 2) fo_X10_26 kl_0 (by decide) ti_10_2 (by decide) rfl dX10_gap_27 ?_
      refine rx_getR 43 (k := 14) fo_X10_181 kl_28 (by decide) ti_8_14 (by decide) rfl dX10_gap_30 ?_
      refine rx_iconst (0) dX10_gap_33 rfl ?_
      refine rx_ialdN (k := 0) kl_43 (by omega) (by first | decide | omega) dX10_gap_34 ?_
      refine rx_iload_n (i := 2) dX10_gap_35 rfl rfl ?_
      refine rx_callV (ci := 2) mo_X2_look lk_X10_359 (c_X2_look (srt := (M.1 43 0)) (x := x) w hO.T) (by decide) rfl rfl (Nat.le_of_ble_eq_true rfl) kl_15 rfl dX10_gap_36 ?_
      rintro _ N ⟨rfl, hX, h16⟩
      obtain ⟨wN, eb, elf, esb, eno, hK⟩ := look_bar w hX h16
      have hlb : ∀ e, lbM (fun b => barM N n m (nI b)) e = lbM (fun b => bdT (view M 28) n m (M.1 43 0) (thV (view M 28) m x) (nI b)) e := fun e => by rw [show (fun b => barM N n m (nI b)) = fun b => bdT (view M 28) n m (M.1 43 0) (thV (view M 28) m x) (nI b) from funext fun b => eb (nI b)]
      obtain ⟨p2, ep2⟩ : ∃ p2, 2 ^ n = p2 + 1 := ⟨2 ^ n - 1, by have := Nat.pow_pos (n := n) (show 0 < 2 by omega); omega⟩
      have hmn := lb_mn (f := fun b => bdT (view M 28) n m (M.1 43 0) (thV (view M 28) m x) (nI b)) (e := p2) (fun j _ => bd_le hn8 hm10 hO)
      rw [← ep2] at hmn
      refine rx_aload_n (i := 0) dX10_gap_39 rfl rfl ?_
      refine rx_getR 15 (k := 11) fo_X10_77 kl_0 (by decide) ti_10_11 (by decide) rfl dX10_gap_40 ?_
      refine rx_cvI (ci := 2) mo_X2_greatestFlow lk_X10_366 (c_X2_greatestFlow wN) (by decide) rfl rfl (Nat.le_of_ble_eq_true rfl) kl_15 rfl dX10_gap_43 ?_
      refine rx_top (floT (view M 28) n m (M.1 43 0) (thV (view M 28) m x)) (by rw [eb, hlb]; exact hmn.2.1) ?_
      have wM1 : TW N 28 n m := hK.1.tw w
      refine rx_istore_n (i := 3) dX10_gap_46 rfl (by decide) rfl rfl ?_
      refine rx_aload_n (i := 0) dX10_gap_47 rfl rfl ?_
      refine rx_getR 15 (k := 11) fo_X10_77 kl_0 (by decide) ti_10_11 (by decide) rfl dX10_gap_48 ?_
      refine rx_aload_n (i := 0) dX10_gap_51 rfl rfl ?_
      refine rx_getR 28 (k := 2) fo_X10_26 kl_0 (by decide) ti_10_2 (by decide) rfl dX10_gap_52 ?_
      refine rx_iload_n (i := 1) dX10_gap_55 rfl rfl ?_
      refine rx_iload_n (i := 2) dX10_gap_56 rfl rfl ?_
      refine rx_callV (ci := 2) mo_X2_look lk_X10_359 (c_X2_look (srt := y) (x := x) wM1 (hO.alk hK.1.vw).T) (by decide) rfl rfl (Nat.le_of_ble_eq_true rfl) kl_15 rfl dX10_gap_57 ?_
      rintro _ N2 ⟨rfl, hX2, h162⟩
      obtain ⟨wN2, eb2, elf2, esb2, eno2, hK2⟩ := look_bar wM1 hX2 h162
      have hlb2 : ∀ e, lbM (fun b => barM N2 n m (nI b)) e = lbM (fun b => bdT (view N 28) n m y (thV (view N 28) m x) (nI b)) e := fun e => by rw [show (fun b => barM N2 n m (nI b)) = fun b => bdT (view N 28) n m y (thV (view N 28) m x) (nI b) from funext fun b => eb2 (nI b)]
      obtain ⟨p3, ep3⟩ : ∃ p2, 2 ^ n = p2 + 1 := ⟨2 ^ n - 1, by have := Nat.pow_pos (n := n) (show 0 < 2 by omega); omega⟩
      have hmn2 := lb_mn (f := fun b => bdT (view N 28) n m y (thV (view N 28) m x) (nI b)) (e := p3) (fun j _ => bd_le hn8 hm10 (hO.alk hK.1.vw))
      rw [← ep3] at hmn2
      refine rx_aload_n (i := 0) dX10_gap_60 rfl rfl ?_
      refine rx_getR 15 (k := 11) fo_X10_77 kl_0 (by decide) ti_10_11 (by decide) rfl dX10_gap_61 ?_
      refine rx_cvI (ci := 2) mo_X2_greatestFlow lk_X10_366 (c_X2_greatestFlow wN2) (by decide) rfl rfl (Nat.le_of_ble_eq_true rfl) kl_15 rfl dX10_gap_64 ?_
      refine rx_top (floT (view M 28) n m y (thV (view M 28) m x)) (by rw [eb2, hlb2]; exact hmn2.2.1.trans ((flo_alk hK.1.vw).trans (by rw [thV_alk hK.1.vw]))) ?_
      refine rx_iload_n (i := 3) dX10_gap_67 rfl rfl ?_
      refine rx_isub dX10_gap_68 ?_
      exact rx_iret dX10_gap_69 ⟨rfl, hK.trans hK2⟩
theorem lt4 {x : Int32} (h : x < 4) : x ≤ 3 := by
  rw [Int32.lt_iff_toInt_lt, show (4 : Int32).toInt = 4 from rfl] at h
  rw [i_le, show (3 : Int32).toInt = 3 from rfl]
  omega
set_option maxRecDepth 100000 in
set_option maxHeartbeats 4000000 in
theorem c_X10_gap_no {M : Mem} {y x : Int32} (hx : ¬ ((0 ≤ y ∧ y ≤ 3) ∧ 0 ≤ x ∧ x ≤ 99)) : Fun yX10_gap cX10_gap 4 (some .int) 4 [.ref 0, .int y, .int x] M (some (.int (-1))) (M) := by
  refine Fun.of (own := RX10) ([some (.ref 0), some (.int y), some (.int x), none]) rfl (by decide +kernel) (Nat.le_of_ble_eq_true rfl) rfl ?_
  refine rx_iload_n (i := 1) dX10_gap_0 rfl rfl ?_
  refine rx_if_lt (tgt := 16) dX10_gap_1 (by decide) (fun c1 => ?_) (fun c1 => ?_)
  · skip
    have f1 := Int32.not_le.mpr c1
    refine rx_iconst (-1) dX10_gap_16 rfl ?_
    exact rx_fiI dX10_gap_17 rfl rfl
  · skip
    have f1 := Int32.not_lt.mp c1
    refine rx_iload_n (i := 1) dX10_gap_4 rfl rfl ?_
    refine rx_iconst (4) dX10_gap_5 rfl ?_
    refine rx_icmp_ge (tgt := 16) dX10_gap_6 (by decide) (fun c6 => ?_) (fun c6 => ?_)
    · skip
      have f6 := Int32.not_lt.mpr c6
      refine rx_iconst (-1) dX10_gap_16 rfl ?_
      exact rx_fiI dX10_gap_17 rfl rfl
    · skip
      have f6 := Int32.not_le.mp c6
      refine rx_iload_n (i := 2) dX10_gap_9 rfl rfl ?_
      refine rx_csI mo_X10_isDay lk_X10_296 c_X10_isDay (by decide) rfl rfl (Nat.le_of_ble_eq_true rfl) dX10_gap_10 ?_
      refine rx_if_ne (tgt := 18) dX10_gap_13 (by decide) (fun c13 => ?_) (fun c13 => ?_)
      · skip
        exact absurd ⟨⟨Int32.not_lt.mp c1, lt4 (Int32.not_le.mp c6)⟩, ite1n c13⟩ hx
        skip
      · skip
        refine rx_iconst (-1) dX10_gap_16 rfl ?_
        exact rx_fiI dX10_gap_17 rfl rfl
