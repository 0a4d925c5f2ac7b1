theorem alk_D {T T' : TT} {n m : Nat} (e : alk T T') : agD T T' n m :=
  ⟨⟨fun j _ => ⟨congrFun (e 0 (by omega) (by omega)) j, congrFun (e 1 (by omega) (by omega)) j, congrFun (e 2 (by omega) (by omega)) j, congrFun (e 3 (by omega) (by omega)) j, congrFun (e 4 (by omega) (by omega)) j⟩, fun k _ => ⟨congrFun (e 6 (by omega) (by omega)) k, congrFun (e 7 (by omega) (by omega)) k, congrFun (e 8 (by omega) (by omega)) k, congrFun (e 9 (by omega) (by omega)) k, congrFun (e 10 (by omega) (by omega)) k⟩, congrFun (e 14 (by omega) (by omega)) 0, congrFun (e 14 (by omega) (by omega)) 1, congrFun (e 14 (by omega) (by omega)) 2⟩,
    fun k _ => congrFun (e 11 (by omega) (by omega)) k, fun i j _ _ => congrFun (e 12 (by omega) (by omega)) _, congrFun (e 14 (by omega) (by omega)) 3, congrFun (e 18 (by omega) (by omega)) 0⟩
theorem alk_cp {M : Mem} {t o : Nat} : alk (view M o) (view (cpM M t o) t) := fun c h5 h20 => view_cp c h5 h20
section
variable {S : Nat → Int32} {z n m : Nat}
theorem go_8 {s : DS} {k : Nat} : (goT S z n m s k).1 8 = s.1 8 := by
  funext d
  simp only [goT]
  split
  · simp only [mkT]
    rw [if_neg (by omega), if_neg (by omega), if_neg (by omega), if_neg (by omega)]
  · split
    · simp only [setT]; rw [if_neg (by omega)]
    · rfl
theorem gof_8 : ∀ {l : List Nat} {s : DS}, (l.foldl (goT S z n m) s).1 8 = s.1 8
  | [], _ => rfl
  | k :: l, s => by rw [List.foldl_cons, gof_8, go_8]
theorem day_8 {s : DS} : (dayT S z n m s).1 8 = s.1 8 := by
  have e : ∀ (T : TT) (x : Int32), setS T 18 x 8 = T 8 := fun T x => by funext j; exact if_neg (by omega)
  unfold dayT
  dsimp only
  rw [e, gof_8]
  funext j
  show (if 8 = 4 ∧ j < n then s.1 0 j - s.1 3 j else s.1 8 j) = _
  rw [if_neg (by omega)]
theorem days_8 {s : DS} : ∀ (e : Nat), (daysT S z n m s e).1 8 = s.1 8
  | 0 => rfl
  | e + 1 => by
    show (dayT S z n m (daysT S z n m s e)).1 8 = _
    rw [day_8, days_8 e]
/-- what days pay stays small -/
def smB (s : DS) (B : Nat) : Prop := 0 ≤ s.2.2.2.1.toInt ∧ s.2.2.2.1.toInt ≤ B
theorem sm_go {s : DS} {k B : Nat} (hO : okD s.1 n m) (hk : k < m) (h : smB s B) (hB : B < 2 ^ 30) : smB (goT S z n m s k) (B + 99) := by
  have h8 := (hO.1.2.2.2 k hk).1
  unfold smB at h ⊢
  simp only [goT]
  split
  · show 0 ≤ (s.2.2.2.1 + s.1 8 k).toInt ∧ (s.2.2.2.1 + s.1 8 k).toInt ≤ _
    rw [i_add (by omega) (by omega)]
    omega
  · split
    · show 0 ≤ s.2.2.2.1.toInt ∧ s.2.2.2.1.toInt ≤ _; omega
    · omega
theorem sm_fold (hn : n ≤ 8) : ∀ (l : List Nat) (s : DS) (B : Nat), (∀ k ∈ l, k < m) → okD s.1 n m → smB s B → B + 99 * l.length < 2 ^ 30 → smB (l.foldl (goT S z n m) s) (B + 99 * l.length)
  | [], s, B, _, _, h, _ => h
  | k :: l, s, B, hl, hO, h, hB => by
    rw [List.length_cons] at hB ⊢
    have h1 := sm_go (S := S) (z := z) hO (hl k List.mem_cons_self) h (by omega)
    have h2 := sm_fold hn l (goT S z n m s k) (B + 99) (fun q hq => hl q (List.mem_cons_of_mem _ hq)) (okD.go hO hn (hl k List.mem_cons_self)) h1 (by omega)
    rw [List.foldl_cons, show B + 99 * (l.length + 1) = B + 99 + 99 * l.length by omega]
    exact h2
theorem len_flat {p : Nat → Nat → Bool} : ∀ (l : List Nat), (l.flatMap fun v => (List.range m).filter fun d => p v d).length ≤ l.length * m
  | [] => Nat.zero_le _
  | v :: l => by
    rw [List.flatMap_cons, List.length_append, List.length_cons, Nat.succ_mul]
    have h1 := len_flat (p := p) l
    have h2 := List.length_filter_le (fun d => p v d) (List.range m)
    rw [List.length_range] at h2
    omega
theorem sm_day {s : DS} {B : Nat} (hO : okD s.1 n m) (hn : n ≤ 8) (hm : m ≤ 10) (h : smB s B) (hB : B + 99000 < 2 ^ 30) : smB (dayT S z n m s) (B + 99000) := by
  have h0 : okD (noonT s.1 n) n m := hO.noon
  have hlen : (dueOf (noonT s.1 n) m).length ≤ 1000 := by
    have h1 := len_flat (m := m) (p := fun v d => (decide (noonT s.1 n 10 d = 0) && decide (noonT s.1 n 9 d ≤ noonT s.1 n 18 0)) && decide ((noonT s.1 n 9 d).toNatClampNeg = v)) (List.range 100)
    rw [List.length_range] at h1
    exact Nat.le_trans h1 (by omega)
  have h2 := sm_fold (S := S) (z := z) hn (dueOf (noonT s.1 n) m) (noonT s.1 n, s.2) B (dueOf_lt h0.1) h0 h (by omega)
  have h3 : smB ((dueOf (noonT s.1 n) m).foldl (goT S z n m) (noonT s.1 n, s.2)) (B + 99000) := ⟨h2.1, by have := h2.2; omega⟩
  exact h3
theorem sm_days {s : DS} (hO : okD s.1 n m) (hn : n ≤ 8) (hm : m ≤ 10) (h : smB s 0) : ∀ (e : Nat), e ≤ 60 → smB (daysT S z n m s e) (e * 99000)
  | 0, _ => by rw [Nat.zero_mul]; exact h
  | e + 1, he => by
    rw [Nat.succ_mul]
    exact sm_day (hO.days hn e) hn hm (sm_days hO hn hm h e (by omega)) (by omega)
end
theorem ds_cp {M1 N : Mem} {n m z N0 t : Nat} {S : Nat → Int32} {T : TT} (hA : _root_.Jvm.Pilot.CPaidByPoorerLaw_law_r4504_fab372.agD T (view M1 t) n m) (hO : okD T n m) (hn : n ≤ 8) (hS : M1.1 8 = S) (hD : dyM M1 N t (daysT (M1.1 8) z n m (view M1 t, 0, 0, 0, 0) N0)) : N.1 17 1 = (dsX S z n m T N0).2.1 ∧ N.1 17 2 = (dsX S z n m T N0).2.2.1 ∧ N.1 17 3 = (dsX S z n m T N0).2.2.2.1 ∧ N.1 17 4 = (dsX S z n m T N0).2.2.2.2 ∧ _root_.Jvm.Pilot.CPaidByPoorerLaw_law_r4504_fab372.agD (dsX S z n m T N0).1 (view N t) n m := by
  subst hS
  have h := dsX_ag (S := M1.1 8) (z := z) (N0 := N0) hA hO hn
  obtain ⟨d1, d2, d3, d4, d5, -⟩ := hD
  have e := h.2
  have d1' : alk (dsX (M1.1 8) z n m (view M1 t) N0).1 (view N t) := d1
  exact ⟨d2.trans (congrArg (fun q => q.1) e), d3.trans (congrArg (fun q => q.2.1) e), d4.trans (congrArg (fun q => q.2.2.1) e), d5.trans (congrArg (fun q => q.2.2.2) e), h.1.trans (alk_D d1')⟩
/-- what stays where days go by in the trial town -/
theorem ds_K {M M1 N : Mem} (h : sameX M M1 (fun q => 44 ≤ q ∧ q ≤ 59)) (h2 : sameX M1 N (pD 44)) : fcK M N :=
  ((h.weaken (Q := fun q => pD 44 q) fun a q => by unfold pD; omega).trans h2).CK fun a q => by unfold pD at q; unfold scr; omega
theorem cp_X {M : Mem} : sameX M (cpM M 44 28) (fun q => 44 ≤ q ∧ q ≤ 59) := ⟨fun a q => cpM_o (by omega), rfl⟩
theorem okD.hid {T : TT} {n m i : Nat} {x : Int32} (hO : okD T n m) (hx : 0 ≤ x ∧ x ≤ T 0 i) : okD (setT T 3 i x) n m := by
  refine ⟨⟨fun j hj => ?_, hO.1.2.1, hO.1.2.2.1, hO.1.2.2.2⟩, hO.2.1, hO.2.2⟩
  have := hO.1.1 j hj
  have hx1 : (0 : Int) ≤ x.toInt := Int32.le_iff_toInt_le.mp hx.1
  have hx2 : x.toInt ≤ (T 0 i).toInt := Int32.le_iff_toInt_le.mp hx.2
  refine ⟨?_, ?_, this.2.2.1, this.2.2.2⟩
  · show 0 ≤ (setT T 3 i x 3 j).toInt
    unfold setT; split
    · exact hx1
    · exact this.1
  · show (setT T 3 i x 3 j).toInt ≤ _
    unfold setT; split
    · next q => rw [q.2]; exact hx2
    · exact this.2.1
theorem ds_sm {S : Nat → Int32} {z n m N0 : Nat} {T : TT} (hO : okD T n m) (hn : n ≤ 8) (hm : m ≤ 10) (hN : N0 ≤ 60) : 0 ≤ (dsX S z n m T N0).2.2.2.1.toInt := (sm_days (S := S) (z := z) (s := (T, 0, 0, 0, 0)) hO hn hm ⟨by show 0 ≤ (0 : Int32).toInt; rw [i_0]; omega, by show (0 : Int32).toInt ≤ _; rw [i_0]; omega⟩ N0 hN).1
set_option maxRecDepth 100000 in
set_option maxHeartbeats 4000000 in
theorem c_X10_lapse {M : Mem} {n m z N0 : Nat} (w : TW M 28 n m) (hO : okD (view M 28) n m) (hz : M.1 7 2 = nI z) (hz40 : z ≤ 40) (hN : N0 ≤ 60) : Con yX10_lapse cX10_lapse 2 (some .int) 6 [.ref 0, .int (nI N0)] M (fun v N => v = some (.int (dsX (M.1 8) z n m (view M 28) N0).2.2.2.2) ∧ fcR M N ∧ row1C N (sumT (view M 28) m (dsX (M.1 8) z n m (view M 28) N0).2.2.2.2).toInt64) := by
  refine Con.of (own := RX10) (ls := [some (.ref 0), some (.int (nI N0))]) rfl (by decide +kernel) (Nat.le_of_ble_eq_true rfl) rfl ?_
  have ⟨hn, hn8, hm, hm10, hd⟩ := w
  have hsp : (0 : Int32) ≤ nI N0 ∧ nI N0 ≤ 60 := ⟨nI_pos' (by omega), nI_le (b := 60) (by omega) (by omega)⟩
  have hOT := hO
  have hO1 : okD (view (cpM M 44 28) 44) n m := hO.alk alk_cp
  refine rx_iload_n (i := 1) dX10_lapse_0 rfl rfl ?_
  refine rx_csI mo_X10_isSpan lk_X10_381 c_X10_isSpan (by decide) rfl rfl (Nat.le_of_ble_eq_true rfl) dX10_lapse_1 ?_
  refine rx_top (1) (if_pos hsp) ?_
  refine rx_if_ne (tgt := 9) dX10_lapse_4 (by decide) (fun c4 => ?_) (fun c4 => absurd c4 (by decide))
  refine rx_aload_n (i := 0) dX10_lapse_9 rfl rfl ?_
  refine rx_getR 44 (k := 3) fo_X10_30 kl_0 (by decide) ti_10_3 (by decide) rfl dX10_lapse_10 ?_
  refine rx_aload_n (i := 0) dX10_lapse_13 rfl rfl ?_
  refine rx_getR 28 (k := 2) fo_X10_26 kl_0 (by decide) ti_10_2 (by decide) rfl dX10_lapse_14 ?_
  refine rx_cvN (ci := 8) mo_X8_copyFrom lk_X10_250 (c_X8_copyFrom it44 it28 (by decide)) (by decide) rfl rfl (Nat.le_of_ble_eq_true rfl) kl_44 rfl dX10_lapse_17 ?_
  refine rx_aload_n (i := 0) dX10_lapse_20 rfl rfl ?_
  refine rx_getR 17 (k := 12) fo_X10_84 kl_0 (by decide) ti_10_12 (by decide) rfl dX10_lapse_21 ?_
  refine rx_aload_n (i := 0) dX10_lapse_24 rfl rfl ?_
  refine rx_getR 44 (k := 3) fo_X10_30 kl_0 (by decide) ti_10_3 (by decide) rfl dX10_lapse_25 ?_
  refine rx_aload_n (i := 0) dX10_lapse_28 rfl rfl ?_
  refine rx_getR 7 (k := 7) fo_X10_49 kl_0 (by decide) ti_10_7 (by decide) rfl dX10_lapse_29 ?_
  refine rx_iload_n (i := 1) dX10_lapse_32 rfl rfl ?_
  refine rx_callV (ci := 0) mo_X0_pass lk_X10_384 (c_X0_pass it44 (n := n) (m := m) (z := z) (N0 := N0) ((congrFun (cpM_o (by omega)) _).trans hz) hz40 hn8 hm10 (by omega) hO1) (by decide) rfl rfl (Nat.le_of_ble_eq_true rfl) kl_17 rfl dX10_lapse_33 ?_
  rintro _ N ⟨rfl, hD⟩
  obtain ⟨d1, d2, d3, d4, dA⟩ := ds_cp (S := (M.1 8)) (T := view M 28) (alk_D alk_cp) hOT hn8 (funext fun j => by first | exact congrFun (cpM_o (by omega)) j | exact (sI_na (by omega)).trans (congrFun (cpM_o (by omega)) j)) hD
  have wN : TW N 44 n m := TW_al hn8 hm10 (okD.days (s := (view (cpM M 44 28) 44, 0, 0, 0, 0)) hO1 hn8 N0) hD.1
  have hX := hD.2.2.2.2.2
  refine rx_aload_n (i := 0) dX10_lapse_36 rfl rfl ?_
  refine rx_getR 4 (k := 1) fo_X10_19 kl_0 (by decide) ti_10_1 (by decide) rfl dX10_lapse_37 ?_
  refine rx_aload_n (i := 0) dX10_lapse_40 rfl rfl ?_
  refine rx_getR 44 (k := 3) fo_X10_30 kl_0 (by decide) ti_10_3 (by decide) rfl dX10_lapse_41 ?_
  refine rx_aload_n (i := 0) dX10_lapse_44 rfl rfl ?_
  refine rx_getR 17 (k := 12) fo_X10_84 kl_0 (by decide) ti_10_12 (by decide) rfl dX10_lapse_45 ?_
  refine rx_getI (k := 4) fo_X10_388 kl_17 (by decide) ti_0_4 dX10_lapse_48 ?_
  refine rx_top ((dsX (M.1 8) z n m (view M 28) N0).2.2.2.2) (d4) ?_
  refine rx_cvI (ci := 8) mo_X8_sumOf lk_X10_391 (c_X8_sumOf it44 wN) (by decide) rfl rfl (Nat.le_of_ble_eq_true rfl) kl_44 rfl dX10_lapse_51 ?_
  refine rx_top (sumT (view M 28) m (dsX (M.1 8) z n m (view M 28) N0).2.2.2.2) (by
    refine fsum_congr fun k hk => ?_
    have e8 : N.1 (44 + 9) k = (dsX (M.1 8) z n m (view M 28) N0).1 8 k := (dA.1.2.1 k hk).2.2.1
    rw [e8, show (dsX (M.1 8) z n m (view M 28) N0).1 8 = view M 28 8 from days_8 _]) ?_
  refine rx_i2l dX10_lapse_54 rfl ?_
  refine rx_cvN (ci := 7) mo_X7_tell lk_X10_233 c_X7_tell (by decide) rfl rfl (Nat.le_of_ble_eq_true rfl) kl_4 rfl dX10_lapse_55 ?_
  refine rx_aload_n (i := 0) dX10_lapse_58 rfl rfl ?_
  refine rx_getR 17 (k := 12) fo_X10_84 kl_0 (by decide) ti_10_12 (by decide) rfl dX10_lapse_59 ?_
  refine rx_getI (k := 4) fo_X10_388 kl_17 (by decide) ti_0_4 dX10_lapse_62 ?_
  refine rx_top ((dsX (M.1 8) z n m (view M 28) N0).2.2.2.2) (d4) ?_
  exact rx_iret dX10_lapse_65 ⟨rfl, (ds_K cp_X hX).1.trans fcR_r1, r1_row⟩
set_option maxRecDepth 100000 in
set_option maxHeartbeats 4000000 in
theorem c_X10_lapse_no {M : Mem} {x : Int32} (hx : ¬ (0 ≤ x ∧ x ≤ 60)) : Fun yX10_lapse cX10_lapse 2 (some .int) 6 [.ref 0, .int x] M (some (.int (-1))) (M) := by
  refine Fun.of (own := RX10) ([some (.ref 0), some (.int x)]) rfl (by decide +kernel) (Nat.le_of_ble_eq_true rfl) rfl ?_
  refine rx_iload_n (i := 1) dX10_lapse_0 rfl rfl ?_
  refine rx_csI mo_X10_isSpan lk_X10_381 c_X10_isSpan (by decide) rfl rfl (Nat.le_of_ble_eq_true rfl) dX10_lapse_1 ?_
  refine rx_if_ne (tgt := 9) dX10_lapse_4 (by decide) (fun c4 => ?_) (fun c4 => ?_)
  · skip
    exact absurd (ite1n c4) hx
    skip
  · skip
    refine rx_iconst (-1) dX10_lapse_7 rfl ?_
    exact rx_fiI dX10_lapse_8 rfl rfl
/-- what days change in the class -/
def fcD (M N : Mem) : Prop := (∀ a j, ¬ (a = 9 ∨ a = 17 ∨ a = 18 ∨ (28 ≤ a ∧ a ≤ 43)) → ¬ (a = 4 ∧ j = 1) → ¬ (a = 0 ∧ j = 14) → N.1 a j = M.1 a j) ∧ (∀ a, a ≠ 5 → N.2.1 a = M.2.1 a) ∧ N.2.2 = M.2.2
theorem r2_o {M : Mem} {a b : Int64} {x j : Nat} (q : ¬ (x = 4 ∧ j = 1)) : (r2M M a b).1 x j = M.1 x j := by
  have e : (r2M M a b).1 x j = (setI (setI (setI M 4 1 0) 4 1 (nI 1)) 4 1 (nI 2)).1 x j := rfl
  rw [e, sI_ne q, sI_ne q, sI_ne q]
theorem ds_D {M N : Mem} {a b : Int64} (h : sameX M N (pD 28)) : fcD M (r2M (setI N 0 14 0) a b) ∧ (r2M (setI N 0 14 0) a b).1 0 14 = 0 ∧ view (r2M (setI N 0 14 0) a b) 28 = view N 28 := by
  have hr := fcR_r2 (M := setI N 0 14 0) (a := a) (b := b)
  have e1 : ∀ x j, ¬ (x = 4 ∧ j = 1) → (r2M (setI N 0 14 0) a b).1 x j = (setI N 0 14 0).1 x j := fun x j q => r2_o q
  refine ⟨⟨fun x j q r s => ?_, fun x q => ?_, ?_⟩, ?_, ?_⟩
  · rw [e1 x j r, sI_ne s]
    exact congrFun (h.1 x fun y => q (by unfold pD at y; omega)) j
  · rw [hr.2.1 x q]; show N.2.1 x = _; rw [h.2]
  · rw [hr.2.2]; show N.2.2 = _; rw [h.2]
  · rw [e1 0 14 (by omega)]; exact sI_eq
  · funext c j
    unfold view
    split
    · rw [e1 _ _ (by omega), sI_na (by omega)]
    · rw [e1 _ _ (by omega), sI_na (by omega)]
set_option maxRecDepth 100000 in
set_option maxHeartbeats 4000000 in
theorem c_X10_days {M : Mem} {n m z N0 : Nat} (w : TW M 28 n m) (hO : okD (view M 28) n m) (hz : M.1 7 2 = nI z) (hz40 : z ≤ 40) (hN : N0 ≤ 60) : Con yX10_days cX10_days 2 (some .int) 6 [.ref 0, .int (nI N0)] M (fun v N => v = some (.int (dsX (M.1 8) z n m (view M 28) N0).2.1) ∧ alk (dsX (M.1 8) z n m (view M 28) N0).1 (view N 28) ∧ TW N 28 n m ∧ fcD M N ∧ N.1 0 14 = 0 ∧ row2C N (dsX (M.1 8) z n m (view M 28) N0).2.2.1.toInt64 (bcnt (dsX (M.1 8) z n m (view M 28) N0).2.2.2.2).toInt64) := by
  refine Con.of (own := RX10) (ls := [some (.ref 0), some (.int (nI N0))]) rfl (by decide +kernel) (Nat.le_of_ble_eq_true rfl) rfl ?_
  have ⟨hn, hn8, hm, hm10, hd⟩ := w
  have hsp : (0 : Int32) ≤ nI N0 ∧ nI N0 ≤ 60 := ⟨nI_pos' (by omega), nI_le (b := 60) (by omega) (by omega)⟩
  have hOT := hO
  have hO1 := hO
  refine rx_iload_n (i := 1) dX10_days_0 rfl rfl ?_
  refine rx_csI mo_X10_isSpan lk_X10_381 c_X10_isSpan (by decide) rfl rfl (Nat.le_of_ble_eq_true rfl) dX10_days_1 ?_
  refine rx_top (1) (if_pos hsp) ?_
  refine rx_if_ne (tgt := 9) dX10_days_4 (by decide) (fun c4 => ?_) (fun c4 => absurd c4 (by decide))
  refine rx_aload_n (i := 0) dX10_days_9 rfl rfl ?_
  refine rx_getR 17 (k := 12) fo_X10_84 kl_0 (by decide) ti_10_12 (by decide) rfl dX10_days_10 ?_
  refine rx_aload_n (i := 0) dX10_days_13 rfl rfl ?_
  refine rx_getR 28 (k := 2) fo_X10_26 kl_0 (by decide) ti_10_2 (by decide) rfl dX10_days_14 ?_
  refine rx_aload_n (i := 0) dX10_days_17 rfl rfl ?_
  refine rx_getR 7 (k := 7) fo_X10_49 kl_0 (by decide) ti_10_7 (by decide) rfl dX10_days_18 ?_
  refine rx_iload_n (i := 1) dX10_days_21 rfl rfl ?_
  refine rx_callV (ci := 0) mo_X0_pass lk_X10_384 (c_X0_pass it28 (n := n) (m := m) (z := z) (N0 := N0) hz hz40 hn8 hm10 (by omega) hO) (by decide) rfl rfl (Nat.le_of_ble_eq_true rfl) kl_17 rfl dX10_days_22 ?_
  rintro _ N ⟨rfl, hD⟩
  obtain ⟨d1, d2, d3, d4, dA⟩ := ds_cp (S := (M.1 8)) (T := view M 28) agD.refl hOT hn8 rfl hD
  have wN : TW N 28 n m := TW_al hn8 hm10 (okD.days (s := (view (M) 28, 0, 0, 0, 0)) hO1 hn8 N0) hD.1
  have hX := hD.2.2.2.2.2
  refine rx_aload_n (i := 0) dX10_days_25 rfl rfl ?_
  refine rx_cvN (ci := 10) mo_X10_forgetPayments lk_X10_110 c_X10_forgetPayments (by decide) rfl rfl (Nat.le_of_ble_eq_true rfl) kl_0 rfl dX10_days_26 ?_
  refine rx_aload_n (i := 0) dX10_days_29 rfl rfl ?_
  refine rx_getR 4 (k := 1) fo_X10_19 kl_0 (by decide) ti_10_1 (by decide) rfl dX10_days_30 ?_
  refine rx_aload_n (i := 0) dX10_days_33 rfl rfl ?_
  refine rx_getR 17 (k := 12) fo_X10_84 kl_0 (by decide) ti_10_12 (by decide) rfl dX10_days_34 ?_
  refine rx_getI (k := 2) fo_X10_394 kl_17 (by decide) ti_0_2 dX10_days_37 ?_
  refine rx_top ((dsX (M.1 8) z n m (view M 28) N0).2.2.1) ((sI_na (by omega)).trans d2) ?_
  refine rx_i2l dX10_days_40 rfl ?_
  refine rx_aload_n (i := 0) dX10_days_41 rfl rfl ?_
  refine rx_getR 17 (k := 12) fo_X10_84 kl_0 (by decide) ti_10_12 (by decide) rfl dX10_days_42 ?_
  refine rx_getI (k := 4) fo_X10_388 kl_17 (by decide) ti_0_4 dX10_days_45 ?_
  refine rx_top ((dsX (M.1 8) z n m (view M 28) N0).2.2.2.2) ((sI_na (by omega)).trans d4) ?_
  refine rx_csI mo_J6_bitCount_0f7a4 lk_X10_322 c_J6_bitCount_0f7a4 (by decide) rfl rfl (Nat.le_of_ble_eq_true rfl) dX10_days_48 ?_
  refine rx_i2l dX10_days_51 rfl ?_
  refine rx_cvN (ci := 7) mo_X7_tell_ lk_X10_221 c_X7_tell_ (by decide) rfl rfl (Nat.le_of_ble_eq_true rfl) kl_4 rfl dX10_days_52 ?_
  refine rx_aload_n (i := 0) dX10_days_55 rfl rfl ?_
  refine rx_getR 17 (k := 12) fo_X10_84 kl_0 (by decide) ti_10_12 (by decide) rfl dX10_days_56 ?_
  refine rx_getI (k := 1) fo_X10_396 kl_17 (by decide) ti_0_1 dX10_days_59 ?_
  refine rx_top ((dsX (M.1 8) z n m (view M 28) N0).2.1) ((r2_o (by omega)).trans ((sI_na (by omega)).trans d1)) ?_
  exact rx_iret dX10_days_62 ⟨rfl, (ds_D hX).2.2.symm ▸ hD.1, TW_al hn8 hm10 (okD.days (s := (view M 28, 0, 0, 0, 0)) hO hn8 N0) ((ds_D hX).2.2.symm ▸ hD.1), (ds_D hX).1, (ds_D hX).2.1, r2_row⟩
set_option maxRecDepth 100000 in
set_option maxHeartbeats 4000000 in
theorem c_X10_days_no {M : Mem} {x : Int32} (hx : ¬ (0 ≤ x ∧ x ≤ 60)) : Fun yX10_days cX10_days 2 (some .int) 6 [.ref 0, .int x] M (some (.int (-1))) (M) := by
  refine Fun.of (own := RX10) ([some (.ref 0), some (.int x)]) rfl (by decide +kernel) (Nat.le_of_ble_eq_true rfl) rfl ?_
  refine rx_iload_n (i := 1) dX10_days_0 rfl rfl ?_
  refine rx_csI mo_X10_isSpan lk_X10_381 c_X10_isSpan (by decide) rfl rfl (Nat.le_of_ble_eq_true rfl) dX10_days_1 ?_
  refine rx_if_ne (tgt := 9) dX10_days_4 (by decide) (fun c4 => ?_) (fun c4 => ?_)
  · skip
    exact absurd (ite1n c4) hx
    skip
  · skip
    refine rx_iconst (-1) dX10_days_7 rfl ?_
    exact rx_fiI dX10_days_8 rfl rfl
set_option maxRecDepth 100000 in
set_option maxHeartbeats 4000000 in
theorem l_X10_best {M : Mem} {n m z N0 : Nat} (w : TW M 28 n m) (hO : okD (view M 28) n m) (hz : M.1 7 2 = nI z) (hz40 : z ≤ 40) (hN : N0 ≤ 60) : ∀ (N : Nat) (i : Nat) (M1 : Mem), (i ≤ 4) → (fcR M M1) → (rowNC M1 i (fun q => ((bSo (M.1 8) z n m (view M 28) N0) q).toInt64)) → 4 - i < N → Reach cX10_best RX10 5 6 (RetQ cX10_best (some .int) (fun v N => v = some (.int (nI (bstF (bSo (M.1 8) z n m (view M 28) N0) 4))) ∧ fcR M N ∧ rowNC N 4 (fun q => ((bSo (M.1 8) z n m (view M 28) N0) q).toInt64))) 23 [some (.ref 0), some (.int (nI N0)), some (.int (nI (bstF (bSo (M.1 8) z n m (view M 28) N0) i))), some (.int ((if i = 0 then -1 else (bSo (M.1 8) z n m (view M 28) N0) (bstF (bSo (M.1 8) z n m (view M 28) N0) i)))), some (.int (nI i))] [] (M1) := by
  intro N
  induction N with
  | zero => intro i M1 hi hF hrow hm; exact absurd ‹_ < 0› (Nat.not_lt_zero _)
  | succ N ih =>
    intro i M1 hi hF hrow hm
    have ⟨hn, hn8, hm, hm10, hd⟩ := w
    refine rx_iload (i := 4) dX10_best_23 rfl ?_
    refine rx_iconst (4) dX10_best_25 rfl ?_
    refine rx_top (nI 4) (rfl) ?_
    refine rx_icmp_ge (tgt := 110) dX10_best_26 (by decide) (fun c26 => ?_) (fun c26 => ?_)
    · skip
      have e26 : i = 4 := by have := (nI_leI (a := 4) (by omega) (by omega)).mp c26; omega
      subst e26
      refine rx_iload_n (i := 2) dX10_best_110 rfl rfl ?_
      exact rx_iret dX10_best_111 ⟨rfl, hF, hrow⟩
    · skip
      have e26 : i < 4 := Nat.lt_of_not_le fun q => c26 (nI_le (a := 4) q (by omega))
      have hA1 : alk (view M 28) (view M1 28) := hF.vw
      have ev : view (setI (cpM M1 44 28) 59 0 (nI i)) 44 = setT (view (cpM M1 44 28) 44) 14 0 (nI i) := by have := view_set (M := cpM M1 44 28) (t := 44) (c := 14) (j := 0) (x := nI i) (by omega); exact this
      have hAg : agD (setT (view M 28) 14 0 (nI i)) (view (setI (cpM M1 44 28) 59 0 (nI i)) 44) n m := by rw [ev]; exact (alk_D (hA1.trans alk_cp)).put
      have hOT : okD (setT (view M 28) 14 0 (nI i)) n m := hO.put
      have hO1 : okD (view (setI (cpM M1 44 28) 59 0 (nI i)) 44) n m := by rw [ev]; exact (hO.alk (hA1.trans alk_cp)).put
      have hzx : (setI (cpM M1 44 28) 59 0 (nI i)).1 7 2 = nI z := (sI_na (by omega)).trans ((congrFun (cpM_o (by omega)) _).trans ((hF.1 7 2 (by unfold scr; omega) (by omega)).trans hz))
      have h8x : (setI (cpM M1 44 28) 59 0 (nI i)).1 8 = M.1 8 := funext fun j => (sI_na (by omega)).trans ((congrFun (cpM_o (by omega)) j).trans (hF.1 8 j (by unfold scr; omega) (by omega)))
      have hbn : 0 ≤ ((bSo (M.1 8) z n m (view M 28) N0) i).toInt := ds_sm hOT hn8 hm10 hN
      refine rx_aload_n (i := 0) dX10_best_29 rfl rfl ?_
      refine rx_getR 44 (k := 3) fo_X10_30 kl_0 (by decide) ti_10_3 (by decide) rfl dX10_best_30 ?_
      refine rx_aload_n (i := 0) dX10_best_33 rfl rfl ?_
      refine rx_getR 28 (k := 2) fo_X10_26 kl_0 (by decide) ti_10_2 (by decide) rfl dX10_best_34 ?_
      refine rx_cvN (ci := 8) mo_X8_copyFrom lk_X10_250 (c_X8_copyFrom it44 it28 (by decide)) (by decide) rfl rfl (Nat.le_of_ble_eq_true rfl) kl_44 rfl dX10_best_37 ?_
      refine rx_aload_n (i := 0) dX10_best_40 rfl rfl ?_
      refine rx_getR 44 (k := 3) fo_X10_30 kl_0 (by decide) ti_10_3 (by decide) rfl dX10_best_41 ?_
      refine rx_getR 59 (k := 14) fo_X10_181 kl_44 (by decide) ti_8_14 (by decide) rfl dX10_best_44 ?_
      refine rx_iconst (0) dX10_best_47 rfl ?_
      refine rx_iload (i := 4) dX10_best_48 rfl ?_
      refine rx_iastN (k := 0) kl_59 (by omega) (by first | decide | omega) dX10_best_50 ?_
      refine rx_aload_n (i := 0) dX10_best_51 rfl rfl ?_
      refine rx_getR 17 (k := 12) fo_X10_84 kl_0 (by decide) ti_10_12 (by decide) rfl dX10_best_52 ?_
      refine rx_aload_n (i := 0) dX10_best_55 rfl rfl ?_
      refine rx_getR 44 (k := 3) fo_X10_30 kl_0 (by decide) ti_10_3 (by decide) rfl dX10_best_56 ?_
      refine rx_aload_n (i := 0) dX10_best_59 rfl rfl ?_
      refine rx_getR 7 (k := 7) fo_X10_49 kl_0 (by decide) ti_10_7 (by decide) rfl dX10_best_60 ?_
      refine rx_iload_n (i := 1) dX10_best_63 rfl rfl ?_
      refine rx_callV (ci := 0) mo_X0_pass lk_X10_384 (c_X0_pass it44 (M := setI (cpM M1 44 28) 59 0 (nI i)) (n := n) (m := m) (z := z) (N0 := N0) hzx hz40 hn8 hm10 (by omega) hO1) (by decide) rfl rfl (Nat.le_of_ble_eq_true rfl) kl_17 rfl dX10_best_64 ?_
      rintro _ N ⟨rfl, hD⟩
      obtain ⟨d1, d2, d3, d4, dA⟩ := ds_cp (S := M.1 8) (T := (setT (view M 28) 14 0 (nI i))) hAg hOT hn8 h8x hD
      have d3 : N.1 17 3 = (bSo (M.1 8) z n m (view M 28) N0) i := d3
      have hK : fcK M1 N := ds_K (cp_X.trans (sameX_I (by omega))) hD.2.2.2.2.2
      have hR : rowNC N i (fun q => ((bSo (M.1 8) z n m (view M 28) N0) q).toInt64) := ⟨hK.2.1.trans hrow.1, fun q hq => by rw [hK.2.2]; exact hrow.2 q hq⟩
      refine rx_aload_n (i := 0) dX10_best_67 rfl rfl ?_
      refine rx_getR 4 (k := 1) fo_X10_19 kl_0 (by decide) ti_10_1 (by decide) rfl dX10_best_68 ?_
      refine rx_aload_n (i := 0) dX10_best_71 rfl rfl ?_
      refine rx_getR 17 (k := 12) fo_X10_84 kl_0 (by decide) ti_10_12 (by decide) rfl dX10_best_72 ?_
      refine rx_getI (k := 3) fo_X10_399 kl_17 (by decide) ti_0_3 dX10_best_75 ?_
      refine rx_top ((bSo (M.1 8) z n m (view M 28) N0) i) (d3) ?_
      refine rx_i2l dX10_best_78 rfl ?_
      refine rx_cvN (ci := 7) mo_X7_add lk_X10_330 (c_X7_add hR.1 (by omega)) (by decide) rfl rfl (Nat.le_of_ble_eq_true rfl) kl_4 rfl dX10_best_79 ?_
      refine rx_aload_n (i := 0) dX10_best_82 rfl rfl ?_
      refine rx_getR 17 (k := 12) fo_X10_84 kl_0 (by decide) ti_10_12 (by decide) rfl dX10_best_83 ?_
      refine rx_getI (k := 3) fo_X10_399 kl_17 (by decide) ti_0_3 dX10_best_86 ?_
      refine rx_top ((bSo (M.1 8) z n m (view M 28) N0) i) ((sI_na (by omega)).trans d3) ?_
      refine rx_iload_n (i := 3) dX10_best_89 rfl rfl ?_
      refine rx_icmp_le (tgt := 104) dX10_best_90 (by decide) (fun c90 => ?_) (fun c90 => ?_)
      · skip
        have e90 := Int32.not_lt.mpr c90
        first | refine rx_iincN (i := 4) dX10_best_104 rfl (by decide) rfl rfl ?_ | refine rx_iinc (i := 4) dX10_best_104 rfl rfl (by decide) rfl rfl ?_
        refine rx_goto (tgt := 23) dX10_best_107 (by decide) ?_
        have e0 : i ≠ 0 := fun q => by
          rw [if_pos q] at e90
          refine e90 ?_
          rw [Int32.lt_iff_toInt_lt]
          show (-1 : Int) < _
          omega
        rw [if_neg e0] at e90 ⊢
        have e2 : bstF (bSo (M.1 8) z n m (view M 28) N0) (i + 1) = bstF (bSo (M.1 8) z n m (view M 28) N0) i := if_neg e90
        have hx := ih (i + 1) _ (by omega) (hF.trans (hK.1.trans fcR_ad)) (rowNC_ad hR rfl) (by omega)
        rw [if_neg (by omega), e2] at hx
        exact hx
      · skip
        have e90 := Int32.not_le.mp c90
        refine rx_aload_n (i := 0) dX10_best_93 rfl rfl ?_
        refine rx_getR 17 (k := 12) fo_X10_84 kl_0 (by decide) ti_10_12 (by decide) rfl dX10_best_94 ?_
        refine rx_getI (k := 3) fo_X10_399 kl_17 (by decide) ti_0_3 dX10_best_97 ?_
        refine rx_top ((bSo (M.1 8) z n m (view M 28) N0) i) ((sI_na (by omega)).trans d3) ?_
        refine rx_istore_n (i := 3) dX10_best_100 rfl (by decide) rfl rfl ?_
        refine rx_iload (i := 4) dX10_best_101 rfl ?_
        refine rx_istore_n (i := 2) dX10_best_103 rfl (by decide) rfl rfl ?_
        first | refine rx_iincN (i := 4) dX10_best_104 rfl (by decide) rfl rfl ?_ | refine rx_iinc (i := 4) dX10_best_104 rfl rfl (by decide) rfl rfl ?_
        refine rx_goto (tgt := 23) dX10_best_107 (by decide) ?_
        have e2 : bstF (bSo (M.1 8) z n m (view M 28) N0) (i + 1) = i := by
          by_cases q : i = 0
          · subst q
            have h0 : bstF (bSo (M.1 8) z n m (view M 28) N0) 0 = 0 := rfl
            show (if _ then _ else _) = 0
            rw [h0]; split <;> rfl
          · rw [if_neg q] at e90
            exact if_pos e90
        have hx := ih (i + 1) _ (by omega) (hF.trans (hK.1.trans fcR_ad)) (rowNC_ad hR rfl) (by omega)
        rw [if_neg (by omega), e2] at hx
        exact hx
set_option maxRecDepth 100000 in
set_option maxHeartbeats 4000000 in
theorem c_X10_best {M : Mem} {n m z N0 : Nat} (w : TW M 28 n m) (hO : okD (view M 28) n m) (hz : M.1 7 2 = nI z) (hz40 : z ≤ 40) (hN : N0 ≤ 60) : Con yX10_best cX10_best 5 (some .int) 6 [.ref 0, .int (nI N0)] M (fun v N => v = some (.int (nI (bstF (bSo (M.1 8) z n m (view M 28) N0) 4))) ∧ fcR M N ∧ rowNC N 4 (fun q => ((bSo (M.1 8) z n m (view M 28) N0) q).toInt64)) := by
  refine Con.of (own := RX10) (ls := [some (.ref 0), some (.int (nI N0)), none, none, none]) rfl (by decide +kernel) (Nat.le_of_ble_eq_true rfl) rfl ?_
  have ⟨hn, hn8, hm, hm10, hd⟩ := w
  have hsp : (0 : Int32) ≤ nI N0 ∧ nI N0 ≤ 60 := ⟨nI_pos' (by omega), nI_le (b := 60) (by omega) (by omega)⟩
  refine rx_iload_n (i := 1) dX10_best_0 rfl rfl ?_
  refine rx_csI mo_X10_isSpan lk_X10_381 c_X10_isSpan (by decide) rfl rfl (Nat.le_of_ble_eq_true rfl) dX10_best_1 ?_
  refine rx_top (1) (if_pos hsp) ?_
  refine rx_if_ne (tgt := 9) dX10_best_4 (by decide) (fun c4 => ?_) (fun c4 => absurd c4 (by decide))
  refine rx_iconst (0) dX10_best_9 rfl ?_
  refine rx_istore_n (i := 2) dX10_best_10 rfl (by decide) rfl rfl ?_
  refine rx_iconst (-1) dX10_best_11 rfl ?_
  refine rx_istore_n (i := 3) dX10_best_12 rfl (by decide) rfl rfl ?_
  refine rx_aload_n (i := 0) dX10_best_13 rfl rfl ?_
  refine rx_getR 4 (k := 1) fo_X10_19 kl_0 (by decide) ti_10_1 (by decide) rfl dX10_best_14 ?_
  refine rx_cvN (ci := 7) mo_X7_clear lk_X10_212 c_X7_clear (by decide) rfl rfl (Nat.le_of_ble_eq_true rfl) kl_4 rfl dX10_best_17 ?_
  refine rx_iconst (0) dX10_best_20 rfl ?_
  refine rx_istore (i := 4) dX10_best_21 (by decide) rfl rfl ?_
  exact l_X10_best w hO hz hz40 hN 5 0 (setI M 4 1 0) (by omega) fcR_clr ⟨sI_eq, fun q hq => absurd hq (Nat.not_lt_zero _)⟩ (by omega)
set_option maxRecDepth 100000 in
set_option maxHeartbeats 4000000 in
theorem c_X10_best_no {M : Mem} {x : Int32} (hx : ¬ (0 ≤ x ∧ x ≤ 60)) : Fun yX10_best cX10_best 5 (some .int) 6 [.ref 0, .int x] M (some (.int (-1))) (M) := by
  refine Fun.of (own := RX10) ([some (.ref 0), some (.int x), none, none, none]) rfl (by decide +kernel) (Nat.le_of_ble_eq_true rfl) rfl ?_
  refine rx_iload_n (i := 1) dX10_best_0 rfl rfl ?_
  refine rx_csI mo_X10_isSpan lk_X10_381 c_X10_isSpan (by decide) rfl rfl (Nat.le_of_ble_eq_true rfl) dX10_best_1 ?_
  refine rx_if_ne (tgt := 9) dX10_best_4 (by decide) (fun c4 => ?_) (fun c4 => ?_)
  · skip
    exact absurd (ite1n c4) hx
    skip
  · skip
    refine rx_iconst (-1) dX10_best_7 rfl ?_
    exact rx_fiI dX10_best_8 rfl rfl
set_option maxRecDepth 100000 in
set_option maxHeartbeats 4000000 in
theorem c_X10_wealthBehind {M : Mem} {n m z N0 : Nat} (w : TW M 28 n m) (hO : okD (view M 28) n m) (hz : M.1 7 2 = nI z) (hz40 : z ≤ 40) (hN : N0 ≤ 60) {i : Nat} (hi : i < n) {v : Int32} (hv : 0 ≤ v ∧ v ≤ view M 28 0 i) : Con yX10_wealthBehind cX10_wealthBehind 4 (some .int) 6 [.ref 0, .int (nI i), .int v, .int (nI N0)] M (fun y N => y = some (.int (hbX (M.1 8) z n m (setT (view M 28) 3 i v) N0 i)) ∧ fcK M N) := by
  refine Con.of (own := RX10) (ls := [some (.ref 0), some (.int (nI i)), some (.int v), some (.int (nI N0))]) rfl (by decide +kernel) (Nat.le_of_ble_eq_true rfl) rfl ?_
  have ⟨hn, hn8, hm, hm10, hd⟩ := w
  have ev : view (setI (cpM M 44 28) 48 i v) 44 = setT (view (cpM M 44 28) 44) 3 i v := by have := view_set (M := cpM M 44 28) (t := 44) (c := 3) (j := i) (x := v) (by omega); exact this
  have hAg : agD (setT (view M 28) 3 i v) (view (setI (cpM M 44 28) 48 i v) 44) n m := by rw [ev]; exact (alk_D alk_cp).hid
  have hOT : okD (setT (view M 28) 3 i v) n m := hO.hid hv
  have hO1 : okD (view (setI (cpM M 44 28) 48 i v) 44) n m := by rw [ev]; exact (hO.alk alk_cp).hid (by rw [alk_cp 0 (by omega) (by omega)]; exact hv)
  refine rx_aload_n (i := 0) dX10_wealthBehind_0 rfl rfl ?_
  refine rx_getR 44 (k := 3) fo_X10_30 kl_0 (by decide) ti_10_3 (by decide) rfl dX10_wealthBehind_1 ?_
  refine rx_aload_n (i := 0) dX10_wealthBehind_4 rfl rfl ?_
  refine rx_getR 28 (k := 2) fo_X10_26 kl_0 (by decide) ti_10_2 (by decide) rfl dX10_wealthBehind_5 ?_
  refine rx_cvN (ci := 8) mo_X8_copyFrom lk_X10_250 (c_X8_copyFrom it44 it28 (by decide)) (by decide) rfl rfl (Nat.le_of_ble_eq_true rfl) kl_44 rfl dX10_wealthBehind_8 ?_
  refine rx_aload_n (i := 0) dX10_wealthBehind_11 rfl rfl ?_
  refine rx_getR 44 (k := 3) fo_X10_30 kl_0 (by decide) ti_10_3 (by decide) rfl dX10_wealthBehind_12 ?_
  refine rx_getR 48 (k := 3) fo_X10_135 kl_44 (by decide) ti_8_3 (by decide) rfl dX10_wealthBehind_15 ?_
  refine rx_iload_n (i := 1) dX10_wealthBehind_18 rfl rfl ?_
  refine rx_iload_n (i := 2) dX10_wealthBehind_19 rfl rfl ?_
  refine rx_iastN kl_48 (by omega) (by first | decide | omega) dX10_wealthBehind_20 ?_
  refine rx_aload_n (i := 0) dX10_wealthBehind_21 rfl rfl ?_
  refine rx_getR 17 (k := 12) fo_X10_84 kl_0 (by decide) ti_10_12 (by decide) rfl dX10_wealthBehind_22 ?_
  refine rx_aload_n (i := 0) dX10_wealthBehind_25 rfl rfl ?_
  refine rx_getR 44 (k := 3) fo_X10_30 kl_0 (by decide) ti_10_3 (by decide) rfl dX10_wealthBehind_26 ?_
  refine rx_aload_n (i := 0) dX10_wealthBehind_29 rfl rfl ?_
  refine rx_getR 7 (k := 7) fo_X10_49 kl_0 (by decide) ti_10_7 (by decide) rfl dX10_wealthBehind_30 ?_
  refine rx_iload_n (i := 3) dX10_wealthBehind_33 rfl rfl ?_
  refine rx_callV (ci := 0) mo_X0_pass lk_X10_384 (c_X0_pass it44 (M := setI (cpM M 44 28) 48 i v) (n := n) (m := m) (z := z) (N0 := N0) ((sI_na (by omega)).trans ((congrFun (cpM_o (by omega)) _).trans hz)) hz40 hn8 hm10 (by omega) hO1) (by decide) rfl rfl (Nat.le_of_ble_eq_true rfl) kl_17 rfl dX10_wealthBehind_34 ?_
  rintro _ N ⟨rfl, hD⟩
  obtain ⟨d1, d2, d3, d4, dA⟩ := ds_cp (S := (M.1 8)) (T := (setT (view M 28) 3 i v)) hAg hOT hn8 (funext fun j => by first | exact congrFun (cpM_o (by omega)) j | exact (sI_na (by omega)).trans (congrFun (cpM_o (by omega)) j)) hD
  have wN : TW N 44 n m := TW_al hn8 hm10 (okD.days (s := (view (setI (cpM M 44 28) 48 i v) 44, 0, 0, 0, 0)) hO1 hn8 N0) hD.1
  have hX := hD.2.2.2.2.2
  refine rx_aload_n (i := 0) dX10_wealthBehind_37 rfl rfl ?_
  refine rx_getR 44 (k := 3) fo_X10_30 kl_0 (by decide) ti_10_3 (by decide) rfl dX10_wealthBehind_38 ?_
  refine rx_getR 45 (k := 0) fo_X10_126 kl_44 (by decide) ti_8_0 (by decide) rfl dX10_wealthBehind_41 ?_
  refine rx_iload_n (i := 1) dX10_wealthBehind_44 rfl rfl ?_
  refine rx_ialdN kl_45 (by omega) (by first | decide | omega) dX10_wealthBehind_45 ?_
  refine rx_top ((dsX (M.1 8) z n m (setT (view M 28) 3 i v) N0).1 0 i) ((dA.1.1 i hi).1) ?_
  refine rx_aload_n (i := 0) dX10_wealthBehind_46 rfl rfl ?_
  refine rx_getR 44 (k := 3) fo_X10_30 kl_0 (by decide) ti_10_3 (by decide) rfl dX10_wealthBehind_47 ?_
  refine rx_iload_n (i := 1) dX10_wealthBehind_50 rfl rfl ?_
  refine rx_cvI (ci := 8) mo_X8_favoursOwedTo lk_X10_154 (c_X8_favoursOwedTo it44 wN i hi) (by decide) rfl rfl (Nat.le_of_ble_eq_true rfl) kl_44 rfl dX10_wealthBehind_51 ?_
  refine rx_top (fsum (fun o => (dsX (M.1 8) z n m (setT (view M 28) 3 i v) N0).1 12 (8 * o + i)) n) (fsum_congr fun o ho => dA.2.2.1 o i ho hi) ?_
  refine rx_iadd dX10_wealthBehind_54 ?_
  exact rx_iret dX10_wealthBehind_55 ⟨rfl, ds_K (cp_X.trans (sameX_I (by omega))) hX⟩
set_option maxRecDepth 100000 in
set_option maxHeartbeats 4000000 in
theorem c_X10_pays {M : Mem} {n m z N0 : Nat} (w : TW M 28 n m) (hO : okD (view M 28) n m) (hz : M.1 7 2 = nI z) (hz40 : z ≤ 40) (hN : N0 ≤ 60) {i : Nat} (hi : i < n) {v : Int32} (hv : 0 ≤ v ∧ v ≤ view M 28 0 i) : Con yX10_pays cX10_pays 4 (some .int) 7 [.ref 0, .int (nI i), .int v, .int (nI N0)] M (fun y N => y = some (.int (hbX (M.1 8) z n m (setT (view M 28) 3 i v) N0 i - hbX (M.1 8) z n m (setT (view M 28) 3 i 0) N0 i)) ∧ fcK M N) := by
  refine Con.of (own := RX10) (ls := [some (.ref 0), some (.int (nI i)), some (.int v), some (.int (nI N0))]) rfl (by decide +kernel) (Nat.le_of_ble_eq_true rfl) rfl ?_
  have ⟨hn, hn8, hm, hm10, hd⟩ := w
  have hsp : (0 : Int32) ≤ nI N0 ∧ nI N0 ≤ 60 := ⟨nI_pos' (by omega), nI_le (b := 60) (by omega) (by omega)⟩
  have hv0 : (0 : Int32) ≤ 0 ∧ (0 : Int32) ≤ view M 28 0 i := ⟨Int32.le_refl _, Int32.le_trans hv.1 hv.2⟩
  refine rx_aload_n (i := 0) dX10_pays_0 rfl rfl ?_
  refine rx_getR 28 (k := 2) fo_X10_26 kl_0 (by decide) ti_10_2 (by decide) rfl dX10_pays_1 ?_
  refine rx_iload_n (i := 1) dX10_pays_4 rfl rfl ?_
  refine rx_cvI (ci := 8) mo_X8_isPerson lk_X10_120 (c_X8_isPerson it28) (by decide) rfl rfl (Nat.le_of_ble_eq_true rfl) kl_28 rfl dX10_pays_5 ?_
  refine rx_top (1) (if_pos ⟨nI_pos' (by omega), by rw [show M.1 28 15 = nI n from hn]; exact nI_lt hi (by omega)⟩) ?_
  refine rx_if_eq (tgt := 35) dX10_pays_8 (by decide) (fun c8 => absurd c8 (by decide)) (fun c8 => ?_)
  refine rx_iload_n (i := 2) dX10_pays_11 rfl rfl ?_
  refine rx_if_lt (tgt := 35) dX10_pays_12 (by decide) (fun c12 => ?_) (fun c12 => ?_)
  · skip
    exact absurd hv.1 (Int32.not_le.mpr c12)
    skip
  · skip
    refine rx_iload_n (i := 2) dX10_pays_15 rfl rfl ?_
    refine rx_aload_n (i := 0) dX10_pays_16 rfl rfl ?_
    refine rx_getR 28 (k := 2) fo_X10_26 kl_0 (by decide) ti_10_2 (by decide) rfl dX10_pays_17 ?_
    refine rx_getR 29 (k := 0) fo_X10_126 kl_28 (by decide) ti_8_0 (by decide) rfl dX10_pays_20 ?_
    refine rx_iload_n (i := 1) dX10_pays_23 rfl rfl ?_
    refine rx_ialdN kl_29 (by omega) (by first | decide | omega) dX10_pays_24 ?_
    refine rx_top (view M 28 0 i) (rfl) ?_
    refine rx_icmp_gt (tgt := 35) dX10_pays_25 (by decide) (fun c25 => ?_) (fun c25 => ?_)
    · skip
      exact absurd hv.2 (Int32.not_le.mpr c25)
      skip
    · skip
      refine rx_iload_n (i := 3) dX10_pays_28 rfl rfl ?_
      refine rx_csI mo_X10_isSpan lk_X10_381 c_X10_isSpan (by decide) rfl rfl (Nat.le_of_ble_eq_true rfl) dX10_pays_29 ?_
      refine rx_top (1) (if_pos hsp) ?_
      refine rx_if_ne (tgt := 43) dX10_pays_32 (by decide) (fun c32 => ?_) (fun c32 => absurd c32 (by decide))
      refine rx_aload_n (i := 0) dX10_pays_43 rfl rfl ?_
      refine rx_iload_n (i := 1) dX10_pays_44 rfl rfl ?_
      refine rx_iload_n (i := 2) dX10_pays_45 rfl rfl ?_
      refine rx_iload_n (i := 3) dX10_pays_46 rfl rfl ?_
      refine rx_callV (ci := 10) mo_X10_wealthBehind lk_X10_401 (c_X10_wealthBehind w hO hz hz40 hN hi hv) (by decide) rfl rfl (Nat.le_of_ble_eq_true rfl) kl_0 rfl dX10_pays_47 ?_
      rintro _ N ⟨rfl, hK⟩
      refine rx_aload_n (i := 0) dX10_pays_50 rfl rfl ?_
      refine rx_iload_n (i := 1) dX10_pays_51 rfl rfl ?_
      refine rx_iconst (0) dX10_pays_52 rfl ?_
      refine rx_iload_n (i := 3) dX10_pays_53 rfl rfl ?_
      refine rx_callV (ci := 10) mo_X10_wealthBehind lk_X10_401 (c_X10_wealthBehind (hK.1.tw w) (hO.alk hK.1.vw) ((hK.1.1 7 2 (by unfold scr; omega) (by omega)).trans hz) hz40 hN hi (by rw [hK.1.vw 0 (by omega) (by omega)]; exact hv0)) (by decide) rfl rfl (Nat.le_of_ble_eq_true rfl) kl_0 rfl dX10_pays_54 ?_
      rintro _ N2 ⟨rfl, hK2⟩
      have e2 : hbX (N.1 8) z n m (setT (view N 28) 3 i 0) N0 i = hbX (M.1 8) z n m (setT (view M 28) 3 i 0) N0 i := by
        rw [show N.1 8 = M.1 8 from funext fun j => hK.1.1 8 j (by unfold scr; omega) (by omega)]
        exact hbX_ag (agD.hid (alk_D hK.1.vw)) (hO.hid hv0) hn8 hi
      rw [e2]
      refine rx_isub dX10_pays_57 ?_
      exact rx_iret dX10_pays_58 ⟨rfl, hK.trans hK2⟩
