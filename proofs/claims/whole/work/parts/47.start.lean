/-- coin of the first n -/
def cap (c : Nat → Nat) (n : Nat) : Nat → Nat := fun j => if j < n then c j else 0
theorem cap_s {c : Nat → Nat} {i : Nat} : cap c (i + 1) = fun j => if j = i then cap c i i + c i else cap c i j := by
  funext j
  simp only [cap]
  by_cases q : j = i
  · subst q; simp
  · rw [if_neg q]
    by_cases r : j < i
    · rw [if_pos r, if_pos (by omega)]
    · rw [if_neg r, if_neg (by omega)]
theorem cap_p4 {c : Nat → Nat} {i h : Nat} (hi : i < 8) (hh : h < 2) : lN (p4 (cap c i) h) + lN (ln i h (c i)) = lN (p4 (cap c (i + 1)) h) := by
  rw [lN_add, cap_s, p4_upd hi (c i) h hh]
theorem cap_0 {c : Nat → Nat} {h : Nat} : p4 (cap c 0) h = 0 := by simp [p4, cap]
theorem cap_lt {c : Nat → Nat} (hc : ∀ i, c i < 65536) {n : Nat} : ∀ i, cap c n i < 65536 := fun i => by
  simp only [cap]; split
  · exact hc i
  · decide
def SZ : SS := (0, fun _ => 0, fun _ _ => 0, fun _ => 0, fun _ => 0, fun _ => 0)
/-- the first state alone -/
def SF (c : Nat → Nat) : SS := (1, (SZ.add 0 c).mk, (SZ.add 0 c).co, fun _ => 1, fun _ => 0, fun _ => 0)
/-- before the first state is found -/
def stB (M : Mem) : Mem := setI (setI (setI (setA (setA M 26 (fun _ => 0)) 27 (fun _ => M.1 19 10)) 19 11 0) 19 14 0) 19 9 0
theorem stB_o {M : Mem} {a j : Nat} (h1 : a ≠ 26) (h2 : a ≠ 27) (h3 : ¬ (a = 19 ∧ (j = 9 ∨ j = 11 ∨ j = 14))) : (stB M).1 a j = M.1 a j := by
  unfold stB
  rw [sI_ne (by omega), sI_ne (by omega), sI_ne (by omega), setA_o h2, setA_o h1]
theorem stB_G {M : Mem} : stG M (stB M) := ⟨fun a j h => stB_o (by omega) (by omega) (by omega), fun _ _ => rfl, rfl⟩
theorem stB_rep {M : Mem} : repC (stB M) SZ := by
  refine ⟨fun _ => 0, ?_, by decide, fun s hs => absurd hs (Nat.not_lt_zero _), fun p hp => ?_, TabOK.empty fun _ _ => rfl⟩
  · exact sI_eq
  · unfold stB
    rw [sI_ne (by omega), sI_ne (by omega), sI_ne (by omega), setA_o (by omega)]
    exact congrFun setA_eq p
theorem SF_rep {M : Mem} {c : Nat → Nat} (hR : repC M (SZ.add 0 c)) : repC (setI (setJ M 22 0 1) 25 0 0) (SF c) := by
  obtain ⟨tb, h1, h2, h3, h4, h5⟩ := hR
  refine ⟨tb, (sI_ne (by omega)).trans h1, (show 1 ≤ 3000 by omega), fun s hs => ?_, fun p hp => (sI_ne (by omega)).trans (h4 p hp), h5⟩
  obtain rfl : s = 0 := by have : s < 1 := hs; omega
  obtain ⟨e1, e2, e3, e4, e5, e6, e7⟩ := h3 0 (show 0 < 1 by omega)
  refine ⟨(sI_ne (by omega)).trans e1, ?_, ?_, ?_, sI_eq, ?_, e7⟩
  · rw [sI_2, sJ_na (by decide)]; exact e2
  · rw [sI_2, sJ_na (by decide)]; exact e3
  · show (if (22 : Nat) = 22 ∧ (0 : Nat) = 0 then (1 : Int64) else M.2.1 22 0) = 1
    exact if_pos ⟨rfl, rfl⟩
  · rw [sI_2, sJ_na (by decide)]; exact e6
set_option maxRecDepth 100000 in
set_option maxHeartbeats 4000000 in
theorem l_start {M : Mem} {n : Nat} {c : Nat → Nat} (hn : M.1 108 15 = nI n) (hn8 : n ≤ 8) (hc : ∀ i, i < n → M.1 109 i = nI (c i)) (h65 : ∀ i, c i < 65536) {QQ : Nat → List (Option Value) → List Value → Mem → Prop} (K : Reach cX5_start RX5 6 2 QQ 97 [some (.ref 19), some (.long (lN (p4 (cap c n) 0))), none, some (.long (lN (p4 (cap c n) 1))), none, some (.int (nI n))] [] M) : ∀ (N : Nat) (i : Nat) (a : Int64) (b : Int64), (i ≤ n) → (a = lN (p4 (cap c i) 0)) → (b = lN (p4 (cap c i) 1)) → n - i < N → Reach cX5_start RX5 6 2 (QQ) 41 [some (.ref 19), some (.long a), none, some (.long b), none, some (.int (nI i))] [] (M) := by
  intro N
  induction N with
  | zero => intro i a b hi ha hb hm; exact absurd ‹_ < 0› (Nat.not_lt_zero _)
  | succ N ih =>
    intro i a b hi ha hb hm
    subst ha
    subst hb
    refine rx_iload (i := 5) dX5_start_41 rfl ?_
    refine rx_aload_n (i := 0) dX5_start_43 rfl rfl ?_
    refine rx_getR 108 (k := 0) fo_X5_12 kl_19 (by decide) ti_5_0 (by decide) rfl dX5_start_44 ?_
    refine rx_getI (k := 15) fo_X5_95 kl_108 (by decide) ti_8_15 dX5_start_47 ?_
    refine rx_top (nI n) hn ?_
    refine rx_icmp_ge (tgt := 97) dX5_start_50 (by decide) (fun c50 => ?_) (fun c50 => ?_)
    · skip
      have f50 := Int32.not_lt.mpr c50
      have e50 : i = n := by have := (nI_leI (by omega) (by omega)).mp c50; omega
      subst e50
      exact K
    · skip
      have f50 := Int32.not_le.mp c50
      have e50 : i < n := Nat.lt_of_not_le fun q => c50 (nI_le q (by omega))
      refine rx_lload_n (i := 1) dX5_start_53 rfl rfl ?_
      refine rx_iload (i := 5) dX5_start_54 rfl ?_
      refine rx_iconst (0) dX5_start_56 rfl ?_
      refine rx_aload_n (i := 0) dX5_start_57 rfl rfl ?_
      refine rx_getR 108 (k := 0) fo_X5_12 kl_19 (by decide) ti_5_0 (by decide) rfl dX5_start_58 ?_
      refine rx_getR 109 (k := 0) fo_X5_98 kl_108 (by decide) ti_8_0 (by decide) rfl dX5_start_61 ?_
      refine rx_iload (i := 5) dX5_start_64 rfl ?_
      refine rx_ialdN kl_109 (by omega) (by first | decide | omega) dX5_start_66 ?_
      refine rx_top (nI (c i)) (hc i (by omega)) ?_
      refine rx_csL mo_X5_part lk_X5_101 (c_X5_part (i := i) (h := 0) (c := c i) (by omega) (by decide) (by have := h65 i; omega)) (by decide) rfl rfl (Nat.le_of_ble_eq_true rfl) dX5_start_67 ?_
      refine rx_ladd dX5_start_70 ?_
      refine rx_topL _ (cap_p4 (by omega) (by decide)) ?_
      refine rx_lstore_n (i := 1) dX5_start_71 rfl (by decide) rfl rfl ?_
      refine rx_lload_n (i := 3) dX5_start_72 rfl rfl ?_
      refine rx_iload (i := 5) dX5_start_73 rfl ?_
      refine rx_iconst (1) dX5_start_75 rfl ?_
      refine rx_aload_n (i := 0) dX5_start_76 rfl rfl ?_
      refine rx_getR 108 (k := 0) fo_X5_12 kl_19 (by decide) ti_5_0 (by decide) rfl dX5_start_77 ?_
      refine rx_getR 109 (k := 0) fo_X5_98 kl_108 (by decide) ti_8_0 (by decide) rfl dX5_start_80 ?_
      refine rx_iload (i := 5) dX5_start_83 rfl ?_
      refine rx_ialdN kl_109 (by omega) (by first | decide | omega) dX5_start_85 ?_
      refine rx_top (nI (c i)) (hc i (by omega)) ?_
      refine rx_csL mo_X5_part lk_X5_101 (c_X5_part (i := i) (h := 1) (c := c i) (by omega) (by decide) (by have := h65 i; omega)) (by decide) rfl rfl (Nat.le_of_ble_eq_true rfl) dX5_start_86 ?_
      refine rx_ladd dX5_start_89 ?_
      refine rx_topL _ (cap_p4 (by omega) (by decide)) ?_
      refine rx_lstore_n (i := 3) dX5_start_90 rfl (by decide) rfl rfl ?_
      first | refine rx_iincN (i := 5) dX5_start_91 rfl (by decide) rfl rfl ?_ | refine rx_iinc (i := 5) dX5_start_91 rfl rfl (by decide) rfl rfl ?_
      refine rx_goto (tgt := 41) dX5_start_94 (by decide) ?_
      exact ih (i + 1) _ _ (by omega) rfl rfl (by omega)
set_option maxRecDepth 100000 in
set_option maxHeartbeats 4000000 in
theorem c_X5_start {M : Mem} {n : Nat} {c : Nat → Nat} (hn : M.1 108 15 = nI n) (hn8 : n ≤ 8) (hc : ∀ i, i < n → M.1 109 i = nI (c i)) (h65 : ∀ i, c i < 65536) : Con yX5_start cX5_start 6 none 2 [.ref 19] M (fun w N => w = none ∧ stG M N ∧ N.1 114 = M.1 114 ∧ repC N (SF (cap c n)) ∧ N.1 19 14 = 0 ∧ N.1 19 11 = 0 ∧ ∀ j, j < 10 → N.1 27 j = M.1 19 10) := by
  refine Con.of (own := RX5) (ls := [some (.ref 19), none, none, none, none, none]) rfl (by decide +kernel) (Nat.le_of_ble_eq_true rfl) rfl ?_
  refine rx_aload_n (i := 0) dX5_start_0 rfl rfl ?_
  refine rx_getR 26 (k := 7) fo_X5_38 kl_19 (by decide) ti_5_7 (by decide) rfl dX5_start_1 ?_
  refine rx_iconst (0) dX5_start_4 rfl ?_
  refine rx_csN mo_J7_fill_53178 lk_X5_86 (c_J7_fill_53178 (v := 0) kl_26 (by decide)) (by decide) rfl rfl (Nat.le_of_ble_eq_true rfl) dX5_start_5 ?_
  refine rx_aload_n (i := 0) dX5_start_8 rfl rfl ?_
  refine rx_getR 27 (k := 8) fo_X5_41 kl_19 (by decide) ti_5_8 (by decide) rfl dX5_start_9 ?_
  refine rx_aload_n (i := 0) dX5_start_12 rfl rfl ?_
  refine rx_getI (k := 10) fo_X5_70 kl_19 (by decide) ti_5_10 dX5_start_13 ?_
  refine rx_top (M.1 19 10) (by rw [setA_o (by omega)]) ?_
  refine rx_csN mo_J7_fill_53178 lk_X5_86 (c_J7_fill_53178 (v := M.1 19 10) kl_27 (by decide)) (by decide) rfl rfl (Nat.le_of_ble_eq_true rfl) dX5_start_16 ?_
  refine rx_aload_n (i := 0) dX5_start_19 rfl rfl ?_
  refine rx_iconst (0) dX5_start_20 rfl ?_
  refine rx_putI (k := 11) fo_X5_92 fn_5_11 kl_19 (by decide) ty_5_11 dX5_start_21 ?_
  refine rx_aload_n (i := 0) dX5_start_24 rfl rfl ?_
  refine rx_iconst (0) dX5_start_25 rfl ?_
  refine rx_putZ (k := 14) fo_X5_59 fn_5_14 kl_19 (by decide) ty_5_14 (by first | exact Or.inl rfl | exact Or.inr rfl) dX5_start_26 ?_
  refine rx_aload_n (i := 0) dX5_start_29 rfl rfl ?_
  refine rx_iconst (0) dX5_start_30 rfl ?_
  refine rx_putI (k := 9) fo_X5_76 fn_5_9 kl_19 (by decide) ty_5_9 dX5_start_31 ?_
  refine rx_lconst (0) dX5_start_34 rfl ?_
  refine rx_lstore_n (i := 1) dX5_start_35 rfl (by decide) rfl rfl ?_
  refine rx_lconst (0) dX5_start_36 rfl ?_
  refine rx_lstore_n (i := 3) dX5_start_37 rfl (by decide) rfl rfl ?_
  refine rx_iconst (0) dX5_start_38 rfl ?_
  refine rx_istore (i := 5) dX5_start_39 (by decide) rfl rfl ?_
  refine l_start (M := stB M) (c := c) (by rw [stB_o (by omega) (by omega) (by omega)]; exact hn) hn8 (fun i hi => by rw [stB_o (by omega) (by omega) (by omega)]; exact hc i hi) h65 ?_ (n + 1) 0 0 0 (Nat.zero_le _) (by rw [cap_0]; rfl) (by rw [cap_0]; rfl) (by omega)
  refine rx_aload_n (i := 0) dX5_start_97 rfl rfl ?_
  refine rx_iconst (0) dX5_start_98 rfl ?_
  refine rx_lload_n (i := 1) dX5_start_99 rfl rfl ?_
  refine rx_lload_n (i := 3) dX5_start_100 rfl rfl ?_
  refine rx_callV (ci := 5) mo_X5_find lk_X5_105 (c_X5_find stB_rep (mk := 0) (c := cap c n) (cap_lt h65)) (by decide) rfl rfl (Nat.le_of_ble_eq_true rfl) kl_19 rfl dX5_start_101 ?_
  rintro w0 M2 hq
  rcases hq with ⟨t, ht, -⟩ | ⟨-, ⟨-, rfl, hR2, p, hM2⟩ | ⟨hN, -⟩⟩
  · exact absurd ht (Nat.not_lt_zero _)
  rotate_left
  · exact absurd hN (by decide)
  have hM3 : stG (stB M) M2 := by rw [hM2]; exact stF_nw.G
  have h14 : M2.1 19 14 = 0 := by
    rw [hM2, nw_14]
    unfold stB
    rw [sI_ne (by omega)]; exact sI_eq
  have h11 : M2.1 19 11 = 0 := by
    rw [hM2, nw_o (by omega)]
    unfold stB
    rw [sI_ne (by omega), sI_ne (by omega)]; exact sI_eq
  have h27 : ∀ j, M2.1 27 j = M.1 19 10 := fun j => by
    rw [hM2, nw_o (by omega)]
    unfold stB
    rw [sI_ne (by omega), sI_ne (by omega), sI_ne (by omega)]
    exact congrFun setA_eq j
  have h114 : M2.1 114 = M.1 114 := by
    funext j
    rw [hM2, nw_o (by omega)]
    exact stB_o (by omega) (by omega) (by omega)
  refine rx_pop dX5_start_104 rfl ?_
  refine rx_aload_n (i := 0) dX5_start_105 rfl rfl ?_
  refine rx_getR 22 (k := 3) fo_X5_25 kl_19 (by decide) ti_5_3 (by decide) rfl dX5_start_106 ?_
  refine rx_iconst (0) dX5_start_109 rfl ?_
  refine rx_lconst (1) dX5_start_110 rfl ?_
  refine rx_lastN (k := 0) kl_22 (by omega) (by first | decide | omega) dX5_start_111 ?_
  refine rx_aload_n (i := 0) dX5_start_112 rfl rfl ?_
  refine rx_getR 25 (k := 6) fo_X5_35 kl_19 (by decide) ti_5_6 (by decide) rfl dX5_start_113 ?_
  refine rx_iconst (0) dX5_start_116 rfl ?_
  refine rx_iconst (0) dX5_start_117 rfl ?_
  refine rx_iastN (k := 0) kl_25 (by omega) (by first | decide | omega) dX5_start_118 ?_
  exact rx_vret dX5_start_119 ⟨rfl, stB_G.trans (hM3.trans ⟨fun b j hb => if_neg (by omega), fun b hb => by funext j; exact if_neg (by omega), rfl⟩), (setI_ne (by omega)).trans h114, SF_rep hR2, (sI_ne (by omega)).trans h14, (sI_ne (by omega)).trans h11, fun j hj => (sI_ne (by omega)).trans (h27 j)⟩
