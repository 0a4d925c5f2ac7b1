def cntM (M : Mem) (n m : Nat) (x : Int32) : Int32 :=
  if x = 0 then nI n else if x = 1 then nI m else if x = 2 then fbor (fun k => decide (M.1 151 k = 0)) m else if x = 3 then M.1 140 32 else if x = 4 then M.1 140 34 else if x = 5 then fsum (M.1 141) n else if x = 6 then M.1 140 20 else if x = 7 then M.1 140 18 else -1
set_option maxRecDepth 100000 in
set_option maxHeartbeats 4000000 in
theorem l_count2 {M : Mem} {n m : Nat} (w : MW M n m) : ∀ (N : Nat) (i : Nat) (s : Int32), (i ≤ m) → (s = fbor (fun k => decide (M.1 151 k = 0)) i) → m - i < N → Reach cX11_count RX11 4 0 (FQ cX11_count (some .int) (some (.int (fbor (fun k => decide (M.1 151 k = 0)) m))) M) 68 [some (.ref 140), some (.int 2), some (.int s), some (.int (nI i))] [] (M) := by
  intro N
  induction N with
  | zero => intro i s hi hs2 hm; exact absurd ‹_ < 0› (Nat.not_lt_zero _)
  | succ N ih =>
    intro i s hi hs2 hm
    have ⟨hn, hn8, hm, hm10, hd⟩ := w
    refine rx_iload_n (i := 3) dX11_count_68 rfl rfl ?_
    refine rx_aload_n (i := 0) dX11_count_69 rfl rfl ?_
    refine rx_getI (k := 7) fo_X11_139 kl_140 (by decide) ti_11_7 dX11_count_70 ?_
    refine rx_top (nI m) hm ?_
    refine rx_icmp_ge (tgt := 101) dX11_count_73 (by decide) (fun c73 => ?_) (fun c73 => ?_)
    · skip
      have f73 := Int32.not_lt.mpr c73
      have e73 : i = m := by have := (nI_leI (by omega) (by omega)).mp c73; omega
      subst e73
      refine rx_iload_n (i := 2) dX11_count_101 rfl rfl ?_
      exact rx_fiI dX11_count_102 hs2 rfl
    · skip
      have f73 := Int32.not_le.mp c73
      have e73 : i < m := Nat.lt_of_not_le fun q => c73 (nI_le q (by omega))
      refine rx_iload_n (i := 2) dX11_count_76 rfl rfl ?_
      refine rx_aload_n (i := 0) dX11_count_77 rfl rfl ?_
      refine rx_getR 151 (k := 12) fo_X11_41 kl_140 (by decide) ti_11_12 (by decide) rfl dX11_count_78 ?_
      refine rx_iload_n (i := 3) dX11_count_81 rfl rfl ?_
      refine rx_ialdN kl_151 (by omega) (by first | decide | omega) dX11_count_82 ?_
      refine rx_if_ne (tgt := 92) dX11_count_83 (by decide) (fun c83 => ?_) (fun c83 => ?_)
      · skip
        refine rx_iconst (0) dX11_count_92 rfl ?_
        refine rx_ior dX11_count_93 ?_
        refine rx_istore_n (i := 2) dX11_count_94 rfl (by decide) rfl rfl ?_
        first | refine rx_iincN (i := 3) dX11_count_95 rfl (by decide) rfl rfl ?_ | refine rx_iinc (i := 3) dX11_count_95 rfl rfl (by decide) rfl rfl ?_
        refine rx_goto (tgt := 68) dX11_count_98 (by decide) ?_
        exact ih (i + 1) _ (by omega) (by rw [hs2]; simp only [fbor]; rw [if_neg (fun q => c83 (of_decide_eq_true q)), or_0]) (by omega)
      · skip
        refine rx_iconst (1) dX11_count_86 rfl ?_
        refine rx_iload_n (i := 3) dX11_count_87 rfl rfl ?_
        refine rx_ishl dX11_count_88 ?_
        refine rx_goto (tgt := 93) dX11_count_89 (by decide) ?_
        refine rx_ior dX11_count_93 ?_
        refine rx_istore_n (i := 2) dX11_count_94 rfl (by decide) rfl rfl ?_
        first | refine rx_iincN (i := 3) dX11_count_95 rfl (by decide) rfl rfl ?_ | refine rx_iinc (i := 3) dX11_count_95 rfl rfl (by decide) rfl rfl ?_
        refine rx_goto (tgt := 68) dX11_count_98 (by decide) ?_
        exact ih (i + 1) _ (by omega) (by rw [hs2]; simp only [fbor]; rw [if_pos (decide_eq_true c83)]; rfl) (by omega)
set_option maxRecDepth 100000 in
set_option maxHeartbeats 4000000 in
theorem l_count5 {M : Mem} {n m : Nat} (w : MW M n m) : ∀ (N : Nat) (i : Nat) (s : Int32), (i ≤ n) → (s = fsum (M.1 141) i) → n - i < N → Reach cX11_count RX11 4 0 (FQ cX11_count (some .int) (some (.int (fsum (M.1 141) n))) M) 115 [some (.ref 140), some (.int 5), some (.int s), some (.int (nI i))] [] (M) := by
  intro N
  induction N with
  | zero => intro i s hi hs2 hm; exact absurd ‹_ < 0› (Nat.not_lt_zero _)
  | succ N ih =>
    intro i s hi hs2 hm
    have ⟨hn, hn8, hm, hm10, hd⟩ := w
    refine rx_iload_n (i := 3) dX11_count_115 rfl rfl ?_
    refine rx_aload_n (i := 0) dX11_count_116 rfl rfl ?_
    refine rx_getI (k := 0) fo_X11_132 kl_140 (by decide) ti_11_0 dX11_count_117 ?_
    refine rx_top (nI n) hn ?_
    refine rx_icmp_ge (tgt := 138) dX11_count_120 (by decide) (fun c120 => ?_) (fun c120 => ?_)
    · skip
      have f120 := Int32.not_lt.mpr c120
      have e120 : i = n := by have := (nI_leI (by omega) (by omega)).mp c120; omega
      subst e120
      refine rx_iload_n (i := 2) dX11_count_138 rfl rfl ?_
      exact rx_fiI dX11_count_139 hs2 rfl
    · skip
      have f120 := Int32.not_le.mp c120
      have e120 : i < n := Nat.lt_of_not_le fun q => c120 (nI_le q (by omega))
      refine rx_iload_n (i := 2) dX11_count_123 rfl rfl ?_
      refine rx_aload_n (i := 0) dX11_count_124 rfl rfl ?_
      refine rx_getR 141 (k := 1) fo_X11_9 kl_140 (by decide) ti_11_1 (by decide) rfl dX11_count_125 ?_
      refine rx_iload_n (i := 3) dX11_count_128 rfl rfl ?_
      refine rx_ialdN kl_141 (by omega) (by first | decide | omega) dX11_count_129 ?_
      refine rx_iadd dX11_count_130 ?_
      refine rx_istore_n (i := 2) dX11_count_131 rfl (by decide) rfl rfl ?_
      first | refine rx_iincN (i := 3) dX11_count_132 rfl (by decide) rfl rfl ?_ | refine rx_iinc (i := 3) dX11_count_132 rfl rfl (by decide) rfl rfl ?_
      refine rx_goto (tgt := 115) dX11_count_135 (by decide) ?_
      exact ih (i + 1) _ (by omega) (by rw [hs2]; rfl) (by omega)
set_option maxRecDepth 100000 in
set_option maxHeartbeats 4000000 in
theorem c_X11_count {M : Mem} {n m : Nat} (w : MW M n m) {x : Int32} : Fun yX11_count cX11_count 4 (some .int) 0 [.ref 140, .int x] M (some (.int (cntM M n m x))) (t0 M) := by
  refine Fun.of (own := RX11) ([some (.ref 140), some (.int x), none, none]) rfl (by decide +kernel) (Nat.le_of_ble_eq_true rfl) rfl ?_
  have w0 := w.t0
  have ⟨hn, hn8, hm, hm10, hd⟩ := w
  refine rx_aload_n (i := 0) dX11_count_0 rfl rfl ?_
  refine rx_iconst (0) dX11_count_1 rfl ?_
  refine rx_putI (k := 21) fo_X11_126 fn_11_21 kl_140 (by decide) ty_11_21 dX11_count_2 ?_
  refine rx_iconst (0) dX11_count_5 rfl ?_
  refine rx_istore_n (i := 2) dX11_count_6 rfl (by decide) rfl rfl ?_
  refine rx_iload_n (i := 1) dX11_count_7 rfl rfl ?_
  by_cases s0 : x = 0
  · subst s0
    refine rx_tableIn (off := 48) (tgt := 56) dX11_count_8 (by decide) (by decide) rfl (by decide) ?_
    refine rx_aload_n (i := 0) dX11_count_56 rfl rfl ?_
    refine rx_getI (k := 0) fo_X11_132 kl_140 (by decide) ti_11_0 dX11_count_57 ?_
    refine rx_top (nI n) ((t0_o (by omega)).trans hn) ?_
    exact rx_fiI dX11_count_60 (by first | rfl | exact e9.symm) rfl
  by_cases s1 : x = 1
  · subst s1
    refine rx_tableIn (off := 53) (tgt := 61) dX11_count_8 (by decide) (by decide) rfl (by decide) ?_
    refine rx_aload_n (i := 0) dX11_count_61 rfl rfl ?_
    refine rx_getI (k := 7) fo_X11_139 kl_140 (by decide) ti_11_7 dX11_count_62 ?_
    refine rx_top (nI m) ((t0_o (by omega)).trans hm) ?_
    exact rx_fiI dX11_count_65 (by first | rfl | exact e9.symm) rfl
  by_cases s2 : x = 2
  · subst s2
    refine rx_tableIn (off := 58) (tgt := 66) dX11_count_8 (by decide) (by decide) rfl (by decide) ?_
    refine rx_iconst (0) dX11_count_66 rfl ?_
    refine rx_istore_n (i := 3) dX11_count_67 rfl (by decide) rfl rfl ?_
    exact l_count2 w0 (m + 1) 0 0 (Nat.zero_le _) rfl (by omega)
  by_cases s3 : x = 3
  · subst s3
    refine rx_tableIn (off := 95) (tgt := 103) dX11_count_8 (by decide) (by decide) rfl (by decide) ?_
    refine rx_aload_n (i := 0) dX11_count_103 rfl rfl ?_
    refine rx_getI (k := 32) fo_X11_198 kl_140 (by decide) ti_11_32 dX11_count_104 ?_
    exact rx_fiI dX11_count_107 (by first | rfl | exact e9.symm) rfl
  by_cases s4 : x = 4
  · subst s4
    refine rx_tableIn (off := 100) (tgt := 108) dX11_count_8 (by decide) (by decide) rfl (by decide) ?_
    refine rx_aload_n (i := 0) dX11_count_108 rfl rfl ?_
    refine rx_getI (k := 34) fo_X11_319 kl_140 (by decide) ti_11_34 dX11_count_109 ?_
    exact rx_fiI dX11_count_112 (by first | rfl | exact e9.symm) rfl
  by_cases s5 : x = 5
  · subst s5
    refine rx_tableIn (off := 105) (tgt := 113) dX11_count_8 (by decide) (by decide) rfl (by decide) ?_
    refine rx_iconst (0) dX11_count_113 rfl ?_
    refine rx_istore_n (i := 3) dX11_count_114 rfl (by decide) rfl rfl ?_
    exact l_count5 w0 (n + 1) 0 0 (Nat.zero_le _) rfl (by omega)
  by_cases s6 : x = 6
  · subst s6
    refine rx_tableIn (off := 132) (tgt := 140) dX11_count_8 (by decide) (by decide) rfl (by decide) ?_
    refine rx_aload_n (i := 0) dX11_count_140 rfl rfl ?_
    refine rx_getI (k := 20) fo_X11_129 kl_140 (by decide) ti_11_20 dX11_count_141 ?_
    exact rx_fiI dX11_count_144 (by first | rfl | exact e9.symm) rfl
  by_cases s7 : x = 7
  · subst s7
    refine rx_tableIn (off := 137) (tgt := 145) dX11_count_8 (by decide) (by decide) rfl (by decide) ?_
    refine rx_aload_n (i := 0) dX11_count_145 rfl rfl ?_
    refine rx_getI (k := 18) fo_X11_146 kl_140 (by decide) ti_11_18 dX11_count_146 ?_
    exact rx_fiI dX11_count_149 (by first | rfl | exact e9.symm) rfl
  have e9 : cntM M n m x = -1 := by unfold cntM; rw [if_neg s0, if_neg s1, if_neg s2, if_neg s3, if_neg s4, if_neg s5, if_neg s6, if_neg s7]
  refine rx_tableOut (tgt := 150) dX11_count_8 (by have q0 := lv_neT s0 (a := 0) rfl; have q1 := lv_neT s1 (a := 1) rfl; have q2 := lv_neT s2 (a := 2) rfl; have q3 := lv_neT s3 (a := 3) rfl; have q4 := lv_neT s4 (a := 4) rfl; have q5 := lv_neT s5 (a := 5) rfl; have q6 := lv_neT s6 (a := 6) rfl; have q7 := lv_neT s7 (a := 7) rfl; have := x.toInt; omega) (by decide) ?_
  refine rx_iconst (-1) dX11_count_150 rfl ?_
  exact rx_fiI dX11_count_151 (by first | rfl | exact e9.symm) rfl
set_option maxRecDepth 100000 in
set_option maxHeartbeats 4000000 in
theorem c_X11_row {M : Mem} {s i : Nat} (hs : M.1 140 20 = nI s) (hs16 : s ≤ 16) (hi : i < s) : Fun yX11_row cX11_row 2 (some .long) 1 [.ref 140, .int (nI i)] M (some (.long (M.2.1 155 i))) (t0 M) := by
  refine Fun.of (own := RX11) ([some (.ref 140), some (.int (nI i))]) rfl (by decide +kernel) (Nat.le_of_ble_eq_true rfl) rfl ?_
  refine rx_aload_n (i := 0) dX11_row_0 rfl rfl ?_
  refine rx_iconst (0) dX11_row_1 rfl ?_
  refine rx_putI (k := 21) fo_X11_126 fn_11_21 kl_140 (by decide) ty_11_21 dX11_row_2 ?_
  refine rx_iload_n (i := 1) dX11_row_5 rfl rfl ?_
  refine rx_i2l dX11_row_6 rfl ?_
  refine rx_lconst (0) dX11_row_7 rfl ?_
  refine rx_aload_n (i := 0) dX11_row_8 rfl rfl ?_
  refine rx_getI (k := 20) fo_X11_129 kl_140 (by decide) ti_11_20 dX11_row_9 ?_
  refine rx_top (nI s) ((t0_o (by omega)).trans hs) ?_
  refine rx_iconst (1) dX11_row_12 rfl ?_
  refine rx_isub dX11_row_13 ?_
  refine rx_i2l dX11_row_14 rfl ?_
  refine rx_csI mo_X11_in lk_X11_135 (c_X11_in (a := (nI i).toInt64) (b := 0) (c := (nI s - 1).toInt64)) (by decide) rfl rfl (Nat.le_of_ble_eq_true rfl) dX11_row_15 ?_
  refine rx_top (1) (if_pos ⟨l_0.mpr (nI_pos' (by omega)), Int32.toInt64_le.mpr ((le_pred (by omega)).mpr (nI_lt hi (by omega)))⟩) ?_
  refine rx_if_eq (tgt := 30) dX11_row_18 (by decide) (fun c18 => absurd c18 (by decide)) (fun c18 => ?_)
  refine rx_aload_n (i := 0) dX11_row_21 rfl rfl ?_
  refine rx_getR 155 (k := 19) fo_X11_58 kl_140 (by decide) ti_11_19 (by decide) rfl dX11_row_22 ?_
  refine rx_iload_n (i := 1) dX11_row_25 rfl rfl ?_
  refine rx_laldN kl_155 (by omega) (by first | decide | omega) dX11_row_26 ?_
  refine rx_goto (tgt := 35) dX11_row_27 (by decide) ?_
  exact rx_fiL dX11_row_35 rfl rfl
set_option maxRecDepth 100000 in
set_option maxHeartbeats 4000000 in
theorem c_X11_row_no {M : Mem} {s : Nat} (hs : M.1 140 20 = nI s) (hs16 : s ≤ 16) {x : Int32} (hx : ¬ (0 ≤ x ∧ x < nI s)) : Fun yX11_row cX11_row 2 (some .long) 1 [.ref 140, .int x] M (some (.long 0)) (setI (t0 M) 140 21 1) := by
  refine Fun.of (own := RX11) ([some (.ref 140), some (.int x)]) rfl (by decide +kernel) (Nat.le_of_ble_eq_true rfl) rfl ?_
  refine rx_aload_n (i := 0) dX11_row_0 rfl rfl ?_
  refine rx_iconst (0) dX11_row_1 rfl ?_
  refine rx_putI (k := 21) fo_X11_126 fn_11_21 kl_140 (by decide) ty_11_21 dX11_row_2 ?_
  refine rx_iload_n (i := 1) dX11_row_5 rfl rfl ?_
  refine rx_i2l dX11_row_6 rfl ?_
  refine rx_lconst (0) dX11_row_7 rfl ?_
  refine rx_aload_n (i := 0) dX11_row_8 rfl rfl ?_
  refine rx_getI (k := 20) fo_X11_129 kl_140 (by decide) ti_11_20 dX11_row_9 ?_
  refine rx_top (nI s) ((t0_o (by omega)).trans hs) ?_
  refine rx_iconst (1) dX11_row_12 rfl ?_
  refine rx_isub dX11_row_13 ?_
  refine rx_i2l dX11_row_14 rfl ?_
  refine rx_csI mo_X11_in lk_X11_135 (c_X11_in (a := x.toInt64) (b := 0) (c := (nI s - 1).toInt64)) (by decide) rfl rfl (Nat.le_of_ble_eq_true rfl) dX11_row_15 ?_
  refine rx_if_eq (tgt := 30) dX11_row_18 (by decide) (fun c18 => ?_) (fun c18 => ?_)
  · skip
    refine rx_aload_n (i := 0) dX11_row_30 rfl rfl ?_
    refine rx_cvI (ci := 11) mo_X11_lost lk_X11_249 c_X11_lost (by decide) rfl rfl (Nat.le_of_ble_eq_true rfl) kl_140 rfl dX11_row_31 ?_
    refine rx_i2l dX11_row_34 rfl ?_
    exact rx_fiL dX11_row_35 rfl rfl
  · skip
    exact absurd ⟨l_0.mp (ite1n c18).1, (le_pred (by omega)).mp (Int32.toInt64_le.mp (ite1n c18).2)⟩ hx
    skip
/-- Euclid: b halves in two steps -/
theorem gcd_st {a b : Nat} : Nat.gcd a b = Nat.gcd b (a % b) := by rw [Nat.gcd_comm a b, Nat.gcd_rec b a, Nat.gcd_comm]
set_option maxRecDepth 100000 in
set_option maxHeartbeats 4000000 in
theorem c_X11_common_s {M : Mem} {a b d : Nat} (ha : a < 2 ^ 62) (hb : b < 2 ^ 62) (h : b ≠ 0 → Fun yX11_common cX11_common 4 (some .long) d [.long (lN b), .long (lN (a % b))] M (some (.long (lN (Nat.gcd b (a % b))))) M) : Fun yX11_common cX11_common 4 (some .long) (d + 1) [.long (lN a), .long (lN b)] M (some (.long (lN (Nat.gcd a b)))) (M) := by
  refine Fun.of (own := RX11) ([some (.long (lN a)), none, some (.long (lN b)), none]) rfl (by decide +kernel) (Nat.le_of_ble_eq_true rfl) rfl ?_
  refine rx_lload_n (i := 2) dX11_common_0 rfl rfl ?_
  refine rx_lconst (0) dX11_common_1 rfl ?_
  refine rx_lcmp dX11_common_2 ?_
  refine rx_if_ne (tgt := 10) dX11_common_3 (by decide) (fun c3 => ?_) (fun c3 => ?_)
  · skip
    have e3 : b ≠ 0 := fun q => c3 ((lg_cmp_eq _ _).mpr (by rw [q]; rfl))
    refine rx_lload_n (i := 2) dX11_common_10 rfl rfl ?_
    refine rx_lload_n (i := 0) dX11_common_11 rfl rfl ?_
    refine rx_lload_n (i := 2) dX11_common_12 rfl rfl ?_
    refine rx_lrem dX11_common_13 (fun q => e3 ((pk_lEQ (b := 0) (by omega) (by omega)).mp q)) ?_
    rw [pk_lRem (by omega) (Nat.pos_of_ne_zero e3) (by omega)]
    refine rx_csL mo_X11_common lk_X11_423 (h e3) (Nat.le_refl _) rfl rfl (Nat.le_of_ble_eq_true rfl) dX11_common_14 ?_
    exact rx_fiL dX11_common_17 (by first | (rw [e3, Nat.gcd_zero_right]; done) | rw [gcd_st (a := a) (b := b)]) rfl
  · skip
    have e3 : b = 0 := by have := (lg_cmp_eq _ _).mp c3; exact (pk_lEQ (b := 0) (by omega) (by omega)).mp this
    refine rx_lload_n (i := 0) dX11_common_6 rfl rfl ?_
    refine rx_goto (tgt := 17) dX11_common_7 (by decide) ?_
    exact rx_fiL dX11_common_17 (by first | (rw [e3, Nat.gcd_zero_right]; done) | rw [gcd_st (a := a) (b := b)]) rfl
theorem c_X11_common {M : Mem} : ∀ (e a b : Nat), a < 2 ^ 62 → b < 2 ^ 62 → b < 2 ^ e → ∀ d, 2 * e ≤ d → Fun yX11_common cX11_common 4 (some .long) (d + 1) [.long (lN a), .long (lN b)] M (some (.long (lN (Nat.gcd a b)))) M
  | 0, a, b, ha, hb, he, d, hd => c_X11_common_s ha hb (fun q => absurd (by omega : b = 0) q)
  | e + 1, a, b, ha, hb, he, d, hd => by
    obtain ⟨d, rfl⟩ : ∃ d', d = d' + 1 + 1 := ⟨d - 2, by omega⟩
    refine c_X11_common_s ha hb (fun q => ?_)
    have h1 : a % b < b := Nat.mod_lt _ (Nat.pos_of_ne_zero q)
    have h2e : 2 ^ (e + 1) = 2 * 2 ^ e := by rw [Nat.pow_succ, Nat.mul_comm]
    by_cases hc : a % b < 2 ^ e
    · exact c_X11_common e b (a % b) hb (by omega) hc (d + 1) (by omega)
    · refine c_X11_common_s hb (by omega) (fun q2 => ?_)
      have h3 : b % (a % b) < 2 ^ e := by
        have := Nat.div_add_mod b (a % b)
        have h4 : 1 ≤ b / (a % b) := (Nat.one_le_div_iff (Nat.pos_of_ne_zero q2)).mpr (by omega)
        have h5 : a % b * 1 ≤ a % b * (b / (a % b)) := Nat.mul_le_mul_left _ h4
        omega
      have h6 : b % (a % b) < a % b := Nat.mod_lt _ (Nat.pos_of_ne_zero q2)
      exact c_X11_common e (a % b) (b % (a % b)) (by omega) (by omega) h3 d (by omega)
def nsm (f : Nat → Nat) : Nat → Nat
  | 0 => 0
  | n + 1 => nsm f n + f n
def mxN (f : Nat → Nat) : Nat → Nat
  | 0 => 0
  | n + 1 => max (mxN f n) (f n)
def mnN (f : Nat → Nat) : Nat → Nat
  | 0 => 1000000000
  | n + 1 => min (mnN f n) (f n)
def dff (a b : Nat) : Nat := if b ≤ a then a - b else b - a
def aprt (c : Nat → Nat) (n : Nat) : Nat := nsm (fun a => nsm (fun b => dff (c a) (c b)) a) n
theorem nsm_le {f : Nat → Nat} {K : Nat} : ∀ {n : Nat}, (∀ i, i < n → f i ≤ K) → nsm f n ≤ n * K
  | 0, _ => Nat.zero_le _
  | n + 1, h => by
    have := nsm_le (n := n) (fun i hi => h i (by omega))
    have := h n (by omega)
    simp only [nsm]
    rw [Nat.succ_mul]; omega
theorem mxN_le {f : Nat → Nat} {K : Nat} : ∀ {n : Nat}, (∀ i, i < n → f i ≤ K) → mxN f n ≤ K
  | 0, _ => Nat.zero_le _
  | n + 1, h => by
    have := mxN_le (n := n) (fun i hi => h i (by omega))
    have := h n (by omega)
    simp only [mxN]; omega
theorem mnN_le {f : Nat → Nat} : ∀ {n : Nat}, mnN f n ≤ 1000000000
  | 0 => Nat.le_refl _
  | n + 1 => by have := mnN_le (f := f) (n := n); simp only [mnN]; omega
theorem abs_d {a b : Nat} (ha : a ≤ 8000) (hb : b ≤ 8000) : (if (0 : Int32) ≤ nI a - nI b then nI a - nI b else -(nI a - nI b)) = nI (dff a b) := by
  unfold dff
  by_cases h : b ≤ a
  · rw [if_pos h, pk_sub h, if_pos (nI_pos' (by omega))]
  · rw [if_neg h]
    have e : (nI a - nI b).toInt = (a : Int) - b := pk_sub_toInt (by omega) (by omega)
    rw [if_neg (fun q => by rw [i_le, e, i_0] at q; omega), Int32.neg_sub, pk_sub (by omega)]
def row4 (N : Mem) (a b c d : Int64) : Prop := N.1 140 20 = 4 ∧ N.2.1 155 0 = a ∧ N.2.1 155 1 = b ∧ N.2.1 155 2 = c ∧ N.2.1 155 3 = d
theorem mt_row4 {M : Mem} {a b c d : Int64} : row4 (mt (mt (mt (mt M 0 a) 1 b) 2 c) 3 d) a b c d := by simp [row4, mt, setI, setJ]; rfl
set_option maxRecDepth 100000 in
set_option maxHeartbeats 4000000 in
theorem l_spread_b {M : Mem} {n m : Nat} (w : MW M n m) {c : Nat → Nat} (hc : ∀ i, i < n → M.1 141 i = nI (c i) ∧ c i ≤ 8000) {QQ : Nat → List (Option Value) → List Value → Mem → Prop} {a : Nat} (ha : a < n) {l1 : Int64} {s1 s2 : Int32} {p0 : Nat} (K : Reach cX11_spread RX11 9 101 QQ 106 [some (.ref 140), some (.long l1), none, some (.long (lN (p0 + nsm (fun b => dff (c a) (c b)) a))), none, some (.int s1), some (.int s2), some (.int (nI a)), some (.int (nI a))] [] M) : ∀ (N : Nat) (b : Nat) (p : Int64), (b ≤ a) → (p = lN (p0 + nsm (fun b => dff (c a) (c b)) b)) → a - b < N → Reach cX11_spread RX11 9 101 (QQ) 71 [some (.ref 140), some (.long l1), none, some (.long p), none, some (.int s1), some (.int s2), some (.int (nI a)), some (.int (nI b))] [] (M) := by
  intro N
  induction N with
  | zero => intro b p hb hp hm; exact absurd ‹_ < 0› (Nat.not_lt_zero _)
  | succ N ih =>
    intro b p hb hp hm
    have ⟨hn, hn8, hm, hm10, hd⟩ := w
    subst hp
    refine rx_iload (i := 8) dX11_spread_71 rfl ?_
    refine rx_iload (i := 7) dX11_spread_73 rfl ?_
    refine rx_icmp_ge (tgt := 106) dX11_spread_75 (by decide) (fun c75 => ?_) (fun c75 => ?_)
    · skip
      have f75 := Int32.not_lt.mpr c75
      have e75 : b = a := by have := (nI_leI (by omega) (by omega)).mp c75; omega
      subst e75
      exact K
    · skip
      have f75 := Int32.not_le.mp c75
      have e75 : b < a := Nat.lt_of_not_le fun q => c75 (nI_le q (by omega))
      have hca := hc a ha
      have hcb := hc b (by omega)
      refine rx_lload_n (i := 3) dX11_spread_78 rfl rfl ?_
      refine rx_aload_n (i := 0) dX11_spread_79 rfl rfl ?_
      refine rx_getR 141 (k := 1) fo_X11_9 kl_140 (by decide) ti_11_1 (by decide) rfl dX11_spread_80 ?_
      refine rx_iload (i := 7) dX11_spread_83 rfl ?_
      refine rx_ialdN kl_141 (by omega) (by first | decide | omega) dX11_spread_85 ?_
      refine rx_top (nI (c a)) (hca.1) ?_
      refine rx_aload_n (i := 0) dX11_spread_86 rfl rfl ?_
      refine rx_getR 141 (k := 1) fo_X11_9 kl_140 (by decide) ti_11_1 (by decide) rfl dX11_spread_87 ?_
      refine rx_iload (i := 8) dX11_spread_90 rfl ?_
      refine rx_ialdN kl_141 (by omega) (by first | decide | omega) dX11_spread_92 ?_
      refine rx_top (nI (c b)) (hcb.1) ?_
      refine rx_isub dX11_spread_93 ?_
      refine rx_mabs (y := 0) (List.mem_of_getElem? (i := 1986) (by decide +kernel)) (by decide) (Nat.le_of_ble_eq_true rfl) dX11_spread_94 ?_
      refine rx_top (nI (dff (c a) (c b))) (abs_d hca.2 hcb.2) ?_
      refine rx_i2l dX11_spread_97 rfl ?_
      have hdf : dff (c a) (c b) ≤ 8000 := by unfold dff; split <;> omega
      rw [nI_l (by omega)]
      refine rx_ladd dX11_spread_98 ?_
      rw [lN_add]
      refine rx_lstore_n (i := 3) dX11_spread_99 rfl (by decide) rfl rfl ?_
      first | refine rx_iincN (i := 8) dX11_spread_100 rfl (by decide) rfl rfl ?_ | refine rx_iinc (i := 8) dX11_spread_100 rfl rfl (by decide) rfl rfl ?_
      refine rx_goto (tgt := 71) dX11_spread_103 (by decide) ?_
      exact ih (b + 1) _ (by omega) (by rw [Nat.add_assoc]; rfl) (by omega)
set_option maxRecDepth 100000 in
set_option maxHeartbeats 4000000 in
theorem l_spread_a {M : Mem} {n m : Nat} (w : MW M n m) {c : Nat → Nat} (hc : ∀ i, i < n → M.1 141 i = nI (c i) ∧ c i ≤ 8000) {QQ : Nat → List (Option Value) → List Value → Mem → Prop} (K : Reach cX11_spread RX11 9 101 QQ 112 [some (.ref 140), some (.long (lN (nsm c n))), none, some (.long (lN (aprt c n))), none, some (.int (nI (mxN c n))), some (.int (nI (mnN c n))), none, none] [] M) : ∀ (N : Nat) (a : Nat) (l : Int64) (p : Int64) (s1 : Int32) (s2 : Int32), (a ≤ n) → (l = lN (nsm c a)) → (p = lN (aprt c a)) → (s1 = nI (mxN c a)) → (s2 = nI (mnN c a)) → n - a < N → Reach cX11_spread RX11 9 101 (QQ) 20 [some (.ref 140), some (.long l), none, some (.long p), none, some (.int s1), some (.int s2), some (.int (nI a)), none] [] (M) := by
  intro N
  induction N with
  | zero => intro a l p s1 s2 ha hl hp h1 h2 hm; exact absurd ‹_ < 0› (Nat.not_lt_zero _)
  | succ N ih =>
    intro a l p s1 s2 ha hl hp h1 h2 hm
    have ⟨hn, hn8, hm, hm10, hd⟩ := w
    subst hl
    subst hp
    subst h1
    subst h2
    refine rx_iload (i := 7) dX11_spread_20 rfl ?_
    refine rx_aload_n (i := 0) dX11_spread_22 rfl rfl ?_
    refine rx_getI (k := 0) fo_X11_132 kl_140 (by decide) ti_11_0 dX11_spread_23 ?_
    refine rx_top (nI n) (hn) ?_
    refine rx_icmp_ge (tgt := 112) dX11_spread_26 (by decide) (fun c26 => ?_) (fun c26 => ?_)
    · skip
      have f26 := Int32.not_lt.mpr c26
      have e26 : a = n := by have := (nI_leI (by omega) (by omega)).mp c26; omega
      subst e26
      refine rx_drop 7 ?_
      exact K
    · skip
      have f26 := Int32.not_le.mp c26
      have e26 : a < n := Nat.lt_of_not_le fun q => c26 (nI_le q (by omega))
      have hca := hc a e26
      have hmx := mxN_le (f := c) (K := 8000) (n := a) (fun i hi => (hc i (by omega)).2)
      have hmn := mnN_le (f := c) (n := a)
      refine rx_lload_n (i := 1) dX11_spread_29 rfl rfl ?_
      refine rx_aload_n (i := 0) dX11_spread_30 rfl rfl ?_
      refine rx_getR 141 (k := 1) fo_X11_9 kl_140 (by decide) ti_11_1 (by decide) rfl dX11_spread_31 ?_
      refine rx_iload (i := 7) dX11_spread_34 rfl ?_
      refine rx_ialdN kl_141 (by omega) (by first | decide | omega) dX11_spread_36 ?_
      refine rx_top (nI (c a)) (hca.1) ?_
      refine rx_i2l dX11_spread_37 rfl ?_
      rw [nI_l (by omega)]
      refine rx_ladd dX11_spread_38 ?_
      rw [lN_add]
      refine rx_lstore_n (i := 1) dX11_spread_39 rfl (by decide) rfl rfl ?_
      refine rx_iload (i := 5) dX11_spread_40 rfl ?_
      refine rx_aload_n (i := 0) dX11_spread_42 rfl rfl ?_
      refine rx_getR 141 (k := 1) fo_X11_9 kl_140 (by decide) ti_11_1 (by decide) rfl dX11_spread_43 ?_
      refine rx_iload (i := 7) dX11_spread_46 rfl ?_
      refine rx_ialdN kl_141 (by omega) (by first | decide | omega) dX11_spread_48 ?_
      refine rx_top (nI (c a)) (hca.1) ?_
      refine rx_mmax (List.mem_of_getElem? (i := 1715) (by decide +kernel)) (by decide) (Nat.le_of_ble_eq_true rfl) dX11_spread_49 ?_
      refine rx_top (nI (max (mxN c a) (c a))) (mx2 (by omega) (by omega)) ?_
      refine rx_istore (i := 5) dX11_spread_52 (by decide) rfl rfl ?_
      refine rx_iload (i := 6) dX11_spread_54 rfl ?_
      refine rx_aload_n (i := 0) dX11_spread_56 rfl rfl ?_
      refine rx_getR 141 (k := 1) fo_X11_9 kl_140 (by decide) ti_11_1 (by decide) rfl dX11_spread_57 ?_
      refine rx_iload (i := 7) dX11_spread_60 rfl ?_
      refine rx_ialdN kl_141 (by omega) (by first | decide | omega) dX11_spread_62 ?_
      refine rx_top (nI (c a)) (hca.1) ?_
      refine rx_mmin (List.mem_of_getElem? (i := 1714) (by decide +kernel)) (by decide) (Nat.le_of_ble_eq_true rfl) dX11_spread_63 ?_
      refine rx_top (nI (min (mnN c a) (c a))) (mn2 (by omega) (by omega)) ?_
      refine rx_istore (i := 6) dX11_spread_66 (by decide) rfl rfl ?_
      refine rx_iconst (0) dX11_spread_68 rfl ?_
      refine rx_istore (i := 8) dX11_spread_69 (by decide) rfl rfl ?_
      refine l_spread_b w hc e26 (p0 := aprt c a) ?_ (a + 1) 0 _ (Nat.zero_le _) rfl (by omega)
      refine rx_iincN (i := 7) dX11_spread_106 rfl (by decide) rfl rfl ?_
      refine rx_goto (tgt := 20) dX11_spread_109 (by decide) ?_
      refine rx_drop 8 ?_
      exact ih (a + 1) _ _ _ _ (by omega) rfl rfl rfl rfl (by omega)
set_option maxRecDepth 100000 in
set_option maxHeartbeats 4000000 in
theorem c_X11_spread {M : Mem} {n m : Nat} (w : MW M n m) {c : Nat → Nat} (hc : ∀ i, i < n → M.1 141 i = nI (c i) ∧ c i ≤ 8000) : Con yX11_spread cX11_spread 9 (some .int) 101 [.ref 140] M (fun v N => (nsm c n = 0 ∧ v = some (.int (-2)) ∧ N = t0 M) ∨ (nsm c n ≠ 0 ∧ v = some (.int 0) ∧ frQ M N ∧ row4 N (lN (aprt c n / Nat.gcd (aprt c n) (n * nsm c n))) (lN (n * nsm c n / Nat.gcd (aprt c n) (n * nsm c n))) (nI (mxN c n)).toInt64 (nI (mnN c n)).toInt64)) := by
  refine Con.of (own := RX11) (ls := [some (.ref 140), none, none, none, none, none, none, none, none]) rfl (by decide +kernel) (Nat.le_of_ble_eq_true rfl) rfl ?_
  have w0 := w.t0
  have ⟨hn, hn8, hm, hm10, hd⟩ := w
  refine rx_aload_n (i := 0) dX11_spread_0 rfl rfl ?_
  refine rx_iconst (0) dX11_spread_1 rfl ?_
  refine rx_putI (k := 21) fo_X11_126 fn_11_21 kl_140 (by decide) ty_11_21 dX11_spread_2 ?_
  refine rx_lconst (0) dX11_spread_5 rfl ?_
  refine rx_lstore_n (i := 1) dX11_spread_6 rfl (by decide) rfl rfl ?_
  refine rx_lconst (0) dX11_spread_7 rfl ?_
  refine rx_lstore_n (i := 3) dX11_spread_8 rfl (by decide) rfl rfl ?_
  refine rx_iconst (0) dX11_spread_9 rfl ?_
  refine rx_istore (i := 5) dX11_spread_10 (by decide) rfl rfl ?_
  refine rx_ldcw (own := RX11) (v := (1000000000)) (List.mem_of_getElem? (i := 1924) (by decide +kernel)) dX11_spread_12 ?_
  refine rx_istore (i := 6) dX11_spread_15 (by decide) rfl rfl ?_
  refine rx_iconst (0) dX11_spread_17 rfl ?_
  refine rx_istore (i := 7) dX11_spread_18 (by decide) rfl rfl ?_
  have hsm : nsm c n ≤ 64000 := Nat.le_trans (nsm_le (fun i hi => (hc i hi).2)) (by omega)
  have hap : aprt c n ≤ 8 * 64000 := Nat.le_trans (nsm_le (K := 64000) (fun a ha => Nat.le_trans (nsm_le (K := 8000) (fun b hb => by unfold dff; have := (hc a ha).2; have := (hc b (by omega)).2; split <;> omega)) (by omega))) (Nat.mul_le_mul_right _ hn8)
  refine l_spread_a w0 (c := c) (fun i hi => hc i hi) ?_ (n + 1) 0 0 0 0 _ (Nat.zero_le _) rfl rfl rfl rfl (by omega)
  refine rx_lload_n (i := 1) dX11_spread_112 rfl rfl ?_
  refine rx_lconst (0) dX11_spread_113 rfl ?_
  refine rx_lcmp dX11_spread_114 ?_
  refine rx_if_ne (tgt := 121) dX11_spread_115 (by decide) (fun c115 => ?_) (fun c115 => ?_)
  · skip
    have e115 : nsm c n ≠ 0 := fun q => c115 ((lg_cmp_eq _ _).mpr (by rw [q]; rfl))
    have hn1 : 1 ≤ n := by
      rcases Nat.eq_zero_or_pos n with q | q
      · rw [q] at e115; exact absurd rfl e115
      · exact q
    have hpos : 1 ≤ n * nsm c n := Nat.mul_pos hn1 (Nat.pos_of_ne_zero e115)
    have hg0 : 0 < Nat.gcd (aprt c n) (n * nsm c n) := Nat.gcd_pos_of_pos_right _ hpos
    have hg1 : Nat.gcd (aprt c n) (n * nsm c n) ≤ n * nsm c n := Nat.gcd_le_right _ hpos
    have hmul : n * nsm c n ≤ 8 * 64000 := Nat.mul_le_mul hn8 hsm
    have hnz : ¬ lN (Nat.gcd (aprt c n) (n * nsm c n)) = 0 := fun q => absurd ((pk_lEQ (b := 0) (by omega) (by omega)).mp q) (by omega)
    refine rx_lload_n (i := 3) dX11_spread_121 rfl rfl ?_
    refine rx_aload_n (i := 0) dX11_spread_122 rfl rfl ?_
    refine rx_getI (k := 0) fo_X11_132 kl_140 (by decide) ti_11_0 dX11_spread_123 ?_
    refine rx_top (nI n) ((t0_o (by omega)).trans hn) ?_
    refine rx_i2l dX11_spread_126 rfl ?_
    refine rx_topL (lN n) (nI_l (by omega)) ?_
    refine rx_lload_n (i := 1) dX11_spread_127 rfl rfl ?_
    refine rx_lmul dX11_spread_128 ?_
    rw [lN_mul]
    refine rx_csL mo_X11_common lk_X11_423 (c_X11_common 20 (aprt c n) (n * nsm c n) (by omega) (by omega) (by omega) 99 (by omega)) (by decide) rfl rfl (Nat.le_of_ble_eq_true rfl) dX11_spread_129 ?_
    refine rx_lstore (i := 7) dX11_spread_132 (by decide) rfl rfl ?_
    refine rx_aload_n (i := 0) dX11_spread_134 rfl rfl ?_
    refine rx_iconst (0) dX11_spread_135 rfl ?_
    refine rx_putI (k := 20) fo_X11_129 fn_11_20 kl_140 (by decide) ty_11_20 dX11_spread_136 ?_
    refine rx_aload_n (i := 0) dX11_spread_139 rfl rfl ?_
    refine rx_lload_n (i := 3) dX11_spread_140 rfl rfl ?_
    refine rx_lload (i := 7) dX11_spread_141 rfl ?_
    refine rx_ldiv dX11_spread_143 hnz ?_
    rw [pk_lDiv (by omega) hg0 (by omega)]
    refine rx_cvN (ci := 11) mo_X11_tell lk_X11_294 (c_X11_tell (s := 0) sI_eq (by omega)) (by decide) rfl rfl (Nat.le_of_ble_eq_true rfl) kl_140 rfl dX11_spread_144 ?_
    have hn149 : (mt (setI (t0 M) 140 20 0) 0 (lN (aprt c n / Nat.gcd (aprt c n) (n * nsm c n)))).1 140 0 = nI n := hn
    refine rx_aload_n (i := 0) dX11_spread_147 rfl rfl ?_
    refine rx_aload_n (i := 0) dX11_spread_148 rfl rfl ?_
    refine rx_getI (k := 0) fo_X11_132 kl_140 (by decide) ti_11_0 dX11_spread_149 ?_
    refine rx_top (nI n) (hn149) ?_
    refine rx_i2l dX11_spread_152 rfl ?_
    refine rx_topL (lN n) (nI_l (by omega)) ?_
    refine rx_lload_n (i := 1) dX11_spread_153 rfl rfl ?_
    refine rx_lmul dX11_spread_154 ?_
    rw [lN_mul]
    refine rx_lload (i := 7) dX11_spread_155 rfl ?_
    refine rx_ldiv dX11_spread_157 hnz ?_
    rw [pk_lDiv (by omega) hg0 (by omega)]
    refine rx_cvN (ci := 11) mo_X11_tell lk_X11_294 (c_X11_tell (s := 1) mt_20 (by omega)) (by decide) rfl rfl (Nat.le_of_ble_eq_true rfl) kl_140 rfl dX11_spread_158 ?_
    refine rx_aload_n (i := 0) dX11_spread_161 rfl rfl ?_
    refine rx_iload (i := 5) dX11_spread_162 rfl ?_
    refine rx_i2l dX11_spread_164 rfl ?_
    refine rx_cvN (ci := 11) mo_X11_tell lk_X11_294 (c_X11_tell (s := 2) mt_20 (by omega)) (by decide) rfl rfl (Nat.le_of_ble_eq_true rfl) kl_140 rfl dX11_spread_165 ?_
    refine rx_aload_n (i := 0) dX11_spread_168 rfl rfl ?_
    refine rx_iload (i := 6) dX11_spread_169 rfl ?_
    refine rx_i2l dX11_spread_171 rfl ?_
    refine rx_cvN (ci := 11) mo_X11_tell lk_X11_294 (c_X11_tell (s := 3) mt_20 (by omega)) (by decide) rfl rfl (Nat.le_of_ble_eq_true rfl) kl_140 rfl dX11_spread_172 ?_
    refine rx_iconst (0) dX11_spread_175 rfl ?_
    exact rx_iret dX11_spread_176 (Or.inr ⟨e115, rfl, frQ_t0.trans ((frQ_I (by omega)).trans (frQ_mt.trans (frQ_mt.trans (frQ_mt.trans frQ_mt)))), mt_row4⟩)
  · skip
    have e115 : nsm c n = 0 := (pk_lEQ (b := 0) (by omega) (by omega)).mp ((lg_cmp_eq _ _).mp c115)
    refine rx_bipush (-2) dX11_spread_118 rfl ?_
    exact rx_iret dX11_spread_120 (Or.inl ⟨e115, rfl, rfl⟩)
