set_option maxRecDepth 100000 in
set_option maxHeartbeats 4000000 in
theorem c_X11_isDay {M : Mem} {x : Int32} : Fun yX11_isDay cX11_isDay 1 (some .boolean) 1 [.int x] M (some (.int (if 0 ≤ x ∧ x ≤ 99 then 1 else 0))) (M) := by
  refine Fun.of (own := RX11) ([some (.int x)]) rfl (by decide +kernel) (Nat.le_of_ble_eq_true rfl) rfl ?_
  refine rx_iload_n (i := 0) dX11_isDay_0 rfl rfl ?_
  refine rx_i2l dX11_isDay_1 rfl ?_
  refine rx_lconst (0) dX11_isDay_2 rfl ?_
  refine rx_ldc2 (own := RX11) (v := (99)) (List.mem_of_getElem? (i := 1709) (by decide +kernel)) dX11_isDay_3 ?_
  refine rx_csI mo_X11_in lk_X11_135 (c_X11_in (a := x.toInt64) (b := 0) (c := 99)) (by decide) rfl rfl (Nat.le_of_ble_eq_true rfl) dX11_isDay_6 ?_
  refine rx_top (if 0 ≤ x ∧ x ≤ 99 then 1 else 0) (by simp only [l_0, l_99]) ?_
  exact rx_fiZ dX11_isDay_9 (by split; exact Or.inr rfl; exact Or.inl rfl) rfl rfl
/-- debts that can't be paid wholly -/
def notT (T : TT) (n m : Nat) (srt b : Int32) : Int32 := fbor (fun k => bt b k && decide (fsum (fun i => if bt (fbor (ptT T n srt k) n) i = true then T 0 i - T 3 i else 0) n < T 8 k)) m
def floT (T : TT) (n m : Nat) (srt b : Int32) : Int32 := mnI (fun k => bdT T n m srt b (nI k)) (2 ^ n)
set_option maxRecDepth 100000 in
set_option maxHeartbeats 4000000 in
theorem l_X11_flow {M : Mem} {n m : Nat} (w : MW M n m) (hs : sortOK (M.1 153 0)) {x b : Int32} : ∀ (N : Nat) (i : Nat) (s : Int32), (i ≤ m) → (s = fbor (fun k => bt b k && decide (fsum (fun i => if bt (fbor (ptT (mv M) n (M.1 153 0) k) n) i = true then mv M 0 i - mv M 3 i else 0) n < mv M 8 k)) i) → m - i < N → Reach cX11_flow RX11 5 7 (RetQ cX11_flow (some .int) (fun v N => v = some (.int (floT (mv M) n m (M.1 153 0) b)) ∧ frQ M N ∧ row1 N (notT (mv M) n m (M.1 153 0) b).toInt64)) 25 [some (.ref 140), some (.int x), some (.int b), some (.int s), some (.int (nI i))] [] (M) := by
  intro N
  induction N with
  | zero => intro i s hi hs2 hm; exact absurd ‹_ < 0› (Nat.not_lt_zero _)
  | succ N ih =>
    intro i s hi hs2 hm
    have ⟨hn, hn8, hm, hm10, hd⟩ := w
    refine rx_iload (i := 4) dX11_flow_25 rfl ?_
    refine rx_aload_n (i := 0) dX11_flow_27 rfl rfl ?_
    refine rx_getI (k := 7) fo_X11_139 kl_140 (by decide) ti_11_7 dX11_flow_28 ?_
    refine rx_top (nI m) hm ?_
    refine rx_icmp_ge (tgt := 80) dX11_flow_31 (by decide) (fun c31 => ?_) (fun c31 => ?_)
    · skip
      have f31 := Int32.not_lt.mpr c31
      have e31 : i = m := by have := (nI_leI (by omega) (by omega)).mp c31; omega
      subst e31
      refine rx_aload_n (i := 0) dX11_flow_80 rfl rfl ?_
      refine rx_iconst (0) dX11_flow_81 rfl ?_
      refine rx_putI (k := 20) fo_X11_129 fn_11_20 kl_140 (by decide) ty_11_20 dX11_flow_82 ?_
      refine rx_aload_n (i := 0) dX11_flow_85 rfl rfl ?_
      refine rx_iload_n (i := 3) dX11_flow_86 rfl rfl ?_
      refine rx_i2l dX11_flow_87 rfl ?_
      refine rx_cvN (ci := 11) mo_X11_tell lk_X11_294 (c_X11_tell (s := 0) sI_eq (by omega)) (by decide) rfl rfl (Nat.le_of_ble_eq_true rfl) kl_140 rfl dX11_flow_88 ?_
      refine rx_aload_n (i := 0) dX11_flow_91 rfl rfl ?_
      refine rx_iload_n (i := 2) dX11_flow_92 rfl rfl ?_
      refine rx_cvI (ci := 11) mo_X11_flowOf lk_X11_387 (c_X11_flowOf (frQ.MW (frQ_I (M := M) (a := 140) (j := 20) (x := 0) (by omega) |>.trans frQ_mt) w) hs) (by decide) rfl rfl (Nat.le_of_ble_eq_true rfl) kl_140 rfl dX11_flow_93 ?_
      exact rx_iret dX11_flow_96 ⟨by rw [frQ.mv ((frQ_I (M := M) (a := 140) (j := 20) (x := 0) (by omega)).trans frQ_mt)]; rfl, (frQ_I (by omega)).trans frQ_mt, by rw [hs2]; exact mt_row1⟩
    · skip
      have f31 := Int32.not_le.mp c31
      have e31 : i < m := Nat.lt_of_not_le fun q => c31 (nI_le q (by omega))
      refine rx_iload_n (i := 3) dX11_flow_34 rfl rfl ?_
      refine rx_iload_n (i := 2) dX11_flow_35 rfl rfl ?_
      refine rx_iload (i := 4) dX11_flow_36 rfl ?_
      refine rx_csI mo_X11_has lk_X11_291 (c_X11_has (by omega)) (by decide) rfl rfl (Nat.le_of_ble_eq_true rfl) dX11_flow_38 ?_
      refine rx_if_eq (tgt := 71) dX11_flow_41 (by decide) (fun c41 => ?_) (fun c41 => ?_)
      · skip
        have e41 := zI_0.mp c41
        refine rx_iconst (0) dX11_flow_71 rfl ?_
        refine rx_ior dX11_flow_72 ?_
        refine rx_istore_n (i := 3) dX11_flow_73 rfl (by decide) rfl rfl ?_
        first | refine rx_iincN (i := 4) dX11_flow_74 rfl (by decide) rfl rfl ?_ | refine rx_iinc (i := 4) dX11_flow_74 rfl rfl (by decide) rfl rfl ?_
        refine rx_goto (tgt := 25) dX11_flow_77 (by decide) ?_
        exact ih (i + 1) _ (by omega) (by rw [hs2]; simp only [fbor]; rw [if_neg (by simp [e41]), or_0]) (by omega)
      · skip
        have e41 := zI_n c41
        refine rx_aload_n (i := 0) dX11_flow_44 rfl rfl ?_
        refine rx_aload_n (i := 0) dX11_flow_45 rfl rfl ?_
        refine rx_iload (i := 4) dX11_flow_46 rfl ?_
        refine rx_cvI (ci := 11) mo_X11_partsBy lk_X11_374 (c_X11_partsBy w hs e31) (by decide) rfl rfl (Nat.le_of_ble_eq_true rfl) kl_140 rfl dX11_flow_48 ?_
        refine rx_cvI (ci := 11) mo_X11_countedOf lk_X11_377 (c_X11_countedOf w) (by decide) rfl rfl (Nat.le_of_ble_eq_true rfl) kl_140 rfl dX11_flow_51 ?_
        refine rx_aload_n (i := 0) dX11_flow_54 rfl rfl ?_
        refine rx_getR 149 (k := 10) fo_X11_35 kl_140 (by decide) ti_11_10 (by decide) rfl dX11_flow_55 ?_
        refine rx_iload (i := 4) dX11_flow_58 rfl ?_
        refine rx_ialdN kl_149 (by omega) (by first | decide | omega) dX11_flow_60 ?_
        refine rx_icmp_ge (tgt := 71) dX11_flow_61 (by decide) (fun c61 => ?_) (fun c61 => ?_)
        · skip
          have e61 : (fun k => bt b k && decide (fsum (fun i => if bt (fbor (ptT (mv M) n (M.1 153 0) k) n) i = true then mv M 0 i - mv M 3 i else 0) n < mv M 8 k)) i = false := by simp only [e41, Bool.true_and]; exact decide_eq_false (Int32.not_lt.mpr c61)
          refine rx_iconst (0) dX11_flow_71 rfl ?_
          refine rx_ior dX11_flow_72 ?_
          refine rx_istore_n (i := 3) dX11_flow_73 rfl (by decide) rfl rfl ?_
          first | refine rx_iincN (i := 4) dX11_flow_74 rfl (by decide) rfl rfl ?_ | refine rx_iinc (i := 4) dX11_flow_74 rfl rfl (by decide) rfl rfl ?_
          refine rx_goto (tgt := 25) dX11_flow_77 (by decide) ?_
          exact ih (i + 1) _ (by omega) (by rw [hs2]; simp only [fbor]; rw [if_neg (show ¬ (fun k => bt b k && decide (fsum (fun i => if bt (fbor (ptT (mv M) n (M.1 153 0) k) n) i = true then mv M 0 i - mv M 3 i else 0) n < mv M 8 k)) i = true by rw [e61]; decide), or_0]) (by omega)
        · skip
          have e61 : (fun k => bt b k && decide (fsum (fun i => if bt (fbor (ptT (mv M) n (M.1 153 0) k) n) i = true then mv M 0 i - mv M 3 i else 0) n < mv M 8 k)) i = true := by simp only [e41, Bool.true_and]; exact decide_eq_true (Int32.not_le.mp c61)
          refine rx_iconst (1) dX11_flow_64 rfl ?_
          refine rx_iload (i := 4) dX11_flow_65 rfl ?_
          refine rx_ishl dX11_flow_67 ?_
          refine rx_goto (tgt := 72) dX11_flow_68 (by decide) ?_
          refine rx_ior dX11_flow_72 ?_
          refine rx_istore_n (i := 3) dX11_flow_73 rfl (by decide) rfl rfl ?_
          first | refine rx_iincN (i := 4) dX11_flow_74 rfl (by decide) rfl rfl ?_ | refine rx_iinc (i := 4) dX11_flow_74 rfl rfl (by decide) rfl rfl ?_
          refine rx_goto (tgt := 25) dX11_flow_77 (by decide) ?_
          exact ih (i + 1) _ (by omega) (by rw [hs2]; simp only [fbor]; rw [if_pos e61]; rfl) (by omega)
set_option maxRecDepth 100000 in
set_option maxHeartbeats 4000000 in
theorem c_X11_flow {M : Mem} {n m : Nat} (w : MW M n m) (hs : sortOK (M.1 153 0)) {x : Int32} (hx : 0 ≤ x ∧ x ≤ 99) : Con yX11_flow cX11_flow 5 (some .int) 7 [.ref 140, .int x] M (fun v N => v = some (.int (floT (mv M) n m (M.1 153 0) (thV (mv M) m x))) ∧ frQ M N ∧ row1 N (notT (mv M) n m (M.1 153 0) (thV (mv M) m x)).toInt64) := by
  refine Con.of (own := RX11) (ls := [some (.ref 140), some (.int x), none, none, none]) rfl (by decide +kernel) (Nat.le_of_ble_eq_true rfl) rfl ?_
  have w0 := w.t0
  have ⟨hn, hn8, hm, hm10, hd⟩ := w
  refine rx_aload_n (i := 0) dX11_flow_0 rfl rfl ?_
  refine rx_iconst (0) dX11_flow_1 rfl ?_
  refine rx_putI (k := 21) fo_X11_126 fn_11_21 kl_140 (by decide) ty_11_21 dX11_flow_2 ?_
  refine rx_iload_n (i := 1) dX11_flow_5 rfl rfl ?_
  refine rx_csI mo_X11_isDay lk_X11_355 c_X11_isDay (by decide) rfl rfl (Nat.le_of_ble_eq_true rfl) dX11_flow_6 ?_
  refine rx_top (1) (if_pos hx) ?_
  refine rx_if_ne (tgt := 14) dX11_flow_9 (by decide) (fun c9 => ?_) (fun c9 => absurd c9 (by decide))
  refine rx_aload_n (i := 0) dX11_flow_14 rfl rfl ?_
  refine rx_iload_n (i := 1) dX11_flow_15 rfl rfl ?_
  refine rx_cvI (ci := 11) mo_X11_dueBy lk_X11_328 (c_X11_dueBy w0) (by decide) rfl rfl (Nat.le_of_ble_eq_true rfl) kl_140 rfl dX11_flow_16 ?_
  rw [t0_mv]
  refine rx_istore_n (i := 2) dX11_flow_19 rfl (by decide) rfl rfl ?_
  refine rx_iconst (0) dX11_flow_20 rfl ?_
  refine rx_istore_n (i := 3) dX11_flow_21 rfl (by decide) rfl rfl ?_
  refine rx_iconst (0) dX11_flow_22 rfl ?_
  refine rx_istore (i := 4) dX11_flow_23 (by decide) rfl rfl ?_
  refine (l_X11_flow w0 (show sortOK ((t0 M).1 153 0) from hs) (x := x) (b := thV (mv M) m x) (m + 1) 0 0 (Nat.zero_le _) rfl (by omega)).mono ?_
  rintro pc' ls' st' N ⟨v, h1, ⟨h2, h3, h4⟩, h5⟩
  rw [t0_mv] at h2 h4
  exact ⟨v, h1, ⟨h2, frQ_t0.trans h3, h4⟩, h5⟩
set_option maxRecDepth 100000 in
set_option maxHeartbeats 4000000 in
theorem c_X11_flow_no {M : Mem} {x : Int32} (hx : ¬ (0 ≤ x ∧ x ≤ 99)) : Fun yX11_flow cX11_flow 5 (some .int) 7 [.ref 140, .int x] M (some (.int (-1))) (t0 M) := by
  refine Fun.of (own := RX11) ([some (.ref 140), some (.int x), none, none, none]) rfl (by decide +kernel) (Nat.le_of_ble_eq_true rfl) rfl ?_
  refine rx_aload_n (i := 0) dX11_flow_0 rfl rfl ?_
  refine rx_iconst (0) dX11_flow_1 rfl ?_
  refine rx_putI (k := 21) fo_X11_126 fn_11_21 kl_140 (by decide) ty_11_21 dX11_flow_2 ?_
  refine rx_iload_n (i := 1) dX11_flow_5 rfl rfl ?_
  refine rx_csI mo_X11_isDay lk_X11_355 c_X11_isDay (by decide) rfl rfl (Nat.le_of_ble_eq_true rfl) dX11_flow_6 ?_
  refine rx_if_ne (tgt := 14) dX11_flow_9 (by decide) (fun c9 => ?_) (fun c9 => ?_)
  · skip
    exact absurd (ite1n c9) hx
    skip
  · skip
    refine rx_iconst (-1) dX11_flow_12 rfl ?_
    exact rx_fiI dX11_flow_13 rfl rfl
set_option maxRecDepth 100000 in
set_option maxHeartbeats 4000000 in
theorem l_X11_proof {M : Mem} {n m : Nat} (w : MW M n m) (hs : sortOK (M.1 153 0)) {x b fl : Int32} {W : Nat} (hW2 : W < 2 ^ n) (hW : bdT (mv M) n m (M.1 153 0) b (nI W) = fl) (hno : ∀ q, q < W → bdT (mv M) n m (M.1 153 0) b (nI q) ≠ fl) : ∀ (N : Nat) (q : Nat), (q ≤ W) → W - q < N → Reach cX11_proof RX11 5 7 (RetQ cX11_proof (some .int) (fun v N => v = some (.int (nI W)) ∧ frQ M N ∧ row2 N (sumT (mv M) m (lfT (mv M) n m (M.1 153 0) b (nI W))).toInt64 (lfT (mv M) n m (M.1 153 0) b (nI W)).toInt64)) 29 [some (.ref 140), some (.int x), some (.int b), some (.int fl), some (.int (nI q))] [] (M) := by
  intro N
  induction N with
  | zero => intro q hq hm; exact absurd ‹_ < 0› (Nat.not_lt_zero _)
  | succ N ih =>
    intro q hq hm
    have ⟨hn, hn8, hm, hm10, hd⟩ := w
    have h2n : 2 ^ n ≤ 256 := (by decide +kernel : ∀ n, n ≤ 8 → 2 ^ n ≤ 256) n hn8
    have w20 : MW (setI M 140 20 0) n m := frQ.MW (frQ_I (by omega)) w
    have h21 : ∀ {v : Int64}, frQ M (mt (setI M 140 20 0) 0 v) := fun {v} => (frQ_I (by omega)).trans frQ_mt
    have w21 : ∀ {v : Int64}, MW (mt (setI M 140 20 0) 0 v) n m := fun {v} => frQ.MW h21 w
    refine rx_aload_n (i := 0) dX11_proof_29 rfl rfl ?_
    refine rx_iload (i := 4) dX11_proof_30 rfl ?_
    refine rx_iload_n (i := 2) dX11_proof_32 rfl rfl ?_
    refine rx_cvI (ci := 11) mo_X11_boundOf lk_X11_384 (c_X11_boundOf w hs) (by decide) rfl rfl (Nat.le_of_ble_eq_true rfl) kl_140 rfl dX11_proof_33 ?_
    refine rx_iload_n (i := 3) dX11_proof_36 rfl rfl ?_
    refine rx_icmp_eq (tgt := 46) dX11_proof_37 (by decide) (fun c37 => ?_) (fun c37 => ?_)
    · skip
      have e37 : q = W := by
        rcases Nat.lt_or_ge q W with z | z
        · exact absurd c37 (hno q z)
        · omega
      subst e37
      refine rx_aload_n (i := 0) dX11_proof_46 rfl rfl ?_
      refine rx_iconst (0) dX11_proof_47 rfl ?_
      refine rx_putI (k := 20) fo_X11_129 fn_11_20 kl_140 (by decide) ty_11_20 dX11_proof_48 ?_
      refine rx_aload_n (i := 0) dX11_proof_51 rfl rfl ?_
      refine rx_aload_n (i := 0) dX11_proof_52 rfl rfl ?_
      refine rx_aload_n (i := 0) dX11_proof_53 rfl rfl ?_
      refine rx_iload (i := 4) dX11_proof_54 rfl ?_
      refine rx_iload_n (i := 2) dX11_proof_56 rfl rfl ?_
      refine rx_cvI (ci := 11) mo_X11_leftTo lk_X11_380 (c_X11_leftTo (M := setI M 140 20 0) w20 hs) (by decide) rfl rfl (Nat.le_of_ble_eq_true rfl) kl_140 rfl dX11_proof_57 ?_
      refine rx_top (lfT (mv M) n m (M.1 153 0) b (nI q)) (by rw [mv_I (by omega)]; rfl) ?_
      refine rx_cvI (ci := 11) mo_X11_sumOf lk_X11_361 (c_X11_sumOf (M := setI M 140 20 0) w20) (by decide) rfl rfl (Nat.le_of_ble_eq_true rfl) kl_140 rfl dX11_proof_60 ?_
      refine rx_top (sumT (mv M) m (lfT (mv M) n m (M.1 153 0) b (nI q))) (by rw [mv_I (by omega)]) ?_
      refine rx_i2l dX11_proof_63 rfl ?_
      refine rx_cvN (ci := 11) mo_X11_tell lk_X11_294 (c_X11_tell (M := setI M 140 20 0) (s := 0) sI_eq (by omega)) (by decide) rfl rfl (Nat.le_of_ble_eq_true rfl) kl_140 rfl dX11_proof_64 ?_
      refine rx_aload_n (i := 0) dX11_proof_67 rfl rfl ?_
      refine rx_aload_n (i := 0) dX11_proof_68 rfl rfl ?_
      refine rx_iload (i := 4) dX11_proof_69 rfl ?_
      refine rx_iload_n (i := 2) dX11_proof_71 rfl rfl ?_
      refine rx_cvI (ci := 11) mo_X11_leftTo lk_X11_380 (c_X11_leftTo w21 hs) (by decide) rfl rfl (Nat.le_of_ble_eq_true rfl) kl_140 rfl dX11_proof_72 ?_
      refine rx_top (lfT (mv M) n m (M.1 153 0) b (nI q)) (by rw [frQ.mv h21]; rfl) ?_
      refine rx_i2l dX11_proof_75 rfl ?_
      refine rx_cvN (ci := 11) mo_X11_tell lk_X11_294 (c_X11_tell (s := 1) mt_20 (by omega)) (by decide) rfl rfl (Nat.le_of_ble_eq_true rfl) kl_140 rfl dX11_proof_76 ?_
      refine rx_iload (i := 4) dX11_proof_79 rfl ?_
      exact rx_iret dX11_proof_81 ⟨rfl, (frQ_I (by omega)).trans (frQ_mt.trans frQ_mt), mt_row2⟩
    · skip
      have e37 : q ≠ W := fun z => c37 (by rw [z]; exact hW)
      first | refine rx_iincN (i := 4) dX11_proof_40 rfl (by decide) rfl rfl ?_ | refine rx_iinc (i := 4) dX11_proof_40 rfl rfl (by decide) rfl rfl ?_
      refine rx_goto (tgt := 29) dX11_proof_43 (by decide) ?_
      exact ih (q + 1) (by omega) (by omega)
set_option maxRecDepth 100000 in
set_option maxHeartbeats 4000000 in
theorem c_X11_proof {M : Mem} {n m : Nat} (w : MW M n m) (hs : sortOK (M.1 153 0)) {x : Int32} (hx : 0 ≤ x ∧ x ≤ 99) {W : Nat} (hW2 : W < 2 ^ n) (hW : bdT (mv M) n m (M.1 153 0) (thV (mv M) m x) (nI W) = floT (mv M) n m (M.1 153 0) (thV (mv M) m x)) (hno : ∀ q, q < W → bdT (mv M) n m (M.1 153 0) (thV (mv M) m x) (nI q) ≠ floT (mv M) n m (M.1 153 0) (thV (mv M) m x)) : Con yX11_proof cX11_proof 5 (some .int) 7 [.ref 140, .int x] M (fun v N => v = some (.int (nI W)) ∧ frQ M N ∧ row2 N (sumT (mv M) m (lfT (mv M) n m (M.1 153 0) (thV (mv M) m x) (nI W))).toInt64 (lfT (mv M) n m (M.1 153 0) (thV (mv M) m x) (nI W)).toInt64) := by
  refine Con.of (own := RX11) (ls := [some (.ref 140), some (.int x), none, none, none]) rfl (by decide +kernel) (Nat.le_of_ble_eq_true rfl) rfl ?_
  have w0 := w.t0
  have ⟨hn, hn8, hm, hm10, hd⟩ := w
  refine rx_aload_n (i := 0) dX11_proof_0 rfl rfl ?_
  refine rx_iconst (0) dX11_proof_1 rfl ?_
  refine rx_putI (k := 21) fo_X11_126 fn_11_21 kl_140 (by decide) ty_11_21 dX11_proof_2 ?_
  refine rx_iload_n (i := 1) dX11_proof_5 rfl rfl ?_
  refine rx_csI mo_X11_isDay lk_X11_355 c_X11_isDay (by decide) rfl rfl (Nat.le_of_ble_eq_true rfl) dX11_proof_6 ?_
  refine rx_top (1) (if_pos hx) ?_
  refine rx_if_ne (tgt := 14) dX11_proof_9 (by decide) (fun c9 => ?_) (fun c9 => absurd c9 (by decide))
  refine rx_aload_n (i := 0) dX11_proof_14 rfl rfl ?_
  refine rx_iload_n (i := 1) dX11_proof_15 rfl rfl ?_
  refine rx_cvI (ci := 11) mo_X11_dueBy lk_X11_328 (c_X11_dueBy w0) (by decide) rfl rfl (Nat.le_of_ble_eq_true rfl) kl_140 rfl dX11_proof_16 ?_
  rw [t0_mv]
  refine rx_istore_n (i := 2) dX11_proof_19 rfl (by decide) rfl rfl ?_
  refine rx_aload_n (i := 0) dX11_proof_20 rfl rfl ?_
  refine rx_iload_n (i := 2) dX11_proof_21 rfl rfl ?_
  refine rx_cvI (ci := 11) mo_X11_flowOf lk_X11_387 (c_X11_flowOf w0 (show sortOK ((t0 M).1 153 0) from hs)) (by decide) rfl rfl (Nat.le_of_ble_eq_true rfl) kl_140 rfl dX11_proof_22 ?_
  rw [t0_mv]
  refine rx_istore_n (i := 3) dX11_proof_25 rfl (by decide) rfl rfl ?_
  refine rx_iconst (0) dX11_proof_26 rfl ?_
  refine rx_istore (i := 4) dX11_proof_27 (by decide) rfl rfl ?_
  refine (l_X11_proof w0 (show sortOK ((t0 M).1 153 0) from hs) (x := x) (b := thV (mv M) m x) (W := W) hW2 (by rw [t0_mv]; exact hW) (fun q hq => by rw [t0_mv]; exact hno q hq) (W + 1) 0 (Nat.zero_le _) (by omega)).mono ?_
  rintro pc' ls' st' N ⟨v, h1, ⟨h2, h3, h4⟩, h5⟩
  rw [t0_mv] at h4
  exact ⟨v, h1, ⟨h2, frQ_t0.trans h3, h4⟩, h5⟩
set_option maxRecDepth 100000 in
set_option maxHeartbeats 4000000 in
theorem c_X11_proof_no {M : Mem} {x : Int32} (hx : ¬ (0 ≤ x ∧ x ≤ 99)) : Fun yX11_proof cX11_proof 5 (some .int) 7 [.ref 140, .int x] M (some (.int (-1))) (t0 M) := by
  refine Fun.of (own := RX11) ([some (.ref 140), some (.int x), none, none, none]) rfl (by decide +kernel) (Nat.le_of_ble_eq_true rfl) rfl ?_
  refine rx_aload_n (i := 0) dX11_proof_0 rfl rfl ?_
  refine rx_iconst (0) dX11_proof_1 rfl ?_
  refine rx_putI (k := 21) fo_X11_126 fn_11_21 kl_140 (by decide) ty_11_21 dX11_proof_2 ?_
  refine rx_iload_n (i := 1) dX11_proof_5 rfl rfl ?_
  refine rx_csI mo_X11_isDay lk_X11_355 c_X11_isDay (by decide) rfl rfl (Nat.le_of_ble_eq_true rfl) dX11_proof_6 ?_
  refine rx_if_ne (tgt := 14) dX11_proof_9 (by decide) (fun c9 => ?_) (fun c9 => ?_)
  · skip
    exact absurd (ite1n c9) hx
    skip
  · skip
    refine rx_iconst (-1) dX11_proof_12 rfl ?_
    exact rx_fiI dX11_proof_13 rfl rfl
theorem setI_back {M : Mem} {a k : Nat} {x : Int32} : setI (setI M a k x) a k (M.1 a k) = M := by rw [sI_sI, sI_same]
theorem mv_153 {M : Mem} {x : Int32} : mv (setI M 153 0 x) = setT (mv M) 14 0 x := by have := mv_set (M := M) (c := 14) (j := 0) (x := x) (by omega) (by omega); exact this
theorem floT_put {T : TT} {n m : Nat} {y srt b : Int32} : floT (setT T 14 0 y) n m srt b = floT T n m srt b := rfl
set_option maxRecDepth 100000 in
set_option maxHeartbeats 4000000 in
theorem c_X11_gap {M : Mem} {n m : Nat} (w : MW M n m) (hs : sortOK (M.1 153 0)) {x : Int32} (hx : 0 ≤ x ∧ x ≤ 99) {y : Int32} (hy : 0 ≤ y ∧ y ≤ 3) (hys : sortOK y) : Fun yX11_gap cX11_gap 7 (some .int) 7 [.ref 140, .int y, .int x] M (some (.int (floT (mv M) n m y (thV (mv M) m x) - floT (mv M) n m (M.1 153 0) (thV (mv M) m x)))) (t0 M) := by
  refine Fun.of (own := RX11) ([some (.ref 140), some (.int y), some (.int x), none, none, none, none]) rfl (by decide +kernel) (Nat.le_of_ble_eq_true rfl) rfl ?_
  have w0 := w.t0
  have ⟨hn, hn8, hm, hm10, hd⟩ := w
  refine rx_aload_n (i := 0) dX11_gap_0 rfl rfl ?_
  refine rx_iconst (0) dX11_gap_1 rfl ?_
  refine rx_putI (k := 21) fo_X11_126 fn_11_21 kl_140 (by decide) ty_11_21 dX11_gap_2 ?_
  refine rx_iload_n (i := 1) dX11_gap_5 rfl rfl ?_
  refine rx_i2l dX11_gap_6 rfl ?_
  refine rx_lconst (0) dX11_gap_7 rfl ?_
  refine rx_ldc2 (own := RX11) (v := (3)) (List.mem_of_getElem? (i := 1708) (by decide +kernel)) dX11_gap_8 ?_
  refine rx_csI mo_X11_in lk_X11_135 (c_X11_in (a := y.toInt64) (b := 0) (c := 3)) (by decide) rfl rfl (Nat.le_of_ble_eq_true rfl) dX11_gap_11 ?_
  refine rx_top (1) (if_pos ⟨l_0.mpr hy.1, l_3.mpr hy.2⟩) ?_
  refine rx_if_eq (tgt := 24) dX11_gap_14 (by decide) (fun c14 => absurd c14 (by decide)) (fun c14 => ?_)
  refine rx_iload_n (i := 2) dX11_gap_17 rfl rfl ?_
  refine rx_csI mo_X11_isDay lk_X11_355 c_X11_isDay (by decide) rfl rfl (Nat.le_of_ble_eq_true rfl) dX11_gap_18 ?_
  refine rx_top (1) (if_pos hx) ?_
  refine rx_if_ne (tgt := 26) dX11_gap_21 (by decide) (fun c21 => ?_) (fun c21 => absurd c21 (by decide))
  refine rx_aload_n (i := 0) dX11_gap_26 rfl rfl ?_
  refine rx_iload_n (i := 2) dX11_gap_27 rfl rfl ?_
  refine rx_cvI (ci := 11) mo_X11_dueBy lk_X11_328 (c_X11_dueBy w0) (by decide) rfl rfl (Nat.le_of_ble_eq_true rfl) kl_140 rfl dX11_gap_28 ?_
  rw [t0_mv]
  refine rx_istore_n (i := 3) dX11_gap_31 rfl (by decide) rfl rfl ?_
  refine rx_aload_n (i := 0) dX11_gap_32 rfl rfl ?_
  refine rx_iload_n (i := 3) dX11_gap_33 rfl rfl ?_
  refine rx_cvI (ci := 11) mo_X11_flowOf lk_X11_387 (c_X11_flowOf w0 (show sortOK ((t0 M).1 153 0) from hs)) (by decide) rfl rfl (Nat.le_of_ble_eq_true rfl) kl_140 rfl dX11_gap_34 ?_
  refine rx_top (floT (mv M) n m (M.1 153 0) (thV (mv M) m x)) (by rw [t0_mv]; rfl) ?_
  refine rx_istore (i := 4) dX11_gap_37 (by decide) rfl rfl ?_
  refine rx_aload_n (i := 0) dX11_gap_39 rfl rfl ?_
  refine rx_getR 153 (k := 14) fo_X11_47 kl_140 (by decide) ti_11_14 (by decide) rfl dX11_gap_40 ?_
  refine rx_iconst (0) dX11_gap_43 rfl ?_
  refine rx_ialdN (k := 0) kl_153 (by omega) (by first | decide | omega) dX11_gap_44 ?_
  refine rx_istore (i := 5) dX11_gap_45 (by decide) rfl rfl ?_
  refine rx_aload_n (i := 0) dX11_gap_47 rfl rfl ?_
  refine rx_getR 153 (k := 14) fo_X11_47 kl_140 (by decide) ti_11_14 (by decide) rfl dX11_gap_48 ?_
  refine rx_iconst (0) dX11_gap_51 rfl ?_
  refine rx_iload_n (i := 1) dX11_gap_52 rfl rfl ?_
  refine rx_iastN (k := 0) kl_153 (by omega) (by first | decide | omega) dX11_gap_53 ?_
  refine rx_aload_n (i := 0) dX11_gap_54 rfl rfl ?_
  refine rx_iload_n (i := 3) dX11_gap_55 rfl rfl ?_
  refine rx_cvI (ci := 11) mo_X11_flowOf lk_X11_387 (c_X11_flowOf (M := setI (t0 M) 153 0 y) (w0.keep (sI_na (by omega)) (sI_na (by omega)) (fun _ _ => sI_na (by omega)) (fun _ _ => sI_na (by omega))) (by rw [sI_eq]; exact hys)) (by decide) rfl rfl (Nat.le_of_ble_eq_true rfl) kl_140 rfl dX11_gap_56 ?_
  refine rx_top (floT (mv M) n m y (thV (mv M) m x)) (by rw [mv_153, t0_mv, sI_eq]; rfl) ?_
  refine rx_istore (i := 6) dX11_gap_59 (by decide) rfl rfl ?_
  refine rx_aload_n (i := 0) dX11_gap_61 rfl rfl ?_
  refine rx_getR 153 (k := 14) fo_X11_47 kl_140 (by decide) ti_11_14 (by decide) rfl dX11_gap_62 ?_
  refine rx_iconst (0) dX11_gap_65 rfl ?_
  refine rx_iload (i := 5) dX11_gap_66 rfl ?_
  refine rx_iastN (k := 0) kl_153 (by omega) (by first | decide | omega) dX11_gap_68 ?_
  rw [show setI (setI (t0 M) 153 0 y) 153 0 ((t0 M).1 153 0) = t0 M from setI_back]
  refine rx_iload (i := 6) dX11_gap_69 rfl ?_
  refine rx_iload (i := 4) dX11_gap_71 rfl ?_
  refine rx_isub dX11_gap_73 ?_
  exact rx_fiI dX11_gap_74 rfl rfl
set_option maxRecDepth 100000 in
set_option maxHeartbeats 4000000 in
theorem c_X11_gap_no {M : Mem} {y x : Int32} (hx : ¬ ((0 ≤ y ∧ y ≤ 3) ∧ 0 ≤ x ∧ x ≤ 99)) : Fun yX11_gap cX11_gap 7 (some .int) 7 [.ref 140, .int y, .int x] M (some (.int (-1))) (t0 M) := by
  refine Fun.of (own := RX11) ([some (.ref 140), some (.int y), some (.int x), none, none, none, none]) rfl (by decide +kernel) (Nat.le_of_ble_eq_true rfl) rfl ?_
  refine rx_aload_n (i := 0) dX11_gap_0 rfl rfl ?_
  refine rx_iconst (0) dX11_gap_1 rfl ?_
  refine rx_putI (k := 21) fo_X11_126 fn_11_21 kl_140 (by decide) ty_11_21 dX11_gap_2 ?_
  refine rx_iload_n (i := 1) dX11_gap_5 rfl rfl ?_
  refine rx_i2l dX11_gap_6 rfl ?_
  refine rx_lconst (0) dX11_gap_7 rfl ?_
  refine rx_ldc2 (own := RX11) (v := (3)) (List.mem_of_getElem? (i := 1708) (by decide +kernel)) dX11_gap_8 ?_
  refine rx_csI mo_X11_in lk_X11_135 (c_X11_in (a := y.toInt64) (b := 0) (c := 3)) (by decide) rfl rfl (Nat.le_of_ble_eq_true rfl) dX11_gap_11 ?_
  refine rx_if_eq (tgt := 24) dX11_gap_14 (by decide) (fun c14 => ?_) (fun c14 => ?_)
  · skip
    refine rx_iconst (-1) dX11_gap_24 rfl ?_
    exact rx_fiI dX11_gap_25 rfl rfl
  · skip
    have e14 := ite1n c14
    refine rx_iload_n (i := 2) dX11_gap_17 rfl rfl ?_
    refine rx_csI mo_X11_isDay lk_X11_355 c_X11_isDay (by decide) rfl rfl (Nat.le_of_ble_eq_true rfl) dX11_gap_18 ?_
    refine rx_if_ne (tgt := 26) dX11_gap_21 (by decide) (fun c21 => ?_) (fun c21 => ?_)
    · skip
      exact absurd ⟨⟨l_0.mp e14.1, l_3.mp e14.2⟩, ite1n c21⟩ hx
      skip
    · skip
      refine rx_iconst (-1) dX11_gap_24 rfl ?_
      exact rx_fiI dX11_gap_25 rfl rfl
/-- who has the least of the first i -/
def lwF (T : TT) : Nat → Nat
  | 0 => 0
  | i + 1 => if onT T i < onT T (lwF T i) then i else lwF T i
theorem lwF_lt {T : TT} : ∀ {i : Nat}, 0 < i → lwF T i < i
  | 1, _ => by simp [lwF]
  | i + 2, _ => by
    have := lwF_lt (T := T) (i := i + 1) (by omega)
    rw [lwF]; split <;> omega
def lwB (T : TT) (n : Nat) : Int32 := fbor (fun i => decide (onT T i = onT T (lwF T n))) n
def lwD (T : TT) (n m : Nat) : Int32 := fbor (fun k => decide (T 10 k = 0) && bt (lwB T n) (T 6 k).toNatClampNeg) m
set_option maxRecDepth 100000 in
set_option maxHeartbeats 4000000 in
theorem l_low1 {M : Mem} {n m : Nat} (w : MW M n m) {QQ : Nat → List (Option Value) → List Value → Mem → Prop} (K : Reach cX11_lowest RX11 5 2 QQ 48 [some (.ref 140), some (.int (nI (lwF (mv M) n))), none, none, none] [] M) : ∀ (N : Nat) (i : Nat), (i ≤ n) → (1 ≤ i) → n - i < N → Reach cX11_lowest RX11 5 2 (QQ) 19 [some (.ref 140), some (.int (nI (lwF (mv M) i))), some (.int (nI i)), none, none] [] (M) := by
  intro N
  induction N with
  | zero => intro i hi hi1 hm; exact absurd ‹_ < 0› (Nat.not_lt_zero _)
  | succ N ih =>
    intro i hi hi1 hm
    have ⟨hn, hn8, hm, hm10, hd⟩ := w
    have hlw := lwF_lt (T := mv M) hi1
    refine rx_iload_n (i := 2) dX11_lowest_19 rfl rfl ?_
    refine rx_aload_n (i := 0) dX11_lowest_20 rfl rfl ?_
    refine rx_getI (k := 0) fo_X11_132 kl_140 (by decide) ti_11_0 dX11_lowest_21 ?_
    refine rx_top (nI n) (hn) ?_
    refine rx_icmp_ge (tgt := 48) dX11_lowest_24 (by decide) (fun c24 => ?_) (fun c24 => ?_)
    · skip
      have f24 := Int32.not_lt.mpr c24
      have e24 : i = n := by have := (nI_leI (by omega) (by omega)).mp c24; omega
      subst e24
      refine rx_drop 2 ?_
      exact K
    · skip
      have f24 := Int32.not_le.mp c24
      have e24 : i < n := Nat.lt_of_not_le fun q => c24 (nI_le q (by omega))
      refine rx_aload_n (i := 0) dX11_lowest_27 rfl rfl ?_
      refine rx_iload_n (i := 2) dX11_lowest_28 rfl rfl ?_
      refine rx_cvI (ci := 11) mo_X11_onList lk_X11_252 (c_X11_onList (by omega)) (by decide) rfl rfl (Nat.le_of_ble_eq_true rfl) kl_140 rfl dX11_lowest_29 ?_
      refine rx_aload_n (i := 0) dX11_lowest_32 rfl rfl ?_
      refine rx_iload_n (i := 1) dX11_lowest_33 rfl rfl ?_
      refine rx_cvI (ci := 11) mo_X11_onList lk_X11_252 (c_X11_onList (by omega)) (by decide) rfl rfl (Nat.le_of_ble_eq_true rfl) kl_140 rfl dX11_lowest_34 ?_
      refine rx_icmp_ge (tgt := 42) dX11_lowest_37 (by decide) (fun c37 => ?_) (fun c37 => ?_)
      · skip
        have e37 : lwF (mv M) (i + 1) = lwF (mv M) i := if_neg (Int32.not_lt.mpr c37)
        first | refine rx_iincN (i := 2) dX11_lowest_42 rfl (by decide) rfl rfl ?_ | refine rx_iinc (i := 2) dX11_lowest_42 rfl rfl (by decide) rfl rfl ?_
        refine rx_goto (tgt := 19) dX11_lowest_45 (by decide) ?_
        rw [← e37]
        exact ih (i + 1) (by omega) (by omega) (by omega)
      · skip
        have e37 : lwF (mv M) (i + 1) = i := if_pos (Int32.not_le.mp c37)
        refine rx_iload_n (i := 2) dX11_lowest_40 rfl rfl ?_
        refine rx_istore_n (i := 1) dX11_lowest_41 rfl (by decide) rfl rfl ?_
        first | refine rx_iincN (i := 2) dX11_lowest_42 rfl (by decide) rfl rfl ?_ | refine rx_iinc (i := 2) dX11_lowest_42 rfl rfl (by decide) rfl rfl ?_
        refine rx_goto (tgt := 19) dX11_lowest_45 (by decide) ?_
        have hx := ih (i + 1) (by omega) (by omega) (by omega)
        rw [e37] at hx
        exact hx
set_option maxRecDepth 100000 in
set_option maxHeartbeats 4000000 in
theorem l_low2 {M : Mem} {n m : Nat} (w : MW M n m) {QQ : Nat → List (Option Value) → List Value → Mem → Prop} (hn0 : 0 < n) (K : Reach cX11_lowest RX11 5 2 QQ 95 [some (.ref 140), some (.int (nI (lwF (mv M) n))), some (.int (lwB (mv M) n)), some (.int 0), none] [] M) : ∀ (N : Nat) (i : Nat) (s : Int32), (i ≤ n) → (s = fbor (fun i => decide (onT (mv M) i = onT (mv M) (lwF (mv M) n))) i) → n - i < N → Reach cX11_lowest RX11 5 2 (QQ) 55 [some (.ref 140), some (.int (nI (lwF (mv M) n))), some (.int s), some (.int 0), some (.int (nI i))] [] (M) := by
  intro N
  induction N with
  | zero => intro i s hi hs2 hm; exact absurd ‹_ < 0› (Nat.not_lt_zero _)
  | succ N ih =>
    intro i s hi hs2 hm
    have ⟨hn, hn8, hm, hm10, hd⟩ := w
    have hlw := lwF_lt (T := mv M) hn0
    refine rx_iload (i := 4) dX11_lowest_55 rfl ?_
    refine rx_aload_n (i := 0) dX11_lowest_57 rfl rfl ?_
    refine rx_getI (k := 0) fo_X11_132 kl_140 (by decide) ti_11_0 dX11_lowest_58 ?_
    refine rx_top (nI n) (hn) ?_
    refine rx_icmp_ge (tgt := 95) dX11_lowest_61 (by decide) (fun c61 => ?_) (fun c61 => ?_)
    · skip
      have f61 := Int32.not_lt.mpr c61
      have e61 : i = n := by have := (nI_leI (by omega) (by omega)).mp c61; omega
      subst e61
      subst hs2
      refine rx_drop 4 ?_
      exact K
    · skip
      have f61 := Int32.not_le.mp c61
      have e61 : i < n := Nat.lt_of_not_le fun q => c61 (nI_le q (by omega))
      refine rx_iload_n (i := 2) dX11_lowest_64 rfl rfl ?_
      refine rx_aload_n (i := 0) dX11_lowest_65 rfl rfl ?_
      refine rx_iload (i := 4) dX11_lowest_66 rfl ?_
      refine rx_cvI (ci := 11) mo_X11_onList lk_X11_252 (c_X11_onList (by omega)) (by decide) rfl rfl (Nat.le_of_ble_eq_true rfl) kl_140 rfl dX11_lowest_68 ?_
      refine rx_aload_n (i := 0) dX11_lowest_71 rfl rfl ?_
      refine rx_iload_n (i := 1) dX11_lowest_72 rfl rfl ?_
      refine rx_cvI (ci := 11) mo_X11_onList lk_X11_252 (c_X11_onList (by omega)) (by decide) rfl rfl (Nat.le_of_ble_eq_true rfl) kl_140 rfl dX11_lowest_73 ?_
      refine rx_icmp_ne (tgt := 86) dX11_lowest_76 (by decide) (fun c76 => ?_) (fun c76 => ?_)
      · skip
        refine rx_iconst (0) dX11_lowest_86 rfl ?_
        refine rx_ior dX11_lowest_87 ?_
        refine rx_istore_n (i := 2) dX11_lowest_88 rfl (by decide) rfl rfl ?_
        first | refine rx_iincN (i := 4) dX11_lowest_89 rfl (by decide) rfl rfl ?_ | refine rx_iinc (i := 4) dX11_lowest_89 rfl rfl (by decide) rfl rfl ?_
        refine rx_goto (tgt := 55) dX11_lowest_92 (by decide) ?_
        exact ih (i + 1) _ (by omega) (by rw [hs2]; simp only [fbor]; rw [if_neg (fun q => c76 (of_decide_eq_true q)), or_0]) (by omega)
      · skip
        refine rx_iconst (1) dX11_lowest_79 rfl ?_
        refine rx_iload (i := 4) dX11_lowest_80 rfl ?_
        refine rx_ishl dX11_lowest_82 ?_
        refine rx_goto (tgt := 87) dX11_lowest_83 (by decide) ?_
        refine rx_ior dX11_lowest_87 ?_
        refine rx_istore_n (i := 2) dX11_lowest_88 rfl (by decide) rfl rfl ?_
        first | refine rx_iincN (i := 4) dX11_lowest_89 rfl (by decide) rfl rfl ?_ | refine rx_iinc (i := 4) dX11_lowest_89 rfl rfl (by decide) rfl rfl ?_
        refine rx_goto (tgt := 55) dX11_lowest_92 (by decide) ?_
        exact ih (i + 1) _ (by omega) (by rw [hs2]; simp only [fbor]; rw [if_pos (decide_eq_true c76)]; rfl) (by omega)
set_option maxRecDepth 100000 in
set_option maxHeartbeats 4000000 in
theorem l_low3 {M : Mem} {n m : Nat} (w : MW M n m) {a : Int32} : ∀ (N : Nat) (i : Nat) (s : Int32), (i ≤ m) → (s = fbor (fun k => decide (mv M 10 k = 0) && bt (lwB (mv M) n) (mv M 6 k).toNatClampNeg) i) → m - i < N → Reach cX11_lowest RX11 5 2 (RetQ cX11_lowest (some .int) (fun v N => v = some (.int a) ∧ frQ M N ∧ row2 N (lwB (mv M) n).toInt64 (lwD (mv M) n m).toInt64)) 98 [some (.ref 140), some (.int a), some (.int (lwB (mv M) n)), some (.int s), some (.int (nI i))] [] (M) := by
  intro N
  induction N with
  | zero => intro i s hi hs2 hm; exact absurd ‹_ < 0› (Nat.not_lt_zero _)
  | succ N ih =>
    intro i s hi hs2 hm
    have ⟨hn, hn8, hm, hm10, hd⟩ := w
    refine rx_iload (i := 4) dX11_lowest_98 rfl ?_
    refine rx_aload_n (i := 0) dX11_lowest_100 rfl rfl ?_
    refine rx_getI (k := 7) fo_X11_139 kl_140 (by decide) ti_11_7 dX11_lowest_101 ?_
    refine rx_top (nI m) (hm) ?_
    refine rx_icmp_ge (tgt := 148) dX11_lowest_104 (by decide) (fun c104 => ?_) (fun c104 => ?_)
    · skip
      have f104 := Int32.not_lt.mpr c104
      have e104 : i = m := by have := (nI_leI (by omega) (by omega)).mp c104; omega
      subst e104
      refine rx_aload_n (i := 0) dX11_lowest_148 rfl rfl ?_
      refine rx_iconst (0) dX11_lowest_149 rfl ?_
      refine rx_putI (k := 20) fo_X11_129 fn_11_20 kl_140 (by decide) ty_11_20 dX11_lowest_150 ?_
      refine rx_aload_n (i := 0) dX11_lowest_153 rfl rfl ?_
      refine rx_iload_n (i := 2) dX11_lowest_154 rfl rfl ?_
      refine rx_i2l dX11_lowest_155 rfl ?_
      refine rx_cvN (ci := 11) mo_X11_tell lk_X11_294 (c_X11_tell (s := 0) sI_eq (by omega)) (by decide) rfl rfl (Nat.le_of_ble_eq_true rfl) kl_140 rfl dX11_lowest_156 ?_
      refine rx_aload_n (i := 0) dX11_lowest_159 rfl rfl ?_
      refine rx_iload_n (i := 3) dX11_lowest_160 rfl rfl ?_
      refine rx_i2l dX11_lowest_161 rfl ?_
      refine rx_cvN (ci := 11) mo_X11_tell lk_X11_294 (c_X11_tell (s := 1) mt_20 (by omega)) (by decide) rfl rfl (Nat.le_of_ble_eq_true rfl) kl_140 rfl dX11_lowest_162 ?_
      refine rx_iload_n (i := 1) dX11_lowest_165 rfl rfl ?_
      exact rx_iret dX11_lowest_166 ⟨rfl, (frQ_I (by omega)).trans (frQ_mt.trans frQ_mt), by rw [hs2]; exact mt_row2⟩
    · skip
      have f104 := Int32.not_le.mp c104
      have e104 : i < m := Nat.lt_of_not_le fun q => c104 (nI_le q (by omega))
      obtain ⟨o, g, ho, hg, hog, eo, eg⟩ := hd i e104
      have ec : (mv M 6 i).toNatClampNeg = o := by rw [show mv M 6 i = M.1 147 i from rfl, eo, nI_clamp (by omega)]
      refine rx_iload_n (i := 3) dX11_lowest_107 rfl rfl ?_
      refine rx_aload_n (i := 0) dX11_lowest_108 rfl rfl ?_
      refine rx_getR 151 (k := 12) fo_X11_41 kl_140 (by decide) ti_11_12 (by decide) rfl dX11_lowest_109 ?_
      refine rx_iload (i := 4) dX11_lowest_112 rfl ?_
      refine rx_ialdN kl_151 (by omega) (by first | decide | omega) dX11_lowest_114 ?_
      refine rx_if_ne (tgt := 139) dX11_lowest_115 (by decide) (fun c115 => ?_) (fun c115 => ?_)
      · skip
        refine rx_iconst (0) dX11_lowest_139 rfl ?_
        refine rx_ior dX11_lowest_140 ?_
        refine rx_istore_n (i := 3) dX11_lowest_141 rfl (by decide) rfl rfl ?_
        first | refine rx_iincN (i := 4) dX11_lowest_142 rfl (by decide) rfl rfl ?_ | refine rx_iinc (i := 4) dX11_lowest_142 rfl rfl (by decide) rfl rfl ?_
        refine rx_goto (tgt := 98) dX11_lowest_145 (by decide) ?_
        exact ih (i + 1) _ (by omega) (by rw [hs2]; simp only [fbor]; rw [if_neg (by rw [decide_eq_false (show ¬ mv M 10 i = 0 from c115)]; simp), or_0]) (by omega)
      · skip
        refine rx_iload_n (i := 2) dX11_lowest_118 rfl rfl ?_
        refine rx_aload_n (i := 0) dX11_lowest_119 rfl rfl ?_
        refine rx_getR 147 (k := 8) fo_X11_29 kl_140 (by decide) ti_11_8 (by decide) rfl dX11_lowest_120 ?_
        refine rx_iload (i := 4) dX11_lowest_123 rfl ?_
        refine rx_ialdN kl_147 (by omega) (by first | decide | omega) dX11_lowest_125 ?_
        refine rx_top (nI o) (eo) ?_
        refine rx_csI mo_X11_has lk_X11_291 (c_X11_has (by omega)) (by decide) rfl rfl (Nat.le_of_ble_eq_true rfl) dX11_lowest_126 ?_
        refine rx_if_eq (tgt := 139) dX11_lowest_129 (by decide) (fun c129 => ?_) (fun c129 => ?_)
        · skip
          have e129 := zI_0.mp c129
          refine rx_iconst (0) dX11_lowest_139 rfl ?_
          refine rx_ior dX11_lowest_140 ?_
          refine rx_istore_n (i := 3) dX11_lowest_141 rfl (by decide) rfl rfl ?_
          first | refine rx_iincN (i := 4) dX11_lowest_142 rfl (by decide) rfl rfl ?_ | refine rx_iinc (i := 4) dX11_lowest_142 rfl rfl (by decide) rfl rfl ?_
          refine rx_goto (tgt := 98) dX11_lowest_145 (by decide) ?_
          exact ih (i + 1) _ (by omega) (by rw [hs2]; simp only [fbor]; rw [if_neg (by rw [ec, e129]; simp), or_0]) (by omega)
        · skip
          have e129 := zI_n c129
          refine rx_iconst (1) dX11_lowest_132 rfl ?_
          refine rx_iload (i := 4) dX11_lowest_133 rfl ?_
          refine rx_ishl dX11_lowest_135 ?_
          refine rx_goto (tgt := 140) dX11_lowest_136 (by decide) ?_
          refine rx_ior dX11_lowest_140 ?_
          refine rx_istore_n (i := 3) dX11_lowest_141 rfl (by decide) rfl rfl ?_
          first | refine rx_iincN (i := 4) dX11_lowest_142 rfl (by decide) rfl rfl ?_ | refine rx_iinc (i := 4) dX11_lowest_142 rfl rfl (by decide) rfl rfl ?_
          refine rx_goto (tgt := 98) dX11_lowest_145 (by decide) ?_
          exact ih (i + 1) _ (by omega) (by rw [hs2]; simp only [fbor]; rw [if_pos (by rw [ec, e129, decide_eq_true (show mv M 10 i = 0 from c115)]; rfl)]; rfl) (by omega)
set_option maxRecDepth 100000 in
set_option maxHeartbeats 4000000 in
theorem c_X11_lowest {M : Mem} {n m : Nat} (w : MW M n m) (hn0 : 0 < n) : Con yX11_lowest cX11_lowest 5 (some .int) 2 [.ref 140] M (fun v N => v = some (.int (nI (lwF (mv M) n))) ∧ frQ M N ∧ row2 N (lwB (mv M) n).toInt64 (lwD (mv M) n m).toInt64) := by
  refine Con.of (own := RX11) (ls := [some (.ref 140), none, none, none, none]) rfl (by decide +kernel) (Nat.le_of_ble_eq_true rfl) rfl ?_
  have w0 := w.t0
  have ⟨hn, hn8, hm, hm10, hd⟩ := w
  refine rx_aload_n (i := 0) dX11_lowest_0 rfl rfl ?_
  refine rx_iconst (0) dX11_lowest_1 rfl ?_
  refine rx_putI (k := 21) fo_X11_126 fn_11_21 kl_140 (by decide) ty_11_21 dX11_lowest_2 ?_
  refine rx_aload_n (i := 0) dX11_lowest_5 rfl rfl ?_
  refine rx_getI (k := 0) fo_X11_132 kl_140 (by decide) ti_11_0 dX11_lowest_6 ?_
  refine rx_top (nI n) ((t0_o (by omega)).trans hn) ?_
  refine rx_if_ne (tgt := 15) dX11_lowest_9 (by decide) (fun c9 => ?_) (fun c9 => ?_)
  · skip
    refine rx_iconst (0) dX11_lowest_15 rfl ?_
    refine rx_istore_n (i := 1) dX11_lowest_16 rfl (by decide) rfl rfl ?_
    refine rx_iconst (1) dX11_lowest_17 rfl ?_
    refine rx_istore_n (i := 2) dX11_lowest_18 rfl (by decide) rfl rfl ?_
    have hl1 : lwF (mv (t0 M)) 1 = 0 := by simp [lwF]
    have hL1 := fun K => l_low1 w0 (QQ := RetQ cX11_lowest (some .int) (fun v N => v = some (.int (nI (lwF (mv M) n))) ∧ frQ M N ∧ row2 N (lwB (mv M) n).toInt64 (lwD (mv M) n m).toInt64)) K (n + 1) 1 (by omega) (by omega) (by omega)
    rw [hl1] at hL1
    refine hL1 ?_
    refine rx_iconst (0) dX11_lowest_48 rfl ?_
    refine rx_istore_n (i := 2) dX11_lowest_49 rfl (by decide) rfl rfl ?_
    refine rx_iconst (0) dX11_lowest_50 rfl ?_
    refine rx_istore_n (i := 3) dX11_lowest_51 rfl (by decide) rfl rfl ?_
    refine rx_iconst (0) dX11_lowest_52 rfl ?_
    refine rx_istore (i := 4) dX11_lowest_53 (by decide) rfl rfl ?_
    refine l_low2 w0 hn0 ?_ (n + 1) 0 0 (Nat.zero_le _) rfl (by omega)
    refine rx_iconst (0) dX11_lowest_95 rfl ?_
    refine rx_istore (i := 4) dX11_lowest_96 (by decide) rfl rfl ?_
    refine (l_low3 w0 (m + 1) 0 0 (Nat.zero_le _) rfl (by omega)).mono ?_
    rintro pc' ls' st' N ⟨v, h1, ⟨h2, h3, h4⟩, h5⟩
    rw [t0_mv] at h2 h4
    exact ⟨v, h1, ⟨h2, frQ_t0.trans h3, h4⟩, h5⟩
  · skip
    exact absurd c9 (nI_ne0 hn0 (by omega))
    skip
set_option maxRecDepth 100000 in
set_option maxHeartbeats 4000000 in
theorem c_X11_lowest_no {M : Mem} (hn : M.1 140 0 = 0) : Fun yX11_lowest cX11_lowest 5 (some .int) 2 [.ref 140] M (some (.int (-2))) (t0 M) := by
  refine Fun.of (own := RX11) ([some (.ref 140), none, none, none, none]) rfl (by decide +kernel) (Nat.le_of_ble_eq_true rfl) rfl ?_
  refine rx_aload_n (i := 0) dX11_lowest_0 rfl rfl ?_
  refine rx_iconst (0) dX11_lowest_1 rfl ?_
  refine rx_putI (k := 21) fo_X11_126 fn_11_21 kl_140 (by decide) ty_11_21 dX11_lowest_2 ?_
  refine rx_aload_n (i := 0) dX11_lowest_5 rfl rfl ?_
  refine rx_getI (k := 0) fo_X11_132 kl_140 (by decide) ti_11_0 dX11_lowest_6 ?_
  refine rx_if_ne (tgt := 15) dX11_lowest_9 (by decide) (fun c9 => ?_) (fun c9 => ?_)
  · skip
    exact absurd hn c9
    skip
  · skip
    refine rx_bipush (-2) dX11_lowest_12 rfl ?_
    exact rx_fiI dX11_lowest_14 rfl rfl
