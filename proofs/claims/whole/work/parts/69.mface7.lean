/-- of what days change only what doesn't count differs; and what is free -/
def frB (M N : Mem) : Prop := (∀ a j, ¬ (159 ≤ a ∧ a ≤ 172) → ¬ (a = 140 ∧ (j = 20 ∨ j = 21 ∨ (23 ≤ j ∧ j ≤ 26) ∨ j = 29 ∨ j = 30 ∨ j = 44 ∨ j = 46 ∨ (50 ≤ j ∧ j ≤ 53))) → ¬ ((a = 141 ∨ a = 145 ∨ a = 146 ∨ a = 151 ∨ a = 152) ∧ psL a j = 1000) → N.1 a j = M.1 a j) ∧ ∀ a, a ≠ 155 → a ≠ 166 → N.2.1 a = M.2.1 a
theorem frB.refl {M : Mem} : frB M M := ⟨fun _ _ _ _ _ => rfl, fun _ _ _ => rfl⟩
theorem frB.trans {M N K : Mem} (h : frB M N) (h2 : frB N K) : frB M K := ⟨fun a j q r s => (h2.1 a j q r s).trans (h.1 a j q r s), fun a q r => (h2.2 a q r).trans (h.2 a q r)⟩
theorem frQ.B {M N : Mem} (h : frQ M N) : frB M N := ⟨fun a j q r _ => h.1 a j q r, h.2⟩
theorem mt_o {M : Mem} {s : Nat} {v : Int64} {a j : Nat} (h : ¬ (a = 140 ∧ j = 20)) : (mt M s v).1 a j = M.1 a j := sI_ne h
theorem mt_J {M : Mem} {s : Nat} {v : Int64} {a : Nat} (h : a ≠ 155) : (mt M s v).2.1 a = M.2.1 a := by funext j; exact sJ_na h
theorem ps_p {j : Nat} (h : j < 8) : psL 141 j ≠ 1000 ∧ psL 145 j ≠ 1000 := by
  unfold psL; rw [if_pos ⟨rfl, h⟩, if_neg (by omega), if_pos ⟨rfl, h⟩]; omega
theorem ps_d {j : Nat} (h : j < 10) : psL 151 j ≠ 1000 ∧ psL 152 j ≠ 1000 := by
  unfold psL
  rw [if_neg (by omega), if_neg (by omega), if_neg (by omega), if_pos ⟨rfl, h⟩, if_neg (by omega), if_neg (by omega), if_neg (by omega), if_neg (by omega), if_pos ⟨rfl, h⟩]; omega
theorem ps_f {j : Nat} (h : j < 64) : psL 146 j ≠ 1000 := by
  unfold psL; rw [if_neg (by omega), if_neg (by omega), if_pos ⟨rfl, h⟩]; omega
theorem frB.D {M N : Mem} (h : frB M N) {n m : Nat} (hn : n ≤ 8) (hm : m ≤ 10) : agD (mv M) (mv N) n m := by
  have g : ∀ a j, ¬ (159 ≤ a ∧ a ≤ 172) → a ≠ 140 → a ≠ 141 → a ≠ 145 → a ≠ 146 → a ≠ 151 → a ≠ 152 → N.1 a j = M.1 a j := fun a j h0 h1 h2 h3 h4 h5 h6 => h.1 a j h0 (by omega) (by omega)
  refine ⟨⟨fun j hj => ⟨h.1 141 j (by omega) (by omega) (fun q => (ps_p (j := j) (by omega)).1 q.2), g 142 j (by omega) (by omega) (by omega) (by omega) (by omega) (by omega) (by omega), g 143 j (by omega) (by omega) (by omega) (by omega) (by omega) (by omega) (by omega), g 144 j (by omega) (by omega) (by omega) (by omega) (by omega) (by omega) (by omega), h.1 145 j (by omega) (by omega) (fun q => (ps_p (j := j) (by omega)).2 q.2)⟩,
    fun j hj => ⟨g 147 j (by omega) (by omega) (by omega) (by omega) (by omega) (by omega) (by omega), g 148 j (by omega) (by omega) (by omega) (by omega) (by omega) (by omega) (by omega), g 149 j (by omega) (by omega) (by omega) (by omega) (by omega) (by omega) (by omega), g 150 j (by omega) (by omega) (by omega) (by omega) (by omega) (by omega) (by omega), h.1 151 j (by omega) (by omega) (fun q => (ps_d (j := j) (by omega)).1 q.2)⟩, g 153 0 (by omega) (by omega) (by omega) (by omega) (by omega) (by omega) (by omega), g 153 1 (by omega) (by omega) (by omega) (by omega) (by omega) (by omega) (by omega), g 153 2 (by omega) (by omega) (by omega) (by omega) (by omega) (by omega) (by omega)⟩,
    fun k hk => h.1 152 k (by omega) (by omega) (fun q => (ps_d (j := k) (by omega)).2 q.2), fun i j hi hj => h.1 146 _ (by omega) (by omega) (fun q => ps_f (j := 8 * i + j) (by omega) q.2), g 153 3 (by omega) (by omega) (by omega) (by omega) (by omega) (by omega) (by omega), h.1 140 15 (by omega) (by omega) (by omega)⟩
theorem frB.MW {M N : Mem} {n m : Nat} (h : frB M N) (w : MW M n m) : MW N n m := w.keep (h.1 _ _ (by omega) (by omega) (by omega)) (h.1 _ _ (by omega) (by omega) (by omega)) (fun _ _ => h.1 _ _ (by omega) (by omega) (by omega)) (fun _ _ => h.1 _ _ (by omega) (by omega) (by omega))
theorem frB.MR {M N : Mem} {n m : Nat} {S : Nat → Int32} {z L : Nat} (h : frB M N) (r : MR M n m S z L) : MR N n m S z L :=
  r.keep (h.MW r.1) (funext fun j => h.1 _ _ (by omega) (by omega) (by omega)) (h.1 _ _ (by omega) (by omega) (by omega)) (funext fun j => h.1 _ _ (by omega) (by omega) (by omega)) (h.1 _ _ (by omega) (by omega) (by omega))
theorem lyV_ps {M : Mem} {a j : Nat} (h : psL a j < 101) : lyV M (psL a j) = M.1 a j := by
  unfold psL at h ⊢
  split at h
  · next q => rw [if_pos q]; unfold lyV; rw [if_pos (by omega), if_pos (by omega), q.1, show 2 * j / 2 = j by omega]
  · next q0 =>
    rw [if_neg q0]
    split at h
    · next q => rw [if_pos q]; unfold lyV; rw [if_pos (by omega), if_neg (by omega), q.1, show (2 * j + 1) / 2 = j by omega]
    · next q1 =>
      rw [if_neg q1]
      split at h
      · next q => rw [if_pos q]; unfold lyV; rw [if_neg (by omega), if_pos (by omega), q.1, Nat.add_sub_cancel_left]
      · next q2 =>
        rw [if_neg q2]
        split at h
        · next q => rw [if_pos q]; unfold lyV; rw [if_neg (by omega), if_neg (by omega), if_pos (by omega), if_pos (by omega), q.1, show (80 + 2 * j - 80) / 2 = j by omega]
        · next q3 =>
          rw [if_neg q3]
          split at h
          · next q => rw [if_pos q]; unfold lyV; rw [if_neg (by omega), if_neg (by omega), if_pos (by omega), if_neg (by omega), q.1, show (81 + 2 * j - 80) / 2 = j by omega]
          · next q4 =>
            rw [if_neg q4]
            split at h
            · next q => rw [if_pos q]; unfold lyV; rw [if_neg (by omega), if_neg (by omega), if_neg (by omega), q.1, q.2]
            · omega
theorem ps_lt {a j : Nat} (h : psL a j ≠ 1000) : psL a j < 101 := by
  unfold psL at h ⊢
  split
  · omega
  · split
    · omega
    · split
      · omega
      · split
        · omega
        · split
          · omega
          · split
            · omega
            · next q0 q1 q2 q3 q4 q5 => rw [if_neg q0, if_neg q1, if_neg q2, if_neg q3, if_neg q4, if_neg q5] at h; exact absurd rfl h
/-- put holds what M had -/
def puts (M N : Mem) : Prop := ∀ q, q < 101 → N.1 172 q = lyV M q
/-- as days, and what is free but put -/
def frE (M N : Mem) : Prop := (∀ a j, ¬ (159 ≤ a ∧ a ≤ 171) → ¬ (a = 141 ∨ a = 145 ∨ a = 146 ∨ a = 151 ∨ a = 152 ∨ (a = 140 ∧ (j = 15 ∨ (23 ≤ j ∧ j ≤ 26) ∨ j = 29 ∨ j = 30 ∨ (50 ≤ j ∧ j ≤ 53)))) → N.1 a j = M.1 a j) ∧ N.2.1 = M.2.1
theorem frD.E {M N : Mem} (h : frD M N) : frE M N := ⟨fun a j _ q => h.1 a j q, h.2⟩
/-- days gone by and brought back -/
theorem frB_back {M M1 M2 : Mem} (hp : puts M M1) (hb : ∀ a j, ¬ (159 ≤ a ∧ a ≤ 172) → ¬ (a = 140 ∧ (j = 20 ∨ j = 21 ∨ (23 ≤ j ∧ j ≤ 26) ∨ j = 29 ∨ j = 30 ∨ j = 44 ∨ j = 46 ∨ (50 ≤ j ∧ j ≤ 53))) → psL a j = 1000 → ¬ (a = 141 ∨ a = 145 ∨ a = 146 ∨ a = 151 ∨ a = 152) → M1.1 a j = M.1 a j) (hJ : ∀ a, a ≠ 155 → a ≠ 166 → M1.2.1 a = M.2.1 a) (h : frE M1 M2) : frB M (brM M2 172 0 101) ∧ puts M (brM M2 172 0 101) := by
  have e2 : ∀ q, q < 101 → M2.1 172 q = lyV M q := fun q hq => (h.1 172 q (by omega) (by omega)).trans (hp q hq)
  refine ⟨⟨fun a j q r s => ?_, fun a q r => ?_⟩, fun q hq => ?_⟩
  · by_cases e : psL a j = 1000
    · rw [br_o e (by omega), h.1 a j (by omega) (fun z => by
        rcases z with z | z | z | z | z | ⟨z, z2⟩
        · exact s ⟨by omega, e⟩
        · exact s ⟨by omega, e⟩
        · exact s ⟨by omega, e⟩
        · exact s ⟨by omega, e⟩
        · exact s ⟨by omega, e⟩
        · rcases z2 with z2 | z2
          · subst z; subst z2; exact absurd e (by decide)
          · exact r ⟨z, by omega⟩)]
      exact hb a j q r e (fun z => s ⟨z, e⟩)
    · have hl := ps_lt e
      rw [show (brM M2 172 0 101).1 a j = M2.1 172 (0 + psL a j) from if_pos hl, Nat.zero_add, e2 _ hl, lyV_ps hl]
  · show M2.2.1 a = _
    rw [h.2]; exact hJ a q r
  · rw [br_o (ps_a (Or.inl rfl)) (by omega)]; exact e2 q hq
theorem lyM_fr {M : Mem} {k0 : Nat} : frQ M (lyM M 172 k0 101) := ⟨fun a j q _ => ly_o (by omega), fun _ _ _ => rfl⟩
theorem lyM_puts {M : Mem} : puts M (lyM M 172 0 101) := fun q hq => by have := ly_i (M := M) (a := 172) (k0 := 0) (c := 101) hq; rwa [Nat.zero_add] at this
def dsX (S : Nat → Int32) (z n m : Nat) (T : TT) (N0 : Nat) : DS := daysT S z n m (T, 0, 0, 0, 0) N0
set_option maxRecDepth 100000 in
set_option maxHeartbeats 4000000 in
theorem c_X11_days {M : Mem} {n m : Nat} {S : Nat → Int32} {z L : Nat} (r : MR M n m S z L) {td N0 : Nat} (hO : okD (mv M) n m) (h18 : mv M 18 0 = nI td) (htd : td < 2 ^ 28) (hN : N0 ≤ 60) : Con yX11_days cX11_days 2 (some .int) 176 [.ref 140, .int (nI N0)] M (fun v N => v = some (.int (dsX S z n m (mv M) N0).2.1) ∧ alk (dsX S z n m (mv M) N0).1 (mv N) ∧ (∀ a j, ¬ (a = 141 ∨ a = 145 ∨ a = 146 ∨ a = 151 ∨ a = 152 ∨ (a = 140 ∧ (j = 15 ∨ j = 20 ∨ j = 21 ∨ (23 ≤ j ∧ j ≤ 26) ∨ j = 29 ∨ j = 30 ∨ j = 32 ∨ (50 ≤ j ∧ j ≤ 53)))) → N.1 a j = M.1 a j) ∧ (∀ a, a ≠ 155 → N.2.1 a = M.2.1 a) ∧ N.1 140 32 = 0 ∧ row2 N (dsX S z n m (mv M) N0).2.2.1.toInt64 (bcnt (dsX S z n m (mv M) N0).2.2.2.2).toInt64) := by
  refine Con.of (own := RX11) (ls := [some (.ref 140), some (.int (nI N0))]) rfl (by decide +kernel) (Nat.le_of_ble_eq_true rfl) rfl ?_
  have r0 := frQ_t0.MR r
  have ⟨⟨hn, hn8, hm, hm10, hd⟩, hk01, hs, hR, hL⟩ := r
  refine rx_aload_n (i := 0) dX11_days_0 rfl rfl ?_
  refine rx_iconst (0) dX11_days_1 rfl ?_
  refine rx_putI (k := 21) fo_X11_126 fn_11_21 kl_140 (by decide) ty_11_21 dX11_days_2 ?_
  refine rx_iload_n (i := 1) dX11_days_5 rfl rfl ?_
  refine rx_i2l dX11_days_6 rfl ?_
  refine rx_lconst (0) dX11_days_7 rfl ?_
  refine rx_ldc2 (own := RX11) (v := (60)) (List.mem_of_getElem? (i := 1945) (by decide +kernel)) dX11_days_8 ?_
  refine rx_csI mo_X11_in lk_X11_135 (c_X11_in (a := (nI N0).toInt64) (b := 0) (c := 60)) (by decide) rfl rfl (Nat.le_of_ble_eq_true rfl) dX11_days_11 ?_
  refine rx_top (1) (if_pos ⟨l_0.mpr (nI_pos' (by omega)), l_60.mpr (nI_le (b := 60) (by omega) (by omega))⟩) ?_
  refine rx_if_ne (tgt := 19) dX11_days_14 (by decide) (fun c14 => ?_) (fun c14 => absurd c14 (by decide))
  refine rx_aload_n (i := 0) dX11_days_19 rfl rfl ?_
  refine rx_iload_n (i := 1) dX11_days_20 rfl rfl ?_
  refine rx_callV (ci := 11) mo_X11_goDays lk_X11_410 (c_X11_goDays r0 (td := td) (by rw [t0_mv]; exact hO) (by rw [t0_mv]; exact h18) (by omega)) (by decide) rfl rfl (Nat.le_of_ble_eq_true rfl) kl_140 rfl dX11_days_21 ?_
  rintro _ N ⟨rfl, hD, hF⟩
  rw [t0_mv] at hD
  have ⟨d1, d2, d3, d4, d5⟩ := hD
  have d1 : alk (dsX S z n m (mv M) N0).1 (mv N) := d1
  have d2 : N.1 140 52 = (dsX S z n m (mv M) N0).2.1 := d2
  have d3 : N.1 140 50 = (dsX S z n m (mv M) N0).2.2.1 := d3
  have d4 : N.1 140 51 = (dsX S z n m (mv M) N0).2.2.2.1 := d4
  have d5 : N.1 140 53 = (dsX S z n m (mv M) N0).2.2.2.2 := d5
  refine rx_aload_n (i := 0) dX11_days_24 rfl rfl ?_
  refine rx_iconst (0) dX11_days_25 rfl ?_
  refine rx_putI (k := 32) fo_X11_198 fn_11_32 kl_140 (by decide) ty_11_32 dX11_days_26 ?_
  refine rx_aload_n (i := 0) dX11_days_29 rfl rfl ?_
  refine rx_iconst (0) dX11_days_30 rfl ?_
  refine rx_putI (k := 20) fo_X11_129 fn_11_20 kl_140 (by decide) ty_11_20 dX11_days_31 ?_
  refine rx_aload_n (i := 0) dX11_days_34 rfl rfl ?_
  refine rx_aload_n (i := 0) dX11_days_35 rfl rfl ?_
  refine rx_getI (k := 50) fo_X11_390 kl_140 (by decide) ti_11_50 dX11_days_36 ?_
  refine rx_top ((dsX S z n m (mv M) N0).2.2.1) (((sI_ne (by omega)).trans (sI_ne (by omega))).trans d3) ?_
  refine rx_i2l dX11_days_39 rfl ?_
  refine rx_cvN (ci := 11) mo_X11_tell lk_X11_294 (c_X11_tell (s := 0) sI_eq (by omega)) (by decide) rfl rfl (Nat.le_of_ble_eq_true rfl) kl_140 rfl dX11_days_40 ?_
  refine rx_aload_n (i := 0) dX11_days_43 rfl rfl ?_
  refine rx_aload_n (i := 0) dX11_days_44 rfl rfl ?_
  refine rx_getI (k := 53) fo_X11_399 kl_140 (by decide) ti_11_53 dX11_days_45 ?_
  refine rx_top ((dsX S z n m (mv M) N0).2.2.2.2) (d5) ?_
  refine rx_csI mo_J6_bitCount_0f7a4 lk_X11_337 c_J6_bitCount_0f7a4 (by decide) rfl rfl (Nat.le_of_ble_eq_true rfl) dX11_days_48 ?_
  refine rx_i2l dX11_days_51 rfl ?_
  refine rx_cvN (ci := 11) mo_X11_tell lk_X11_294 (c_X11_tell (s := 1) mt_20 (by omega)) (by decide) rfl rfl (Nat.le_of_ble_eq_true rfl) kl_140 rfl dX11_days_52 ?_
  refine rx_aload_n (i := 0) dX11_days_55 rfl rfl ?_
  refine rx_getI (k := 52) fo_X11_396 kl_140 (by decide) ti_11_52 dX11_days_56 ?_
  refine rx_top ((dsX S z n m (mv M) N0).2.1) (d2) ?_
  exact rx_iret dX11_days_59 ⟨rfl, by
    rw [frQ.mv ((frQ_mt (s := 0)).trans (frQ_mt (s := 1))), mv_I (by omega), mv_I (by omega)]; exact d1, fun a j q => by
    rw [mt_o (by omega), mt_o (by omega), sI_ne (by omega), sI_ne (by omega), hF.1 a j (by omega)]; exact t0_o (by omega), fun a q => by
    rw [mt_J q, mt_J q]; show N.2.1 a = _; rw [hF.2]; rfl, (mt_o (by omega)).trans ((mt_o (by omega)).trans ((sI_ne (by omega)).trans sI_eq)), mt_row2⟩
set_option maxRecDepth 100000 in
set_option maxHeartbeats 4000000 in
theorem c_X11_days_no {M : Mem} {x : Int32} (hx : ¬ (0 ≤ x ∧ x ≤ 60)) : Fun yX11_days cX11_days 2 (some .int) 176 [.ref 140, .int x] M (some (.int (-1))) (t0 M) := by
  refine Fun.of (own := RX11) ([some (.ref 140), some (.int x)]) rfl (by decide +kernel) (Nat.le_of_ble_eq_true rfl) rfl ?_
  refine rx_aload_n (i := 0) dX11_days_0 rfl rfl ?_
  refine rx_iconst (0) dX11_days_1 rfl ?_
  refine rx_putI (k := 21) fo_X11_126 fn_11_21 kl_140 (by decide) ty_11_21 dX11_days_2 ?_
  refine rx_iload_n (i := 1) dX11_days_5 rfl rfl ?_
  refine rx_i2l dX11_days_6 rfl ?_
  refine rx_lconst (0) dX11_days_7 rfl ?_
  refine rx_ldc2 (own := RX11) (v := (60)) (List.mem_of_getElem? (i := 1945) (by decide +kernel)) dX11_days_8 ?_
  refine rx_csI mo_X11_in lk_X11_135 (c_X11_in (a := x.toInt64) (b := 0) (c := 60)) (by decide) rfl rfl (Nat.le_of_ble_eq_true rfl) dX11_days_11 ?_
  refine rx_if_ne (tgt := 19) dX11_days_14 (by decide) (fun c14 => ?_) (fun c14 => ?_)
  · skip
    exact absurd ⟨l_0.mp (ite1n c14).1, l_60.mp (ite1n c14).2⟩ hx
    skip
  · skip
    refine rx_iconst (-1) dX11_days_17 rfl ?_
    exact rx_fiI dX11_days_18 rfl rfl
set_option maxRecDepth 100000 in
set_option maxHeartbeats 4000000 in
theorem c_X11_lapse {M : Mem} {n m : Nat} {S : Nat → Int32} {z L : Nat} (r : MR M n m S z L) {td N0 : Nat} (hO : okD (mv M) n m) (h18 : mv M 18 0 = nI td) (htd : td < 2 ^ 28) (hN : N0 ≤ 60) : Con yX11_lapse cX11_lapse 3 (some .int) 176 [.ref 140, .int (nI N0)] M (fun v N => v = some (.int (dsX S z n m (mv M) N0).2.2.2.2) ∧ frB M N ∧ row1 N (sumT (mv M) m (dsX S z n m (mv M) N0).2.2.2.2).toInt64) := by
  refine Con.of (own := RX11) (ls := [some (.ref 140), some (.int (nI N0)), none]) rfl (by decide +kernel) (Nat.le_of_ble_eq_true rfl) rfl ?_
  have r0 := frQ_t0.MR r
  have ⟨⟨hn, hn8, hm, hm10, hd⟩, hk01, hs, hR, hL⟩ := r
  have hq1 : frQ M (lyM (t0 M) 172 0 101) := frQ_t0.trans lyM_fr
  have r1 := hq1.MR r
  have hp1 : puts (t0 M) (lyM (t0 M) 172 0 101) := lyM_puts
  refine rx_aload_n (i := 0) dX11_lapse_0 rfl rfl ?_
  refine rx_iconst (0) dX11_lapse_1 rfl ?_
  refine rx_putI (k := 21) fo_X11_126 fn_11_21 kl_140 (by decide) ty_11_21 dX11_lapse_2 ?_
  refine rx_iload_n (i := 1) dX11_lapse_5 rfl rfl ?_
  refine rx_i2l dX11_lapse_6 rfl ?_
  refine rx_lconst (0) dX11_lapse_7 rfl ?_
  refine rx_ldc2 (own := RX11) (v := (60)) (List.mem_of_getElem? (i := 1945) (by decide +kernel)) dX11_lapse_8 ?_
  refine rx_csI mo_X11_in lk_X11_135 (c_X11_in (a := (nI N0).toInt64) (b := 0) (c := 60)) (by decide) rfl rfl (Nat.le_of_ble_eq_true rfl) dX11_lapse_11 ?_
  refine rx_top (1) (if_pos ⟨l_0.mpr (nI_pos' (by omega)), l_60.mpr (nI_le (b := 60) (by omega) (by omega))⟩) ?_
  refine rx_if_ne (tgt := 19) dX11_lapse_14 (by decide) (fun c14 => ?_) (fun c14 => absurd c14 (by decide))
  refine rx_aload_n (i := 0) dX11_lapse_19 rfl rfl ?_
  refine rx_aload_n (i := 0) dX11_lapse_20 rfl rfl ?_
  refine rx_getR 172 (k := 54) fo_X11_114 kl_140 (by decide) ti_11_54 (by decide) rfl dX11_lapse_21 ?_
  refine rx_iconst (0) dX11_lapse_24 rfl ?_
  refine rx_cvN (ci := 11) mo_X11_lay lk_X11_413 (c_X11_lay (a := 172) (k0 := 0) (len := 101) (Or.inl rfl) kl_172 (by omega) (by omega)) (by decide) rfl rfl (Nat.le_of_ble_eq_true rfl) kl_140 rfl dX11_lapse_25 ?_
  refine rx_aload_n (i := 0) dX11_lapse_28 rfl rfl ?_
  refine rx_iload_n (i := 1) dX11_lapse_29 rfl rfl ?_
  refine rx_callV (ci := 11) mo_X11_goDays lk_X11_410 (c_X11_goDays r1 (td := td) (by rw [frQ.mv hq1]; exact hO) (by rw [frQ.mv hq1]; exact h18) (by omega)) (by decide) rfl rfl (Nat.le_of_ble_eq_true rfl) kl_140 rfl dX11_lapse_30 ?_
  rintro _ N ⟨rfl, hD, hF⟩
  rw [frQ.mv hq1] at hD
  have ⟨d1, d2, d3, d4, d5⟩ := hD
  have d1 : alk (dsX S z n m (mv M) N0).1 (mv N) := d1
  have d2 : N.1 140 52 = (dsX S z n m (mv M) N0).2.1 := d2
  have d3 : N.1 140 50 = (dsX S z n m (mv M) N0).2.2.1 := d3
  have d4 : N.1 140 51 = (dsX S z n m (mv M) N0).2.2.2.1 := d4
  have d5 : N.1 140 53 = (dsX S z n m (mv M) N0).2.2.2.2 := d5
  have w0 := r0.1
  have hB := frB_back (M := t0 M) hp1 (fun a j q _ _ _ => ly_o (by omega)) (fun _ _ _ => rfl) hF.E
  have wB := hB.1.MW w0
  refine rx_aload_n (i := 0) dX11_lapse_33 rfl rfl ?_
  refine rx_getI (k := 53) fo_X11_399 kl_140 (by decide) ti_11_53 dX11_lapse_34 ?_
  refine rx_top ((dsX S z n m (mv M) N0).2.2.2.2) (d5) ?_
  refine rx_istore_n (i := 2) dX11_lapse_37 rfl (by decide) rfl rfl ?_
  refine rx_aload_n (i := 0) dX11_lapse_38 rfl rfl ?_
  refine rx_aload_n (i := 0) dX11_lapse_39 rfl rfl ?_
  refine rx_getR 172 (k := 54) fo_X11_114 kl_140 (by decide) ti_11_54 (by decide) rfl dX11_lapse_40 ?_
  refine rx_iconst (0) dX11_lapse_43 rfl ?_
  refine rx_cvN (ci := 11) mo_X11_bring lk_X11_417 (c_X11_bring (a := 172) (k0 := 0) (len := 101) (Or.inl rfl) kl_172 (by omega) (by omega)) (by decide) rfl rfl (Nat.le_of_ble_eq_true rfl) kl_140 rfl dX11_lapse_44 ?_
  refine rx_aload_n (i := 0) dX11_lapse_47 rfl rfl ?_
  refine rx_iconst (0) dX11_lapse_48 rfl ?_
  refine rx_putI (k := 20) fo_X11_129 fn_11_20 kl_140 (by decide) ty_11_20 dX11_lapse_49 ?_
  refine rx_aload_n (i := 0) dX11_lapse_52 rfl rfl ?_
  refine rx_aload_n (i := 0) dX11_lapse_53 rfl rfl ?_
  refine rx_iload_n (i := 2) dX11_lapse_54 rfl rfl ?_
  refine rx_cvI (ci := 11) mo_X11_sumOf lk_X11_361 (c_X11_sumOf (M := setI (brM N 172 0 101) 140 20 0) (frQ.MW (frQ_I (by omega)) wB)) (by decide) rfl rfl (Nat.le_of_ble_eq_true rfl) kl_140 rfl dX11_lapse_55 ?_
  refine rx_top (sumT (mv M) m (dsX S z n m (mv M) N0).2.2.2.2) (by
    rw [mv_I (by omega)]
    have hA := (hB.1.D (n := n) (m := m) hn8 hm10).1
    rw [t0_mv] at hA
    exact fsum_congr fun k hk => by rw [(hA.2.1 k hk).2.2.1]) ?_
  refine rx_i2l dX11_lapse_58 rfl ?_
  refine rx_cvN (ci := 11) mo_X11_tell lk_X11_294 (c_X11_tell (s := 0) sI_eq (by omega)) (by decide) rfl rfl (Nat.le_of_ble_eq_true rfl) kl_140 rfl dX11_lapse_59 ?_
  refine rx_iload_n (i := 2) dX11_lapse_62 rfl rfl ?_
  exact rx_iret dX11_lapse_63 ⟨rfl, frQ_t0.B.trans (hB.1.trans (frQ.B ((frQ_I (by omega)).trans frQ_mt))), mt_row1⟩
set_option maxRecDepth 100000 in
set_option maxHeartbeats 4000000 in
theorem c_X11_lapse_no {M : Mem} {x : Int32} (hx : ¬ (0 ≤ x ∧ x ≤ 60)) : Fun yX11_lapse cX11_lapse 3 (some .int) 176 [.ref 140, .int x] M (some (.int (-1))) (t0 M) := by
  refine Fun.of (own := RX11) ([some (.ref 140), some (.int x), none]) rfl (by decide +kernel) (Nat.le_of_ble_eq_true rfl) rfl ?_
  refine rx_aload_n (i := 0) dX11_lapse_0 rfl rfl ?_
  refine rx_iconst (0) dX11_lapse_1 rfl ?_
  refine rx_putI (k := 21) fo_X11_126 fn_11_21 kl_140 (by decide) ty_11_21 dX11_lapse_2 ?_
  refine rx_iload_n (i := 1) dX11_lapse_5 rfl rfl ?_
  refine rx_i2l dX11_lapse_6 rfl ?_
  refine rx_lconst (0) dX11_lapse_7 rfl ?_
  refine rx_ldc2 (own := RX11) (v := (60)) (List.mem_of_getElem? (i := 1945) (by decide +kernel)) dX11_lapse_8 ?_
  refine rx_csI mo_X11_in lk_X11_135 (c_X11_in (a := x.toInt64) (b := 0) (c := 60)) (by decide) rfl rfl (Nat.le_of_ble_eq_true rfl) dX11_lapse_11 ?_
  refine rx_if_ne (tgt := 19) dX11_lapse_14 (by decide) (fun c14 => ?_) (fun c14 => ?_)
  · skip
    exact absurd ⟨l_0.mp (ite1n c14).1, l_60.mp (ite1n c14).2⟩ hx
    skip
  · skip
    refine rx_iconst (-1) dX11_lapse_17 rfl ?_
    exact rx_fiI dX11_lapse_18 rfl rfl
