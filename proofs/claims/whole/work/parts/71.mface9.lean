/-- what one has behind some days -/
def hbX (S : Nat → Int32) (z n m : Nat) (T : TT) (N0 i : Nat) : Int32 := (dsX S z n m T N0).1 0 i + fsum (fun o => (dsX S z n m T N0).1 12 (8 * o + i)) n
theorem hbX_ag {S : Nat → Int32} {z n m N0 i : Nat} {T T' : TT} (h : agD T T' n m) (hO : okD T n m) (hn : n ≤ 8) (hi : i < n) : hbX S z n m T' N0 i = hbX S z n m T N0 i := by
  have e := (dsX_ag (S := S) (z := z) (N0 := N0) h hO hn).1
  unfold hbX
  rw [(e.1.1 i hi).1, fsum_congr fun o ho => e.2.2.1 o i ho hi]
/-- a hidden coin in a town -/
theorem agD.hid {T T' : TT} {n m i : Nat} {x : Int32} (h : agD T T' n m) : agD (setT T 3 i x) (setT T' 3 i x) n m := by
  refine ⟨⟨fun j hj => ?_, fun k hk => h.1.2.1 k hk, h.1.2.2.1, h.1.2.2.2.1, h.1.2.2.2.2⟩, h.2.1, h.2.2.1, h.2.2.2.1, h.2.2.2.2⟩
  obtain ⟨a, b, c, d, e⟩ := h.1.1 j hj
  refine ⟨a, b, c, ?_, e⟩
  show setT T' 3 i x 3 j = setT T 3 i x 3 j
  unfold setT; rw [d]
theorem agD.same {T : TT} {n m i : Nat} : setT T 3 i (T 3 i) = T := by
  funext c j
  unfold setT; split
  · next h => rw [h.1, h.2]
  · rfl
theorem setT_setT {T : TT} {c j : Nat} {x y : Int32} : setT (setT T c j x) c j y = setT T c j y := by
  funext c' j'
  unfold setT; split <;> rfl
theorem mv_144 {M : Mem} {i : Nat} {x : Int32} : mv (setI M 144 i x) = setT (mv M) 3 i x := by have := mv_set (M := M) (c := 3) (j := i) (x := x) (by omega) (by omega); exact this
set_option maxRecDepth 100000 in
set_option maxHeartbeats 4000000 in
theorem c_X11_hasBehind {M : Mem} {n m : Nat} {S : Nat → Int32} {z L : Nat} (r : MR M n m S z L) {td N0 : Nat} (hO : okD (mv M) n m) (h18 : mv M 18 0 = nI td) (htd : td < 2 ^ 28) (hN : N0 ≤ 60) {i : Nat} (hi : i < n) : Con yX11_hasBehind cX11_hasBehind 4 (some .int) 176 [.ref 140, .int (nI i), .int (nI N0)] M (fun v N => v = some (.int (hbX S z n m (mv M) N0 i)) ∧ ∃ N1, frD M N1 ∧ N = brM N1 172 0 101) := by
  refine Con.of (own := RX11) (ls := [some (.ref 140), some (.int (nI i)), some (.int (nI N0)), none]) rfl (by decide +kernel) (Nat.le_of_ble_eq_true rfl) rfl ?_
  have ⟨⟨hn, hn8, hm, hm10, hd⟩, hk01, hs, hR, hL⟩ := r
  refine rx_aload_n (i := 0) dX11_hasBehind_0 rfl rfl ?_
  refine rx_iload_n (i := 2) dX11_hasBehind_1 rfl rfl ?_
  refine rx_callV (ci := 11) mo_X11_goDays lk_X11_410 (c_X11_goDays r (td := td) hO h18 (by omega)) (by decide) rfl rfl (Nat.le_of_ble_eq_true rfl) kl_140 rfl dX11_hasBehind_2 ?_
  rintro _ N ⟨rfl, hD, hF⟩
  have ⟨d1, d2, d3, d4, d5⟩ := hD
  have d1 : alk (dsX S z n m (mv M) N0).1 (mv N) := d1
  have wN : MW N n m := r.1.keep (hF.1 _ _ (by omega)) (hF.1 _ _ (by omega)) (fun _ _ => hF.1 _ _ (by omega)) (fun _ _ => hF.1 _ _ (by omega))
  have e0 : N.1 141 i = (dsX S z n m (mv M) N0).1 0 i := congrFun (d1 0 (by omega) (by omega)) i
  have e12 : fsum (fun j => N.1 146 (8 * j + i)) n = fsum (fun o => (dsX S z n m (mv M) N0).1 12 (8 * o + i)) n := fsum_congr fun o _ => congrFun (d1 12 (by omega) (by omega)) _
  refine rx_aload_n (i := 0) dX11_hasBehind_5 rfl rfl ?_
  refine rx_getR 141 (k := 1) fo_X11_9 kl_140 (by decide) ti_11_1 (by decide) rfl dX11_hasBehind_6 ?_
  refine rx_iload_n (i := 1) dX11_hasBehind_9 rfl rfl ?_
  refine rx_ialdN kl_141 (by omega) (by first | decide | omega) dX11_hasBehind_10 ?_
  refine rx_aload_n (i := 0) dX11_hasBehind_11 rfl rfl ?_
  refine rx_iload_n (i := 1) dX11_hasBehind_12 rfl rfl ?_
  refine rx_cvI (ci := 11) mo_X11_favoursOwed lk_X11_235 (c_X11_favoursOwed wN hi) (by decide) rfl rfl (Nat.le_of_ble_eq_true rfl) kl_140 rfl dX11_hasBehind_13 ?_
  refine rx_iadd dX11_hasBehind_16 ?_
  refine rx_top (hbX S z n m (mv M) N0 i) (by rw [e0, e12]; rfl) ?_
  refine rx_istore_n (i := 3) dX11_hasBehind_17 rfl (by decide) rfl rfl ?_
  refine rx_aload_n (i := 0) dX11_hasBehind_18 rfl rfl ?_
  refine rx_aload_n (i := 0) dX11_hasBehind_19 rfl rfl ?_
  refine rx_getR 172 (k := 54) fo_X11_114 kl_140 (by decide) ti_11_54 (by decide) rfl dX11_hasBehind_20 ?_
  refine rx_iconst (0) dX11_hasBehind_23 rfl ?_
  refine rx_cvN (ci := 11) mo_X11_bring lk_X11_417 (c_X11_bring (a := 172) (k0 := 0) (len := 101) (Or.inl rfl) kl_172 (by omega) (by omega)) (by decide) rfl rfl (Nat.le_of_ble_eq_true rfl) kl_140 rfl dX11_hasBehind_24 ?_
  refine rx_iload_n (i := 3) dX11_hasBehind_27 rfl rfl ?_
  exact rx_iret dX11_hasBehind_28 ⟨rfl, N, hF, rfl⟩
/-- what stays where one hidden coin is set and days go by -/
theorem hb_keep {M M1 N N1 : Mem} {i : Nat} {x : Int32} (hp : puts M M1) (hF : frD (setI M1 144 i x) N1) (e : N = brM N1 172 0 101) (h0 : frB M (setI M1 144 i (M.1 144 i))) (hj : M1.1 140 20 = M.1 140 20 ∧ M1.1 140 21 = 0 ∧ M1.2.1 155 = M.2.1 155) : frB M (setI N 144 i (M.1 144 i)) ∧ puts M N ∧ (N.1 140 20 = M.1 140 20 ∧ N.1 140 21 = 0 ∧ N.2.1 155 = M.2.1 155) := by
  have hE : frE (setI M1 144 i (M.1 144 i)) (setI N1 144 i (M.1 144 i)) := by
    refine ⟨fun a j q s => ?_, hF.2⟩
    by_cases y : a = 144 ∧ j = i
    · rw [y.1, y.2, sI_eq, sI_eq]
    · rw [sI_ne y, sI_ne y, hF.1 a j s, sI_ne y]
  have hB := frB_back (M := M) (M1 := setI M1 144 i (M.1 144 i)) (fun q hq => (sI_na (by omega)).trans (hp q hq)) (fun a j q r s1 s2 => h0.1 a j q r fun z => s2 z.1) (fun a q s => h0.2 a q s) hE
  have eN : setI N 144 i (M.1 144 i) = brM (setI N1 144 i (M.1 144 i)) 172 0 101 := by
    rw [e]
    refine Prod.ext ?_ rfl
    funext a j
    show (if a = 144 ∧ j = i then _ else _) = (if psL a j < 101 then (setI N1 144 i (M.1 144 i)).1 172 (0 + psL a j) else (setI N1 144 i (M.1 144 i)).1 a j)
    by_cases y : a = 144 ∧ j = i
    · rw [if_pos y, y.1, y.2, if_neg (by unfold psL; rw [if_neg (by omega), if_neg (by omega), if_neg (by omega), if_neg (by omega), if_neg (by omega), if_neg (by omega)]; omega), sI_eq]
    · rw [if_neg y, sI_ne y, sI_na (by omega)]; rfl
  refine ⟨eN ▸ hB.1, fun q hq => ?_, ?_⟩
  · have := hB.2 q hq
    rw [← eN, sI_na (by omega)] at this
    exact this
  · have e20 : psL 140 20 = 1000 := by decide
    have e21 : psL 140 21 = 1000 := by decide
    rw [e]
    refine ⟨(br_o e20 (by omega)).trans ((hF.1 140 20 (by omega)).trans ((sI_na (by omega)).trans hj.1)), (br_o e21 (by omega)).trans ((hF.1 140 21 (by omega)).trans ((sI_na (by omega)).trans hj.2.1)), ?_⟩
    show N1.2.1 155 = _
    rw [hF.2]; exact hj.2.2
/-- a town with a hidden coin set, before days go by -/
theorem hb_pre {M M1 : Mem} {n m : Nat} {S : Nat → Int32} {z L : Nat} (r : MR M n m S z L) {td i : Nat} {x : Int32} (hO : okD (mv M) n m) (h18 : mv M 18 0 = nI td) (hi : i < n) (hx : 0 ≤ x ∧ x ≤ M.1 141 i) (h0 : frB M (setI M1 144 i (M.1 144 i))) : MR (setI M1 144 i x) n m S z L ∧ agD (setT (mv M) 3 i x) (mv (setI M1 144 i x)) n m ∧ okD (setT (mv M) 3 i x) n m ∧ okD (mv (setI M1 144 i x)) n m ∧ mv (setI M1 144 i x) 18 0 = nI td := by
  have hn8 := r.1.2.1
  have hm10 := r.1.2.2.2.1
  have r1 := h0.MR r
  have hA := (h0.D (n := n) (m := m) hn8 hm10).hid (i := i) (x := x)
  rw [mv_144, setT_setT] at hA
  rw [mv_144]
  have hOK : okD (setT (mv M) 3 i x) n m := ⟨⟨fun j hj => ?_, hO.1.2.1, hO.1.2.2.1, hO.1.2.2.2⟩, hO.2.1, hO.2.2⟩
  · refine ⟨r1.keep (r1.1.keep ((sI_na (by omega)).trans (sI_na (by omega)).symm) ((sI_na (by omega)).trans (sI_na (by omega)).symm) (fun _ _ => (sI_na (by omega)).trans (sI_na (by omega)).symm) (fun _ _ => (sI_na (by omega)).trans (sI_na (by omega)).symm)) (funext fun j => (sI_na (by omega)).trans (sI_na (by omega)).symm) ((sI_na (by omega)).trans (sI_na (by omega)).symm) (funext fun j => (sI_na (by omega)).trans (sI_na (by omega)).symm) ((sI_na (by omega)).trans (sI_na (by omega)).symm), hA, hOK, hOK.agD hA ?_ ?_, hA.2.2.2.2.trans h18⟩
    · exact (sI_na (M := M1) (i := 144) (k := i) (x := M.1 144 i) (by omega)).symm.trans (h0.1 140 0 (by omega) (by omega) (by omega))
    · exact (sI_na (M := M1) (i := 144) (k := i) (x := M.1 144 i) (by omega)).symm.trans (h0.1 140 7 (by omega) (by omega) (by omega))
  · have := hO.1.1 j hj
    have hc : (M.1 141 i).toInt = (mv M 0 i).toInt := rfl
    have hx1 : (0 : Int) ≤ x.toInt := Int32.le_iff_toInt_le.mp hx.1
    have hx2 : x.toInt ≤ (mv M 0 i).toInt := Int32.le_iff_toInt_le.mp hx.2
    refine ⟨?_, ?_, this.2.2.1, this.2.2.2⟩
    · show 0 ≤ (setT (mv M) 3 i x 3 j).toInt
      unfold setT; split
      · exact hx1
      · exact this.1
    · show (setT (mv M) 3 i x 3 j).toInt ≤ _
      unfold setT; split
      · next q => rw [q.2]; exact hx2
      · exact this.2.1
set_option maxRecDepth 100000 in
set_option maxHeartbeats 4000000 in
theorem c_X11_pays {M : Mem} {n m : Nat} {S : Nat → Int32} {z L : Nat} (r : MR M n m S z L) {td N0 i : Nat} {v : Int32} (hO : okD (mv M) n m) (h18 : mv M 18 0 = nI td) (htd : td < 2 ^ 28) (hN : N0 ≤ 60) (hi : i < n) (hv : 0 ≤ v ∧ v ≤ M.1 141 i) : Con yX11_pays cX11_pays 7 (some .int) 177 [.ref 140, .int (nI i), .int v, .int (nI N0)] M (fun y N => y = some (.int (hbX S z n m (setT (mv M) 3 i v) N0 i - hbX S z n m (setT (mv M) 3 i 0) N0 i)) ∧ frB M N ∧ N.1 140 20 = M.1 140 20 ∧ N.1 140 21 = 0 ∧ N.2.1 155 = M.2.1 155) := by
  refine Con.of (own := RX11) (ls := [some (.ref 140), some (.int (nI i)), some (.int v), some (.int (nI N0)), none, none, none]) rfl (by decide +kernel) (Nat.le_of_ble_eq_true rfl) rfl ?_
  have ⟨⟨hn, hn8, hm, hm10, hd⟩, hk01, hs, hR, hL⟩ := r
  have hp1 : puts M (lyM (t0 M) 172 0 101) := fun q hq => (lyM_puts q hq).trans (lyV_o fun a j z => t0_o (by omega))
  have e1 : ∀ a j, a ≠ 172 → ¬ (a = 140 ∧ j = 21) → (lyM (t0 M) 172 0 101).1 a j = M.1 a j := fun a j z y => (ly_o z).trans (t0_o y)
  have h01 : frB M (setI (lyM (t0 M) 172 0 101) 144 i (M.1 144 i)) := by
    rw [← e1 144 i (by omega) (by omega), sI_same]; exact (frQ_t0.trans lyM_fr).B
  have hj1 : (lyM (t0 M) 172 0 101).1 140 20 = M.1 140 20 ∧ (lyM (t0 M) 172 0 101).1 140 21 = 0 ∧ (lyM (t0 M) 172 0 101).2.1 155 = M.2.1 155 := ⟨e1 140 20 (by omega) (by omega), (ly_o (by omega)).trans sI_eq, rfl⟩
  have hz : (0 : Int32) ≤ M.1 141 i := Int32.le_trans hv.1 hv.2
  have ⟨ra, ga, ka, oa, da⟩ := hb_pre r hO h18 hi hv h01
  refine rx_aload_n (i := 0) dX11_pays_0 rfl rfl ?_
  refine rx_iconst (0) dX11_pays_1 rfl ?_
  refine rx_putI (k := 21) fo_X11_126 fn_11_21 kl_140 (by decide) ty_11_21 dX11_pays_2 ?_
  refine rx_aload_n (i := 0) dX11_pays_5 rfl rfl ?_
  refine rx_iload_n (i := 1) dX11_pays_6 rfl rfl ?_
  refine rx_cvI (ci := 11) mo_X11_isOne lk_X11_244 (c_X11_isOne (M := t0 M) (n := n) ((t0_o (by omega)).trans hn) (by omega)) (by decide) rfl rfl (Nat.le_of_ble_eq_true rfl) kl_140 rfl dX11_pays_7 ?_
  refine rx_top (1) (if_pos ⟨nI_pos' (by omega), nI_lt hi (by omega)⟩) ?_
  refine rx_if_eq (tgt := 41) dX11_pays_10 (by decide) (fun c10 => absurd c10 (by decide)) (fun c10 => ?_)
  refine rx_iload_n (i := 2) dX11_pays_13 rfl rfl ?_
  refine rx_i2l dX11_pays_14 rfl ?_
  refine rx_lconst (0) dX11_pays_15 rfl ?_
  refine rx_aload_n (i := 0) dX11_pays_16 rfl rfl ?_
  refine rx_getR 141 (k := 1) fo_X11_9 kl_140 (by decide) ti_11_1 (by decide) rfl dX11_pays_17 ?_
  refine rx_iload_n (i := 1) dX11_pays_20 rfl rfl ?_
  refine rx_ialdN kl_141 (by omega) (by first | decide | omega) dX11_pays_21 ?_
  refine rx_top (M.1 141 i) (t0_o (by omega)) ?_
  refine rx_i2l dX11_pays_22 rfl ?_
  refine rx_csI mo_X11_in lk_X11_135 (c_X11_in (a := v.toInt64) (b := 0) (c := (M.1 141 i).toInt64)) (by decide) rfl rfl (Nat.le_of_ble_eq_true rfl) dX11_pays_23 ?_
  refine rx_top (1) (if_pos ⟨l_0.mpr hv.1, Int32.toInt64_le.mpr hv.2⟩) ?_
  refine rx_if_eq (tgt := 41) dX11_pays_26 (by decide) (fun c26 => absurd c26 (by decide)) (fun c26 => ?_)
  refine rx_iload_n (i := 3) dX11_pays_29 rfl rfl ?_
  refine rx_i2l dX11_pays_30 rfl ?_
  refine rx_lconst (0) dX11_pays_31 rfl ?_
  refine rx_ldc2 (own := RX11) (v := (60)) (List.mem_of_getElem? (i := 1945) (by decide +kernel)) dX11_pays_32 ?_
  refine rx_csI mo_X11_in lk_X11_135 (c_X11_in (a := (nI N0).toInt64) (b := 0) (c := 60)) (by decide) rfl rfl (Nat.le_of_ble_eq_true rfl) dX11_pays_35 ?_
  refine rx_top (1) (if_pos ⟨l_0.mpr (nI_pos' (by omega)), l_60.mpr (nI_le (b := 60) (by omega) (by omega))⟩) ?_
  refine rx_if_ne (tgt := 46) dX11_pays_38 (by decide) (fun c38 => ?_) (fun c38 => absurd c38 (by decide))
  refine rx_aload_n (i := 0) dX11_pays_46 rfl rfl ?_
  refine rx_getR 144 (k := 4) fo_X11_20 kl_140 (by decide) ti_11_4 (by decide) rfl dX11_pays_47 ?_
  refine rx_iload_n (i := 1) dX11_pays_50 rfl rfl ?_
  refine rx_ialdN kl_144 (by omega) (by first | decide | omega) dX11_pays_51 ?_
  refine rx_top (M.1 144 i) (t0_o (by omega)) ?_
  refine rx_istore (i := 4) dX11_pays_52 (by decide) rfl rfl ?_
  refine rx_aload_n (i := 0) dX11_pays_54 rfl rfl ?_
  refine rx_aload_n (i := 0) dX11_pays_55 rfl rfl ?_
  refine rx_getR 172 (k := 54) fo_X11_114 kl_140 (by decide) ti_11_54 (by decide) rfl dX11_pays_56 ?_
  refine rx_iconst (0) dX11_pays_59 rfl ?_
  refine rx_cvN (ci := 11) mo_X11_lay lk_X11_413 (c_X11_lay (a := 172) (k0 := 0) (len := 101) (Or.inl rfl) kl_172 (by omega) (by omega)) (by decide) rfl rfl (Nat.le_of_ble_eq_true rfl) kl_140 rfl dX11_pays_60 ?_
  refine rx_aload_n (i := 0) dX11_pays_63 rfl rfl ?_
  refine rx_getR 144 (k := 4) fo_X11_20 kl_140 (by decide) ti_11_4 (by decide) rfl dX11_pays_64 ?_
  refine rx_iload_n (i := 1) dX11_pays_67 rfl rfl ?_
  refine rx_iload_n (i := 2) dX11_pays_68 rfl rfl ?_
  refine rx_iastN kl_144 (by omega) (by first | decide | omega) dX11_pays_69 ?_
  refine rx_aload_n (i := 0) dX11_pays_70 rfl rfl ?_
  refine rx_iload_n (i := 1) dX11_pays_71 rfl rfl ?_
  refine rx_iload_n (i := 3) dX11_pays_72 rfl rfl ?_
  refine rx_callV (ci := 11) mo_X11_hasBehind lk_X11_420 (c_X11_hasBehind ra (td := td) (N0 := N0) oa da htd hN hi) (by decide) rfl rfl (Nat.le_of_ble_eq_true rfl) kl_140 rfl dX11_pays_73 ?_
  rintro _ N ⟨rfl, N1, hF1, eN1⟩
  rw [hbX_ag ga ka hn8 hi]
  obtain ⟨h02, hp2, hj2⟩ := hb_keep hp1 hF1 eN1 h01 hj1
  have ⟨rb, gb, kb, ob, db⟩ := hb_pre r hO h18 hi ⟨Int32.le_refl 0, hz⟩ h02
  refine rx_istore (i := 5) dX11_pays_76 (by decide) rfl rfl ?_
  refine rx_aload_n (i := 0) dX11_pays_78 rfl rfl ?_
  refine rx_getR 144 (k := 4) fo_X11_20 kl_140 (by decide) ti_11_4 (by decide) rfl dX11_pays_79 ?_
  refine rx_iload_n (i := 1) dX11_pays_82 rfl rfl ?_
  refine rx_iconst (0) dX11_pays_83 rfl ?_
  refine rx_iastN kl_144 (by omega) (by first | decide | omega) dX11_pays_84 ?_
  refine rx_aload_n (i := 0) dX11_pays_85 rfl rfl ?_
  refine rx_iload_n (i := 1) dX11_pays_86 rfl rfl ?_
  refine rx_iload_n (i := 3) dX11_pays_87 rfl rfl ?_
  refine rx_callV (ci := 11) mo_X11_hasBehind lk_X11_420 (c_X11_hasBehind rb (td := td) (N0 := N0) ob db htd hN hi) (by decide) rfl rfl (Nat.le_of_ble_eq_true rfl) kl_140 rfl dX11_pays_88 ?_
  rintro _ N' ⟨rfl, N2, hF2, eN2⟩
  rw [hbX_ag gb kb hn8 hi]
  obtain ⟨h03, hp3, hj3⟩ := hb_keep hp2 hF2 eN2 h02 hj2
  refine rx_istore (i := 6) dX11_pays_91 (by decide) rfl rfl ?_
  refine rx_aload_n (i := 0) dX11_pays_93 rfl rfl ?_
  refine rx_getR 144 (k := 4) fo_X11_20 kl_140 (by decide) ti_11_4 (by decide) rfl dX11_pays_94 ?_
  refine rx_iload_n (i := 1) dX11_pays_97 rfl rfl ?_
  refine rx_iload (i := 4) dX11_pays_98 rfl ?_
  refine rx_iastN kl_144 (by omega) (by first | decide | omega) dX11_pays_100 ?_
  refine rx_iload (i := 5) dX11_pays_101 rfl ?_
  refine rx_iload (i := 6) dX11_pays_103 rfl ?_
  refine rx_isub dX11_pays_105 ?_
  exact rx_iret dX11_pays_106 ⟨rfl, h03, (sI_na (by omega)).trans hj3.1, (sI_na (by omega)).trans hj3.2.1, hj3.2.2⟩
