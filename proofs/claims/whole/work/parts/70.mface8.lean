/-- the first of the greatest of the first i -/
def bstF (f : Nat → Int32) : Nat → Nat
  | 0 => 0
  | i + 1 => if f (bstF f i) < f i then i else bstF f i
theorem bstF_lt {f : Nat → Int32} : ∀ {i : Nat}, bstF f i = 0 ∨ bstF f i < i
  | 0 => Or.inl rfl
  | i + 1 => by
    have := bstF_lt (f := f) (i := i)
    simp only [bstF]; split <;> omega
def bSo (S : Nat → Int32) (z n m : Nat) (T : TT) (N0 : Nat) (i : Nat) : Int32 := (dsX S z n m (setT T 14 0 (nI i)) N0).2.2.2.1
theorem agD.put {T T' : TT} {n m : Nat} {x : Int32} (h : agD T T' n m) : agD (setT T 14 0 x) (setT T' 14 0 x) n m := ⟨⟨h.1.1, h.1.2.1, rfl, h.1.2.2.2.1, h.1.2.2.2.2⟩, h.2.1, h.2.2.1, h.2.2.2.1, h.2.2.2.2⟩
theorem sort_nI {i : Nat} (h : i < 4) : sortOK (nI i) := by
  unfold sortOK
  rcases (show i = 0 ∨ i = 1 ∨ i = 2 ∨ i = 3 by omega) with rfl | rfl | rfl | rfl
  · exact Or.inl rfl
  · exact Or.inr (Or.inl rfl)
  · exact Or.inr (Or.inr (Or.inl rfl))
  · exact Or.inr (Or.inr (Or.inr rfl))
theorem okD.put {T : TT} {n m : Nat} {x : Int32} (h : okD T n m) : okD (setT T 14 0 x) n m := h
theorem okD.agD {T T' : TT} {n m : Nat} (h : okD T n m) (e : agD T T' n m) (h15 : T' 15 0 = T 15 0) (h16 : T' 16 0 = T 16 0) : okD T' n m := ⟨h.1.ag e.1, h15.trans h.2.1, h16.trans h.2.2⟩
theorem dsX_ag {S : Nat → Int32} {z n m N0 : Nat} {T T' : TT} (h : agD T T' n m) (hO : okD T n m) (hn : n ≤ 8) : agS (dsX S z n m T N0) (dsX S z n m T' N0) n m := agS.days (s := (T, 0, 0, 0, 0)) (s' := (T', 0, 0, 0, 0)) ⟨h, rfl⟩ hO hn N0
theorem frB.s153 {M N : Mem} {x : Int32} (h : frB M N) : frB (setI M 153 0 x) (setI N 153 0 x) := by
  refine ⟨fun a j q r s => ?_, h.2⟩
  simp only [setI]
  split
  · rfl
  · exact h.1 a j q r s
theorem lyV_o {M N : Mem} (h : ∀ a j, (a = 141 ∨ a = 145 ∨ a = 146 ∨ a = 151 ∨ a = 152 ∨ (a = 140 ∧ j = 15)) → N.1 a j = M.1 a j) {q : Nat} : lyV N q = lyV M q := by
  unfold lyV
  rw [h 141 _ (by omega), h 145 _ (by omega), h 146 _ (by omega), h 151 _ (by omega), h 152 _ (by omega), h 140 15 (by omega)]
set_option maxRecDepth 100000 in
set_option maxHeartbeats 4000000 in
theorem l_X11_best {M : Mem} {n m : Nat} {S : Nat → Int32} {z L : Nat} (r : MR M n m S z L) {td N0 : Nat} (hO : okD (mv M) n m) (h18 : mv M 18 0 = nI td) (htd : td < 2 ^ 28) (hN : N0 ≤ 60) {QQ : Nat → List (Option Value) → List Value → Mem → Prop} {was : Int32} (K : ∀ N, frB M (setI N 153 0 (M.1 153 0)) → (∀ s, s < 4 → N.1 171 s = (bSo S z n m (mv M) N0) s) → Reach cX11_best RX11 8 176 QQ 104 [some (.ref 140), some (.int (nI N0)), some (.int was), some (.int (nI (bstF (bSo S z n m (mv M) N0) 4))), some (.int (nI 4)), none, none, none] [] N) : ∀ (N : Nat) (i : Nat) (M1 : Mem), (i ≤ 4) → (frB M (setI M1 153 0 (M.1 153 0))) → (puts M M1) → (∀ s, s < i → M1.1 171 s = (bSo S z n m (mv M) N0) s) → 4 - i < N → Reach cX11_best RX11 8 176 (QQ) 40 [some (.ref 140), some (.int (nI N0)), some (.int was), some (.int (nI (bstF (bSo S z n m (mv M) N0) i))), some (.int (nI i)), none, none, none] [] (M1) := by
  intro N
  induction N with
  | zero => intro i M1 hi hF hpu hbs hm; exact absurd ‹_ < 0› (Nat.not_lt_zero _)
  | succ N ih =>
    intro i M1 hi hF hpu hbs hm
    have ⟨⟨hn, hn8, hm, hm10, hd⟩, hk01, hs, hR, hL⟩ := r
    refine rx_iload (i := 4) dX11_best_40 rfl ?_
    refine rx_iconst (4) dX11_best_42 rfl ?_
    refine rx_icmp_ge (tgt := 104) dX11_best_43 (by decide) (fun c43 => ?_) (fun c43 => ?_)
    · skip
      have f43 := Int32.not_lt.mpr c43
      have e43 : i = 4 := by have := (nI_leI (a := 4) (by omega) (by omega)).mp c43; omega
      subst e43
      refine K M1 hF hbs
    · skip
      have f43 := Int32.not_le.mp c43
      have e43 : i < 4 := Nat.lt_of_not_le fun q => c43 (nI_le (a := 4) q (by omega))
      have hb4 : bstF (bSo S z n m (mv M) N0) i < 4 := by rcases bstF_lt (f := (bSo S z n m (mv M) N0)) (i := i) with q | q <;> omega
      have rS : MR (setI M1 153 0 (nI i)) n m S z L := by
        have e := hF.MR r
        exact ⟨e.1.keep ((sI_na (by omega)).trans (sI_na (by omega)).symm) ((sI_na (by omega)).trans (sI_na (by omega)).symm) (fun _ _ => (sI_na (by omega)).trans (sI_na (by omega)).symm) (fun _ _ => (sI_na (by omega)).trans (sI_na (by omega)).symm), e.2.1, by rw [sI_eq]; exact sort_nI e43, e.2.2.2.1, e.2.2.2.2⟩
      have hfb := hF.D (n := n) (m := m) hn8 hm10
      have hmvS : mv (setI M1 153 0 (nI i)) = setT (mv (setI M1 153 0 (M.1 153 0))) 14 0 (nI i) := by rw [← mv_153, sI_sI]
      have hOS : okD (mv (setI M1 153 0 (nI i))) n m := by
        rw [hmvS]
        exact (hO.agD hfb (hF.1 140 0 (by omega) (by omega) (by omega)) (hF.1 140 7 (by omega) (by omega) (by omega))).put
      have h18S : mv (setI M1 153 0 (nI i)) 18 0 = nI td := by rw [hmvS]; exact hfb.2.2.2.2.trans h18
      refine rx_aload_n (i := 0) dX11_best_46 rfl rfl ?_
      refine rx_getR 153 (k := 14) fo_X11_47 kl_140 (by decide) ti_11_14 (by decide) rfl dX11_best_47 ?_
      refine rx_iconst (0) dX11_best_50 rfl ?_
      refine rx_iload (i := 4) dX11_best_51 rfl ?_
      refine rx_iastN (k := 0) kl_153 (by omega) (by first | decide | omega) dX11_best_53 ?_
      refine rx_aload_n (i := 0) dX11_best_54 rfl rfl ?_
      refine rx_iload_n (i := 1) dX11_best_55 rfl rfl ?_
      refine rx_callV (ci := 11) mo_X11_goDays lk_X11_410 (c_X11_goDays rS (td := td) hOS h18S (by omega)) (by decide) rfl rfl (Nat.le_of_ble_eq_true rfl) kl_140 rfl dX11_best_56 ?_
      rintro _ N2 ⟨rfl, hD, hF2⟩
      have hag : agD (setT (mv M) 14 0 (nI i)) (mv (setI M1 153 0 (nI i))) n m := by
        have e := (hF.D (n := n) (m := m) hn8 hm10).put (x := nI i)
        rw [← mv_153 (M := setI M1 153 0 (M.1 153 0)), sI_sI] at e
        exact e
      have hds := dsX_ag (S := S) (z := z) (N0 := N0) hag hO.put hn8
      have e51 : N2.1 140 51 = bSo S z n m (mv M) N0 i := by
        rw [hD.2.2.2.1]
        exact congrArg (fun q : Int32 × Int32 × Int32 × Int32 => q.2.2.1) hds.2
      refine rx_aload_n (i := 0) dX11_best_59 rfl rfl ?_
      refine rx_getR 171 (k := 49) fo_X11_111 kl_140 (by decide) ti_11_49 (by decide) rfl dX11_best_60 ?_
      refine rx_iload (i := 4) dX11_best_63 rfl ?_
      refine rx_aload_n (i := 0) dX11_best_65 rfl rfl ?_
      refine rx_getI (k := 51) fo_X11_393 kl_140 (by decide) ti_11_51 dX11_best_66 ?_
      refine rx_top (bSo S z n m (mv M) N0 i) (e51) ?_
      refine rx_iastN kl_171 (by omega) (by first | decide | omega) dX11_best_69 ?_
      refine rx_aload_n (i := 0) dX11_best_70 rfl rfl ?_
      refine rx_getR 171 (k := 49) fo_X11_111 kl_140 (by decide) ti_11_49 (by decide) rfl dX11_best_71 ?_
      refine rx_iload (i := 4) dX11_best_74 rfl ?_
      refine rx_ialdN kl_171 (by omega) (by first | decide | omega) dX11_best_76 ?_
      refine rx_top (bSo S z n m (mv M) N0 i) (sI_eq) ?_
      refine rx_aload_n (i := 0) dX11_best_77 rfl rfl ?_
      refine rx_getR 171 (k := 49) fo_X11_111 kl_140 (by decide) ti_11_49 (by decide) rfl dX11_best_78 ?_
      refine rx_iload_n (i := 3) dX11_best_81 rfl rfl ?_
      refine rx_ialdN kl_171 (by omega) (by first | decide | omega) dX11_best_82 ?_
      refine rx_top ((bSo S z n m (mv M) N0) (bstF (bSo S z n m (mv M) N0) i)) (by
        by_cases q : bstF (bSo S z n m (mv M) N0) i = i
        · rw [q]; exact sI_eq
        · rw [sI_ne (fun z => q z.2), hF2.1 _ _ (by omega), sI_na (by omega)]
          rcases bstF_lt (f := (bSo S z n m (mv M) N0)) (i := i) with q2 | q2
          · rcases Nat.eq_zero_or_pos i with q3 | q3
            · exact absurd (q2.trans q3.symm) q
            · exact hbs _ (by omega)
          · exact hbs _ q2) ?_
      refine rx_icmp_le (tgt := 89) dX11_best_83 (by decide) (fun c83 => ?_) (fun c83 => ?_)
      · skip
        have e83 : bstF (bSo S z n m (mv M) N0) (i + 1) = bstF (bSo S z n m (mv M) N0) i := if_neg (Int32.not_lt.mpr c83)
        refine rx_aload_n (i := 0) dX11_best_89 rfl rfl ?_
        refine rx_aload_n (i := 0) dX11_best_90 rfl rfl ?_
        refine rx_getR 172 (k := 54) fo_X11_114 kl_140 (by decide) ti_11_54 (by decide) rfl dX11_best_91 ?_
        refine rx_iconst (0) dX11_best_94 rfl ?_
        refine rx_cvN (ci := 11) mo_X11_bring lk_X11_417 (c_X11_bring (a := 172) (k0 := 0) (len := 101) (Or.inl rfl) kl_172 (by omega) (by omega)) (by decide) rfl rfl (Nat.le_of_ble_eq_true rfl) kl_140 rfl dX11_best_95 ?_
        have hE : frE (setI M1 153 0 (nI i)) (setI N2 171 i (bSo S z n m (mv M) N0 i)) := ⟨fun a j q z => (sI_na (by omega)).trans (hF2.1 a j z), hF2.2⟩
        have hBK := frB_back (M := setI M 153 0 (nI i)) (M1 := setI M1 153 0 (nI i)) (fun q hq => (sI_na (by omega)).trans ((hpu q hq).trans (lyV_o (fun a j z => sI_na (by omega))).symm)) (fun a j q z s1 s2 => by
          by_cases e : a = 153 ∧ j = 0
          · rw [e.1, e.2, sI_eq, sI_eq]
          · rw [sI_ne e, sI_ne e, ← hF.1 a j q z (fun y => s2 y.1), sI_ne e]) (fun a q z => hF.2 a q z) hE
        have hF3 := hBK.1.s153 (x := M.1 153 0)
        rw [sI_sI, sI_same] at hF3
        have hpu3 : puts M (brM (setI N2 171 i (bSo S z n m (mv M) N0 i)) 172 0 101) := fun q hq => (hBK.2 q hq).trans (lyV_o (fun a j z => sI_na (by omega)))
        have hbs3 : ∀ s, s < i + 1 → (brM (setI N2 171 i (bSo S z n m (mv M) N0 i)) 172 0 101).1 171 s = bSo S z n m (mv M) N0 s := fun s hs => by
          rw [br_o (by unfold psL; rw [if_neg (by omega), if_neg (by omega), if_neg (by omega), if_neg (by omega), if_neg (by omega), if_neg (by omega)]) (by omega)]
          by_cases q : s = i
          · rw [q]; exact sI_eq
          · rw [sI_ne (fun z => q z.2), hF2.1 _ _ (by omega), sI_na (by omega)]; exact hbs s (by omega)
        first | refine rx_iincN (i := 4) dX11_best_98 rfl (by decide) rfl rfl ?_ | refine rx_iinc (i := 4) dX11_best_98 rfl rfl (by decide) rfl rfl ?_
        refine rx_goto (tgt := 40) dX11_best_101 (by decide) ?_
        have hx := ih (i + 1) _ (by omega) hF3 hpu3 hbs3 (by omega)
        rw [e83] at hx
        exact hx
      · skip
        have e83 : bstF (bSo S z n m (mv M) N0) (i + 1) = i := if_pos (Int32.not_le.mp c83)
        refine rx_iload (i := 4) dX11_best_86 rfl ?_
        refine rx_istore_n (i := 3) dX11_best_88 rfl (by decide) rfl rfl ?_
        refine rx_aload_n (i := 0) dX11_best_89 rfl rfl ?_
        refine rx_aload_n (i := 0) dX11_best_90 rfl rfl ?_
        refine rx_getR 172 (k := 54) fo_X11_114 kl_140 (by decide) ti_11_54 (by decide) rfl dX11_best_91 ?_
        refine rx_iconst (0) dX11_best_94 rfl ?_
        refine rx_cvN (ci := 11) mo_X11_bring lk_X11_417 (c_X11_bring (a := 172) (k0 := 0) (len := 101) (Or.inl rfl) kl_172 (by omega) (by omega)) (by decide) rfl rfl (Nat.le_of_ble_eq_true rfl) kl_140 rfl dX11_best_95 ?_
        have hE : frE (setI M1 153 0 (nI i)) (setI N2 171 i (bSo S z n m (mv M) N0 i)) := ⟨fun a j q z => (sI_na (by omega)).trans (hF2.1 a j z), hF2.2⟩
        have hBK := frB_back (M := setI M 153 0 (nI i)) (M1 := setI M1 153 0 (nI i)) (fun q hq => (sI_na (by omega)).trans ((hpu q hq).trans (lyV_o (fun a j z => sI_na (by omega))).symm)) (fun a j q z s1 s2 => by
          by_cases e : a = 153 ∧ j = 0
          · rw [e.1, e.2, sI_eq, sI_eq]
          · rw [sI_ne e, sI_ne e, ← hF.1 a j q z (fun y => s2 y.1), sI_ne e]) (fun a q z => hF.2 a q z) hE
        have hF3 := hBK.1.s153 (x := M.1 153 0)
        rw [sI_sI, sI_same] at hF3
        have hpu3 : puts M (brM (setI N2 171 i (bSo S z n m (mv M) N0 i)) 172 0 101) := fun q hq => (hBK.2 q hq).trans (lyV_o (fun a j z => sI_na (by omega)))
        have hbs3 : ∀ s, s < i + 1 → (brM (setI N2 171 i (bSo S z n m (mv M) N0 i)) 172 0 101).1 171 s = bSo S z n m (mv M) N0 s := fun s hs => by
          rw [br_o (by unfold psL; rw [if_neg (by omega), if_neg (by omega), if_neg (by omega), if_neg (by omega), if_neg (by omega), if_neg (by omega)]) (by omega)]
          by_cases q : s = i
          · rw [q]; exact sI_eq
          · rw [sI_ne (fun z => q z.2), hF2.1 _ _ (by omega), sI_na (by omega)]; exact hbs s (by omega)
        first | refine rx_iincN (i := 4) dX11_best_98 rfl (by decide) rfl rfl ?_ | refine rx_iinc (i := 4) dX11_best_98 rfl rfl (by decide) rfl rfl ?_
        refine rx_goto (tgt := 40) dX11_best_101 (by decide) ?_
        have hx := ih (i + 1) _ (by omega) hF3 hpu3 hbs3 (by omega)
        rw [e83] at hx
        exact hx
set_option maxRecDepth 100000 in
set_option maxHeartbeats 4000000 in
theorem c_X11_best {M : Mem} {n m : Nat} {S : Nat → Int32} {z L : Nat} (r : MR M n m S z L) {td N0 : Nat} (hO : okD (mv M) n m) (h18 : mv M 18 0 = nI td) (htd : td < 2 ^ 28) (hN : N0 ≤ 60) : Con yX11_best cX11_best 8 (some .int) 176 [.ref 140, .int (nI N0)] M (fun v N => v = some (.int (nI (bstF (bSo S z n m (mv M) N0) 4))) ∧ frB M N ∧ row4 N ((bSo S z n m (mv M) N0) 0).toInt64 ((bSo S z n m (mv M) N0) 1).toInt64 ((bSo S z n m (mv M) N0) 2).toInt64 ((bSo S z n m (mv M) N0) 3).toInt64) := by
  refine Con.of (own := RX11) (ls := [some (.ref 140), some (.int (nI N0)), none, none, none, none, none, none]) rfl (by decide +kernel) (Nat.le_of_ble_eq_true rfl) rfl ?_
  have r0 := frQ_t0.MR r
  have ⟨⟨hn, hn8, hm, hm10, hd⟩, hk01, hs, hR, hL⟩ := r
  refine rx_aload_n (i := 0) dX11_best_0 rfl rfl ?_
  refine rx_iconst (0) dX11_best_1 rfl ?_
  refine rx_putI (k := 21) fo_X11_126 fn_11_21 kl_140 (by decide) ty_11_21 dX11_best_2 ?_
  refine rx_iload_n (i := 1) dX11_best_5 rfl rfl ?_
  refine rx_i2l dX11_best_6 rfl ?_
  refine rx_lconst (0) dX11_best_7 rfl ?_
  refine rx_ldc2 (own := RX11) (v := (60)) (List.mem_of_getElem? (i := 1945) (by decide +kernel)) dX11_best_8 ?_
  refine rx_csI mo_X11_in lk_X11_135 (c_X11_in (a := (nI N0).toInt64) (b := 0) (c := 60)) (by decide) rfl rfl (Nat.le_of_ble_eq_true rfl) dX11_best_11 ?_
  refine rx_top (1) (if_pos ⟨l_0.mpr (nI_pos' (by omega)), l_60.mpr (nI_le (b := 60) (by omega) (by omega))⟩) ?_
  refine rx_if_ne (tgt := 19) dX11_best_14 (by decide) (fun c14 => ?_) (fun c14 => absurd c14 (by decide))
  refine rx_aload_n (i := 0) dX11_best_19 rfl rfl ?_
  refine rx_getR 153 (k := 14) fo_X11_47 kl_140 (by decide) ti_11_14 (by decide) rfl dX11_best_20 ?_
  refine rx_iconst (0) dX11_best_23 rfl ?_
  refine rx_ialdN (k := 0) kl_153 (by omega) (by first | decide | omega) dX11_best_24 ?_
  refine rx_top (M.1 153 0) (rfl) ?_
  refine rx_istore_n (i := 2) dX11_best_25 rfl (by decide) rfl rfl ?_
  refine rx_iconst (0) dX11_best_26 rfl ?_
  refine rx_istore_n (i := 3) dX11_best_27 rfl (by decide) rfl rfl ?_
  refine rx_aload_n (i := 0) dX11_best_28 rfl rfl ?_
  refine rx_aload_n (i := 0) dX11_best_29 rfl rfl ?_
  refine rx_getR 172 (k := 54) fo_X11_114 kl_140 (by decide) ti_11_54 (by decide) rfl dX11_best_30 ?_
  refine rx_iconst (0) dX11_best_33 rfl ?_
  refine rx_cvN (ci := 11) mo_X11_lay lk_X11_413 (c_X11_lay (a := 172) (k0 := 0) (len := 101) (Or.inl rfl) kl_172 (by omega) (by omega)) (by decide) rfl rfl (Nat.le_of_ble_eq_true rfl) kl_140 rfl dX11_best_34 ?_
  refine rx_iconst (0) dX11_best_37 rfl ?_
  refine rx_istore (i := 4) dX11_best_38 (by decide) rfl rfl ?_
  have hMV : mv (t0 M) = mv M := t0_mv
  refine l_X11_best (M := t0 M) r0 (td := td) (by rw [hMV]; exact hO) (by rw [hMV]; exact h18) htd hN (was := M.1 153 0) (fun N hFN hb4 => ?_) 5 0 (lyM (t0 M) 172 0 101) (Nat.zero_le _) ?_ lyM_puts (fun s hs => absurd hs (Nat.not_lt_zero _)) (by omega)
  rotate_left
  · have e : setI (lyM (t0 M) 172 0 101) 153 0 ((t0 M).1 153 0) = lyM (t0 M) 172 0 101 := by
      rw [show (t0 M).1 153 0 = (lyM (t0 M) 172 0 101).1 153 0 from (ly_o (by omega)).symm, sI_same]
    rw [e]
    exact frQ.B lyM_fr
  rw [hMV] at hb4 ⊢
  have hFF : frB M (setI N 153 0 (M.1 153 0)) := frQ_t0.B.trans hFN
  refine rx_aload_n (i := 0) dX11_best_104 rfl rfl ?_
  refine rx_getR 153 (k := 14) fo_X11_47 kl_140 (by decide) ti_11_14 (by decide) rfl dX11_best_105 ?_
  refine rx_iconst (0) dX11_best_108 rfl ?_
  refine rx_iload_n (i := 2) dX11_best_109 rfl rfl ?_
  refine rx_iastN (k := 0) kl_153 (by omega) (by first | decide | omega) dX11_best_110 ?_
  refine rx_aload_n (i := 0) dX11_best_111 rfl rfl ?_
  refine rx_iconst (0) dX11_best_112 rfl ?_
  refine rx_putI (k := 20) fo_X11_129 fn_11_20 kl_140 (by decide) ty_11_20 dX11_best_113 ?_
  refine rx_aload_n (i := 0) dX11_best_116 rfl rfl ?_
  refine rx_getR 171 (k := 49) fo_X11_111 kl_140 (by decide) ti_11_49 (by decide) rfl dX11_best_117 ?_
  refine rx_astore (i := 4) dX11_best_120 (by decide) rfl rfl ?_
  refine rx_aload (i := 4) dX11_best_122 rfl ?_
  refine rx_alen (ty := .int) kl_171 (by decide) dX11_best_124 ?_
  refine rx_top (4) (rfl) ?_
  refine rx_istore (i := 5) dX11_best_125 (by decide) rfl rfl ?_
  refine rx_iconst (0) dX11_best_127 rfl ?_
  refine rx_istore (i := 6) dX11_best_128 (by decide) rfl rfl ?_
  skip
  refine rx_iload (i := 6) dX11_best_130 rfl ?_
  refine rx_iload (i := 5) dX11_best_132 rfl ?_
  refine rx_icmp_ge (tgt := 157) dX11_best_134 (by decide) (fun c134 => absurd c134 (by decide)) (fun c134 => ?_)
  refine rx_aload (i := 4) dX11_best_137 rfl ?_
  refine rx_iload (i := 6) dX11_best_139 rfl ?_
  refine rx_ialdN (k := 0) kl_171 (by omega) (by first | decide | omega) dX11_best_141 ?_
  refine rx_top ((bSo S z n m (mv M) N0) 0) (hb4 0 (by omega)) ?_
  refine rx_istore (i := 7) dX11_best_142 (by decide) rfl rfl ?_
  refine rx_aload_n (i := 0) dX11_best_144 rfl rfl ?_
  refine rx_iload (i := 7) dX11_best_145 rfl ?_
  refine rx_i2l dX11_best_147 rfl ?_
  refine rx_cvN (ci := 11) mo_X11_tell lk_X11_294 (c_X11_tell (s := 0) sI_eq (by omega)) (by decide) rfl rfl (Nat.le_of_ble_eq_true rfl) kl_140 rfl dX11_best_148 ?_
  first | refine rx_iincN (i := 6) dX11_best_151 rfl (by decide) rfl rfl ?_ | refine rx_iinc (i := 6) dX11_best_151 rfl rfl (by decide) rfl rfl ?_
  refine rx_goto (tgt := 130) dX11_best_154 (by decide) ?_
  skip
  refine rx_iload (i := 6) dX11_best_130 rfl ?_
  refine rx_iload (i := 5) dX11_best_132 rfl ?_
  refine rx_icmp_ge (tgt := 157) dX11_best_134 (by decide) (fun c134 => absurd c134 (by decide)) (fun c134 => ?_)
  refine rx_aload (i := 4) dX11_best_137 rfl ?_
  refine rx_iload (i := 6) dX11_best_139 rfl ?_
  refine rx_ialdN (k := 1) kl_171 (by omega) (by first | decide | omega) dX11_best_141 ?_
  refine rx_top ((bSo S z n m (mv M) N0) 1) (hb4 1 (by omega)) ?_
  refine rx_istore (i := 7) dX11_best_142 (by decide) rfl rfl ?_
  refine rx_aload_n (i := 0) dX11_best_144 rfl rfl ?_
  refine rx_iload (i := 7) dX11_best_145 rfl ?_
  refine rx_i2l dX11_best_147 rfl ?_
  refine rx_cvN (ci := 11) mo_X11_tell lk_X11_294 (c_X11_tell (s := 1) mt_20 (by omega)) (by decide) rfl rfl (Nat.le_of_ble_eq_true rfl) kl_140 rfl dX11_best_148 ?_
  first | refine rx_iincN (i := 6) dX11_best_151 rfl (by decide) rfl rfl ?_ | refine rx_iinc (i := 6) dX11_best_151 rfl rfl (by decide) rfl rfl ?_
  refine rx_goto (tgt := 130) dX11_best_154 (by decide) ?_
  skip
  refine rx_iload (i := 6) dX11_best_130 rfl ?_
  refine rx_iload (i := 5) dX11_best_132 rfl ?_
  refine rx_icmp_ge (tgt := 157) dX11_best_134 (by decide) (fun c134 => absurd c134 (by decide)) (fun c134 => ?_)
  refine rx_aload (i := 4) dX11_best_137 rfl ?_
  refine rx_iload (i := 6) dX11_best_139 rfl ?_
  refine rx_ialdN (k := 2) kl_171 (by omega) (by first | decide | omega) dX11_best_141 ?_
  refine rx_top ((bSo S z n m (mv M) N0) 2) (hb4 2 (by omega)) ?_
  refine rx_istore (i := 7) dX11_best_142 (by decide) rfl rfl ?_
  refine rx_aload_n (i := 0) dX11_best_144 rfl rfl ?_
  refine rx_iload (i := 7) dX11_best_145 rfl ?_
  refine rx_i2l dX11_best_147 rfl ?_
  refine rx_cvN (ci := 11) mo_X11_tell lk_X11_294 (c_X11_tell (s := 2) mt_20 (by omega)) (by decide) rfl rfl (Nat.le_of_ble_eq_true rfl) kl_140 rfl dX11_best_148 ?_
  first | refine rx_iincN (i := 6) dX11_best_151 rfl (by decide) rfl rfl ?_ | refine rx_iinc (i := 6) dX11_best_151 rfl rfl (by decide) rfl rfl ?_
  refine rx_goto (tgt := 130) dX11_best_154 (by decide) ?_
  skip
  refine rx_iload (i := 6) dX11_best_130 rfl ?_
  refine rx_iload (i := 5) dX11_best_132 rfl ?_
  refine rx_icmp_ge (tgt := 157) dX11_best_134 (by decide) (fun c134 => absurd c134 (by decide)) (fun c134 => ?_)
  refine rx_aload (i := 4) dX11_best_137 rfl ?_
  refine rx_iload (i := 6) dX11_best_139 rfl ?_
  refine rx_ialdN (k := 3) kl_171 (by omega) (by first | decide | omega) dX11_best_141 ?_
  refine rx_top ((bSo S z n m (mv M) N0) 3) (hb4 3 (by omega)) ?_
  refine rx_istore (i := 7) dX11_best_142 (by decide) rfl rfl ?_
  refine rx_aload_n (i := 0) dX11_best_144 rfl rfl ?_
  refine rx_iload (i := 7) dX11_best_145 rfl ?_
  refine rx_i2l dX11_best_147 rfl ?_
  refine rx_cvN (ci := 11) mo_X11_tell lk_X11_294 (c_X11_tell (s := 3) mt_20 (by omega)) (by decide) rfl rfl (Nat.le_of_ble_eq_true rfl) kl_140 rfl dX11_best_148 ?_
  first | refine rx_iincN (i := 6) dX11_best_151 rfl (by decide) rfl rfl ?_ | refine rx_iinc (i := 6) dX11_best_151 rfl rfl (by decide) rfl rfl ?_
  refine rx_goto (tgt := 130) dX11_best_154 (by decide) ?_
  skip
  refine rx_iload (i := 6) dX11_best_130 rfl ?_
  refine rx_iload (i := 5) dX11_best_132 rfl ?_
  refine rx_icmp_ge (tgt := 157) dX11_best_134 (by decide) (fun c134 => ?_) (fun c134 => absurd c134 (by decide))
  refine rx_iload_n (i := 3) dX11_best_157 rfl rfl ?_
  exact rx_iret dX11_best_158 ⟨rfl, hFF.trans (frQ.B ((frQ_I (by omega)).trans (frQ_mt.trans (frQ_mt.trans (frQ_mt.trans frQ_mt))))), mt_row4⟩
set_option maxRecDepth 100000 in
set_option maxHeartbeats 4000000 in
theorem c_X11_best_no {M : Mem} {x : Int32} (hx : ¬ (0 ≤ x ∧ x ≤ 60)) : Fun yX11_best cX11_best 8 (some .int) 176 [.ref 140, .int x] M (some (.int (-1))) (t0 M) := by
  refine Fun.of (own := RX11) ([some (.ref 140), some (.int x), none, none, none, none, none, none]) rfl (by decide +kernel) (Nat.le_of_ble_eq_true rfl) rfl ?_
  refine rx_aload_n (i := 0) dX11_best_0 rfl rfl ?_
  refine rx_iconst (0) dX11_best_1 rfl ?_
  refine rx_putI (k := 21) fo_X11_126 fn_11_21 kl_140 (by decide) ty_11_21 dX11_best_2 ?_
  refine rx_iload_n (i := 1) dX11_best_5 rfl rfl ?_
  refine rx_i2l dX11_best_6 rfl ?_
  refine rx_lconst (0) dX11_best_7 rfl ?_
  refine rx_ldc2 (own := RX11) (v := (60)) (List.mem_of_getElem? (i := 1945) (by decide +kernel)) dX11_best_8 ?_
  refine rx_csI mo_X11_in lk_X11_135 (c_X11_in (a := x.toInt64) (b := 0) (c := 60)) (by decide) rfl rfl (Nat.le_of_ble_eq_true rfl) dX11_best_11 ?_
  refine rx_if_ne (tgt := 19) dX11_best_14 (by decide) (fun c14 => ?_) (fun c14 => ?_)
  · skip
    exact absurd ⟨l_0.mp (ite1n c14).1, l_60.mp (ite1n c14).2⟩ hx
    skip
  · skip
    refine rx_iconst (-1) dX11_best_17 rfl ?_
    exact rx_fiI dX11_best_18 rfl rfl
