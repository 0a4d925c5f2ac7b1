/-- all states by a sort; whether they fit; how many debts at most -/
def vsS (T : TT) (n m : Nat) (x : Int32) (j : Nat) : Bool × SS := (vis (setT T 14 0 (nI j)) n m (thV T m x)).1
def mpS (T : TT) (n m : Nat) (x : Int32) (j : Nat) : Int32 := mxI (fun s => bcnt ((vsS T n m x j).2.mk s)) (vsS T n m x j).2.N
theorem frK_I {M : Mem} {a j : Nat} {x : Int32} (h : 159 ≤ a ∧ a ≤ 172) : frK M (setI M a j x) := ⟨frQ_I (by omega), sI_na (by omega), rfl⟩
theorem frK_s {M N : Mem} {x : Int32} (h : frK M N) : frK (setI M 153 0 x) (setI N 153 0 x) := by
  refine ⟨⟨fun a j q r => ?_, h.1.2⟩, ?_, h.2.2⟩
  · simp only [setI]
    split
    · rfl
    · exact h.1.1 a j q r
  · rw [sI_na (by omega), sI_na (by omega)]; exact h.2.1
set_option maxRecDepth 100000 in
set_option maxHeartbeats 4000000 in
theorem l_sorts {M : Mem} {n m : Nat} {x : Int32} (w : MW M n m) (hO : OKS (mv M) n m) (hA : AOK (mv M) n) (K : ∀ N, frK M (setI N 153 0 (M.1 153 0)) → (∀ s, s < 4 → N.1 171 s = mpS (mv M) n m x s) → (∀ j, j < 4 → (vsS (mv M) n m x j).1 = true) → Reach cX11_sorts RX11 9 5 (RetQ cX11_sorts (some .int) (fun v N => ((∀ j, j < 4 → (vsS (mv M) n m x j).1 = true) ∧ v = some (.int (nI (bstF (mpS (mv M) n m x) 4))) ∧ frQ M N ∧ row4 N (mpS (mv M) n m x 0).toInt64 (mpS (mv M) n m x 1).toInt64 (mpS (mv M) n m x 2).toInt64 (mpS (mv M) n m x 3).toInt64) ∨ ((∃ j, j < 4 ∧ (vsS (mv M) n m x j).1 = false) ∧ v = some (.int (-3)) ∧ frK M N))) 91 [some (.ref 140), some (.int x), some (.int (M.1 153 0)), some (.int 1), some (.int (nI (bstF (mpS (mv M) n m x) 4))), none, none, none, none] [] N) : ∀ (N : Nat) (i : Nat) (N1 : Mem), (i ≤ 4) → (frK M (setI N1 153 0 (M.1 153 0))) → (∀ s, s < i → N1.1 171 s = mpS (mv M) n m x s) → (∀ j, j < i → (vsS (mv M) n m x j).1 = true) → 4 - i < N → Reach cX11_sorts RX11 9 5 (RetQ cX11_sorts (some .int) (fun v N => ((∀ j, j < 4 → (vsS (mv M) n m x j).1 = true) ∧ v = some (.int (nI (bstF (mpS (mv M) n m x) 4))) ∧ frQ M N ∧ row4 N (mpS (mv M) n m x 0).toInt64 (mpS (mv M) n m x 1).toInt64 (mpS (mv M) n m x 2).toInt64 (mpS (mv M) n m x 3).toInt64) ∨ ((∃ j, j < 4 ∧ (vsS (mv M) n m x j).1 = false) ∧ v = some (.int (-3)) ∧ frK M N))) 29 [some (.ref 140), some (.int x), some (.int (M.1 153 0)), some (.int 1), some (.int (nI (bstF (mpS (mv M) n m x) i))), some (.int (nI i)), none, none, none] [] (N1) := by
  intro N
  induction N with
  | zero => intro i N1 hi hF hbs hoks hm; exact absurd ‹_ < 0› (Nat.not_lt_zero _)
  | succ N ih =>
    intro i N1 hi hF hbs hoks hm
    have ⟨hn, hn8, hm, hm10, hd⟩ := w
    have mvS : mv (setI N1 153 0 (nI i)) = setT (mv M) 14 0 (nI i) := by
      have e : mv (setI N1 153 0 (M.1 153 0)) = mv M := hF.1.mv
      rw [← e, ← mv_153, sI_sI]
    have wS : MW (setI N1 153 0 (nI i)) n m := by
      have e := hF.1.MW w
      exact e.keep ((sI_na (by omega)).trans (sI_na (by omega)).symm) ((sI_na (by omega)).trans (sI_na (by omega)).symm) (fun _ _ => (sI_na (by omega)).trans (sI_na (by omega)).symm) (fun _ _ => (sI_na (by omega)).trans (sI_na (by omega)).symm)
    have hOS : OKS (mv (setI N1 153 0 (nI i))) n m := by rw [mvS]; exact hO
    have hAS : AOK (mv (setI N1 153 0 (nI i))) n := by rw [mvS]; exact hA
    refine rx_iload (i := 5) dX11_sorts_29 rfl ?_
    refine rx_iconst (4) dX11_sorts_31 rfl ?_
    refine rx_icmp_ge (tgt := 91) dX11_sorts_32 (by decide) (fun c32 => ?_) (fun c32 => ?_)
    · skip
      have e32 : i = 4 := by have := (nI_leI (a := 4) (by omega) (by omega)).mp c32; omega
      subst e32
      refine rx_drop 5 ?_
      exact K N1 hF hbs hoks
      skip
    · skip
      have e32 : i < 4 := Nat.lt_of_not_le fun z => c32 (nI_le (a := 4) z (by omega))
      refine rx_iload_n (i := 3) dX11_sorts_35 rfl rfl ?_
      refine rx_if_eq (tgt := 91) dX11_sorts_36 (by decide) (fun c36 => absurd c36 (by decide)) (fun c36 => ?_)
      refine rx_aload_n (i := 0) dX11_sorts_39 rfl rfl ?_
      refine rx_getR 153 (k := 14) fo_X11_47 kl_140 (by decide) ti_11_14 (by decide) rfl dX11_sorts_40 ?_
      refine rx_iconst (0) dX11_sorts_43 rfl ?_
      refine rx_iload (i := 5) dX11_sorts_44 rfl ?_
      refine rx_iastN (k := 0) kl_153 (by omega) (by first | decide | omega) dX11_sorts_46 ?_
      refine rx_aload_n (i := 0) dX11_sorts_47 rfl rfl ?_
      refine rx_iload_n (i := 1) dX11_sorts_48 rfl rfl ?_
      refine rx_callV (ci := 11) mo_X11_findStates lk_X11_358 (c_X11_findStates (x := x) wS (by rw [sI_eq]; exact sort_nI e32) hOS hAS) (by decide) rfl rfl (Nat.le_of_ble_eq_true rfl) kl_140 rfl dX11_sorts_49 ?_
      rintro _ N3 ⟨rfl, hK, -, ⟨h171, W, hW1, hW2⟩, hFS⟩
      rw [mvS] at hFS ⊢
      have eok : (vis (setT (mv M) 14 0 (nI i)) n m (thV (setT (mv M) 14 0 (nI i)) m x)).1 = vsS (mv M) n m x i := rfl
      rw [eok] at hFS ⊢
      have hb4 : bstF (mpS (mv M) n m x) i < 4 := by rcases bstF_lt (f := mpS (mv M) n m x) (i := i) with q | q <;> omega
      have hKs := frK_s (x := M.1 153 0) hK
      rw [sI_sI] at hKs
      have hK3 := hF.trans hKs
      have h3b : ∀ s, s < i → N3.1 171 s = N1.1 171 s := fun s _ => (congrFun h171 s).trans (sI_na (by omega))
      cases hok : (vsS (mv M) n m x i).1
      · skip
        skip
        refine rx_istore_n (i := 3) dX11_sorts_52 rfl (by decide) rfl rfl ?_
        refine rx_aload_n (i := 0) dX11_sorts_53 rfl rfl ?_
        refine rx_getR 171 (k := 49) fo_X11_111 kl_140 (by decide) ti_11_49 (by decide) rfl dX11_sorts_54 ?_
        refine rx_iload (i := 5) dX11_sorts_57 rfl ?_
        refine rx_aload_n (i := 0) dX11_sorts_59 rfl rfl ?_
        refine rx_cvI (ci := 11) mo_X11_mostPaid lk_X11_364 (c_X11_mostPaid hW1 hW2) (by decide) rfl rfl (Nat.le_of_ble_eq_true rfl) kl_140 rfl dX11_sorts_60 ?_
        refine rx_iastN kl_171 (by omega) (by first | decide | omega) dX11_sorts_63 ?_
        refine rx_aload_n (i := 0) dX11_sorts_64 rfl rfl ?_
        refine rx_getR 171 (k := 49) fo_X11_111 kl_140 (by decide) ti_11_49 (by decide) rfl dX11_sorts_65 ?_
        refine rx_iload (i := 5) dX11_sorts_68 rfl ?_
        refine rx_ialdN kl_171 (by omega) (by first | decide | omega) dX11_sorts_70 ?_
        refine rx_top (mxI (fun q => bcnt (N3.1 159 q)) W) (sI_eq) ?_
        refine rx_aload_n (i := 0) dX11_sorts_71 rfl rfl ?_
        refine rx_getR 171 (k := 49) fo_X11_111 kl_140 (by decide) ti_11_49 (by decide) rfl dX11_sorts_72 ?_
        refine rx_iload (i := 4) dX11_sorts_75 rfl ?_
        refine rx_ialdN kl_171 (by omega) (by first | decide | omega) dX11_sorts_77 ?_
        refine rx_icmp_le (tgt := 85) dX11_sorts_78 (by decide) (fun c78 => ?_) (fun c78 => ?_)
        · skip
          have f78 := Int32.not_lt.mpr c78
          first | refine rx_iincN (i := 5) dX11_sorts_85 rfl (by decide) rfl rfl ?_ | refine rx_iinc (i := 5) dX11_sorts_85 rfl rfl (by decide) rfl rfl ?_
          refine rx_goto (tgt := 29) dX11_sorts_88 (by decide) ?_
          refine rx_iload (i := 5) dX11_sorts_29 rfl ?_
          refine rx_iconst (4) dX11_sorts_31 rfl ?_
          refine rx_icmp_ge (tgt := 91) dX11_sorts_32 (by decide) (fun c32 => ?_) (fun c32 => ?_)
          · skip
            have f32 := Int32.not_lt.mpr c32
            refine rx_aload_n (i := 0) dX11_sorts_91 rfl rfl ?_
            refine rx_getR 153 (k := 14) fo_X11_47 kl_140 (by decide) ti_11_14 (by decide) rfl dX11_sorts_92 ?_
            refine rx_iconst (0) dX11_sorts_95 rfl ?_
            refine rx_iload_n (i := 2) dX11_sorts_96 rfl rfl ?_
            refine rx_iastN (k := 0) kl_153 (by omega) (by first | decide | omega) dX11_sorts_97 ?_
            refine rx_iload_n (i := 3) dX11_sorts_98 rfl rfl ?_
            refine rx_if_ne (tgt := 105) dX11_sorts_99 (by decide) (fun c99 => absurd c99 (by decide)) (fun c99 => ?_)
            refine rx_bipush (-3) dX11_sorts_102 rfl ?_
            exact rx_iret dX11_sorts_104 (Or.inr ⟨⟨i, e32, hok⟩, rfl, hK3.trans (frK_s (frK_I (by omega)))⟩)
          · skip
            have f32 := Int32.not_le.mp c32
            refine rx_iload_n (i := 3) dX11_sorts_35 rfl rfl ?_
            refine rx_if_eq (tgt := 91) dX11_sorts_36 (by decide) (fun c36 => ?_) (fun c36 => absurd c36 (by decide))
            refine rx_aload_n (i := 0) dX11_sorts_91 rfl rfl ?_
            refine rx_getR 153 (k := 14) fo_X11_47 kl_140 (by decide) ti_11_14 (by decide) rfl dX11_sorts_92 ?_
            refine rx_iconst (0) dX11_sorts_95 rfl ?_
            refine rx_iload_n (i := 2) dX11_sorts_96 rfl rfl ?_
            refine rx_iastN (k := 0) kl_153 (by omega) (by first | decide | omega) dX11_sorts_97 ?_
            refine rx_iload_n (i := 3) dX11_sorts_98 rfl rfl ?_
            refine rx_if_ne (tgt := 105) dX11_sorts_99 (by decide) (fun c99 => absurd c99 (by decide)) (fun c99 => ?_)
            refine rx_bipush (-3) dX11_sorts_102 rfl ?_
            exact rx_iret dX11_sorts_104 (Or.inr ⟨⟨i, e32, hok⟩, rfl, hK3.trans (frK_s (frK_I (by omega)))⟩)
        · skip
          have f78 := Int32.not_le.mp c78
          refine rx_iload (i := 5) dX11_sorts_81 rfl ?_
          refine rx_istore (i := 4) dX11_sorts_83 (by decide) rfl rfl ?_
          first | refine rx_iincN (i := 5) dX11_sorts_85 rfl (by decide) rfl rfl ?_ | refine rx_iinc (i := 5) dX11_sorts_85 rfl rfl (by decide) rfl rfl ?_
          refine rx_goto (tgt := 29) dX11_sorts_88 (by decide) ?_
          refine rx_iload (i := 5) dX11_sorts_29 rfl ?_
          refine rx_iconst (4) dX11_sorts_31 rfl ?_
          refine rx_icmp_ge (tgt := 91) dX11_sorts_32 (by decide) (fun c32 => ?_) (fun c32 => ?_)
          · skip
            have f32 := Int32.not_lt.mpr c32
            refine rx_aload_n (i := 0) dX11_sorts_91 rfl rfl ?_
            refine rx_getR 153 (k := 14) fo_X11_47 kl_140 (by decide) ti_11_14 (by decide) rfl dX11_sorts_92 ?_
            refine rx_iconst (0) dX11_sorts_95 rfl ?_
            refine rx_iload_n (i := 2) dX11_sorts_96 rfl rfl ?_
            refine rx_iastN (k := 0) kl_153 (by omega) (by first | decide | omega) dX11_sorts_97 ?_
            refine rx_iload_n (i := 3) dX11_sorts_98 rfl rfl ?_
            refine rx_if_ne (tgt := 105) dX11_sorts_99 (by decide) (fun c99 => absurd c99 (by decide)) (fun c99 => ?_)
            refine rx_bipush (-3) dX11_sorts_102 rfl ?_
            exact rx_iret dX11_sorts_104 (Or.inr ⟨⟨i, e32, hok⟩, rfl, hK3.trans (frK_s (frK_I (by omega)))⟩)
          · skip
            have f32 := Int32.not_le.mp c32
            refine rx_iload_n (i := 3) dX11_sorts_35 rfl rfl ?_
            refine rx_if_eq (tgt := 91) dX11_sorts_36 (by decide) (fun c36 => ?_) (fun c36 => absurd c36 (by decide))
            refine rx_aload_n (i := 0) dX11_sorts_91 rfl rfl ?_
            refine rx_getR 153 (k := 14) fo_X11_47 kl_140 (by decide) ti_11_14 (by decide) rfl dX11_sorts_92 ?_
            refine rx_iconst (0) dX11_sorts_95 rfl ?_
            refine rx_iload_n (i := 2) dX11_sorts_96 rfl rfl ?_
            refine rx_iastN (k := 0) kl_153 (by omega) (by first | decide | omega) dX11_sorts_97 ?_
            refine rx_iload_n (i := 3) dX11_sorts_98 rfl rfl ?_
            refine rx_if_ne (tgt := 105) dX11_sorts_99 (by decide) (fun c99 => absurd c99 (by decide)) (fun c99 => ?_)
            refine rx_bipush (-3) dX11_sorts_102 rfl ?_
            exact rx_iret dX11_sorts_104 (Or.inr ⟨⟨i, e32, hok⟩, rfl, hK3.trans (frK_s (frK_I (by omega)))⟩)
      · skip
        obtain ⟨D, rk, Wn, hFF⟩ := hFS hok
        have eW : W = (vsS (mv M) n m x i).2.N := (nI_eq (by omega) (by have := (repM_N hFF.2.1).2; omega)).mp (hW1.symm.trans (repM_N hFF.2.1).1)
        have emp : mxI (fun q => bcnt (N3.1 159 q)) W = mpS (mv M) n m x i := by
          rw [eW]; exact mxI_congr fun q hq => by rw [(repM_s hFF.2.1 hq).1]
        refine rx_istore_n (i := 3) dX11_sorts_52 rfl (by decide) rfl rfl ?_
        refine rx_aload_n (i := 0) dX11_sorts_53 rfl rfl ?_
        refine rx_getR 171 (k := 49) fo_X11_111 kl_140 (by decide) ti_11_49 (by decide) rfl dX11_sorts_54 ?_
        refine rx_iload (i := 5) dX11_sorts_57 rfl ?_
        refine rx_aload_n (i := 0) dX11_sorts_59 rfl rfl ?_
        refine rx_cvI (ci := 11) mo_X11_mostPaid lk_X11_364 (c_X11_mostPaid hW1 hW2) (by decide) rfl rfl (Nat.le_of_ble_eq_true rfl) kl_140 rfl dX11_sorts_60 ?_
        refine rx_top (mpS (mv M) n m x i) (emp) ?_
        refine rx_iastN kl_171 (by omega) (by first | decide | omega) dX11_sorts_63 ?_
        refine rx_aload_n (i := 0) dX11_sorts_64 rfl rfl ?_
        refine rx_getR 171 (k := 49) fo_X11_111 kl_140 (by decide) ti_11_49 (by decide) rfl dX11_sorts_65 ?_
        refine rx_iload (i := 5) dX11_sorts_68 rfl ?_
        refine rx_ialdN kl_171 (by omega) (by first | decide | omega) dX11_sorts_70 ?_
        refine rx_top (mpS (mv M) n m x i) (sI_eq) ?_
        refine rx_aload_n (i := 0) dX11_sorts_71 rfl rfl ?_
        refine rx_getR 171 (k := 49) fo_X11_111 kl_140 (by decide) ti_11_49 (by decide) rfl dX11_sorts_72 ?_
        refine rx_iload (i := 4) dX11_sorts_75 rfl ?_
        refine rx_ialdN kl_171 (by omega) (by first | decide | omega) dX11_sorts_77 ?_
        refine rx_top (mpS (mv M) n m x (bstF (mpS (mv M) n m x) i)) (by
          by_cases q : bstF (mpS (mv M) n m x) i = i
          · rw [q]; exact sI_eq
          · rw [sI_ne (fun z => q z.2)]
            rcases bstF_lt (f := mpS (mv M) n m x) (i := i) with q2 | q2
            · rcases Nat.eq_zero_or_pos i with q3 | q3
              · exact absurd (q2.trans q3.symm) q
              · exact (h3b _ (by omega)).trans (hbs _ (by omega))
            · exact (h3b _ q2).trans (hbs _ q2)) ?_
        refine rx_icmp_le (tgt := 85) dX11_sorts_78 (by decide) (fun c78 => ?_) (fun c78 => ?_)
        · skip
          have e78 : bstF (mpS (mv M) n m x) (i + 1) = bstF (mpS (mv M) n m x) i := if_neg (Int32.not_lt.mpr c78)
          first | refine rx_iincN (i := 5) dX11_sorts_85 rfl (by decide) rfl rfl ?_ | refine rx_iinc (i := 5) dX11_sorts_85 rfl rfl (by decide) rfl rfl ?_
          refine rx_goto (tgt := 29) dX11_sorts_88 (by decide) ?_
          have hx := ih (i + 1) (setI N3 171 i (mpS (mv M) n m x i)) (by omega) (hK3.trans (frK_s (frK_I (by omega)))) (fun s hs => by
            by_cases z : s = i
            · rw [z]; exact sI_eq
            · rw [sI_ne (fun y => z y.2), h3b s (by omega)]; exact hbs s (by omega)) (fun j hj => by
            by_cases z : j = i
            · rw [z]; exact hok
            · exact hoks j (by omega)) (by omega)
          rw [e78] at hx
          exact hx
        · skip
          have e78 : bstF (mpS (mv M) n m x) (i + 1) = i := if_pos (Int32.not_le.mp c78)
          refine rx_iload (i := 5) dX11_sorts_81 rfl ?_
          refine rx_istore (i := 4) dX11_sorts_83 (by decide) rfl rfl ?_
          first | refine rx_iincN (i := 5) dX11_sorts_85 rfl (by decide) rfl rfl ?_ | refine rx_iinc (i := 5) dX11_sorts_85 rfl rfl (by decide) rfl rfl ?_
          refine rx_goto (tgt := 29) dX11_sorts_88 (by decide) ?_
          have hx := ih (i + 1) (setI N3 171 i (mpS (mv M) n m x i)) (by omega) (hK3.trans (frK_s (frK_I (by omega)))) (fun s hs => by
            by_cases z : s = i
            · rw [z]; exact sI_eq
            · rw [sI_ne (fun y => z y.2), h3b s (by omega)]; exact hbs s (by omega)) (fun j hj => by
            by_cases z : j = i
            · rw [z]; exact hok
            · exact hoks j (by omega)) (by omega)
          rw [e78] at hx
          exact hx
set_option maxRecDepth 100000 in
set_option maxHeartbeats 4000000 in
theorem c_X11_sorts {M : Mem} {n m : Nat} {x : Int32} (w : MW M n m) (hO : OKS (mv M) n m) (hA : AOK (mv M) n) (hx : 0 ≤ x ∧ x ≤ 99) : Con yX11_sorts cX11_sorts 9 (some .int) 5 [.ref 140, .int x] M (fun v N => ((∀ j, j < 4 → (vsS (mv M) n m x j).1 = true) ∧ v = some (.int (nI (bstF (mpS (mv M) n m x) 4))) ∧ frQ M N ∧ row4 N (mpS (mv M) n m x 0).toInt64 (mpS (mv M) n m x 1).toInt64 (mpS (mv M) n m x 2).toInt64 (mpS (mv M) n m x 3).toInt64) ∨ ((∃ j, j < 4 ∧ (vsS (mv M) n m x j).1 = false) ∧ v = some (.int (-3)) ∧ frK M N)) := by
  refine Con.of (own := RX11) (ls := [some (.ref 140), some (.int x), none, none, none, none, none, none, none]) rfl (by decide +kernel) (Nat.le_of_ble_eq_true rfl) rfl ?_
  have w0 := w.t0
  have ⟨hn, hn8, hm, hm10, hd⟩ := w
  refine rx_aload_n (i := 0) dX11_sorts_0 rfl rfl ?_
  refine rx_iconst (0) dX11_sorts_1 rfl ?_
  refine rx_putI (k := 21) fo_X11_126 fn_11_21 kl_140 (by decide) ty_11_21 dX11_sorts_2 ?_
  refine rx_iload_n (i := 1) dX11_sorts_5 rfl rfl ?_
  refine rx_csI mo_X11_isDay lk_X11_355 c_X11_isDay (by decide) rfl rfl (Nat.le_of_ble_eq_true rfl) dX11_sorts_6 ?_
  refine rx_top (1) (if_pos hx) ?_
  refine rx_if_ne (tgt := 14) dX11_sorts_9 (by decide) (fun c9 => ?_) (fun c9 => absurd c9 (by decide))
  refine rx_aload_n (i := 0) dX11_sorts_14 rfl rfl ?_
  refine rx_getR 153 (k := 14) fo_X11_47 kl_140 (by decide) ti_11_14 (by decide) rfl dX11_sorts_15 ?_
  refine rx_iconst (0) dX11_sorts_18 rfl ?_
  refine rx_ialdN (k := 0) kl_153 (by omega) (by first | decide | omega) dX11_sorts_19 ?_
  refine rx_top (M.1 153 0) (rfl) ?_
  refine rx_istore_n (i := 2) dX11_sorts_20 rfl (by decide) rfl rfl ?_
  refine rx_iconst (1) dX11_sorts_21 rfl ?_
  refine rx_istore_n (i := 3) dX11_sorts_22 rfl (by decide) rfl rfl ?_
  refine rx_iconst (0) dX11_sorts_23 rfl ?_
  refine rx_istore (i := 4) dX11_sorts_24 (by decide) rfl rfl ?_
  refine rx_iconst (0) dX11_sorts_26 rfl ?_
  refine rx_istore (i := 5) dX11_sorts_27 (by decide) rfl rfl ?_
  have hMV : mv (t0 M) = mv M := t0_mv
  have hKK : ∀ N, frK (t0 M) (setI N 153 0 ((t0 M).1 153 0)) → (∀ s, s < 4 → N.1 171 s = mpS (mv (t0 M)) n m x s) → (∀ j, j < 4 → (vsS (mv (t0 M)) n m x j).1 = true) → Reach cX11_sorts RX11 9 5 (RetQ cX11_sorts (some .int) (fun v N => ((∀ j, j < 4 → (vsS (mv (t0 M)) n m x j).1 = true) ∧ v = some (.int (nI (bstF (mpS (mv (t0 M)) n m x) 4))) ∧ frQ (t0 M) N ∧ row4 N (mpS (mv (t0 M)) n m x 0).toInt64 (mpS (mv (t0 M)) n m x 1).toInt64 (mpS (mv (t0 M)) n m x 2).toInt64 (mpS (mv (t0 M)) n m x 3).toInt64) ∨ ((∃ j, j < 4 ∧ (vsS (mv (t0 M)) n m x j).1 = false) ∧ v = some (.int (-3)) ∧ frK (t0 M) N))) 91 [some (.ref 140), some (.int x), some (.int ((t0 M).1 153 0)), some (.int 1), some (.int (nI (bstF (mpS (mv (t0 M)) n m x) 4))), none, none, none, none] [] N := fun N hFF h4 hoks => by
    refine rx_aload_n (i := 0) dX11_sorts_91 rfl rfl ?_
    refine rx_getR 153 (k := 14) fo_X11_47 kl_140 (by decide) ti_11_14 (by decide) rfl dX11_sorts_92 ?_
    refine rx_iconst (0) dX11_sorts_95 rfl ?_
    refine rx_iload_n (i := 2) dX11_sorts_96 rfl rfl ?_
    refine rx_iastN (k := 0) kl_153 (by omega) (by first | decide | omega) dX11_sorts_97 ?_
    refine rx_iload_n (i := 3) dX11_sorts_98 rfl rfl ?_
    refine rx_if_ne (tgt := 105) dX11_sorts_99 (by decide) (fun c99 => ?_) (fun c99 => absurd c99 (by decide))
    refine rx_aload_n (i := 0) dX11_sorts_105 rfl rfl ?_
    refine rx_iconst (0) dX11_sorts_106 rfl ?_
    refine rx_putI (k := 20) fo_X11_129 fn_11_20 kl_140 (by decide) ty_11_20 dX11_sorts_107 ?_
    refine rx_aload_n (i := 0) dX11_sorts_110 rfl rfl ?_
    refine rx_getR 171 (k := 49) fo_X11_111 kl_140 (by decide) ti_11_49 (by decide) rfl dX11_sorts_111 ?_
    refine rx_astore (i := 5) dX11_sorts_114 (by decide) rfl rfl ?_
    refine rx_aload (i := 5) dX11_sorts_116 rfl ?_
    refine rx_alen (ty := .int) kl_171 (by decide) dX11_sorts_118 ?_
    refine rx_top (4) (rfl) ?_
    refine rx_istore (i := 6) dX11_sorts_119 (by decide) rfl rfl ?_
    refine rx_iconst (0) dX11_sorts_121 rfl ?_
    refine rx_istore (i := 7) dX11_sorts_122 (by decide) rfl rfl ?_
    refine rx_iload (i := 7) dX11_sorts_124 rfl ?_
    refine rx_iload (i := 6) dX11_sorts_126 rfl ?_
    refine rx_icmp_ge (tgt := 151) dX11_sorts_128 (by decide) (fun c128 => absurd c128 (by decide)) (fun c128 => ?_)
    refine rx_aload (i := 5) dX11_sorts_131 rfl ?_
    refine rx_iload (i := 7) dX11_sorts_133 rfl ?_
    refine rx_ialdN (k := 0) kl_171 (by omega) (by first | decide | omega) dX11_sorts_135 ?_
    refine rx_top (mpS (mv (t0 M)) n m x 0) (h4 0 (by omega)) ?_
    refine rx_istore (i := 8) dX11_sorts_136 (by decide) rfl rfl ?_
    refine rx_aload_n (i := 0) dX11_sorts_138 rfl rfl ?_
    refine rx_iload (i := 8) dX11_sorts_139 rfl ?_
    refine rx_i2l dX11_sorts_141 rfl ?_
    refine rx_cvN (ci := 11) mo_X11_tell lk_X11_294 (c_X11_tell (s := 0) sI_eq (by omega)) (by decide) rfl rfl (Nat.le_of_ble_eq_true rfl) kl_140 rfl dX11_sorts_142 ?_
    first | refine rx_iincN (i := 7) dX11_sorts_145 rfl (by decide) rfl rfl ?_ | refine rx_iinc (i := 7) dX11_sorts_145 rfl rfl (by decide) rfl rfl ?_
    refine rx_goto (tgt := 124) dX11_sorts_148 (by decide) ?_
    refine rx_iload (i := 7) dX11_sorts_124 rfl ?_
    refine rx_iload (i := 6) dX11_sorts_126 rfl ?_
    refine rx_icmp_ge (tgt := 151) dX11_sorts_128 (by decide) (fun c128 => absurd c128 (by decide)) (fun c128 => ?_)
    refine rx_aload (i := 5) dX11_sorts_131 rfl ?_
    refine rx_iload (i := 7) dX11_sorts_133 rfl ?_
    refine rx_ialdN (k := 1) kl_171 (by omega) (by first | decide | omega) dX11_sorts_135 ?_
    refine rx_top (mpS (mv (t0 M)) n m x 1) (h4 1 (by omega)) ?_
    refine rx_istore (i := 8) dX11_sorts_136 (by decide) rfl rfl ?_
    refine rx_aload_n (i := 0) dX11_sorts_138 rfl rfl ?_
    refine rx_iload (i := 8) dX11_sorts_139 rfl ?_
    refine rx_i2l dX11_sorts_141 rfl ?_
    refine rx_cvN (ci := 11) mo_X11_tell lk_X11_294 (c_X11_tell (s := 1) mt_20 (by omega)) (by decide) rfl rfl (Nat.le_of_ble_eq_true rfl) kl_140 rfl dX11_sorts_142 ?_
    first | refine rx_iincN (i := 7) dX11_sorts_145 rfl (by decide) rfl rfl ?_ | refine rx_iinc (i := 7) dX11_sorts_145 rfl rfl (by decide) rfl rfl ?_
    refine rx_goto (tgt := 124) dX11_sorts_148 (by decide) ?_
    refine rx_iload (i := 7) dX11_sorts_124 rfl ?_
    refine rx_iload (i := 6) dX11_sorts_126 rfl ?_
    refine rx_icmp_ge (tgt := 151) dX11_sorts_128 (by decide) (fun c128 => absurd c128 (by decide)) (fun c128 => ?_)
    refine rx_aload (i := 5) dX11_sorts_131 rfl ?_
    refine rx_iload (i := 7) dX11_sorts_133 rfl ?_
    refine rx_ialdN (k := 2) kl_171 (by omega) (by first | decide | omega) dX11_sorts_135 ?_
    refine rx_top (mpS (mv (t0 M)) n m x 2) (h4 2 (by omega)) ?_
    refine rx_istore (i := 8) dX11_sorts_136 (by decide) rfl rfl ?_
    refine rx_aload_n (i := 0) dX11_sorts_138 rfl rfl ?_
    refine rx_iload (i := 8) dX11_sorts_139 rfl ?_
    refine rx_i2l dX11_sorts_141 rfl ?_
    refine rx_cvN (ci := 11) mo_X11_tell lk_X11_294 (c_X11_tell (s := 2) mt_20 (by omega)) (by decide) rfl rfl (Nat.le_of_ble_eq_true rfl) kl_140 rfl dX11_sorts_142 ?_
    first | refine rx_iincN (i := 7) dX11_sorts_145 rfl (by decide) rfl rfl ?_ | refine rx_iinc (i := 7) dX11_sorts_145 rfl rfl (by decide) rfl rfl ?_
    refine rx_goto (tgt := 124) dX11_sorts_148 (by decide) ?_
    refine rx_iload (i := 7) dX11_sorts_124 rfl ?_
    refine rx_iload (i := 6) dX11_sorts_126 rfl ?_
    refine rx_icmp_ge (tgt := 151) dX11_sorts_128 (by decide) (fun c128 => absurd c128 (by decide)) (fun c128 => ?_)
    refine rx_aload (i := 5) dX11_sorts_131 rfl ?_
    refine rx_iload (i := 7) dX11_sorts_133 rfl ?_
    refine rx_ialdN (k := 3) kl_171 (by omega) (by first | decide | omega) dX11_sorts_135 ?_
    refine rx_top (mpS (mv (t0 M)) n m x 3) (h4 3 (by omega)) ?_
    refine rx_istore (i := 8) dX11_sorts_136 (by decide) rfl rfl ?_
    refine rx_aload_n (i := 0) dX11_sorts_138 rfl rfl ?_
    refine rx_iload (i := 8) dX11_sorts_139 rfl ?_
    refine rx_i2l dX11_sorts_141 rfl ?_
    refine rx_cvN (ci := 11) mo_X11_tell lk_X11_294 (c_X11_tell (s := 3) mt_20 (by omega)) (by decide) rfl rfl (Nat.le_of_ble_eq_true rfl) kl_140 rfl dX11_sorts_142 ?_
    first | refine rx_iincN (i := 7) dX11_sorts_145 rfl (by decide) rfl rfl ?_ | refine rx_iinc (i := 7) dX11_sorts_145 rfl rfl (by decide) rfl rfl ?_
    refine rx_goto (tgt := 124) dX11_sorts_148 (by decide) ?_
    refine rx_iload (i := 7) dX11_sorts_124 rfl ?_
    refine rx_iload (i := 6) dX11_sorts_126 rfl ?_
    refine rx_icmp_ge (tgt := 151) dX11_sorts_128 (by decide) (fun c128 => ?_) (fun c128 => absurd c128 (by decide))
    refine rx_iload (i := 4) dX11_sorts_151 rfl ?_
    exact rx_iret dX11_sorts_153 (Or.inl ⟨hoks, rfl, hFF.1.trans ((frQ_I (by omega)).trans (frQ_mt.trans (frQ_mt.trans (frQ_mt.trans frQ_mt)))), mt_row4⟩)
  refine (l_sorts (M := t0 M) (x := x) w0 (by rw [hMV]; exact hO) (by rw [hMV]; exact hA) hKK 5 0 (t0 M) (Nat.zero_le _) (by rw [sI_same]; exact frK.refl) (fun s hs => absurd hs (Nat.not_lt_zero _)) (fun s hs => absurd hs (Nat.not_lt_zero _)) (by omega)).mono ?_
  rintro pc' ls' st' N ⟨v, h1, h2, h5⟩
  rw [hMV] at h2
  exact ⟨v, h1, h2.imp (fun z => ⟨z.1, z.2.1, frQ_t0.trans z.2.2.1, z.2.2.2⟩) (fun z => ⟨z.1, z.2.1, frK_t0.trans z.2.2⟩), h5⟩
set_option maxRecDepth 100000 in
set_option maxHeartbeats 4000000 in
theorem c_X11_sorts_no {M : Mem} {x : Int32} (hx : ¬ (0 ≤ x ∧ x ≤ 99)) : Fun yX11_sorts cX11_sorts 9 (some .int) 5 [.ref 140, .int x] M (some (.int (-1))) (t0 M) := by
  refine Fun.of (own := RX11) ([some (.ref 140), some (.int x), none, none, none, none, none, none, none]) rfl (by decide +kernel) (Nat.le_of_ble_eq_true rfl) rfl ?_
  refine rx_aload_n (i := 0) dX11_sorts_0 rfl rfl ?_
  refine rx_iconst (0) dX11_sorts_1 rfl ?_
  refine rx_putI (k := 21) fo_X11_126 fn_11_21 kl_140 (by decide) ty_11_21 dX11_sorts_2 ?_
  refine rx_iload_n (i := 1) dX11_sorts_5 rfl rfl ?_
  refine rx_csI mo_X11_isDay lk_X11_355 c_X11_isDay (by decide) rfl rfl (Nat.le_of_ble_eq_true rfl) dX11_sorts_6 ?_
  refine rx_if_ne (tgt := 14) dX11_sorts_9 (by decide) (fun c9 => ?_) (fun c9 => ?_)
  · skip
    exact absurd (ite1n c9) hx
    skip
  · skip
    refine rx_iconst (-1) dX11_sorts_12 rfl ?_
    exact rx_fiI dX11_sorts_13 rfl rfl
