
/-- who may pay parts of k, by sort srt -/
def ptT (T : TT) (n : Nat) (srt : Int32) (k i : Nat) : Bool := (!(decide (nI i = T 6 k)) && !(decide (nI i = T 7 k))) && blw srt (T 14 1) n (onT T) (T 6 k).toNatClampNeg i
def dueT (T : TT) (x : Int32) (k : Nat) : Bool := decide (T 10 k = 0) && decide (T 9 k ≤ x)
/-- the memory after a look: the town copied, its sort, THE LIST, these, the payers -/
def lkM (M : Mem) (n m : Nat) (srt x : Int32) : Mem := setI (mkL (setI (cpM M 124 28) 139 0 srt) 124 n) 15 2 (fbor (dueT (view M 28) x) m)

set_option maxRecDepth 100000 in
set_option maxHeartbeats 4000000 in
theorem l_X2_look {M : Mem} {n m : Nat} (w : TW M 28 n m) (hO : OKT (view M 28) n) {srt x : Int32} : ∀ (N : Nat) (i : Nat) (M1 : Mem), (i ≤ m) → (sameX (lkM M n m srt x) M1 (fun z => z = 16)) → (∀ k, k < i → M1.1 16 k = (fun k => if dueT (view M 28) x k = true then fbor (ptT (view M 28) n srt k) n else 0) k) → m - i < N → Reach cX2_look RX2 6 3 (RetQ cX2_look none (fun _ N => sameX (lkM M n m srt x) N (fun z => z = 16) ∧ ∀ k, k < m → N.1 16 k = (fun k => if dueT (view M 28) x k = true then fbor (ptT (view M 28) n srt k) n else 0) k)) 40 [some (.ref 15), some (.ref 28), some (.int srt), some (.int x), some (.int (nI i)), none] [] (M1) := by
  intro N
  induction N with
  | zero => intro i M1 hi hs hp hm; exact absurd ‹_ < 0› (Nat.not_lt_zero _)
  | succ N ih =>
    intro i M1 hi hs hp hm
    have ht : isTown 124 := by unfold isTown; omega
    have ⟨hn, hn8, hm, hm10, hd⟩ := w
    have ev : ∀ a, a ≠ 16 → M1.1 a = (lkM M n m srt x).1 a := fun a h => hs.1 a h
    have ec : ∀ a j, a ≠ 15 → a ≠ 130 → ¬ (a = 139 ∧ j = 0) → (lkM M n m srt x).1 a j = (cpM M 124 28).1 a j := fun a j h1 h2 h3 => by
      unfold lkM; rw [sI_na h1, mkL_o h2]; simp only [sI]; rw [if_neg h3]
    have wc : TW (cpM M 124 28) 124 n m := TW_cp w
    have w1 : TW M1 124 n m := wc.keep (by rw [ev _ (by omega), ec _ _ (by omega) (by omega) (by omega)]) (by rw [ev _ (by omega), ec _ _ (by omega) (by omega) (by omega)]) (fun _ _ => by rw [ev _ (by omega), ec _ _ (by omega) (by omega) (by omega)]) (fun _ _ => by rw [ev _ (by omega), ec _ _ (by omega) (by omega) (by omega)])
    have hn2 : M1.1 124 16 = nI m := w1.2.2.1
    have hvc := view_cp (M := M) (t := 124) (o := 28)
    have eL : ∀ j, j < n → M1.1 130 j = onT (view M 28) j := fun j hj => by
      rw [ev _ (by omega)]
      unfold lkM
      rw [sI_na (by omega), show (130 : Nat) = 124 + 6 from rfl, mkL_l hj, onL_T, show onT (view (setI (cpM M 124 28) 139 0 srt) 124) j = onT (view (cpM M 124 28) 124) j from by simp [onT, view, setI], onT_same hvc]
    have hB : BB (M1.1 (124 + 6)) n := fun j hj => by
      rw [show (124 + 6 : Nat) = 130 from rfl, eL j hj]; exact hO.bb j hj
    have e14 : M1.1 139 1 = view M 28 14 1 := by rw [ev _ (by omega), ec _ _ (by omega) (by omega) (by omega)]; exact congrFun (hvc 14 (by omega) (by omega)) 1
    have e140 : M1.1 139 0 = srt := by rw [ev _ (by omega)]; unfold lkM; rw [sI_na (by omega), mkL_o (by omega), sI_eq]
    have hby : 0 ≤ (M1.1 (124 + 15) 1).toInt ∧ (M1.1 (124 + 15) 1).toInt ≤ 99 := by rw [show (124 + 15 : Nat) = 139 from rfl, e14]; exact hO.2
    have e7 : M1.1 131 = M.1 35 := by rw [ev _ (by omega)]; funext j; rw [ec _ _ (by omega) (by omega) (by omega)]; exact congrFun (hvc 6 (by omega) (by omega)) j
    have e8 : M1.1 132 = M.1 36 := by rw [ev _ (by omega)]; funext j; rw [ec _ _ (by omega) (by omega) (by omega)]; exact congrFun (hvc 7 (by omega) (by omega)) j
    refine rx_iload (i := 4) dX2_look_40 rfl ?_
    refine rx_aload_n (i := 0) dX2_look_42 rfl rfl ?_
    refine rx_getR 124 (k := 0) fo_X2_12 kl_15 (by decide) ti_2_0 (by decide) rfl dX2_look_43 ?_
    refine rx_getI (k := 16) fo_X2_40 kl_124 (by decide) ti_8_16 dX2_look_46 ?_
    refine rx_icmp_ge (tgt := 120) dX2_look_49 (by decide) (fun c49 => ?_) (fun c49 => ?_)
    · skip
      have f49 := Int32.not_lt.mpr c49
      rw [hn2, nI_leI (by omega) (by omega)] at c49
      obtain rfl : i = m := by omega
      exact rx_vret dX2_look_120 ⟨hs, hp⟩
    · skip
      have f49 := Int32.not_le.mp c49
      rw [hn2, nI_leI (by omega) (by omega)] at c49
      refine rx_aload_n (i := 0) dX2_look_52 rfl rfl ?_
      refine rx_getI (k := 2) fo_X2_36 kl_15 (by decide) ti_2_2 dX2_look_53 ?_
      refine rx_iconst (1) dX2_look_56 rfl ?_
      refine rx_iload (i := 4) dX2_look_57 rfl ?_
      refine rx_ishl dX2_look_59 ?_
      refine rx_iand dX2_look_60 ?_
      refine rx_if_eq (tgt := 68) dX2_look_61 (by decide) (fun c61 => ?_) (fun c61 => ?_)
      · skip
        try have e61 := (and_bit _ (by omega)).mp c61
        have e61b : dueT (view M 28) x i = false := by
          rw [ev 15 (by omega), show (lkM M n m srt x).1 15 2 = fbor (dueT (view M 28) x) m from sI_eq, b_fbor _ m (by omega)] at e61
          simpa [show i < m by omega] using e61
        refine rx_iconst (0) dX2_look_68 rfl ?_
        refine rx_istore (i := 5) dX2_look_69 (by decide) rfl rfl ?_
        refine rx_aload_n (i := 0) dX2_look_71 rfl rfl ?_
        refine rx_getR 16 (k := 1) fo_X2_18 kl_15 (by decide) ti_2_1 (by decide) rfl dX2_look_72 ?_
        refine rx_iload (i := 4) dX2_look_75 rfl ?_
        refine rx_iload (i := 5) dX2_look_77 rfl ?_
        refine rx_if_eq (tgt := 112) dX2_look_79 (by decide) (fun c79 => ?_) (fun c79 => absurd c79 (by decide))
        refine rx_iconst (0) dX2_look_112 rfl ?_
        refine rx_iastN kl_16 (by omega) (by first | decide | omega) dX2_look_113 ?_
        first | refine rx_iincN (i := 4) dX2_look_114 rfl (by decide) rfl rfl ?_ | refine rx_iinc (i := 4) dX2_look_114 rfl rfl (by decide) rfl rfl ?_
        refine rx_goto (tgt := 40) dX2_look_117 (by decide) ?_
        refine rx_drop 5 ?_
        exact ih (i + 1) _ (by omega) (hs.trans (sameX_I rfl)) (fun k hk => by
          by_cases hki : k = i
          · subst hki
            rw [sI_eq]
            simp [e61b]
          · rw [sI_ne (by omega)]; exact hp k (by omega)) (by omega)
      · skip
        try have e61 := (and_bitn _ (by omega)).mp c61
        have e61b : dueT (view M 28) x i = true := by
          rw [ev 15 (by omega), show (lkM M n m srt x).1 15 2 = fbor (dueT (view M 28) x) m from sI_eq, b_fbor _ m (by omega)] at e61
          simpa [show i < m by omega] using e61
        obtain ⟨o, g, ho, hg, hog, eo, eg⟩ := hd i (by omega)
        refine rx_iconst (1) dX2_look_64 rfl ?_
        refine rx_goto (tgt := 69) dX2_look_65 (by decide) ?_
        refine rx_istore (i := 5) dX2_look_69 (by decide) rfl rfl ?_
        refine rx_aload_n (i := 0) dX2_look_71 rfl rfl ?_
        refine rx_getR 16 (k := 1) fo_X2_18 kl_15 (by decide) ti_2_1 (by decide) rfl dX2_look_72 ?_
        refine rx_iload (i := 4) dX2_look_75 rfl ?_
        refine rx_iload (i := 5) dX2_look_77 rfl ?_
        refine rx_if_eq (tgt := 112) dX2_look_79 (by decide) (fun c79 => absurd c79 (by decide)) (fun c79 => ?_)
        refine rx_aload_n (i := 0) dX2_look_82 rfl rfl ?_
        refine rx_getR 124 (k := 0) fo_X2_12 kl_15 (by decide) ti_2_0 (by decide) rfl dX2_look_83 ?_
        refine rx_aload_n (i := 0) dX2_look_86 rfl rfl ?_
        refine rx_getR 124 (k := 0) fo_X2_12 kl_15 (by decide) ti_2_0 (by decide) rfl dX2_look_87 ?_
        refine rx_getR 131 (k := 6) fo_X2_43 kl_124 (by decide) ti_8_6 (by decide) rfl dX2_look_90 ?_
        refine rx_iload (i := 4) dX2_look_93 rfl ?_
        refine rx_ialdN kl_131 (by omega) (by first | decide | omega) dX2_look_95 ?_
        refine rx_top (nI o) (by rw [e7]; exact eo) ?_
        refine rx_cvI (ci := 8) mo_X8_belowBits lk_X2_46 (c_X8_belowBits ht w1 ho hB hby) (by decide) rfl rfl (Nat.le_of_ble_eq_true rfl) kl_124 rfl dX2_look_96 ?_
        refine rx_aload_n (i := 0) dX2_look_99 rfl rfl ?_
        refine rx_getR 124 (k := 0) fo_X2_12 kl_15 (by decide) ti_2_0 (by decide) rfl dX2_look_100 ?_
        refine rx_iload (i := 4) dX2_look_103 rfl ?_
        refine rx_cvI (ci := 8) mo_X8_outsiders lk_X2_49 (c_X8_outsiders ht w1 (by omega)) (by decide) rfl rfl (Nat.le_of_ble_eq_true rfl) kl_124 rfl dX2_look_105 ?_
        refine rx_iand dX2_look_108 ?_
        refine rx_top (fbor (ptT (view M 28) n srt i) n) (by
          rw [fbor_and (by omega)]
          refine fbor_congr fun j hj => ?_
          have e : nI j = nI o ↔ j = o := nI_eq (by omega) (by omega)
          simp only [ptT, show view M 28 6 i = nI o from eo, show (124 + 15 : Nat) = 139 from rfl, show (124 + 6 : Nat) = 130 from rfl, show (124 + 7 : Nat) = 131 from rfl, show (124 + 8 : Nat) = 132 from rfl, e140, e14, e7, e8, nI_clamp (show o < 2 ^ 31 by omega), e, show M.1 35 i = nI o from eo, show view M 28 7 i = M.1 36 i from rfl]
          rw [blw_congr (L := M1.1 130) (L' := onT (view M 28)) eL ho hj]
          by_cases h1 : j = o
          · simp [h1]
          · simp [h1, Bool.and_comm]) ?_
        refine rx_goto (tgt := 113) dX2_look_109 (by decide) ?_
        refine rx_iastN kl_16 (by omega) (by first | decide | omega) dX2_look_113 ?_
        first | refine rx_iincN (i := 4) dX2_look_114 rfl (by decide) rfl rfl ?_ | refine rx_iinc (i := 4) dX2_look_114 rfl rfl (by decide) rfl rfl ?_
        refine rx_goto (tgt := 40) dX2_look_117 (by decide) ?_
        refine rx_drop 5 ?_
        exact ih (i + 1) _ (by omega) (hs.trans (sameX_I rfl)) (fun k hk => by
          by_cases hki : k = i
          · subst hki
            rw [sI_eq]
            simp [e61b]
          · rw [sI_ne (by omega)]; exact hp k (by omega)) (by omega)
set_option maxRecDepth 100000 in
set_option maxHeartbeats 4000000 in
theorem c_X2_look {M : Mem} {n m : Nat} (w : TW M 28 n m) (hO : OKT (view M 28) n) {srt x : Int32} : Con yX2_look cX2_look 6 none 3 [.ref 15, .ref 28, .int srt, .int x] M (fun v N => v = none ∧ sameX (lkM M n m srt x) N (fun z => z = 16) ∧ ∀ k, k < m → N.1 16 k = (fun k => if dueT (view M 28) x k = true then fbor (ptT (view M 28) n srt k) n else 0) k) := by
  refine Con.of (own := RX2) (ls := [some (.ref 15), some (.ref 28), some (.int srt), some (.int x), none, none]) rfl (by decide +kernel) (Nat.le_of_ble_eq_true rfl) rfl ?_
  have ht : isTown 124 := by unfold isTown; omega
  have hN : isTown 28 := by unfold isTown; omega
  have w2 : TW (setI (cpM M 124 28) 139 0 srt) 124 n m := (TW_cp w).keep (by rw [sI_na (by omega)]) (by rw [sI_na (by omega)]) (fun _ _ => by rw [sI_na (by omega)]) (fun _ _ => by rw [sI_na (by omega)])
  have w3 : TW (mkL (setI (cpM M 124 28) 139 0 srt) 124 n) 124 n m := w2.keep (mkL_o (by omega)) (mkL_o (by omega)) (fun _ _ => mkL_o (by omega)) (fun _ _ => mkL_o (by omega))
  refine rx_aload_n (i := 0) dX2_look_0 rfl rfl ?_
  refine rx_getR 124 (k := 0) fo_X2_12 kl_15 (by decide) ti_2_0 (by decide) rfl dX2_look_1 ?_
  refine rx_aload_n (i := 1) dX2_look_4 rfl rfl ?_
  refine rx_cvN (ci := 8) mo_X8_copyFrom lk_X2_22 (c_X8_copyFrom ht hN (by omega)) (by decide) rfl rfl (Nat.le_of_ble_eq_true rfl) kl_124 rfl dX2_look_5 ?_
  refine rx_aload_n (i := 0) dX2_look_8 rfl rfl ?_
  refine rx_getR 124 (k := 0) fo_X2_12 kl_15 (by decide) ti_2_0 (by decide) rfl dX2_look_9 ?_
  refine rx_getR 139 (k := 14) fo_X2_26 kl_124 (by decide) ti_8_14 (by decide) rfl dX2_look_12 ?_
  refine rx_iconst (0) dX2_look_15 rfl ?_
  refine rx_iload_n (i := 2) dX2_look_16 rfl rfl ?_
  refine rx_iastN (k := 0) kl_139 (by omega) (by first | decide | omega) dX2_look_17 ?_
  refine rx_aload_n (i := 0) dX2_look_18 rfl rfl ?_
  refine rx_getR 124 (k := 0) fo_X2_12 kl_15 (by decide) ti_2_0 (by decide) rfl dX2_look_19 ?_
  refine rx_cvN (ci := 8) mo_X8_makeList lk_X2_29 (c_X8_makeList ht w2) (by decide) rfl rfl (Nat.le_of_ble_eq_true rfl) kl_124 rfl dX2_look_22 ?_
  refine rx_aload_n (i := 0) dX2_look_25 rfl rfl ?_
  refine rx_aload_n (i := 0) dX2_look_26 rfl rfl ?_
  refine rx_getR 124 (k := 0) fo_X2_12 kl_15 (by decide) ti_2_0 (by decide) rfl dX2_look_27 ?_
  refine rx_iload_n (i := 3) dX2_look_30 rfl rfl ?_
  refine rx_cvI (ci := 8) mo_X8_openDueBy lk_X2_32 (c_X8_openDueBy ht w3) (by decide) rfl rfl (Nat.le_of_ble_eq_true rfl) kl_124 rfl dX2_look_31 ?_
  refine rx_top (fbor (dueT (view M 28) x) m) (fbor_congr fun k hk => by
    have e1 : (mkL (setI (cpM M 124 28) 139 0 srt) 124 n).1 (124 + 11) k = view M 28 10 k := by rw [mkL_o (by omega), sI_na (by omega)]; exact congrFun (view_cp 10 (by omega) (by omega)) k
    have e2 : (mkL (setI (cpM M 124 28) 139 0 srt) 124 n).1 (124 + 10) k = view M 28 9 k := by rw [mkL_o (by omega), sI_na (by omega)]; exact congrFun (view_cp 9 (by omega) (by omega)) k
    rw [e1, e2]; rfl) ?_
  refine rx_putI (k := 2) fo_X2_36 fn_2_2 kl_15 (by decide) ty_2_2 dX2_look_34 ?_
  refine rx_iconst (0) dX2_look_37 rfl ?_
  refine rx_istore (i := 4) dX2_look_38 (by decide) rfl rfl ?_
  refine (l_X2_look w hO (m + 1) 0 (lkM M n m srt x) (Nat.zero_le _) sameX.rfl' (fun k h => absurd h (Nat.not_lt_zero _)) (by omega)).mono ?_
  rintro pc' ls' st' N ⟨v, h1, h2, h3⟩
  exact ⟨v, h1, ⟨h3.1, h2⟩, h3⟩
