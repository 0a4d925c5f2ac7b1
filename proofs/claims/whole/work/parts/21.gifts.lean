
/-- the numbers of a town are what they can be -/
def OKT (T : TT) (n : Nat) : Prop := (∀ i, i < n → 0 ≤ (T 3 i).toInt ∧ (T 3 i).toInt ≤ (T 0 i).toInt ∧ (T 0 i).toInt ≤ 8000 ∧ 0 ≤ (T 4 i).toInt ∧ (T 4 i).toInt ≤ 8000) ∧ 0 ≤ (T 14 1).toInt ∧ (T 14 1).toInt ≤ 99
theorem OKT.cnt {T : TT} {n i : Nat} (h : OKT T n) (hi : i < n) : (T 0 i - T 3 i).toInt = (T 0 i).toInt - (T 3 i).toInt := by
  have := h.1 i hi
  exact i_sub (by omega) (by omega)
theorem OKT.bb {T : TT} {n : Nat} (h : OKT T n) : BB (onT T) n := by
  intro i hi
  have h1 := h.1 i hi
  simp only [onT]
  split
  · omega
  · rw [h.cnt hi]; omega
theorem OKT.bsh {T : TT} {n a b : Nat} {x : Int32} (h : OKT T n) (ha : a < n) (hx1 : 1 ≤ x) (hx : x ≤ T 0 a - T 3 a) : BB (onT (shT T a b x)) n := by
  intro i hi
  have h1 := h.1 i hi
  have h2 := h.1 a ha
  rw [i_le, h.cnt ha] at hx
  rw [i_le, i_1] at hx1
  simp only [onT, shT]
  simp only [if_neg (show ¬ (14 : Nat) = 0 by decide), if_neg (show ¬ (4 : Nat) = 0 by decide), if_neg (show ¬ (3 : Nat) = 0 by decide), if_true]
  split
  · omega
  · have e1 : (T 0 a - x).toInt = (T 0 a).toInt - x.toInt := i_sub (by omega) (by omega)
    simp only [upd]
    by_cases hib : i = b
    · subst hib
      rw [if_pos rfl]
      by_cases hia : i = a
      · subst hia
        rw [if_pos rfl]
        have e2 : (T 0 i - x + x).toInt = (T 0 i).toInt := by rw [i_add (by omega) (by omega)]; omega
        rw [i_sub (by omega) (by omega)]; omega
      · rw [if_neg hia]
        have e2 : (T 0 i + x).toInt = (T 0 i).toInt + x.toInt := i_add (by omega) (by omega)
        rw [i_sub (by omega) (by omega)]; omega
    · rw [if_neg hib]
      by_cases hia : i = a
      · subst hia
        rw [if_pos rfl, i_sub (by omega) (by omega)]; omega
      · rw [if_neg hia, i_sub (by omega) (by omega)]; omega
theorem view_cp {M : Mem} {t o : Nat} : ∀ c, c ≠ 5 → c < 20 → view (cpM M t o) t c = view M o c := by
  intro c h5 h20
  funext j
  simp only [view, cpM]
  split
  · rw [if_pos (by omega), show o + (t + 1 + c - t) = o + 1 + c by omega]
  · simp
    intro h1
    omega
theorem cpM_o {M : Mem} {t o a : Nat} (h : a < t ∨ t + 15 < a) : (cpM M t o).1 a = M.1 a := by
  funext j
  simp only [cpM]
  rw [if_neg (by omega), if_neg (by omega)]
theorem TW_cp {M : Mem} {t o n m : Nat} (w : TW M o n m) : TW (cpM M t o) t n m := by
  have e15 : (cpM M t o).1 t 15 = M.1 o 15 := by simp [cpM]
  have e16 : (cpM M t o).1 t 16 = M.1 o 16 := by simp [cpM]
  have e7 : (cpM M t o).1 (t + 7) = M.1 (o + 7) := by funext j; simp [cpM]
  have e8 : (cpM M t o).1 (t + 8) = M.1 (o + 8) := by funext j; simp [cpM]
  obtain ⟨hn, hn8, hm, hm10, hd⟩ := w
  exact ⟨by rw [e15, hn], hn8, by rw [e16, hm], hm10, fun k hk => by rw [e7, e8]; exact hd k hk⟩
theorem shT_same {T T' : TT} {a b : Nat} {x : Int32} (h : ∀ c, c ≠ 5 → c < 20 → T' c = T c) : ∀ c, c ≠ 5 → c < 20 → shT T' a b x c = shT T a b x c := by
  intro c h5 h20
  funext j
  simp only [shT, h 0 (by omega) (by omega), h c h5 h20]
theorem onT_same {T T' : TT} (h : ∀ c, c ≠ 5 → c < 20 → T' c = T c) : onT T' = onT T := by funext j; simp only [onT, h 14 (by omega) (by omega), h 4 (by omega) (by omega), h 0 (by omega) (by omega), h 3 (by omega) (by omega)]
/-- with c coin from f to o somebody may pay k -/
def gok (T : TT) (n o k c f : Nat) : Prop := f < n ∧ f ≠ o ∧ nI c ≤ T 0 f - T 3 f ∧ ¬ payT (shT T f o (nI c)) n k = 0
/-- the least gift of so much at most -/
def gLe (T : TT) (n o k c f : Nat) : Prop := 1 ≤ c ∧ gok T n o k c f ∧ (∀ c' f', 1 ≤ c' → c' < c → ¬ gok T n o k c' f') ∧ ∀ f', f' < f → ¬ gok T n o k c f'
def gP (z : Nat) : Prop := z = 98 ∨ z = 14
theorem onL_sh {M : Mem} {t a b j : Nat} {x : Int32} : onL (shM M t a b x) t j = onT (shT (view M t) a b x) j := by rw [onL_T]; simp only [onT, view_sh 14 (by omega), view_sh 4 (by omega), view_sh 0 (by omega), view_sh 3 (by omega)]

set_option maxRecDepth 100000 in
set_option maxHeartbeats 4000000 in
theorem l_gift_in {M0 : Mem} {T : TT} {n m o k S : Nat} (w0 : TW M0 92 n m) (hT : ∀ c, c ≠ 5 → c < 20 → view M0 92 c = T c) (hO : OKT T n) (ho : o < n) (hk : k < m) (hS : S < 100000) {c : Nat} (hc : 1 ≤ c) (hcS : c ≤ S) (hlt : ∀ c' f', 1 ≤ c' → c' < c → ¬ gok T n o k c' f') (K : ∀ M1, sameX M0 M1 gP → (∀ f, ¬ gok T n o k c f) → Reach cX1_leastGift RX1 7 4 (RetQ cX1_leastGift (some .int) (fun v N => sameX M0 N gP ∧ ((∃ c f, c ≤ S ∧ gLe T n o k c f ∧ v = some (.int (nI c)) ∧ N.1 14 1 = nI f ∧ N.1 14 2 = payT (shT T f o (nI c)) n k) ∨ (v = some (.int 0) ∧ ∀ c f, 1 ≤ c → c ≤ S → ¬ gok T n o k c f)))) 103 ([some (.ref 14), some (.ref 28), some (.int (nI k)), some (.int (nI o)), some (.int (nI S)), some (.int (nI c)), some (.int (nI n))]) [] M1) : ∀ (N : Nat) (f : Nat) (M1 : Mem), (f ≤ n) → (sameX M0 M1 gP) → (∀ f', f' < f → ¬ gok T n o k c f') → n - f < N → Reach cX1_leastGift RX1 7 4 (RetQ cX1_leastGift (some .int) (fun v N => sameX M0 N gP ∧ ((∃ c f, c ≤ S ∧ gLe T n o k c f ∧ v = some (.int (nI c)) ∧ N.1 14 1 = nI f ∧ N.1 14 2 = payT (shT T f o (nI c)) n k) ∨ (v = some (.int 0) ∧ ∀ c f, 1 ≤ c → c ≤ S → ¬ gok T n o k c f)))) 40 [some (.ref 14), some (.ref 28), some (.int (nI k)), some (.int (nI o)), some (.int (nI S)), some (.int (nI c)), some (.int (nI f))] [] (M1) := by
  intro N
  induction N with
  | zero => intro f M1 hf hs hno hm; exact absurd ‹_ < 0› (Nat.not_lt_zero _)
  | succ N ih =>
    intro f M1 hf hs hno hm
    have ⟨hn, hn8, hm, hm10, hd⟩ := w0
    have ht : isTown 92 := by unfold isTown; omega
    have hv : ∀ c, c ≤ 15 → c ≠ 6 → M1.1 (92 + c) = M0.1 (92 + c) := fun c h1 h2 => hs.1 _ (by unfold gP; omega)
    have hT1 : ∀ c, c ≠ 5 → c < 20 → view M1 92 c = T c := fun c h5 h20 => (view_same hv c h5 h20).trans (hT c h5 h20)
    have w1 : TW M1 92 n m := w0.keep (by rw [show (92:Nat) = 92 + 0 from rfl, hv 0 (by omega) (by omega)]) (by rw [show (92:Nat) = 92 + 0 from rfl, hv 0 (by omega) (by omega)]) (fun _ _ => by rw [hv 7 (by omega) (by omega)]) (fun _ _ => by rw [hv 8 (by omega) (by omega)])
    refine rx_iload (i := 6) dX1_leastGift_40 rfl ?_
    refine rx_aload_n (i := 0) dX1_leastGift_42 rfl rfl ?_
    refine rx_getR 92 (k := 0) fo_X1_10 kl_14 (by decide) ti_1_0 (by decide) rfl dX1_leastGift_43 ?_
    refine rx_getI (k := 15) fo_X1_28 kl_92 (by decide) ti_8_15 dX1_leastGift_46 ?_
    refine rx_icmp_ge (tgt := 103) dX1_leastGift_49 (by decide) (fun c49 => ?_) (fun c49 => ?_)
    · skip
      have f49 := Int32.not_lt.mpr c49
      rw [show M1.1 92 15 = nI n from w1.1, nI_leI (by omega) (by omega)] at c49
      obtain rfl : f = n := by omega
      exact K M1 hs (fun f' q => hno f' q.1 q)
    · skip
      have f49 := Int32.not_le.mp c49
      rw [show M1.1 92 15 = nI n from w1.1, nI_leI (by omega) (by omega)] at c49
      refine rx_aload_n (i := 0) dX1_leastGift_52 rfl rfl ?_
      refine rx_getR 92 (k := 0) fo_X1_10 kl_14 (by decide) ti_1_0 (by decide) rfl dX1_leastGift_53 ?_
      refine rx_iload (i := 6) dX1_leastGift_56 rfl ?_
      refine rx_iload_n (i := 3) dX1_leastGift_58 rfl rfl ?_
      refine rx_iload (i := 5) dX1_leastGift_59 rfl ?_
      refine rx_cvI (ci := 8) mo_X8_canGive lk_X1_32 (c_X8_canGive ht w1) (by decide) rfl rfl (Nat.le_of_ble_eq_true rfl) kl_92 rfl dX1_leastGift_61 ?_
      refine rx_if_eq (tgt := 97) dX1_leastGift_64 (by decide) (fun c64 => ?_) (fun c64 => ?_)
      · skip
        have e64 : ¬ gok T n o k c f := fun q => by
          rw [if_pos ⟨(w1.1 ▸ (inN (by omega)).mpr ⟨f, by omega, rfl⟩), (w1.1 ▸ (inN (by omega)).mpr ⟨o, ho, rfl⟩), fun z => q.2.1 ((nI_eq (by omega) (by omega)).mp z), nI_le (a := 1) hc (by omega), by rw [nI_clamp (by omega)]; have := q.2.2.1; rw [← hT1 0 (by omega) (by omega), ← hT1 3 (by omega) (by omega)] at this; exact this⟩] at c64
          exact absurd c64 (by decide)
        first | refine rx_iincN (i := 6) dX1_leastGift_97 rfl (by decide) rfl rfl ?_ | refine rx_iinc (i := 6) dX1_leastGift_97 rfl rfl (by decide) rfl rfl ?_
        refine rx_goto (tgt := 40) dX1_leastGift_100 (by decide) ?_
        exact ih (f + 1) M1 (by omega) hs (fun f' h q => by
          rcases Nat.lt_or_ge f' f with z | z
          · exact hno f' z q
          · obtain rfl : f' = f := by omega
            exact e64 q) (by omega)
      · skip
        have e64 := Classical.byContradiction fun q => c64 (if_neg q)
        have e1 : f ≠ o := fun q => e64.2.2.1 (by rw [q])
        have e2 : nI c ≤ T 0 f - T 3 f := by have := e64.2.2.2.2; rw [nI_clamp (by omega)] at this; rw [← hT1 0 (by omega) (by omega), ← hT1 3 (by omega) (by omega)]; exact this
        have hBs : BB (onL (shM M1 92 f o (nI c)) 92) n := fun j hj => by
          rw [onL_sh, onT_same (shT_same hT1)]
          exact hO.bsh (by omega) (nI_le (a := 1) hc (by omega)) e2 j hj
        have hby : byOK M1 92 := by have := hO.2; rw [← hT1 14 (by omega) (by omega)] at this; exact this
        refine rx_aload_n (i := 0) dX1_leastGift_67 rfl rfl ?_
        refine rx_aload_n (i := 0) dX1_leastGift_68 rfl rfl ?_
        refine rx_iload (i := 6) dX1_leastGift_69 rfl ?_
        refine rx_iload_n (i := 3) dX1_leastGift_71 rfl rfl ?_
        refine rx_iload (i := 5) dX1_leastGift_72 rfl ?_
        refine rx_iload_n (i := 2) dX1_leastGift_74 rfl rfl ?_
        refine rx_callV (ci := 1) mo_X1_payersAfter lk_X1_36 (c_X1_payersAfter w1 (by omega) ho e1 hk hBs hby) (by decide) rfl rfl (Nat.le_of_ble_eq_true rfl) kl_14 rfl dX1_leastGift_75 ?_
        rintro _ M2 ⟨rfl, hs2⟩
        have hs3 : sameX M0 M2 gP := hs.trans (hs2.weaken fun a h => Or.inl h)
        refine rx_putI (k := 2) fo_X1_40 fn_1_2 kl_14 (by decide) ty_1_2 dX1_leastGift_78 ?_
        refine rx_aload_n (i := 0) dX1_leastGift_81 rfl rfl ?_
        refine rx_getI (k := 2) fo_X1_40 kl_14 (by decide) ti_1_2 dX1_leastGift_82 ?_
        refine rx_top (payT (shT T f o (nI c)) n k) (by rw [sI_eq, payT_same (shT_same hT1)]) ?_
        refine rx_if_eq (tgt := 97) dX1_leastGift_85 (by decide) (fun c85 => ?_) (fun c85 => ?_)
        · skip
          first | refine rx_iincN (i := 6) dX1_leastGift_97 rfl (by decide) rfl rfl ?_ | refine rx_iinc (i := 6) dX1_leastGift_97 rfl rfl (by decide) rfl rfl ?_
          refine rx_goto (tgt := 40) dX1_leastGift_100 (by decide) ?_
          exact ih (f + 1) _ (by omega) (hs3.trans (sameX_I (Or.inr rfl))) (fun f' h q => by
            rcases Nat.lt_or_ge f' f with z | z
            · exact hno f' z q
            · obtain rfl : f' = f := by omega
              exact q.2.2.2 c85) (by omega)
        · skip
          refine rx_aload_n (i := 0) dX1_leastGift_88 rfl rfl ?_
          refine rx_iload (i := 6) dX1_leastGift_89 rfl ?_
          refine rx_putI (k := 1) fo_X1_43 fn_1_1 kl_14 (by decide) ty_1_1 dX1_leastGift_91 ?_
          refine rx_iload (i := 5) dX1_leastGift_94 rfl ?_
          refine rx_iret dX1_leastGift_96 ⟨(hs3.trans (sameX_I (Or.inr rfl))).trans (sameX_I (Or.inr rfl)), Or.inl ⟨c, f, hcS, ⟨hc, ⟨by omega, e1, e2, c85⟩, hlt, hno⟩, rfl, sI_eq, ?_⟩⟩
          rw [sI_ne (by omega), sI_eq, payT_same (shT_same hT1)]
set_option maxRecDepth 100000 in
set_option maxHeartbeats 4000000 in
theorem l_gift_out {M0 : Mem} {T : TT} {n m o k S : Nat} (w0 : TW M0 92 n m) (hT : ∀ c, c ≠ 5 → c < 20 → view M0 92 c = T c) (hO : OKT T n) (ho : o < n) (hk : k < m) (hS : S < 100000) : ∀ (N : Nat) (c : Nat) (M1 : Mem), (1 ≤ c) → (c ≤ S + 1) → (sameX M0 M1 gP) → (∀ c' f', 1 ≤ c' → c' < c → ¬ gok T n o k c' f') → S + 1 - c < N → Reach cX1_leastGift RX1 7 4 (RetQ cX1_leastGift (some .int) (fun v N => sameX M0 N gP ∧ ((∃ c f, c ≤ S ∧ gLe T n o k c f ∧ v = some (.int (nI c)) ∧ N.1 14 1 = nI f ∧ N.1 14 2 = payT (shT T f o (nI c)) n k) ∨ (v = some (.int 0) ∧ ∀ c f, 1 ≤ c → c ≤ S → ¬ gok T n o k c f)))) 30 [some (.ref 14), some (.ref 28), some (.int (nI k)), some (.int (nI o)), some (.int (nI S)), some (.int (nI c)), none] [] (M1) := by
  intro N
  induction N with
  | zero => intro c M1 hc hcS hs hno hm; exact absurd ‹_ < 0› (Nat.not_lt_zero _)
  | succ N ih =>
    intro c M1 hc hcS hs hno hm
    refine rx_iload (i := 5) dX1_leastGift_30 rfl ?_
    refine rx_iload (i := 4) dX1_leastGift_32 rfl ?_
    refine rx_icmp_gt (tgt := 109) dX1_leastGift_34 (by decide) (fun c34 => ?_) (fun c34 => ?_)
    · skip
      have f34 := Int32.not_le.mpr c34
      have e34 : S < c := (nI_ltI (by omega) (by omega)).mp c34
      refine rx_iconst (0) dX1_leastGift_109 rfl ?_
      exact rx_iret dX1_leastGift_110 ⟨hs, Or.inr ⟨rfl, fun c' f' h1 h2 => hno c' f' h1 (by omega)⟩⟩
    · skip
      have f34 := Int32.not_lt.mp c34
      have e34 : c ≤ S := Nat.not_lt.mp fun q => c34 (nI_lt q (by omega))
      refine rx_iconst (0) dX1_leastGift_37 rfl ?_
      refine rx_istore (i := 6) dX1_leastGift_38 (by decide) rfl rfl ?_
      refine l_gift_in w0 hT hO ho hk hS hc e34 hno (fun M2 hs2 hno2 => ?_) (n + 1) 0 M1 (Nat.zero_le _) hs (fun f' h => absurd h (Nat.not_lt_zero _)) (by omega)
      refine rx_iincN (i := 5) dX1_leastGift_103 rfl (by decide) rfl rfl ?_
      refine rx_goto (tgt := 30) dX1_leastGift_106 (by decide) ?_
      refine rx_drop 6 ?_
      exact ih (c + 1) M2 (by omega) (by omega) hs2 (fun c' f' h1 h2 q => by
        rcases Nat.lt_or_ge c' c with z | z
        · exact hno c' f' h1 z q
        · obtain rfl : c' = c := by omega
          exact hno2 f' q) (by omega)
set_option maxRecDepth 100000 in
set_option maxHeartbeats 4000000 in
theorem c_X1_leastGift {M : Mem} {n m o k S : Nat} (w : TW M 28 n m) (hO : OKT (view M 28) n) (ho : o < n) (hk : k < m) (eo : M.1 35 k = nI o) (hS : fsum (M.1 29) n = nI S) (hS2 : S < 100000) : Con yX1_leastGift cX1_leastGift 7 (some .int) 4 [.ref 14, .ref 28, .int (nI k)] M (fun v N => sameX M N (fun z => z = 14 ∨ (92 ≤ z ∧ z ≤ 107)) ∧ ((∃ c f, c ≤ S ∧ gLe (view M 28) n o k c f ∧ v = some (.int (nI c)) ∧ N.1 14 1 = nI f ∧ N.1 14 2 = payT (shT (view M 28) f o (nI c)) n k) ∨ (v = some (.int 0) ∧ ∀ c f, 1 ≤ c → c ≤ S → ¬ gok (view M 28) n o k c f))) := by
  refine Con.of (own := RX1) (ls := [some (.ref 14), some (.ref 28), some (.int (nI k)), none, none, none, none]) rfl (by decide +kernel) (Nat.le_of_ble_eq_true rfl) rfl ?_
  have ht : isTown 92 := by unfold isTown; omega
  have hN : isTown 28 := by unfold isTown; omega
  have w2 : TW (cpM M 92 28) 92 n m := TW_cp w
  have hm10 := w.2.2.2.1
  refine rx_aload_n (i := 0) dX1_leastGift_0 rfl rfl ?_
  refine rx_getR 92 (k := 0) fo_X1_10 kl_14 (by decide) ti_1_0 (by decide) rfl dX1_leastGift_1 ?_
  refine rx_aload_n (i := 1) dX1_leastGift_4 rfl rfl ?_
  refine rx_cvN (ci := 8) mo_X8_copyFrom lk_X1_16 (c_X8_copyFrom ht hN (by omega)) (by decide) rfl rfl (Nat.le_of_ble_eq_true rfl) kl_92 rfl dX1_leastGift_5 ?_
  refine rx_aload_n (i := 0) dX1_leastGift_8 rfl rfl ?_
  refine rx_getR 92 (k := 0) fo_X1_10 kl_14 (by decide) ti_1_0 (by decide) rfl dX1_leastGift_9 ?_
  refine rx_getR 99 (k := 6) fo_X1_20 kl_92 (by decide) ti_8_6 (by decide) rfl dX1_leastGift_12 ?_
  refine rx_iload_n (i := 2) dX1_leastGift_15 rfl rfl ?_
  refine rx_ialdN kl_99 (by omega) (by first | decide | omega) dX1_leastGift_16 ?_
  refine rx_top (nI o) (by rw [show (cpM M 92 28).1 99 k = M.1 35 k from by simp [cpM]]; exact eo) ?_
  refine rx_istore_n (i := 3) dX1_leastGift_17 rfl (by decide) rfl rfl ?_
  refine rx_aload_n (i := 0) dX1_leastGift_18 rfl rfl ?_
  refine rx_getR 92 (k := 0) fo_X1_10 kl_14 (by decide) ti_1_0 (by decide) rfl dX1_leastGift_19 ?_
  refine rx_cvI (ci := 8) mo_X8_allCoin lk_X1_24 (c_X8_allCoin ht w2) (by decide) rfl rfl (Nat.le_of_ble_eq_true rfl) kl_92 rfl dX1_leastGift_22 ?_
  refine rx_top (nI S) (by rw [show (cpM M 92 28).1 (92 + 1) = M.1 29 from by funext j; simp [cpM]]; exact hS) ?_
  refine rx_istore (i := 4) dX1_leastGift_25 (by decide) rfl rfl ?_
  refine rx_iconst (1) dX1_leastGift_27 rfl ?_
  refine rx_istore (i := 5) dX1_leastGift_28 (by decide) rfl rfl ?_
  refine (l_gift_out w2 view_cp hO ho hk hS2 (S + 1) 1 (cpM M 92 28) (by omega) (by omega) sameX.rfl' (fun c' f' h1 h2 => by omega) (by omega)).mono ?_
  rintro pc' ls' st' N ⟨v, h1, ⟨h2, h3⟩, h4⟩
  exact ⟨v, h1, ⟨⟨fun a ha => (h2.1 a (by unfold gP; omega)).trans (cpM_o (by omega)), h2.2⟩, h3⟩, h4⟩
