
/-- with c coin from i to f, i may pay k -/
def lok (T : TT) (n i k c f : Nat) : Prop := f < n ∧ f ≠ i ∧ bt (payT (shT T i f (nI c)) n k) i = true
def lLe (T : TT) (n i k c f : Nat) : Prop := 1 ≤ c ∧ lok T n i k c f ∧ (∀ c' f', 1 ≤ c' → c' < c → ¬ lok T n i k c' f') ∧ ∀ f', f' < f → ¬ lok T n i k c f'

set_option maxRecDepth 100000 in
set_option maxHeartbeats 4000000 in
theorem l_loss_in {M0 : Mem} {T : TT} {n m i k S : Nat} (w0 : TW M0 92 n m) (hT : ∀ c, c ≠ 5 → c < 20 → view M0 92 c = T c) (hO : OKT T n) (hi : i < n) (hk : k < m) (hS : S < 100000) (eS : T 0 i - T 3 i = nI S) {c : Nat} (hc : 1 ≤ c) (hcS : c ≤ S) (hlt : ∀ c' f', 1 ≤ c' → c' < c → ¬ lok T n i k c' f') (K : ∀ M1, sameX M0 M1 gP → (∀ f, ¬ lok T n i k c f) → Reach cX1_leastLoss RX1 7 4 (RetQ cX1_leastLoss (some .int) (fun v N => sameX M0 N gP ∧ ((∃ c f, c ≤ S ∧ lLe T n i k c f ∧ v = some (.int (nI c)) ∧ N.1 14 1 = nI f) ∨ (v = some (.int 0) ∧ ∀ c f, 1 ≤ c → c ≤ S → ¬ lok T n i k c f)))) 81 ([some (.ref 14), some (.ref 28), some (.int (nI i)), some (.int (nI k)), some (.int (nI S)), some (.int (nI c)), some (.int (nI n))]) [] M1) : ∀ (N : Nat) (f : Nat) (M1 : Mem), (f ≤ n) → (sameX M0 M1 gP) → (∀ f', f' < f → ¬ lok T n i k c f') → n - f < N → Reach cX1_leastLoss RX1 7 4 (RetQ cX1_leastLoss (some .int) (fun v N => sameX M0 N gP ∧ ((∃ c f, c ≤ S ∧ lLe T n i k c f ∧ v = some (.int (nI c)) ∧ N.1 14 1 = nI f) ∨ (v = some (.int 0) ∧ ∀ c f, 1 ≤ c → c ≤ S → ¬ lok T n i k c f)))) 31 [some (.ref 14), some (.ref 28), some (.int (nI i)), some (.int (nI k)), some (.int (nI S)), some (.int (nI c)), some (.int (nI f))] [] (M1) := by
  intro N
  induction N with
  | zero => intro f M1 hf hs hno hm; exact absurd ‹_ < 0› (Nat.not_lt_zero _)
  | succ N ih =>
    intro f M1 hf hs hno hm
    have ⟨hn, hn8, hm, hm10, hd⟩ := w0
    have ht : isTown 92 := by unfold isTown; omega
    have hv : ∀ c, c ≤ 15 → c ≠ 6 → M1.1 (92 + c) = M0.1 (92 + c) := fun c h1 h2 => hs.1 _ (by unfold gP; omega)
    have hT1 : ∀ c, c ≠ 5 → c < 20 → view M1 92 c = T c := fun c h5 h20 => (view_same hv c h5 h20).trans (hT c h5 h20)
    have w1 : TW M1 92 n m := w0.keep (by rw [show (92:Nat) = 92 + 0 from rfl, hv 0 (by omega) (by omega)]) (by rw [show (92:Nat) = 92 + 0 from rfl, hv 0 (by omega) (by omega)]) (fun _ _ => by rw [hv 7 (by omega) (by omega)]) (fun _ _ => by rw [hv 8 (by omega) (by omega)])
    refine rx_iload (i := 6) dX1_leastLoss_31 rfl ?_
    refine rx_aload_n (i := 0) dX1_leastLoss_33 rfl rfl ?_
    refine rx_getR 92 (k := 0) fo_X1_10 kl_14 (by decide) ti_1_0 (by decide) rfl dX1_leastLoss_34 ?_
    refine rx_getI (k := 15) fo_X1_28 kl_92 (by decide) ti_8_15 dX1_leastLoss_37 ?_
    refine rx_icmp_ge (tgt := 81) dX1_leastLoss_40 (by decide) (fun c40 => ?_) (fun c40 => ?_)
    · skip
      have f40 := Int32.not_lt.mpr c40
      rw [show M1.1 92 15 = nI n from w1.1, nI_leI (by omega) (by omega)] at c40
      obtain rfl : f = n := by omega
      exact K M1 hs (fun f' q => hno f' q.1 q)
    · skip
      have f40 := Int32.not_le.mp c40
      rw [show M1.1 92 15 = nI n from w1.1, nI_leI (by omega) (by omega)] at c40
      refine rx_iload (i := 6) dX1_leastLoss_43 rfl ?_
      refine rx_iload_n (i := 2) dX1_leastLoss_45 rfl rfl ?_
      refine rx_icmp_eq (tgt := 75) dX1_leastLoss_46 (by decide) (fun c46 => ?_) (fun c46 => ?_)
      · skip
        have e46 : f = i := (nI_eq (by omega) (by omega)).mp c46
        first | refine rx_iincN (i := 6) dX1_leastLoss_75 rfl (by decide) rfl rfl ?_ | refine rx_iinc (i := 6) dX1_leastLoss_75 rfl rfl (by decide) rfl rfl ?_
        refine rx_goto (tgt := 31) dX1_leastLoss_78 (by decide) ?_
        exact ih (f + 1) M1 (by omega) hs (fun f' h q => by
          rcases Nat.lt_or_ge f' f with z | z
          · exact hno f' z q
          · obtain rfl : f' = f := by omega
            exact q.2.1 e46) (by omega)
      · skip
        have e46 : i ≠ f := fun q => c46 (by rw [q])
        have hBs : BB (onL (shM M1 92 i f (nI c)) 92) n := fun j hj => by
          rw [onL_sh, onT_same (shT_same hT1)]
          exact hO.bsh hi (nI_le (a := 1) hc (by omega)) (by rw [eS]; exact nI_le hcS (by omega)) j hj
        have hby : byOK M1 92 := by have := hO.2; rw [← hT1 14 (by omega) (by omega)] at this; exact this
        refine rx_aload_n (i := 0) dX1_leastLoss_49 rfl rfl ?_
        refine rx_iload_n (i := 2) dX1_leastLoss_50 rfl rfl ?_
        refine rx_iload (i := 6) dX1_leastLoss_51 rfl ?_
        refine rx_iload (i := 5) dX1_leastLoss_53 rfl ?_
        refine rx_iload_n (i := 3) dX1_leastLoss_55 rfl rfl ?_
        refine rx_callV (ci := 1) mo_X1_payersAfter lk_X1_36 (c_X1_payersAfter w1 hi (by omega) e46 hk hBs hby) (by decide) rfl rfl (Nat.le_of_ble_eq_true rfl) kl_14 rfl dX1_leastLoss_56 ?_
        rintro _ M2 ⟨rfl, hs2⟩
        have hs3 : sameX M0 M2 gP := hs.trans (hs2.weaken fun a h => Or.inl h)
        refine rx_top (payT (shT T i f (nI c)) n k) (by rw [payT_same (shT_same hT1)]) ?_
        refine rx_iconst (1) dX1_leastLoss_59 rfl ?_
        refine rx_iload_n (i := 2) dX1_leastLoss_60 rfl rfl ?_
        refine rx_ishl dX1_leastLoss_61 ?_
        refine rx_iand dX1_leastLoss_62 ?_
        refine rx_if_eq (tgt := 75) dX1_leastLoss_63 (by decide) (fun c63 => ?_) (fun c63 => ?_)
        · skip
          try have e63 := (and_bit _ (by omega)).mp c63
          first | refine rx_iincN (i := 6) dX1_leastLoss_75 rfl (by decide) rfl rfl ?_ | refine rx_iinc (i := 6) dX1_leastLoss_75 rfl rfl (by decide) rfl rfl ?_
          refine rx_goto (tgt := 31) dX1_leastLoss_78 (by decide) ?_
          exact ih (f + 1) M2 (by omega) hs3 (fun f' h q => by
            rcases Nat.lt_or_ge f' f with z | z
            · exact hno f' z q
            · obtain rfl : f' = f := by omega
              exact absurd q.2.2 (by rw [e63]; decide)) (by omega)
        · skip
          try have e63 := (and_bitn _ (by omega)).mp c63
          refine rx_aload_n (i := 0) dX1_leastLoss_66 rfl rfl ?_
          refine rx_iload (i := 6) dX1_leastLoss_67 rfl ?_
          refine rx_putI (k := 1) fo_X1_43 fn_1_1 kl_14 (by decide) ty_1_1 dX1_leastLoss_69 ?_
          refine rx_iload (i := 5) dX1_leastLoss_72 rfl ?_
          exact rx_iret dX1_leastLoss_74 ⟨hs3.trans (sameX_I (Or.inr rfl)), Or.inl ⟨c, f, hcS, ⟨hc, ⟨by omega, fun q => e46 q.symm, e63⟩, hlt, hno⟩, rfl, sI_eq⟩⟩
set_option maxRecDepth 100000 in
set_option maxHeartbeats 4000000 in
theorem l_loss_out {M0 : Mem} {T : TT} {n m i k S : Nat} (w0 : TW M0 92 n m) (hT : ∀ c, c ≠ 5 → c < 20 → view M0 92 c = T c) (hO : OKT T n) (hi : i < n) (hk : k < m) (hS : S < 100000) (eS : T 0 i - T 3 i = nI S) : ∀ (N : Nat) (c : Nat) (M1 : Mem), (1 ≤ c) → (c ≤ S + 1) → (sameX M0 M1 gP) → (∀ c' f', 1 ≤ c' → c' < c → ¬ lok T n i k c' f') → S + 1 - c < N → Reach cX1_leastLoss RX1 7 4 (RetQ cX1_leastLoss (some .int) (fun v N => sameX M0 N gP ∧ ((∃ c f, c ≤ S ∧ lLe T n i k c f ∧ v = some (.int (nI c)) ∧ N.1 14 1 = nI f) ∨ (v = some (.int 0) ∧ ∀ c f, 1 ≤ c → c ≤ S → ¬ lok T n i k c f)))) 21 [some (.ref 14), some (.ref 28), some (.int (nI i)), some (.int (nI k)), some (.int (nI S)), some (.int (nI c)), none] [] (M1) := by
  intro N
  induction N with
  | zero => intro c M1 hc hcS hs hno hm; exact absurd ‹_ < 0› (Nat.not_lt_zero _)
  | succ N ih =>
    intro c M1 hc hcS hs hno hm
    refine rx_iload (i := 5) dX1_leastLoss_21 rfl ?_
    refine rx_iload (i := 4) dX1_leastLoss_23 rfl ?_
    refine rx_icmp_gt (tgt := 87) dX1_leastLoss_25 (by decide) (fun c25 => ?_) (fun c25 => ?_)
    · skip
      have f25 := Int32.not_le.mpr c25
      have e34 : S < c := (nI_ltI (by omega) (by omega)).mp c25
      refine rx_iconst (0) dX1_leastLoss_87 rfl ?_
      exact rx_iret dX1_leastLoss_88 ⟨hs, Or.inr ⟨rfl, fun c' f' h1 h2 => hno c' f' h1 (by omega)⟩⟩
    · skip
      have f25 := Int32.not_lt.mp c25
      have e34 : c ≤ S := Nat.not_lt.mp fun q => c25 (nI_lt q (by omega))
      refine rx_iconst (0) dX1_leastLoss_28 rfl ?_
      refine rx_istore (i := 6) dX1_leastLoss_29 (by decide) rfl rfl ?_
      refine l_loss_in w0 hT hO hi hk hS eS hc e34 hno (fun M2 hs2 hno2 => ?_) (n + 1) 0 M1 (Nat.zero_le _) hs (fun f' h => absurd h (Nat.not_lt_zero _)) (by omega)
      refine rx_iincN (i := 5) dX1_leastLoss_81 rfl (by decide) rfl rfl ?_
      refine rx_goto (tgt := 21) dX1_leastLoss_84 (by decide) ?_
      refine rx_drop 6 ?_
      exact ih (c + 1) M2 (by omega) (by omega) hs2 (fun c' f' h1 h2 q => by
        rcases Nat.lt_or_ge c' c with z | z
        · exact hno c' f' h1 z q
        · obtain rfl : c' = c := by omega
          exact hno2 f' q) (by omega)
set_option maxRecDepth 100000 in
set_option maxHeartbeats 4000000 in
theorem c_X1_leastLoss {M : Mem} {n m i k S : Nat} (w : TW M 28 n m) (hO : OKT (view M 28) n) (hi : i < n) (hk : k < m) (eS : view M 28 0 i - view M 28 3 i = nI S) (hS2 : S < 100000) : Con yX1_leastLoss cX1_leastLoss 7 (some .int) 4 [.ref 14, .ref 28, .int (nI i), .int (nI k)] M (fun v N => sameX M N (fun z => z = 14 ∨ (92 ≤ z ∧ z ≤ 107)) ∧ ((∃ c f, c ≤ S ∧ lLe (view M 28) n i k c f ∧ v = some (.int (nI c)) ∧ N.1 14 1 = nI f) ∨ (v = some (.int 0) ∧ ∀ c f, 1 ≤ c → c ≤ S → ¬ lok (view M 28) n i k c f))) := by
  refine Con.of (own := RX1) (ls := [some (.ref 14), some (.ref 28), some (.int (nI i)), some (.int (nI k)), none, none, none]) rfl (by decide +kernel) (Nat.le_of_ble_eq_true rfl) rfl ?_
  have ht : isTown 92 := by unfold isTown; omega
  have hN : isTown 28 := by unfold isTown; omega
  have w2 : TW (cpM M 92 28) 92 n m := TW_cp w
  have hn8 := w.2.1
  refine rx_aload_n (i := 0) dX1_leastLoss_0 rfl rfl ?_
  refine rx_getR 92 (k := 0) fo_X1_10 kl_14 (by decide) ti_1_0 (by decide) rfl dX1_leastLoss_1 ?_
  refine rx_aload_n (i := 1) dX1_leastLoss_4 rfl rfl ?_
  refine rx_cvN (ci := 8) mo_X8_copyFrom lk_X1_16 (c_X8_copyFrom ht hN (by omega)) (by decide) rfl rfl (Nat.le_of_ble_eq_true rfl) kl_92 rfl dX1_leastLoss_5 ?_
  refine rx_aload_n (i := 0) dX1_leastLoss_8 rfl rfl ?_
  refine rx_getR 92 (k := 0) fo_X1_10 kl_14 (by decide) ti_1_0 (by decide) rfl dX1_leastLoss_9 ?_
  refine rx_iload_n (i := 2) dX1_leastLoss_12 rfl rfl ?_
  refine rx_cvI (ci := 8) mo_X8_counted lk_X1_46 (c_X8_counted ht (by omega)) (by decide) rfl rfl (Nat.le_of_ble_eq_true rfl) kl_92 rfl dX1_leastLoss_13 ?_
  refine rx_top (nI S) (by
    have h0 := congrFun (view_cp (M := M) (t := 92) (o := 28) 0 (by omega) (by omega)) i
    have h3 := congrFun (view_cp (M := M) (t := 92) (o := 28) 3 (by omega) (by omega)) i
    rw [← eS, ← h0, ← h3]; rfl) ?_
  refine rx_istore (i := 4) dX1_leastLoss_16 (by decide) rfl rfl ?_
  refine rx_iconst (1) dX1_leastLoss_18 rfl ?_
  refine rx_istore (i := 5) dX1_leastLoss_19 (by decide) rfl rfl ?_
  refine (l_loss_out w2 view_cp hO hi hk hS2 eS (S + 1) 1 (cpM M 92 28) (by omega) (by omega) sameX.rfl' (fun c' f' h1 h2 => by omega) (by omega)).mono ?_
  rintro pc' ls' st' N ⟨v, h1, ⟨h2, h3⟩, h4⟩
  exact ⟨v, h1, ⟨⟨fun a ha => (h2.1 a (by unfold gP; omega)).trans (cpM_o (by omega)), h2.2⟩, h3⟩, h4⟩
set_option maxRecDepth 100000 in
set_option maxHeartbeats 4000000 in
theorem l_X2_countedOf {M : Mem} {n m : Nat} (w : TW M 124 n m) (b : Int32) : ∀ (N : Nat) (i : Nat) (s : Int32), (i ≤ n) → (s = fsum (fun i => if bt b i = true then M.1 125 i - M.1 128 i else 0) i) → n - i < N → Reach cX2_countedOf RX2 4 1 (FQ cX2_countedOf (some .int) (some (.int (fsum (fun i => if bt b i = true then M.1 125 i - M.1 128 i else 0) n))) M) 4 [some (.ref 15), some (.int b), some (.int s), some (.int (nI i))] [] (M) := by
  intro N
  induction N with
  | zero => intro i s hi hs hm; exact absurd ‹_ < 0› (Nat.not_lt_zero _)
  | succ N ih =>
    intro i s hi hs hm
    have ht : isTown 124 := by unfold isTown; omega
    have ⟨hn, hn8, hm, hm10, hd⟩ := w
    refine rx_iload_n (i := 3) dX2_countedOf_4 rfl rfl ?_
    refine rx_aload_n (i := 0) dX2_countedOf_5 rfl rfl ?_
    refine rx_getR 124 (k := 0) fo_X2_12 kl_15 (by decide) ti_2_0 (by decide) rfl dX2_countedOf_6 ?_
    refine rx_getI (k := 15) fo_X2_52 kl_124 (by decide) ti_8_15 dX2_countedOf_9 ?_
    refine rx_icmp_ge (tgt := 40) dX2_countedOf_12 (by decide) (fun c12 => ?_) (fun c12 => ?_)
    · skip
      have f12 := Int32.not_lt.mpr c12
      rw [hn, nI_leI (by omega) (by omega)] at c12
      obtain rfl : i = n := by omega
      refine rx_iload_n (i := 2) dX2_countedOf_40 rfl rfl ?_
      exact rx_fiI dX2_countedOf_41 hs rfl
    · skip
      have f12 := Int32.not_le.mp c12
      rw [hn, nI_leI (by omega) (by omega)] at c12
      refine rx_iload_n (i := 1) dX2_countedOf_15 rfl rfl ?_
      refine rx_iconst (1) dX2_countedOf_16 rfl ?_
      refine rx_iload_n (i := 3) dX2_countedOf_17 rfl rfl ?_
      refine rx_ishl dX2_countedOf_18 ?_
      refine rx_iand dX2_countedOf_19 ?_
      refine rx_if_eq (tgt := 34) dX2_countedOf_20 (by decide) (fun c20 => ?_) (fun c20 => ?_)
      · skip
        try have e20 := (and_bit _ (by omega)).mp c20
        first | refine rx_iincN (i := 3) dX2_countedOf_34 rfl (by decide) rfl rfl ?_ | refine rx_iinc (i := 3) dX2_countedOf_34 rfl rfl (by decide) rfl rfl ?_
        refine rx_goto (tgt := 4) dX2_countedOf_37 (by decide) ?_
        exact ih (i + 1) _ (by omega) (by rw [hs]; simp [fsum, e20]) (by omega)
      · skip
        try have e20 := (and_bitn _ (by omega)).mp c20
        refine rx_iload_n (i := 2) dX2_countedOf_23 rfl rfl ?_
        refine rx_aload_n (i := 0) dX2_countedOf_24 rfl rfl ?_
        refine rx_getR 124 (k := 0) fo_X2_12 kl_15 (by decide) ti_2_0 (by decide) rfl dX2_countedOf_25 ?_
        refine rx_iload_n (i := 3) dX2_countedOf_28 rfl rfl ?_
        refine rx_cvI (ci := 8) mo_X8_counted lk_X2_55 (c_X8_counted ht (by omega)) (by decide) rfl rfl (Nat.le_of_ble_eq_true rfl) kl_124 rfl dX2_countedOf_29 ?_
        refine rx_iadd dX2_countedOf_32 ?_
        refine rx_istore_n (i := 2) dX2_countedOf_33 rfl (by decide) rfl rfl ?_
        first | refine rx_iincN (i := 3) dX2_countedOf_34 rfl (by decide) rfl rfl ?_ | refine rx_iinc (i := 3) dX2_countedOf_34 rfl rfl (by decide) rfl rfl ?_
        refine rx_goto (tgt := 4) dX2_countedOf_37 (by decide) ?_
        exact ih (i + 1) _ (by omega) (by rw [hs]; simp [fsum, e20]) (by omega)
set_option maxRecDepth 100000 in
set_option maxHeartbeats 4000000 in
theorem c_X2_countedOf {M : Mem} {n m : Nat} (w : TW M 124 n m) {b : Int32} : Fun yX2_countedOf cX2_countedOf 4 (some .int) 1 [.ref 15, .int b] M (some (.int (fsum (fun i => if bt b i = true then M.1 125 i - M.1 128 i else 0) n))) (M) := by
  refine Fun.of (own := RX2) ([some (.ref 15), some (.int b), none, none]) rfl (by decide +kernel) (Nat.le_of_ble_eq_true rfl) rfl ?_
  refine rx_iconst (0) dX2_countedOf_0 rfl ?_
  refine rx_istore_n (i := 2) dX2_countedOf_1 rfl (by decide) rfl rfl ?_
  refine rx_iconst (0) dX2_countedOf_2 rfl ?_
  refine rx_istore_n (i := 3) dX2_countedOf_3 rfl (by decide) rfl rfl ?_
  exact l_X2_countedOf w b (n + 1) 0 0 (by omega) rfl (by omega)
set_option maxRecDepth 100000 in
set_option maxHeartbeats 4000000 in
theorem l_X2_debtsBehind {M : Mem} {n m : Nat} (w : TW M 124 n m) (b : Int32) : ∀ (N : Nat) (i : Nat) (s : Int32), (i ≤ m) → (s = fbor (fun k => !(decide (M.1 16 k &&& (b ^^^ (-1)) = 0))) i) → m - i < N → Reach cX2_debtsBehind RX2 4 0 (FQ cX2_debtsBehind (some .int) (some (.int (fbor (fun k => !(decide (M.1 16 k &&& (b ^^^ (-1)) = 0))) m))) M) 4 [some (.ref 15), some (.int b), some (.int s), some (.int (nI i))] [] (M) := by
  intro N
  induction N with
  | zero => intro i s hi hs hm; exact absurd ‹_ < 0› (Nat.not_lt_zero _)
  | succ N ih =>
    intro i s hi hs hm
    have ht : isTown 124 := by unfold isTown; omega
    have ⟨hn, hn8, hm, hm10, hd⟩ := w
    refine rx_iload_n (i := 3) dX2_debtsBehind_4 rfl rfl ?_
    refine rx_aload_n (i := 0) dX2_debtsBehind_5 rfl rfl ?_
    refine rx_getR 124 (k := 0) fo_X2_12 kl_15 (by decide) ti_2_0 (by decide) rfl dX2_debtsBehind_6 ?_
    refine rx_getI (k := 16) fo_X2_40 kl_124 (by decide) ti_8_16 dX2_debtsBehind_9 ?_
    refine rx_icmp_ge (tgt := 40) dX2_debtsBehind_12 (by decide) (fun c12 => ?_) (fun c12 => ?_)
    · skip
      have f12 := Int32.not_lt.mpr c12
      rw [hm, nI_leI (by omega) (by omega)] at c12
      obtain rfl : i = m := by omega
      refine rx_iload_n (i := 2) dX2_debtsBehind_40 rfl rfl ?_
      exact rx_fiI dX2_debtsBehind_41 hs rfl
    · skip
      have f12 := Int32.not_le.mp c12
      rw [hm, nI_leI (by omega) (by omega)] at c12
      refine rx_aload_n (i := 0) dX2_debtsBehind_15 rfl rfl ?_
      refine rx_getR 16 (k := 1) fo_X2_18 kl_15 (by decide) ti_2_1 (by decide) rfl dX2_debtsBehind_16 ?_
      refine rx_iload_n (i := 3) dX2_debtsBehind_19 rfl rfl ?_
      refine rx_ialdN kl_16 (by omega) (by first | decide | omega) dX2_debtsBehind_20 ?_
      refine rx_iload_n (i := 1) dX2_debtsBehind_21 rfl rfl ?_
      refine rx_iconst (-1) dX2_debtsBehind_22 rfl ?_
      refine rx_ixor dX2_debtsBehind_23 ?_
      refine rx_iand dX2_debtsBehind_24 ?_
      refine rx_if_eq (tgt := 34) dX2_debtsBehind_25 (by decide) (fun c25 => ?_) (fun c25 => ?_)
      · skip
        first | refine rx_iincN (i := 3) dX2_debtsBehind_34 rfl (by decide) rfl rfl ?_ | refine rx_iinc (i := 3) dX2_debtsBehind_34 rfl rfl (by decide) rfl rfl ?_
        refine rx_goto (tgt := 4) dX2_debtsBehind_37 (by decide) ?_
        exact ih (i + 1) _ (by omega) (by rw [hs]; simp only [fbor, c25]; rfl) (by omega)
      · skip
        refine rx_iload_n (i := 2) dX2_debtsBehind_28 rfl rfl ?_
        refine rx_iconst (1) dX2_debtsBehind_29 rfl ?_
        refine rx_iload_n (i := 3) dX2_debtsBehind_30 rfl rfl ?_
        refine rx_ishl dX2_debtsBehind_31 ?_
        refine rx_ior dX2_debtsBehind_32 ?_
        refine rx_istore_n (i := 2) dX2_debtsBehind_33 rfl (by decide) rfl rfl ?_
        first | refine rx_iincN (i := 3) dX2_debtsBehind_34 rfl (by decide) rfl rfl ?_ | refine rx_iinc (i := 3) dX2_debtsBehind_34 rfl rfl (by decide) rfl rfl ?_
        refine rx_goto (tgt := 4) dX2_debtsBehind_37 (by decide) ?_
        exact ih (i + 1) _ (by omega) (by rw [hs]; simp only [fbor, c25]; rfl) (by omega)
set_option maxRecDepth 100000 in
set_option maxHeartbeats 4000000 in
theorem c_X2_debtsBehind {M : Mem} {n m : Nat} (w : TW M 124 n m) {b : Int32} : Fun yX2_debtsBehind cX2_debtsBehind 4 (some .int) 0 [.ref 15, .int b] M (some (.int (fbor (fun k => !(decide (M.1 16 k &&& (b ^^^ (-1)) = 0))) m))) (M) := by
  refine Fun.of (own := RX2) ([some (.ref 15), some (.int b), none, none]) rfl (by decide +kernel) (Nat.le_of_ble_eq_true rfl) rfl ?_
  refine rx_iconst (0) dX2_debtsBehind_0 rfl ?_
  refine rx_istore_n (i := 2) dX2_debtsBehind_1 rfl (by decide) rfl rfl ?_
  refine rx_iconst (0) dX2_debtsBehind_2 rfl ?_
  refine rx_istore_n (i := 3) dX2_debtsBehind_3 rfl (by decide) rfl rfl ?_
  exact l_X2_debtsBehind w b (m + 1) 0 0 (by omega) rfl (by omega)
def sbM (M : Mem) (m : Nat) (b : Int32) : Int32 := fsum (fun k => if bt (fbor (fun k => !(decide (M.1 16 k &&& (b ^^^ (-1)) = 0))) m) k = true then M.1 133 k else 0) m
set_option maxRecDepth 100000 in
set_option maxHeartbeats 4000000 in
theorem c_X2_sumsBehind {M : Mem} {n m : Nat} (w : TW M 124 n m) {b : Int32} : Fun yX2_sumsBehind cX2_sumsBehind 2 (some .int) 1 [.ref 15, .int b] M (some (.int (sbM M m b))) (M) := by
  refine Fun.of (own := RX2) ([some (.ref 15), some (.int b)]) rfl (by decide +kernel) (Nat.le_of_ble_eq_true rfl) rfl ?_
  have ht : isTown 124 := by unfold isTown; omega
  have ⟨hn, hn8, hm, hm10, hd⟩ := w
  refine rx_aload_n (i := 0) dX2_sumsBehind_0 rfl rfl ?_
  refine rx_getR 124 (k := 0) fo_X2_12 kl_15 (by decide) ti_2_0 (by decide) rfl dX2_sumsBehind_1 ?_
  refine rx_aload_n (i := 0) dX2_sumsBehind_4 rfl rfl ?_
  refine rx_iload_n (i := 1) dX2_sumsBehind_5 rfl rfl ?_
  refine rx_cvI (ci := 2) mo_X2_debtsBehind lk_X2_58 (c_X2_debtsBehind w) (by decide) rfl rfl (Nat.le_of_ble_eq_true rfl) kl_15 rfl dX2_sumsBehind_6 ?_
  refine rx_cvI (ci := 8) mo_X8_sumOf lk_X2_61 (c_X8_sumOf ht w) (by decide) rfl rfl (Nat.le_of_ble_eq_true rfl) kl_124 rfl dX2_sumsBehind_9 ?_
  exact rx_fiI dX2_sumsBehind_12 rfl rfl
/-- what a set bars -/
def barM (M : Mem) (n m : Nat) (b : Int32) : Int32 := fsum (fun i => if bt b i = true then M.1 125 i - M.1 128 i else 0) n + sbM M m b
/-- the first set of the least bar among 0 .. k - 1 -/
def lbM (f : Nat → Int32) : Nat → Nat × Int32
  | 0 => (0, 2147483647)
  | k + 1 => if f k < (lbM f k).2 then (k, f k) else lbM f k
set_option maxRecDepth 100000 in
set_option maxHeartbeats 4000000 in
theorem l_X2_leastBar {M : Mem} {n m : Nat} (w : TW M 124 n m) : ∀ (N : Nat) (i : Nat) (s : Nat × Int32), (i ≤ 2 ^ n) → (s = lbM (fun b => barM M n m (nI b)) i) → 2 ^ n - i < N → Reach cX2_leastBar RX2 5 2 (FQ cX2_leastBar (some .int) (some (.int (nI (lbM (fun b => barM M n m (nI b)) (2 ^ n)).1))) M) 7 [some (.ref 15), some (.int (nI s.1)), some (.int s.2), some (.int (nI i)), none] [] (M) := by
  intro N
  induction N with
  | zero => intro i s hi hs hm; exact absurd ‹_ < 0› (Nat.not_lt_zero _)
  | succ N ih =>
    intro i s hi hs hm
    have ht : isTown 124 := by unfold isTown; omega
    have ⟨hn, hn8, hm, hm10, hd⟩ := w
    refine rx_iload_n (i := 3) dX2_leastBar_7 rfl rfl ?_
    refine rx_aload_n (i := 0) dX2_leastBar_8 rfl rfl ?_
    refine rx_getR 124 (k := 0) fo_X2_12 kl_15 (by decide) ti_2_0 (by decide) rfl dX2_leastBar_9 ?_
    refine rx_cvI (ci := 8) mo_X8_everybody lk_X2_65 (c_X8_everybody ht w) (by decide) rfl rfl (Nat.le_of_ble_eq_true rfl) kl_124 rfl dX2_leastBar_12 ?_
    refine rx_top (nI (2 ^ n - 1)) ((by decide +kernel : ∀ n, n ≤ 8 → fbor (fun _ => true) n = nI (2 ^ n - 1)) n hn8) ?_
    have h2n : 2 ^ n ≤ 256 := (by decide +kernel : ∀ n, n ≤ 8 → 2 ^ n ≤ 256) n hn8
    have h2p : 1 ≤ 2 ^ n := Nat.one_le_two_pow
    refine rx_icmp_gt (tgt := 48) dX2_leastBar_15 (by decide) (fun c15 => ?_) (fun c15 => ?_)
    · skip
      have f15 := Int32.not_le.mpr c15
      have e15 : 2 ^ n - 1 < i := (nI_ltI (by omega) (by omega)).mp c15
      obtain rfl : i = 2 ^ n := by omega
      refine rx_iload_n (i := 1) dX2_leastBar_48 rfl rfl ?_
      exact rx_fiI dX2_leastBar_49 (by rw [hs]) rfl
    · skip
      have f15 := Int32.not_lt.mp c15
      have e15 : i < 2 ^ n := by
        rcases Nat.lt_or_ge i (2 ^ n) with q | q
        · exact q
        · exact absurd (nI_lt (a := 2 ^ n - 1) (b := i) (by omega) (by omega)) c15
      refine rx_aload_n (i := 0) dX2_leastBar_18 rfl rfl ?_
      refine rx_iload_n (i := 3) dX2_leastBar_19 rfl rfl ?_
      refine rx_cvI (ci := 2) mo_X2_countedOf lk_X2_69 (c_X2_countedOf w) (by decide) rfl rfl (Nat.le_of_ble_eq_true rfl) kl_15 rfl dX2_leastBar_20 ?_
      refine rx_aload_n (i := 0) dX2_leastBar_23 rfl rfl ?_
      refine rx_iload_n (i := 3) dX2_leastBar_24 rfl rfl ?_
      refine rx_cvI (ci := 2) mo_X2_sumsBehind lk_X2_72 (c_X2_sumsBehind w) (by decide) rfl rfl (Nat.le_of_ble_eq_true rfl) kl_15 rfl dX2_leastBar_25 ?_
      refine rx_iadd dX2_leastBar_28 ?_
      refine rx_istore (i := 4) dX2_leastBar_29 (by decide) rfl rfl ?_
      refine rx_iload (i := 4) dX2_leastBar_31 rfl ?_
      refine rx_iload_n (i := 2) dX2_leastBar_33 rfl rfl ?_
      refine rx_icmp_ge (tgt := 42) dX2_leastBar_34 (by decide) (fun c34 => ?_) (fun c34 => ?_)
      · skip
        have f34 := Int32.not_lt.mpr c34
        first | refine rx_iincN (i := 3) dX2_leastBar_42 rfl (by decide) rfl rfl ?_ | refine rx_iinc (i := 3) dX2_leastBar_42 rfl rfl (by decide) rfl rfl ?_
        refine rx_goto (tgt := 7) dX2_leastBar_45 (by decide) ?_
        refine rx_drop 4 ?_
        exact ih (i + 1) s (by omega) (by rw [show lbM (fun b => barM M n m (nI b)) (i + 1) = _ from if_neg (fun q => f34 (hs ▸ q))]; exact hs) (by omega)
      · skip
        have f34 := Int32.not_le.mp c34
        refine rx_iload (i := 4) dX2_leastBar_37 rfl ?_
        refine rx_istore_n (i := 2) dX2_leastBar_39 rfl (by decide) rfl rfl ?_
        refine rx_iload_n (i := 3) dX2_leastBar_40 rfl rfl ?_
        refine rx_istore_n (i := 1) dX2_leastBar_41 rfl (by decide) rfl rfl ?_
        first | refine rx_iincN (i := 3) dX2_leastBar_42 rfl (by decide) rfl rfl ?_ | refine rx_iinc (i := 3) dX2_leastBar_42 rfl rfl (by decide) rfl rfl ?_
        refine rx_goto (tgt := 7) dX2_leastBar_45 (by decide) ?_
        refine rx_drop 4 ?_
        exact ih (i + 1) (i, _) (by omega) (by rw [show lbM (fun b => barM M n m (nI b)) (i + 1) = _ from if_pos (hs ▸ f34)]; rfl) (by omega)
set_option maxRecDepth 100000 in
set_option maxHeartbeats 4000000 in
theorem c_X2_leastBar {M : Mem} {n m : Nat} (w : TW M 124 n m) : Fun yX2_leastBar cX2_leastBar 5 (some .int) 2 [.ref 15] M (some (.int (nI (lbM (fun b => barM M n m (nI b)) (2 ^ n)).1))) (M) := by
  refine Fun.of (own := RX2) ([some (.ref 15), none, none, none, none]) rfl (by decide +kernel) (Nat.le_of_ble_eq_true rfl) rfl ?_
  refine rx_iconst (0) dX2_leastBar_0 rfl ?_
  refine rx_istore_n (i := 1) dX2_leastBar_1 rfl (by decide) rfl rfl ?_
  refine rx_ldc (own := RX2) (v := (2147483647)) (List.mem_of_getElem? (i := 1189) (by decide +kernel)) dX2_leastBar_2 ?_
  refine rx_istore_n (i := 2) dX2_leastBar_4 rfl (by decide) rfl rfl ?_
  refine rx_iconst (0) dX2_leastBar_5 rfl ?_
  refine rx_istore_n (i := 3) dX2_leastBar_6 rfl (by decide) rfl rfl ?_
  exact l_X2_leastBar w (2 ^ n + 1) 0 (0, 2147483647) (Nat.zero_le _) rfl (Nat.lt_succ_of_le (Nat.sub_le _ _))
set_option maxRecDepth 100000 in
set_option maxHeartbeats 4000000 in
theorem c_X2_greatestFlow {M : Mem} {n m : Nat} (w : TW M 124 n m) : Fun yX2_greatestFlow cX2_greatestFlow 2 (some .int) 3 [.ref 15] M (some (.int (barM M n m (nI (lbM (fun b => barM M n m (nI b)) (2 ^ n)).1)))) (M) := by
  refine Fun.of (own := RX2) ([some (.ref 15), none]) rfl (by decide +kernel) (Nat.le_of_ble_eq_true rfl) rfl ?_
  refine rx_aload_n (i := 0) dX2_greatestFlow_0 rfl rfl ?_
  refine rx_cvI (ci := 2) mo_X2_leastBar lk_X2_75 (c_X2_leastBar w) (by decide) rfl rfl (Nat.le_of_ble_eq_true rfl) kl_15 rfl dX2_greatestFlow_1 ?_
  refine rx_istore_n (i := 1) dX2_greatestFlow_4 rfl (by decide) rfl rfl ?_
  refine rx_aload_n (i := 0) dX2_greatestFlow_5 rfl rfl ?_
  refine rx_iload_n (i := 1) dX2_greatestFlow_6 rfl rfl ?_
  refine rx_cvI (ci := 2) mo_X2_countedOf lk_X2_69 (c_X2_countedOf w) (by decide) rfl rfl (Nat.le_of_ble_eq_true rfl) kl_15 rfl dX2_greatestFlow_7 ?_
  refine rx_aload_n (i := 0) dX2_greatestFlow_10 rfl rfl ?_
  refine rx_iload_n (i := 1) dX2_greatestFlow_11 rfl rfl ?_
  refine rx_cvI (ci := 2) mo_X2_sumsBehind lk_X2_72 (c_X2_sumsBehind w) (by decide) rfl rfl (Nat.le_of_ble_eq_true rfl) kl_15 rfl dX2_greatestFlow_12 ?_
  refine rx_iadd dX2_greatestFlow_15 ?_
  exact rx_fiI dX2_greatestFlow_16 rfl rfl
set_option maxRecDepth 100000 in
set_option maxHeartbeats 4000000 in
theorem l_X2_tooGreat {M : Mem} {n m : Nat} (w : TW M 124 n m) : ∀ (N : Nat) (i : Nat) (s : Int32), (i ≤ m) → (s = fbor (fun k => bt (M.1 15 2) k && decide (fsum (fun i => if bt (M.1 16 k) i = true then M.1 125 i - M.1 128 i else 0) n < M.1 133 k)) i) → m - i < N → Reach cX2_tooGreat RX2 3 2 (FQ cX2_tooGreat (some .int) (some (.int (fbor (fun k => bt (M.1 15 2) k && decide (fsum (fun i => if bt (M.1 16 k) i = true then M.1 125 i - M.1 128 i else 0) n < M.1 133 k)) m))) M) 4 [some (.ref 15), some (.int s), some (.int (nI i))] [] (M) := by
  intro N
  induction N with
  | zero => intro i s hi hs hm; exact absurd ‹_ < 0› (Nat.not_lt_zero _)
  | succ N ih =>
    intro i s hi hs hm
    have ht : isTown 124 := by unfold isTown; omega
    have ⟨hn, hn8, hm, hm10, hd⟩ := w
    refine rx_iload_n (i := 2) dX2_tooGreat_4 rfl rfl ?_
    refine rx_aload_n (i := 0) dX2_tooGreat_5 rfl rfl ?_
    refine rx_getR 124 (k := 0) fo_X2_12 kl_15 (by decide) ti_2_0 (by decide) rfl dX2_tooGreat_6 ?_
    refine rx_getI (k := 16) fo_X2_40 kl_124 (by decide) ti_8_16 dX2_tooGreat_9 ?_
    refine rx_icmp_ge (tgt := 60) dX2_tooGreat_12 (by decide) (fun c12 => ?_) (fun c12 => ?_)
    · skip
      have f12 := Int32.not_lt.mpr c12
      rw [hm, nI_leI (by omega) (by omega)] at c12
      obtain rfl : i = m := by omega
      refine rx_iload_n (i := 1) dX2_tooGreat_60 rfl rfl ?_
      exact rx_fiI dX2_tooGreat_61 hs rfl
    · skip
      have f12 := Int32.not_le.mp c12
      rw [hm, nI_leI (by omega) (by omega)] at c12
      refine rx_aload_n (i := 0) dX2_tooGreat_15 rfl rfl ?_
      refine rx_getI (k := 2) fo_X2_36 kl_15 (by decide) ti_2_2 dX2_tooGreat_16 ?_
      refine rx_iconst (1) dX2_tooGreat_19 rfl ?_
      refine rx_iload_n (i := 2) dX2_tooGreat_20 rfl rfl ?_
      refine rx_ishl dX2_tooGreat_21 ?_
      refine rx_iand dX2_tooGreat_22 ?_
      refine rx_if_eq (tgt := 54) dX2_tooGreat_23 (by decide) (fun c23 => ?_) (fun c23 => ?_)
      · skip
        try have e23 := (and_bit _ (by omega)).mp c23
        first | refine rx_iincN (i := 2) dX2_tooGreat_54 rfl (by decide) rfl rfl ?_ | refine rx_iinc (i := 2) dX2_tooGreat_54 rfl rfl (by decide) rfl rfl ?_
        refine rx_goto (tgt := 4) dX2_tooGreat_57 (by decide) ?_
        exact ih (i + 1) _ (by omega) (by rw [hs]; simp [fbor, *, bit]) (by omega)
      · skip
        try have e23 := (and_bitn _ (by omega)).mp c23
        refine rx_aload_n (i := 0) dX2_tooGreat_26 rfl rfl ?_
        refine rx_aload_n (i := 0) dX2_tooGreat_27 rfl rfl ?_
        refine rx_getR 16 (k := 1) fo_X2_18 kl_15 (by decide) ti_2_1 (by decide) rfl dX2_tooGreat_28 ?_
        refine rx_iload_n (i := 2) dX2_tooGreat_31 rfl rfl ?_
        refine rx_ialdN kl_16 (by omega) (by first | decide | omega) dX2_tooGreat_32 ?_
        refine rx_cvI (ci := 2) mo_X2_countedOf lk_X2_69 (c_X2_countedOf w) (by decide) rfl rfl (Nat.le_of_ble_eq_true rfl) kl_15 rfl dX2_tooGreat_33 ?_
        refine rx_aload_n (i := 0) dX2_tooGreat_36 rfl rfl ?_
        refine rx_getR 124 (k := 0) fo_X2_12 kl_15 (by decide) ti_2_0 (by decide) rfl dX2_tooGreat_37 ?_
        refine rx_getR 133 (k := 8) fo_X2_78 kl_124 (by decide) ti_8_8 (by decide) rfl dX2_tooGreat_40 ?_
        refine rx_iload_n (i := 2) dX2_tooGreat_43 rfl rfl ?_
        refine rx_ialdN kl_133 (by omega) (by first | decide | omega) dX2_tooGreat_44 ?_
        refine rx_icmp_ge (tgt := 54) dX2_tooGreat_45 (by decide) (fun c45 => ?_) (fun c45 => ?_)
        · skip
          have f45 := Int32.not_lt.mpr c45
          first | refine rx_iincN (i := 2) dX2_tooGreat_54 rfl (by decide) rfl rfl ?_ | refine rx_iinc (i := 2) dX2_tooGreat_54 rfl rfl (by decide) rfl rfl ?_
          refine rx_goto (tgt := 4) dX2_tooGreat_57 (by decide) ?_
          exact ih (i + 1) _ (by omega) (by rw [hs]; simp [fbor, *, bit]) (by omega)
        · skip
          have f45 := Int32.not_le.mp c45
          refine rx_iload_n (i := 1) dX2_tooGreat_48 rfl rfl ?_
          refine rx_iconst (1) dX2_tooGreat_49 rfl ?_
          refine rx_iload_n (i := 2) dX2_tooGreat_50 rfl rfl ?_
          refine rx_ishl dX2_tooGreat_51 ?_
          refine rx_ior dX2_tooGreat_52 ?_
          refine rx_istore_n (i := 1) dX2_tooGreat_53 rfl (by decide) rfl rfl ?_
          first | refine rx_iincN (i := 2) dX2_tooGreat_54 rfl (by decide) rfl rfl ?_ | refine rx_iinc (i := 2) dX2_tooGreat_54 rfl rfl (by decide) rfl rfl ?_
          refine rx_goto (tgt := 4) dX2_tooGreat_57 (by decide) ?_
          exact ih (i + 1) _ (by omega) (by rw [hs]; simp [fbor, *, bit]) (by omega)
set_option maxRecDepth 100000 in
set_option maxHeartbeats 4000000 in
theorem c_X2_tooGreat {M : Mem} {n m : Nat} (w : TW M 124 n m) : Fun yX2_tooGreat cX2_tooGreat 3 (some .int) 2 [.ref 15] M (some (.int (fbor (fun k => bt (M.1 15 2) k && decide (fsum (fun i => if bt (M.1 16 k) i = true then M.1 125 i - M.1 128 i else 0) n < M.1 133 k)) m))) (M) := by
  refine Fun.of (own := RX2) ([some (.ref 15), none, none]) rfl (by decide +kernel) (Nat.le_of_ble_eq_true rfl) rfl ?_
  refine rx_iconst (0) dX2_tooGreat_0 rfl ?_
  refine rx_istore_n (i := 1) dX2_tooGreat_1 rfl (by decide) rfl rfl ?_
  refine rx_iconst (0) dX2_tooGreat_2 rfl ?_
  refine rx_istore_n (i := 2) dX2_tooGreat_3 rfl (by decide) rfl rfl ?_
  exact l_X2_tooGreat w (m + 1) 0 0 (by omega) rfl (by omega)
