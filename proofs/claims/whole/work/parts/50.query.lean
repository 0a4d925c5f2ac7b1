def mxI (f : Nat → Int32) : Nat → Int32
  | 0 => 0
  | n + 1 => if mxI f n < f n then f n else mxI f n
def sumT (T : TT) (m : Nat) (b : Int32) : Int32 := fsum (fun k => if bt b k = true then T 8 k else 0) m
def optI : Option Nat → Int32
  | none => -1
  | some b => nI b
/-- the cheapest of the states with all paid among the first -/
def ceN (S : SS) (th : Int32) : Nat → Option Nat
  | 0 => none
  | i + 1 => if S.mk i = th then (match ceN S th i with
    | none => some i
    | some b => if S.pr i < S.pr b ∨ (S.pr i = S.pr b ∧ S.rw i < S.rw b) then some i else some b) else ceN S th i
def lsum (f : Nat → Int64) : Nat → Int64
  | 0 => 0
  | n + 1 => lsum f n + f n
def gotT (T : TT) (m : Nat) (mk : Int32) (i : Nat) : Int32 := fsum (fun k => if bt mk k = true ∧ T 7 k = nI i then T 8 k else 0) m
/-- who pays in any row to a state -/
def ptS (T : TT) (n m : Nat) (mk : Int32) (c : Nat → Nat) : Int32 := fbor (fun i => decide (nI (c i) < T 0 i + gotT T m mk i)) n
def orI (f : Nat → Int32) : Nat → Int32
  | 0 => 0
  | n + 1 => orI f n ||| f n
def fewB (a b : Int32) : Bool := decide (b < 0) || (decide (bcnt a - bcnt b < 0) || (decide (bcnt a - bcnt b = 0) && decide (a < b)))
def fewN (q : Nat → Bool) (f : Nat → Int32) : Nat → Int32
  | 0 => -1
  | n + 1 => if q n = true ∧ fewB (f n) (fewN q f n) = true then f n else fewN q f n
theorem ceN_lt {S : SS} {th : Int32} : ∀ {i b : Nat}, ceN S th i = some b → b < i ∧ S.mk b = th
  | 0, b, h => by cases h
  | i + 1, b, h => by
    simp only [ceN] at h
    split at h
    · next q =>
      split at h
      · obtain rfl := Option.some.inj h; exact ⟨Nat.lt_succ_self _, q⟩
      · next b' hb =>
        split at h
        · obtain rfl := Option.some.inj h; exact ⟨Nat.lt_succ_self _, q⟩
        · obtain rfl := Option.some.inj h
          have := ceN_lt hb
          exact ⟨by omega, this.2⟩
    · have := ceN_lt h
      exact ⟨by omega, this.2⟩
set_option maxRecDepth 100000 in
set_option maxHeartbeats 4000000 in
theorem l_X5_mostPaid {M : Mem} {T : TT} {n m : Nat} {x : Int32} (hV : VS M T n m x) (hO : OKS T n m) (hn8 : n ≤ 8) (hm10 : m ≤ 10) : ∀ (N : Nat) (i : Nat) (s : Int32), (i ≤ (vsX T n m x).1.2.N) → (s = (mxI (fun s => bcnt ((vsX T n m x).1.2.mk s)) i)) → (vsX T n m x).1.2.N - i < N → Reach cX5_mostPaid RX5 3 1 (FQ cX5_mostPaid (some .int) (some (.int (mxI (fun s => bcnt ((vsX T n m x).1.2.mk s)) (vsX T n m x).1.2.N))) M) 4 [some (.ref 19), some (.int s), some (.int (nI i))] [] (M) := by
  intro N
  induction N with
  | zero => intro i s hi hs hm; exact absurd ‹_ < 0› (Nat.not_lt_zero _)
  | succ N ih =>
    intro i s hi hs hm
    have ⟨v13, v12, vag, ⟨wn, wm⟩, v10, vR, vf, vp, vb⟩ := hV
    have ⟨tb, q1, q2, q3, q4, q5⟩ := vR
    have ht : isTown 108 := by unfold isTown; omega
    have hO2 : OKS (view M 108) n m := hO.ag vag
    have wt : TW M 108 n m := TW_w wn wm hn8 hm10 hO2
    have eD : ∀ k, k < m → M.1 115 k = T 6 k ∧ M.1 116 k = T 7 k ∧ M.1 117 k = T 8 k := fun k hk => ⟨(vag.2.1 k hk).1, (vag.2.1 k hk).2.1, (vag.2.1 k hk).2.2.1⟩
    refine rx_iload_n (i := 2) dX5_mostPaid_4 rfl rfl ?_
    refine rx_aload_n (i := 0) dX5_mostPaid_5 rfl rfl ?_
    refine rx_getI (k := 9) fo_X5_76 kl_19 (by decide) ti_5_9 dX5_mostPaid_6 ?_
    refine rx_top (nI ((vsX T n m x).1.2.N)) q1 ?_
    refine rx_icmp_ge (tgt := 32) dX5_mostPaid_9 (by decide) (fun c9 => ?_) (fun c9 => ?_)
    · skip
      have f9 := Int32.not_lt.mpr c9
      have e9 : i = (vsX T n m x).1.2.N := by have := (nI_leI (by omega) (by omega)).mp c9; omega
      subst e9
      refine rx_iload_n (i := 1) dX5_mostPaid_32 rfl rfl ?_
      exact rx_fiI dX5_mostPaid_33 hs rfl
    · skip
      have f9 := Int32.not_le.mp c9
      have e9 : i < (vsX T n m x).1.2.N := Nat.lt_of_not_le fun q => c9 (nI_le q (by omega))
      refine rx_iload_n (i := 1) dX5_mostPaid_12 rfl rfl ?_
      refine rx_aload_n (i := 0) dX5_mostPaid_13 rfl rfl ?_
      refine rx_getR 24 (k := 5) fo_X5_31 kl_19 (by decide) ti_5_5 (by decide) rfl dX5_mostPaid_14 ?_
      refine rx_iload_n (i := 2) dX5_mostPaid_17 rfl rfl ?_
      refine rx_ialdN kl_24 (by omega) (by first | decide | omega) dX5_mostPaid_18 ?_
      refine rx_top _ (q3 i e9).1 ?_
      refine rx_csI mo_J6_bitCount_0f7a4 lk_X5_153 c_J6_bitCount_0f7a4 (by decide) rfl rfl (Nat.le_of_ble_eq_true rfl) dX5_mostPaid_19 ?_
      refine rx_mmax (List.mem_of_getElem? (i := 1082) (by decide +kernel)) (by decide) (Nat.le_of_ble_eq_true rfl) dX5_mostPaid_22 ?_
      refine rx_istore_n (i := 1) dX5_mostPaid_25 rfl (by decide) rfl rfl ?_
      first | refine rx_iincN (i := 2) dX5_mostPaid_26 rfl (by decide) rfl rfl ?_ | refine rx_iinc (i := 2) dX5_mostPaid_26 rfl rfl (by decide) rfl rfl ?_
      refine rx_goto (tgt := 4) dX5_mostPaid_29 (by decide) ?_
      exact ih (i + 1) _ (by omega) (by rw [hs]; rfl) (by omega)
set_option maxRecDepth 100000 in
set_option maxHeartbeats 4000000 in
theorem c_X5_mostPaid {M : Mem} {T : TT} {n m : Nat} {x : Int32} (hV : VS M T n m x) (hO : OKS T n m) (hn8 : n ≤ 8) (hm10 : m ≤ 10) : Fun yX5_mostPaid cX5_mostPaid 3 (some .int) 1 [.ref 19] M (some (.int (mxI (fun s => bcnt ((vsX T n m x).1.2.mk s)) (vsX T n m x).1.2.N))) (M) := by
  refine Fun.of (own := RX5) ([some (.ref 19), none, none]) rfl (by decide +kernel) (Nat.le_of_ble_eq_true rfl) rfl ?_
  refine rx_iconst (0) dX5_mostPaid_0 rfl ?_
  refine rx_istore_n (i := 1) dX5_mostPaid_1 rfl (by decide) rfl rfl ?_
  refine rx_iconst (0) dX5_mostPaid_2 rfl ?_
  refine rx_istore_n (i := 2) dX5_mostPaid_3 rfl (by decide) rfl rfl ?_
  exact l_X5_mostPaid hV hO hn8 hm10 ((vsX T n m x).1.2.N + 1) 0 0 (Nat.zero_le _) rfl (by omega)
set_option maxRecDepth 100000 in
set_option maxHeartbeats 4000000 in
theorem l_X5_greatestSum {M : Mem} {T : TT} {n m : Nat} {x : Int32} (hV : VS M T n m x) (hO : OKS T n m) (hn8 : n ≤ 8) (hm10 : m ≤ 10) : ∀ (N : Nat) (i : Nat) (s : Int32), (i ≤ (vsX T n m x).1.2.N) → (s = (mxI (fun s => sumT T m ((vsX T n m x).1.2.mk s)) i)) → (vsX T n m x).1.2.N - i < N → Reach cX5_greatestSum RX5 3 1 (FQ cX5_greatestSum (some .int) (some (.int (mxI (fun s => sumT T m ((vsX T n m x).1.2.mk s)) (vsX T n m x).1.2.N))) M) 4 [some (.ref 19), some (.int s), some (.int (nI i))] [] (M) := by
  intro N
  induction N with
  | zero => intro i s hi hs hm; exact absurd ‹_ < 0› (Nat.not_lt_zero _)
  | succ N ih =>
    intro i s hi hs hm
    have ⟨v13, v12, vag, ⟨wn, wm⟩, v10, vR, vf, vp, vb⟩ := hV
    have ⟨tb, q1, q2, q3, q4, q5⟩ := vR
    have ht : isTown 108 := by unfold isTown; omega
    have hO2 : OKS (view M 108) n m := hO.ag vag
    have wt : TW M 108 n m := TW_w wn wm hn8 hm10 hO2
    have eD : ∀ k, k < m → M.1 115 k = T 6 k ∧ M.1 116 k = T 7 k ∧ M.1 117 k = T 8 k := fun k hk => ⟨(vag.2.1 k hk).1, (vag.2.1 k hk).2.1, (vag.2.1 k hk).2.2.1⟩
    refine rx_iload_n (i := 2) dX5_greatestSum_4 rfl rfl ?_
    refine rx_aload_n (i := 0) dX5_greatestSum_5 rfl rfl ?_
    refine rx_getI (k := 9) fo_X5_76 kl_19 (by decide) ti_5_9 dX5_greatestSum_6 ?_
    refine rx_top (nI ((vsX T n m x).1.2.N)) q1 ?_
    refine rx_icmp_ge (tgt := 36) dX5_greatestSum_9 (by decide) (fun c9 => ?_) (fun c9 => ?_)
    · skip
      have f9 := Int32.not_lt.mpr c9
      have e9 : i = (vsX T n m x).1.2.N := by have := (nI_leI (by omega) (by omega)).mp c9; omega
      subst e9
      refine rx_iload_n (i := 1) dX5_greatestSum_36 rfl rfl ?_
      exact rx_fiI dX5_greatestSum_37 hs rfl
    · skip
      have f9 := Int32.not_le.mp c9
      have e9 : i < (vsX T n m x).1.2.N := Nat.lt_of_not_le fun q => c9 (nI_le q (by omega))
      refine rx_iload_n (i := 1) dX5_greatestSum_12 rfl rfl ?_
      refine rx_aload_n (i := 0) dX5_greatestSum_13 rfl rfl ?_
      refine rx_getR 108 (k := 0) fo_X5_12 kl_19 (by decide) ti_5_0 (by decide) rfl dX5_greatestSum_14 ?_
      refine rx_aload_n (i := 0) dX5_greatestSum_17 rfl rfl ?_
      refine rx_getR 24 (k := 5) fo_X5_31 kl_19 (by decide) ti_5_5 (by decide) rfl dX5_greatestSum_18 ?_
      refine rx_iload_n (i := 2) dX5_greatestSum_21 rfl rfl ?_
      refine rx_ialdN kl_24 (by omega) (by first | decide | omega) dX5_greatestSum_22 ?_
      refine rx_top _ (q3 i e9).1 ?_
      refine rx_cvI (ci := 8) mo_X8_sumOf lk_X5_163 (c_X8_sumOf ht wt) (by decide) rfl rfl (Nat.le_of_ble_eq_true rfl) kl_108 rfl dX5_greatestSum_23 ?_
      refine rx_top (sumT T m ((vsX T n m x).1.2.mk i)) (fsum_congr fun k hk => by rw [show (108 + 9 : Nat) = 117 from rfl, (eD k hk).2.2]) ?_
      refine rx_mmax (List.mem_of_getElem? (i := 1082) (by decide +kernel)) (by decide) (Nat.le_of_ble_eq_true rfl) dX5_greatestSum_26 ?_
      refine rx_istore_n (i := 1) dX5_greatestSum_29 rfl (by decide) rfl rfl ?_
      first | refine rx_iincN (i := 2) dX5_greatestSum_30 rfl (by decide) rfl rfl ?_ | refine rx_iinc (i := 2) dX5_greatestSum_30 rfl rfl (by decide) rfl rfl ?_
      refine rx_goto (tgt := 4) dX5_greatestSum_33 (by decide) ?_
      exact ih (i + 1) _ (by omega) (by rw [hs]; rfl) (by omega)
set_option maxRecDepth 100000 in
set_option maxHeartbeats 4000000 in
theorem c_X5_greatestSum {M : Mem} {T : TT} {n m : Nat} {x : Int32} (hV : VS M T n m x) (hO : OKS T n m) (hn8 : n ≤ 8) (hm10 : m ≤ 10) : Fun yX5_greatestSum cX5_greatestSum 3 (some .int) 1 [.ref 19] M (some (.int (mxI (fun s => sumT T m ((vsX T n m x).1.2.mk s)) (vsX T n m x).1.2.N))) (M) := by
  refine Fun.of (own := RX5) ([some (.ref 19), none, none]) rfl (by decide +kernel) (Nat.le_of_ble_eq_true rfl) rfl ?_
  refine rx_iconst (0) dX5_greatestSum_0 rfl ?_
  refine rx_istore_n (i := 1) dX5_greatestSum_1 rfl (by decide) rfl rfl ?_
  refine rx_iconst (0) dX5_greatestSum_2 rfl ?_
  refine rx_istore_n (i := 2) dX5_greatestSum_3 rfl (by decide) rfl rfl ?_
  exact l_X5_greatestSum hV hO hn8 hm10 ((vsX T n m x).1.2.N + 1) 0 0 (Nat.zero_le _) rfl (by omega)
set_option maxRecDepth 100000 in
set_option maxHeartbeats 4000000 in
theorem l_X5_cheapestEnd {M : Mem} {T : TT} {n m : Nat} {x : Int32} (hV : VS M T n m x) (hO : OKS T n m) (hn8 : n ≤ 8) (hm10 : m ≤ 10) : ∀ (N : Nat) (i : Nat) (bo : Option Nat), (i ≤ (vsX T n m x).1.2.N) → (bo = ceN (vsX T n m x).1.2 (thV T m x) i) → (vsX T n m x).1.2.N - i < N → Reach cX5_cheapestEnd RX5 3 0 (FQ cX5_cheapestEnd (some .int) (some (.int (optI (ceN (vsX T n m x).1.2 (thV T m x) (vsX T n m x).1.2.N)))) M) 4 [some (.ref 19), some (.int (optI bo)), some (.int (nI i))] [] (M) := by
  intro N
  induction N with
  | zero => intro i bo hi hs hm; exact absurd ‹_ < 0› (Nat.not_lt_zero _)
  | succ N ih =>
    intro i bo hi hs hm
    have ⟨v13, v12, vag, ⟨wn, wm⟩, v10, vR, vf, vp, vb⟩ := hV
    have ⟨tb, q1, q2, q3, q4, q5⟩ := vR
    have ht : isTown 108 := by unfold isTown; omega
    have hO2 : OKS (view M 108) n m := hO.ag vag
    have wt : TW M 108 n m := TW_w wn wm hn8 hm10 hO2
    have eD : ∀ k, k < m → M.1 115 k = T 6 k ∧ M.1 116 k = T 7 k ∧ M.1 117 k = T 8 k := fun k hk => ⟨(vag.2.1 k hk).1, (vag.2.1 k hk).2.1, (vag.2.1 k hk).2.2.1⟩
    have hEX := vis_EX (these := thV T m x) hn8 hm10 hO (fun i hi => by have := hO.1 i hi; omega)
    have hR63 : ∀ j, j < (vsX T n m x).1.2.N → (vsX T n m x).1.2.rw j < 2 ^ 63 := fun j hj => Nat.lt_of_lt_of_le (hEX.2.2 j hj).2.2.2 (Nat.le_trans (p64 pcN_le) (by decide))
    refine rx_iload_n (i := 2) dX5_cheapestEnd_4 rfl rfl ?_
    refine rx_aload_n (i := 0) dX5_cheapestEnd_5 rfl rfl ?_
    refine rx_getI (k := 9) fo_X5_76 kl_19 (by decide) ti_5_9 dX5_cheapestEnd_6 ?_
    refine rx_top (nI ((vsX T n m x).1.2.N)) q1 ?_
    refine rx_icmp_ge (tgt := 83) dX5_cheapestEnd_9 (by decide) (fun c9 => ?_) (fun c9 => ?_)
    · skip
      have f9 := Int32.not_lt.mpr c9
      have e9 : i = (vsX T n m x).1.2.N := by have := (nI_leI (by omega) (by omega)).mp c9; omega
      subst e9
      refine rx_iload_n (i := 1) dX5_cheapestEnd_83 rfl rfl ?_
      exact rx_fiI dX5_cheapestEnd_84 (by rw [hs]) rfl
    · skip
      have f9 := Int32.not_le.mp c9
      have e9 : i < (vsX T n m x).1.2.N := Nat.lt_of_not_le fun q => c9 (nI_le q (by omega))
      refine rx_aload_n (i := 0) dX5_cheapestEnd_12 rfl rfl ?_
      refine rx_getR 24 (k := 5) fo_X5_31 kl_19 (by decide) ti_5_5 (by decide) rfl dX5_cheapestEnd_13 ?_
      refine rx_iload_n (i := 2) dX5_cheapestEnd_16 rfl rfl ?_
      refine rx_ialdN kl_24 (by omega) (by first | decide | omega) dX5_cheapestEnd_17 ?_
      refine rx_top _ (q3 i e9).1 ?_
      refine rx_aload_n (i := 0) dX5_cheapestEnd_18 rfl rfl ?_
      refine rx_getI (k := 10) fo_X5_70 kl_19 (by decide) ti_5_10 dX5_cheapestEnd_19 ?_
      refine rx_top _ v10 ?_
      refine rx_icmp_ne (tgt := 77) dX5_cheapestEnd_22 (by decide) (fun c22 => ?_) (fun c22 => ?_)
      · skip
        have e22 := c22
        first | refine rx_iincN (i := 2) dX5_cheapestEnd_77 rfl (by decide) rfl rfl ?_ | refine rx_iinc (i := 2) dX5_cheapestEnd_77 rfl rfl (by decide) rfl rfl ?_
        refine rx_goto (tgt := 4) dX5_cheapestEnd_80 (by decide) ?_
        exact ih (i + 1) bo (by omega) (by simp only [ceN]; rw [if_neg e22]; exact hs) (by omega)
      · skip
        have e22 : (vsX T n m x).1.2.mk i = thV T m x := c22
        refine rx_iload_n (i := 1) dX5_cheapestEnd_25 rfl rfl ?_
        rcases bo with - | b
        · skip
          refine rx_if_lt (tgt := 75) dX5_cheapestEnd_26 (by decide) (fun c26 => ?_) (fun c26 => absurd (show (-1 : Int32) < 0 by decide) c26)
          refine rx_iload_n (i := 2) dX5_cheapestEnd_75 rfl rfl ?_
          refine rx_istore_n (i := 1) dX5_cheapestEnd_76 rfl (by decide) rfl rfl ?_
          first | refine rx_iincN (i := 2) dX5_cheapestEnd_77 rfl (by decide) rfl rfl ?_ | refine rx_iinc (i := 2) dX5_cheapestEnd_77 rfl rfl (by decide) rfl rfl ?_
          refine rx_goto (tgt := 4) dX5_cheapestEnd_80 (by decide) ?_
          exact ih (i + 1) (some i) (by omega) (by simp only [ceN]; rw [if_pos e22, ← hs]; try rfl) (by omega)
        · skip
          obtain ⟨hb, hbm⟩ := ceN_lt hs.symm
          have hbN : b < (vsX T n m x).1.2.N := Nat.lt_of_lt_of_le hb hi
          refine rx_if_lt (tgt := 75) dX5_cheapestEnd_26 (by decide) (fun c26 => absurd c26 (nI_pos (by omega))) (fun c26 => ?_)
          refine rx_aload_n (i := 0) dX5_cheapestEnd_29 rfl rfl ?_
          refine rx_getR 25 (k := 6) fo_X5_35 kl_19 (by decide) ti_5_6 (by decide) rfl dX5_cheapestEnd_30 ?_
          refine rx_iload_n (i := 2) dX5_cheapestEnd_33 rfl rfl ?_
          refine rx_ialdN kl_25 (by omega) (by first | decide | omega) dX5_cheapestEnd_34 ?_
          refine rx_top _ (q3 i e9).2.2.2.2.1 ?_
          refine rx_aload_n (i := 0) dX5_cheapestEnd_35 rfl rfl ?_
          refine rx_getR 25 (k := 6) fo_X5_35 kl_19 (by decide) ti_5_6 (by decide) rfl dX5_cheapestEnd_36 ?_
          refine rx_iload_n (i := 1) dX5_cheapestEnd_39 rfl rfl ?_
          skip
          refine rx_ialdN kl_25 (by omega) (by first | decide | omega) dX5_cheapestEnd_40 ?_
          refine rx_top _ (q3 b hbN).2.2.2.2.1 ?_
          refine rx_icmp_lt (tgt := 75) dX5_cheapestEnd_41 (by decide) (fun c41 => ?_) (fun c41 => ?_)
          · skip
            have f41 := Int32.not_le.mpr c41
            have hl : (vsX T n m x).1.2.pr i < (vsX T n m x).1.2.pr b ∨ ((vsX T n m x).1.2.pr i = (vsX T n m x).1.2.pr b ∧ (vsX T n m x).1.2.rw i < (vsX T n m x).1.2.rw b) := Or.inl c41
            refine rx_iload_n (i := 2) dX5_cheapestEnd_75 rfl rfl ?_
            refine rx_istore_n (i := 1) dX5_cheapestEnd_76 rfl (by decide) rfl rfl ?_
            first | refine rx_iincN (i := 2) dX5_cheapestEnd_77 rfl (by decide) rfl rfl ?_ | refine rx_iinc (i := 2) dX5_cheapestEnd_77 rfl rfl (by decide) rfl rfl ?_
            refine rx_goto (tgt := 4) dX5_cheapestEnd_80 (by decide) ?_
            exact ih (i + 1) (some i) (by omega) (by simp only [ceN]; rw [if_pos e22, ← hs]; exact (if_pos hl).symm) (by omega)
          · skip
            have f41 := Int32.not_lt.mp c41
            refine rx_aload_n (i := 0) dX5_cheapestEnd_44 rfl rfl ?_
            refine rx_getR 25 (k := 6) fo_X5_35 kl_19 (by decide) ti_5_6 (by decide) rfl dX5_cheapestEnd_45 ?_
            refine rx_iload_n (i := 2) dX5_cheapestEnd_48 rfl rfl ?_
            refine rx_ialdN kl_25 (by omega) (by first | decide | omega) dX5_cheapestEnd_49 ?_
            refine rx_top _ (q3 i e9).2.2.2.2.1 ?_
            refine rx_aload_n (i := 0) dX5_cheapestEnd_50 rfl rfl ?_
            refine rx_getR 25 (k := 6) fo_X5_35 kl_19 (by decide) ti_5_6 (by decide) rfl dX5_cheapestEnd_51 ?_
            refine rx_iload_n (i := 1) dX5_cheapestEnd_54 rfl rfl ?_
            refine rx_ialdN kl_25 (by omega) (by first | decide | omega) dX5_cheapestEnd_55 ?_
            refine rx_top _ (q3 b hbN).2.2.2.2.1 ?_
            refine rx_icmp_ne (tgt := 77) dX5_cheapestEnd_56 (by decide) (fun c56 => ?_) (fun c56 => ?_)
            · skip
              have hl : ¬ ((vsX T n m x).1.2.pr i < (vsX T n m x).1.2.pr b ∨ ((vsX T n m x).1.2.pr i = (vsX T n m x).1.2.pr b ∧ (vsX T n m x).1.2.rw i < (vsX T n m x).1.2.rw b)) := fun q => q.elim c41 (fun q => c56 q.1)
              first | refine rx_iincN (i := 2) dX5_cheapestEnd_77 rfl (by decide) rfl rfl ?_ | refine rx_iinc (i := 2) dX5_cheapestEnd_77 rfl rfl (by decide) rfl rfl ?_
              refine rx_goto (tgt := 4) dX5_cheapestEnd_80 (by decide) ?_
              exact ih (i + 1) (some b) (by omega) (by simp only [ceN]; rw [if_pos e22, ← hs]; exact (if_neg hl).symm) (by omega)
            · skip
              have e56 : (vsX T n m x).1.2.pr i = (vsX T n m x).1.2.pr b := c56
              refine rx_aload_n (i := 0) dX5_cheapestEnd_59 rfl rfl ?_
              refine rx_getR 23 (k := 4) fo_X5_28 kl_19 (by decide) ti_5_4 (by decide) rfl dX5_cheapestEnd_60 ?_
              refine rx_iload_n (i := 2) dX5_cheapestEnd_63 rfl rfl ?_
              refine rx_laldN kl_23 (by omega) (by first | decide | omega) dX5_cheapestEnd_64 ?_
              refine rx_topL _ (q3 i e9).2.2.2.2.2.1 ?_
              refine rx_aload_n (i := 0) dX5_cheapestEnd_65 rfl rfl ?_
              refine rx_getR 23 (k := 4) fo_X5_28 kl_19 (by decide) ti_5_4 (by decide) rfl dX5_cheapestEnd_66 ?_
              refine rx_iload_n (i := 1) dX5_cheapestEnd_69 rfl rfl ?_
              refine rx_laldN kl_23 (by omega) (by first | decide | omega) dX5_cheapestEnd_70 ?_
              refine rx_topL _ (q3 b hbN).2.2.2.2.2.1 ?_
              refine rx_lcmp dX5_cheapestEnd_71 ?_
              refine rx_if_ge (tgt := 77) dX5_cheapestEnd_72 (by decide) (fun c72 => ?_) (fun c72 => ?_)
              · skip
                have f72 := Int32.not_lt.mpr c72
                have hl : ¬ ((vsX T n m x).1.2.pr i < (vsX T n m x).1.2.pr b ∨ ((vsX T n m x).1.2.pr i = (vsX T n m x).1.2.pr b ∧ (vsX T n m x).1.2.rw i < (vsX T n m x).1.2.rw b)) := fun q => q.elim c41 (fun q => Nat.not_lt.mpr ((pk_lLE (hR63 b hbN) (hR63 i e9)).mp ((lg_cmp_ge _ _).mp c72)) q.2)
                first | refine rx_iincN (i := 2) dX5_cheapestEnd_77 rfl (by decide) rfl rfl ?_ | refine rx_iinc (i := 2) dX5_cheapestEnd_77 rfl rfl (by decide) rfl rfl ?_
                refine rx_goto (tgt := 4) dX5_cheapestEnd_80 (by decide) ?_
                exact ih (i + 1) (some b) (by omega) (by simp only [ceN]; rw [if_pos e22, ← hs]; exact (if_neg hl).symm) (by omega)
              · skip
                have f72 := Int32.not_le.mp c72
                have hl : (vsX T n m x).1.2.pr i < (vsX T n m x).1.2.pr b ∨ ((vsX T n m x).1.2.pr i = (vsX T n m x).1.2.pr b ∧ (vsX T n m x).1.2.rw i < (vsX T n m x).1.2.rw b) := Or.inr ⟨e56, Nat.lt_of_not_le fun q => c72 ((lg_cmp_ge _ _).mpr ((pk_lLE (hR63 b hbN) (hR63 i e9)).mpr q))⟩
                refine rx_iload_n (i := 2) dX5_cheapestEnd_75 rfl rfl ?_
                refine rx_istore_n (i := 1) dX5_cheapestEnd_76 rfl (by decide) rfl rfl ?_
                first | refine rx_iincN (i := 2) dX5_cheapestEnd_77 rfl (by decide) rfl rfl ?_ | refine rx_iinc (i := 2) dX5_cheapestEnd_77 rfl rfl (by decide) rfl rfl ?_
                refine rx_goto (tgt := 4) dX5_cheapestEnd_80 (by decide) ?_
                exact ih (i + 1) (some i) (by omega) (by simp only [ceN]; rw [if_pos e22, ← hs]; exact (if_pos hl).symm) (by omega)
set_option maxRecDepth 100000 in
set_option maxHeartbeats 4000000 in
theorem c_X5_cheapestEnd {M : Mem} {T : TT} {n m : Nat} {x : Int32} (hV : VS M T n m x) (hO : OKS T n m) (hn8 : n ≤ 8) (hm10 : m ≤ 10) : Fun yX5_cheapestEnd cX5_cheapestEnd 3 (some .int) 0 [.ref 19] M (some (.int (optI (ceN (vsX T n m x).1.2 (thV T m x) (vsX T n m x).1.2.N)))) (M) := by
  refine Fun.of (own := RX5) ([some (.ref 19), none, none]) rfl (by decide +kernel) (Nat.le_of_ble_eq_true rfl) rfl ?_
  refine rx_iconst (-1) dX5_cheapestEnd_0 rfl ?_
  refine rx_istore_n (i := 1) dX5_cheapestEnd_1 rfl (by decide) rfl rfl ?_
  refine rx_iconst (0) dX5_cheapestEnd_2 rfl ?_
  refine rx_istore_n (i := 2) dX5_cheapestEnd_3 rfl (by decide) rfl rfl ?_
  exact l_X5_cheapestEnd hV hO hn8 hm10 ((vsX T n m x).1.2.N + 1) 0 none (Nat.zero_le _) rfl (by omega)
set_option maxRecDepth 100000 in
set_option maxHeartbeats 4000000 in
theorem l_X5_fullWays {M : Mem} {T : TT} {n m : Nat} {x : Int32} (hV : VS M T n m x) (hO : OKS T n m) (hn8 : n ≤ 8) (hm10 : m ≤ 10) : ∀ (N : Nat) (i : Nat) (s : Int64), (i ≤ (vsX T n m x).1.2.N) → (s = (lsum (fun s => if (vsX T n m x).1.2.mk s = thV T m x then (vsX T n m x).1.2.wy s else 0) i)) → (vsX T n m x).1.2.N - i < N → Reach cX5_fullWays RX5 4 0 (FQ cX5_fullWays (some .long) (some (.long (lsum (fun s => if (vsX T n m x).1.2.mk s = thV T m x then (vsX T n m x).1.2.wy s else 0) (vsX T n m x).1.2.N))) M) 4 [some (.ref 19), some (.long s), none, some (.int (nI i))] [] (M) := by
  intro N
  induction N with
  | zero => intro i s hi hs hm; exact absurd ‹_ < 0› (Nat.not_lt_zero _)
  | succ N ih =>
    intro i s hi hs hm
    have ⟨v13, v12, vag, ⟨wn, wm⟩, v10, vR, vf, vp, vb⟩ := hV
    have ⟨tb, q1, q2, q3, q4, q5⟩ := vR
    have ht : isTown 108 := by unfold isTown; omega
    have hO2 : OKS (view M 108) n m := hO.ag vag
    have wt : TW M 108 n m := TW_w wn wm hn8 hm10 hO2
    have eD : ∀ k, k < m → M.1 115 k = T 6 k ∧ M.1 116 k = T 7 k ∧ M.1 117 k = T 8 k := fun k hk => ⟨(vag.2.1 k hk).1, (vag.2.1 k hk).2.1, (vag.2.1 k hk).2.2.1⟩
    refine rx_iload_n (i := 3) dX5_fullWays_4 rfl rfl ?_
    refine rx_aload_n (i := 0) dX5_fullWays_5 rfl rfl ?_
    refine rx_getI (k := 9) fo_X5_76 kl_19 (by decide) ti_5_9 dX5_fullWays_6 ?_
    refine rx_top (nI ((vsX T n m x).1.2.N)) q1 ?_
    refine rx_icmp_ge (tgt := 44) dX5_fullWays_9 (by decide) (fun c9 => ?_) (fun c9 => ?_)
    · skip
      have f9 := Int32.not_lt.mpr c9
      have e9 : i = (vsX T n m x).1.2.N := by have := (nI_leI (by omega) (by omega)).mp c9; omega
      subst e9
      refine rx_lload_n (i := 1) dX5_fullWays_44 rfl rfl ?_
      exact rx_fiL dX5_fullWays_45 hs rfl
    · skip
      have f9 := Int32.not_le.mp c9
      have e9 : i < (vsX T n m x).1.2.N := Nat.lt_of_not_le fun q => c9 (nI_le q (by omega))
      refine rx_lload_n (i := 1) dX5_fullWays_12 rfl rfl ?_
      refine rx_aload_n (i := 0) dX5_fullWays_13 rfl rfl ?_
      refine rx_getR 24 (k := 5) fo_X5_31 kl_19 (by decide) ti_5_5 (by decide) rfl dX5_fullWays_14 ?_
      refine rx_iload_n (i := 3) dX5_fullWays_17 rfl rfl ?_
      refine rx_ialdN kl_24 (by omega) (by first | decide | omega) dX5_fullWays_18 ?_
      refine rx_top _ (q3 i e9).1 ?_
      refine rx_aload_n (i := 0) dX5_fullWays_19 rfl rfl ?_
      refine rx_getI (k := 10) fo_X5_70 kl_19 (by decide) ti_5_10 dX5_fullWays_20 ?_
      refine rx_top _ v10 ?_
      refine rx_icmp_ne (tgt := 35) dX5_fullWays_23 (by decide) (fun c23 => ?_) (fun c23 => ?_)
      · skip
        refine rx_lconst (0) dX5_fullWays_35 rfl ?_
        refine rx_ladd dX5_fullWays_36 ?_
        refine rx_lstore_n (i := 1) dX5_fullWays_37 rfl (by decide) rfl rfl ?_
        first | refine rx_iincN (i := 3) dX5_fullWays_38 rfl (by decide) rfl rfl ?_ | refine rx_iinc (i := 3) dX5_fullWays_38 rfl rfl (by decide) rfl rfl ?_
        refine rx_goto (tgt := 4) dX5_fullWays_41 (by decide) ?_
        exact ih (i + 1) _ (by omega) (by rw [hs]; simp only [lsum]; rw [if_neg c23]) (by omega)
      · skip
        refine rx_aload_n (i := 0) dX5_fullWays_26 rfl rfl ?_
        refine rx_getR 22 (k := 3) fo_X5_25 kl_19 (by decide) ti_5_3 (by decide) rfl dX5_fullWays_27 ?_
        refine rx_iload_n (i := 3) dX5_fullWays_30 rfl rfl ?_
        refine rx_laldN kl_22 (by omega) (by first | decide | omega) dX5_fullWays_31 ?_
        refine rx_topL _ (q3 i e9).2.2.2.1 ?_
        refine rx_goto (tgt := 36) dX5_fullWays_32 (by decide) ?_
        refine rx_ladd dX5_fullWays_36 ?_
        refine rx_lstore_n (i := 1) dX5_fullWays_37 rfl (by decide) rfl rfl ?_
        first | refine rx_iincN (i := 3) dX5_fullWays_38 rfl (by decide) rfl rfl ?_ | refine rx_iinc (i := 3) dX5_fullWays_38 rfl rfl (by decide) rfl rfl ?_
        refine rx_goto (tgt := 4) dX5_fullWays_41 (by decide) ?_
        exact ih (i + 1) _ (by omega) (by rw [hs]; simp only [lsum]; rw [if_pos c23]) (by omega)
set_option maxRecDepth 100000 in
set_option maxHeartbeats 4000000 in
theorem c_X5_fullWays {M : Mem} {T : TT} {n m : Nat} {x : Int32} (hV : VS M T n m x) (hO : OKS T n m) (hn8 : n ≤ 8) (hm10 : m ≤ 10) : Fun yX5_fullWays cX5_fullWays 4 (some .long) 0 [.ref 19] M (some (.long (lsum (fun s => if (vsX T n m x).1.2.mk s = thV T m x then (vsX T n m x).1.2.wy s else 0) (vsX T n m x).1.2.N))) (M) := by
  refine Fun.of (own := RX5) ([some (.ref 19), none, none, none]) rfl (by decide +kernel) (Nat.le_of_ble_eq_true rfl) rfl ?_
  refine rx_lconst (0) dX5_fullWays_0 rfl ?_
  refine rx_lstore_n (i := 1) dX5_fullWays_1 rfl (by decide) rfl rfl ?_
  refine rx_iconst (0) dX5_fullWays_2 rfl ?_
  refine rx_istore_n (i := 3) dX5_fullWays_3 rfl (by decide) rfl rfl ?_
  exact l_X5_fullWays hV hO hn8 hm10 ((vsX T n m x).1.2.N + 1) 0 0 (Nat.zero_le _) rfl (by omega)
set_option maxRecDepth 100000 in
set_option maxHeartbeats 4000000 in
theorem l_X5_got {M : Mem} {T : TT} {n m : Nat} {x : Int32} (hV : VS M T n m x) (hO : OKS T n m) (hn8 : n ≤ 8) (hm10 : m ≤ 10) {mk : Int32} {p : Nat} (hp : p < n) : ∀ (N : Nat) (i : Nat) (s : Int32), (i ≤ m) → (s = (fsum (fun k => if bt mk k = true ∧ T 7 k = nI p then T 8 k else 0) i)) → m - i < N → Reach cX5_got RX5 5 0 (FQ cX5_got (some .int) (some (.int (gotT T m mk p))) M) 5 [some (.ref 19), some (.int mk), some (.int (nI p)), some (.int s), some (.int (nI i))] [] (M) := by
  intro N
  induction N with
  | zero => intro i s hi hs hm; exact absurd ‹_ < 0› (Nat.not_lt_zero _)
  | succ N ih =>
    intro i s hi hs hm
    have ⟨v13, v12, vag, ⟨wn, wm⟩, v10, vR, vf, vp, vb⟩ := hV
    have ⟨tb, q1, q2, q3, q4, q5⟩ := vR
    have ht : isTown 108 := by unfold isTown; omega
    have hO2 : OKS (view M 108) n m := hO.ag vag
    have wt : TW M 108 n m := TW_w wn wm hn8 hm10 hO2
    have eD : ∀ k, k < m → M.1 115 k = T 6 k ∧ M.1 116 k = T 7 k ∧ M.1 117 k = T 8 k := fun k hk => ⟨(vag.2.1 k hk).1, (vag.2.1 k hk).2.1, (vag.2.1 k hk).2.2.1⟩
    refine rx_iload (i := 4) dX5_got_5 rfl ?_
    refine rx_aload_n (i := 0) dX5_got_7 rfl rfl ?_
    refine rx_getR 108 (k := 0) fo_X5_12 kl_19 (by decide) ti_5_0 (by decide) rfl dX5_got_8 ?_
    refine rx_getI (k := 16) fo_X5_117 kl_108 (by decide) ti_8_16 dX5_got_11 ?_
    refine rx_top (nI m) wm ?_
    refine rx_icmp_ge (tgt := 59) dX5_got_14 (by decide) (fun c14 => ?_) (fun c14 => ?_)
    · skip
      have f14 := Int32.not_lt.mpr c14
      have e14 : i = m := by have := (nI_leI (by omega) (by omega)).mp c14; omega
      subst e14
      refine rx_iload_n (i := 3) dX5_got_59 rfl rfl ?_
      exact rx_fiI dX5_got_60 hs rfl
    · skip
      have f14 := Int32.not_le.mp c14
      have e14 : i < m := Nat.lt_of_not_le fun q => c14 (nI_le q (by omega))
      refine rx_iload_n (i := 1) dX5_got_17 rfl rfl ?_
      refine rx_iconst (1) dX5_got_18 rfl ?_
      refine rx_iload (i := 4) dX5_got_19 rfl ?_
      refine rx_ishl dX5_got_21 ?_
      refine rx_iand dX5_got_22 ?_
      refine rx_if_eq (tgt := 53) dX5_got_23 (by decide) (fun c23 => ?_) (fun c23 => ?_)
      · skip
        try have e23 := (and_bit _ (by omega)).mp c23
        first | refine rx_iincN (i := 4) dX5_got_53 rfl (by decide) rfl rfl ?_ | refine rx_iinc (i := 4) dX5_got_53 rfl rfl (by decide) rfl rfl ?_
        refine rx_goto (tgt := 5) dX5_got_56 (by decide) ?_
        exact ih (i + 1) _ (by omega) (by rw [hs]; simp only [fsum]; rw [if_neg (fun q => by rw [e23] at q; exact absurd q.1 (by decide)), Int32.add_zero]) (by omega)
      · skip
        try have e23 := (and_bitn _ (by omega)).mp c23
        refine rx_aload_n (i := 0) dX5_got_26 rfl rfl ?_
        refine rx_getR 108 (k := 0) fo_X5_12 kl_19 (by decide) ti_5_0 (by decide) rfl dX5_got_27 ?_
        refine rx_getR 116 (k := 7) fo_X5_130 kl_108 (by decide) ti_8_7 (by decide) rfl dX5_got_30 ?_
        refine rx_iload (i := 4) dX5_got_33 rfl ?_
        refine rx_ialdN kl_116 (by omega) (by first | decide | omega) dX5_got_35 ?_
        refine rx_top _ (eD i e14).2.1 ?_
        refine rx_iload_n (i := 2) dX5_got_36 rfl rfl ?_
        refine rx_icmp_ne (tgt := 53) dX5_got_37 (by decide) (fun c37 => ?_) (fun c37 => ?_)
        · skip
          first | refine rx_iincN (i := 4) dX5_got_53 rfl (by decide) rfl rfl ?_ | refine rx_iinc (i := 4) dX5_got_53 rfl rfl (by decide) rfl rfl ?_
          refine rx_goto (tgt := 5) dX5_got_56 (by decide) ?_
          exact ih (i + 1) _ (by omega) (by rw [hs]; simp only [fsum]; rw [if_neg (fun q => c37 q.2), Int32.add_zero]) (by omega)
        · skip
          refine rx_iload_n (i := 3) dX5_got_40 rfl rfl ?_
          refine rx_aload_n (i := 0) dX5_got_41 rfl rfl ?_
          refine rx_getR 108 (k := 0) fo_X5_12 kl_19 (by decide) ti_5_0 (by decide) rfl dX5_got_42 ?_
          refine rx_getR 117 (k := 8) fo_X5_127 kl_108 (by decide) ti_8_8 (by decide) rfl dX5_got_45 ?_
          refine rx_iload (i := 4) dX5_got_48 rfl ?_
          refine rx_ialdN kl_117 (by omega) (by first | decide | omega) dX5_got_50 ?_
          refine rx_top _ (eD i e14).2.2 ?_
          refine rx_iadd dX5_got_51 ?_
          refine rx_istore_n (i := 3) dX5_got_52 rfl (by decide) rfl rfl ?_
          first | refine rx_iincN (i := 4) dX5_got_53 rfl (by decide) rfl rfl ?_ | refine rx_iinc (i := 4) dX5_got_53 rfl rfl (by decide) rfl rfl ?_
          refine rx_goto (tgt := 5) dX5_got_56 (by decide) ?_
          exact ih (i + 1) _ (by omega) (by rw [hs]; simp only [fsum]; rw [if_pos ⟨e23, c37⟩]) (by omega)
set_option maxRecDepth 100000 in
set_option maxHeartbeats 4000000 in
theorem c_X5_got {M : Mem} {T : TT} {n m : Nat} {x : Int32} (hV : VS M T n m x) (hO : OKS T n m) (hn8 : n ≤ 8) (hm10 : m ≤ 10) {mk : Int32} {p : Nat} (hp : p < n) : Fun yX5_got cX5_got 5 (some .int) 0 [.ref 19, .int mk, .int (nI p)] M (some (.int (gotT T m mk p))) (M) := by
  refine Fun.of (own := RX5) ([some (.ref 19), some (.int mk), some (.int (nI p)), none, none]) rfl (by decide +kernel) (Nat.le_of_ble_eq_true rfl) rfl ?_
  refine rx_iconst (0) dX5_got_0 rfl ?_
  refine rx_istore_n (i := 3) dX5_got_1 rfl (by decide) rfl rfl ?_
  refine rx_iconst (0) dX5_got_2 rfl ?_
  refine rx_istore (i := 4) dX5_got_3 (by decide) rfl rfl ?_
  exact l_X5_got hV hO hn8 hm10 hp (m + 1) 0 0 (Nat.zero_le _) rfl (by omega)
set_option maxRecDepth 100000 in
set_option maxHeartbeats 4000000 in
theorem l_X5_payersTo {M : Mem} {T : TT} {n m : Nat} {x : Int32} (hV : VS M T n m x) (hO : OKS T n m) (hn8 : n ≤ 8) (hm10 : m ≤ 10) {j : Nat} (hj : j < (vsX T n m x).1.2.N) : ∀ (N : Nat) (i : Nat) (s : Int32), (i ≤ n) → (s = (fbor (fun i => decide (nI ((vsX T n m x).1.2.co j i) < T 0 i + gotT T m ((vsX T n m x).1.2.mk j) i)) i)) → n - i < N → Reach cX5_payersTo RX5 4 1 (FQ cX5_payersTo (some .int) (some (.int (ptS T n m ((vsX T n m x).1.2.mk j) ((vsX T n m x).1.2.co j)))) M) 4 [some (.ref 19), some (.int (nI j)), some (.int s), some (.int (nI i))] [] (M) := by
  intro N
  induction N with
  | zero => intro i s hi hs hm; exact absurd ‹_ < 0› (Nat.not_lt_zero _)
  | succ N ih =>
    intro i s hi hs hm
    have ⟨v13, v12, vag, ⟨wn, wm⟩, v10, vR, vf, vp, vb⟩ := hV
    have ⟨tb, q1, q2, q3, q4, q5⟩ := vR
    have ht : isTown 108 := by unfold isTown; omega
    have hO2 : OKS (view M 108) n m := hO.ag vag
    have wt : TW M 108 n m := TW_w wn wm hn8 hm10 hO2
    have eD : ∀ k, k < m → M.1 115 k = T 6 k ∧ M.1 116 k = T 7 k ∧ M.1 117 k = T 8 k := fun k hk => ⟨(vag.2.1 k hk).1, (vag.2.1 k hk).2.1, (vag.2.1 k hk).2.2.1⟩
    refine rx_iload_n (i := 3) dX5_payersTo_4 rfl rfl ?_
    refine rx_aload_n (i := 0) dX5_payersTo_5 rfl rfl ?_
    refine rx_getR 108 (k := 0) fo_X5_12 kl_19 (by decide) ti_5_0 (by decide) rfl dX5_payersTo_6 ?_
    refine rx_getI (k := 15) fo_X5_95 kl_108 (by decide) ti_8_15 dX5_payersTo_9 ?_
    refine rx_top (nI n) wn ?_
    refine rx_icmp_ge (tgt := 57) dX5_payersTo_12 (by decide) (fun c12 => ?_) (fun c12 => ?_)
    · skip
      have f12 := Int32.not_lt.mpr c12
      have e12 : i = n := by have := (nI_leI (by omega) (by omega)).mp c12; omega
      subst e12
      refine rx_iload_n (i := 2) dX5_payersTo_57 rfl rfl ?_
      exact rx_fiI dX5_payersTo_58 hs rfl
    · skip
      have f12 := Int32.not_le.mp c12
      have e12 : i < n := Nat.lt_of_not_le fun q => c12 (nI_le q (by omega))
      refine rx_aload_n (i := 0) dX5_payersTo_15 rfl rfl ?_
      refine rx_iload_n (i := 1) dX5_payersTo_16 rfl rfl ?_
      refine rx_iload_n (i := 3) dX5_payersTo_17 rfl rfl ?_
      refine rx_cvI (ci := 5) mo_X5_coinIn lk_X5_110 (c_X5_coinIn (c := (vsX T n m x).1.2.co j) (by omega) (by omega) (q3 j hj).2.2.2.2.2.2 (q3 j hj).2.1 (q3 j hj).2.2.1) (by decide) rfl rfl (Nat.le_of_ble_eq_true rfl) kl_19 rfl dX5_payersTo_18 ?_
      refine rx_aload_n (i := 0) dX5_payersTo_21 rfl rfl ?_
      refine rx_getR 108 (k := 0) fo_X5_12 kl_19 (by decide) ti_5_0 (by decide) rfl dX5_payersTo_22 ?_
      refine rx_getR 109 (k := 0) fo_X5_98 kl_108 (by decide) ti_8_0 (by decide) rfl dX5_payersTo_25 ?_
      refine rx_iload_n (i := 3) dX5_payersTo_28 rfl rfl ?_
      refine rx_ialdN kl_109 (by omega) (by first | decide | omega) dX5_payersTo_29 ?_
      refine rx_top (T 0 i) (vag.1 i e12).1 ?_
      refine rx_aload_n (i := 0) dX5_payersTo_30 rfl rfl ?_
      refine rx_aload_n (i := 0) dX5_payersTo_31 rfl rfl ?_
      refine rx_getR 24 (k := 5) fo_X5_31 kl_19 (by decide) ti_5_5 (by decide) rfl dX5_payersTo_32 ?_
      refine rx_iload_n (i := 1) dX5_payersTo_35 rfl rfl ?_
      refine rx_ialdN kl_24 (by omega) (by first | decide | omega) dX5_payersTo_36 ?_
      refine rx_top _ (q3 j hj).1 ?_
      refine rx_iload_n (i := 3) dX5_payersTo_37 rfl rfl ?_
      refine rx_cvI (ci := 5) mo_X5_got lk_X5_180 (c_X5_got hV hO hn8 hm10 (by omega)) (by decide) rfl rfl (Nat.le_of_ble_eq_true rfl) kl_19 rfl dX5_payersTo_38 ?_
      refine rx_iadd dX5_payersTo_41 ?_
      refine rx_icmp_ge (tgt := 51) dX5_payersTo_42 (by decide) (fun c42 => ?_) (fun c42 => ?_)
      · skip
        have f42 := Int32.not_lt.mpr c42
        first | refine rx_iincN (i := 3) dX5_payersTo_51 rfl (by decide) rfl rfl ?_ | refine rx_iinc (i := 3) dX5_payersTo_51 rfl rfl (by decide) rfl rfl ?_
        refine rx_goto (tgt := 4) dX5_payersTo_54 (by decide) ?_
        exact ih (i + 1) _ (by omega) (by rw [hs]; simp only [fbor]; rw [if_neg (fun q => Int32.not_lt.mpr c42 (of_decide_eq_true q))]) (by omega)
      · skip
        have f42 := Int32.not_le.mp c42
        refine rx_iload_n (i := 2) dX5_payersTo_45 rfl rfl ?_
        refine rx_iconst (1) dX5_payersTo_46 rfl ?_
        refine rx_iload_n (i := 3) dX5_payersTo_47 rfl rfl ?_
        refine rx_ishl dX5_payersTo_48 ?_
        refine rx_ior dX5_payersTo_49 ?_
        refine rx_istore_n (i := 2) dX5_payersTo_50 rfl (by decide) rfl rfl ?_
        first | refine rx_iincN (i := 3) dX5_payersTo_51 rfl (by decide) rfl rfl ?_ | refine rx_iinc (i := 3) dX5_payersTo_51 rfl rfl (by decide) rfl rfl ?_
        refine rx_goto (tgt := 4) dX5_payersTo_54 (by decide) ?_
        exact ih (i + 1) _ (by omega) (by rw [hs]; simp only [fbor]; rw [if_pos (decide_eq_true (Int32.not_le.mp c42))]; rfl) (by omega)
set_option maxRecDepth 100000 in
set_option maxHeartbeats 4000000 in
theorem c_X5_payersTo {M : Mem} {T : TT} {n m : Nat} {x : Int32} (hV : VS M T n m x) (hO : OKS T n m) (hn8 : n ≤ 8) (hm10 : m ≤ 10) {j : Nat} (hj : j < (vsX T n m x).1.2.N) : Fun yX5_payersTo cX5_payersTo 4 (some .int) 1 [.ref 19, .int (nI j)] M (some (.int (ptS T n m ((vsX T n m x).1.2.mk j) ((vsX T n m x).1.2.co j)))) (M) := by
  refine Fun.of (own := RX5) ([some (.ref 19), some (.int (nI j)), none, none]) rfl (by decide +kernel) (Nat.le_of_ble_eq_true rfl) rfl ?_
  refine rx_iconst (0) dX5_payersTo_0 rfl ?_
  refine rx_istore_n (i := 2) dX5_payersTo_1 rfl (by decide) rfl rfl ?_
  refine rx_iconst (0) dX5_payersTo_2 rfl ?_
  refine rx_istore_n (i := 3) dX5_payersTo_3 rfl (by decide) rfl rfl ?_
  exact l_X5_payersTo hV hO hn8 hm10 hj (n + 1) 0 0 (Nat.zero_le _) rfl (by omega)
set_option maxRecDepth 100000 in
set_option maxHeartbeats 4000000 in
theorem l_X5_allPayers {M : Mem} {T : TT} {n m : Nat} {x : Int32} (hV : VS M T n m x) (hO : OKS T n m) (hn8 : n ≤ 8) (hm10 : m ≤ 10) : ∀ (N : Nat) (i : Nat) (s : Int32), (i ≤ (vsX T n m x).1.2.N) → (s = (orI (fun s => if (vsX T n m x).1.2.mk s = thV T m x then ptS T n m ((vsX T n m x).1.2.mk s) ((vsX T n m x).1.2.co s) else 0) i)) → (vsX T n m x).1.2.N - i < N → Reach cX5_allPayers RX5 3 2 (FQ cX5_allPayers (some .int) (some (.int (orI (fun s => if (vsX T n m x).1.2.mk s = thV T m x then ptS T n m ((vsX T n m x).1.2.mk s) ((vsX T n m x).1.2.co s) else 0) (vsX T n m x).1.2.N))) M) 4 [some (.ref 19), some (.int s), some (.int (nI i))] [] (M) := by
  intro N
  induction N with
  | zero => intro i s hi hs hm; exact absurd ‹_ < 0› (Nat.not_lt_zero _)
  | succ N ih =>
    intro i s hi hs hm
    have ⟨v13, v12, vag, ⟨wn, wm⟩, v10, vR, vf, vp, vb⟩ := hV
    have ⟨tb, q1, q2, q3, q4, q5⟩ := vR
    have ht : isTown 108 := by unfold isTown; omega
    have hO2 : OKS (view M 108) n m := hO.ag vag
    have wt : TW M 108 n m := TW_w wn wm hn8 hm10 hO2
    have eD : ∀ k, k < m → M.1 115 k = T 6 k ∧ M.1 116 k = T 7 k ∧ M.1 117 k = T 8 k := fun k hk => ⟨(vag.2.1 k hk).1, (vag.2.1 k hk).2.1, (vag.2.1 k hk).2.2.1⟩
    refine rx_iload_n (i := 2) dX5_allPayers_4 rfl rfl ?_
    refine rx_aload_n (i := 0) dX5_allPayers_5 rfl rfl ?_
    refine rx_getI (k := 9) fo_X5_76 kl_19 (by decide) ti_5_9 dX5_allPayers_6 ?_
    refine rx_top (nI ((vsX T n m x).1.2.N)) q1 ?_
    refine rx_icmp_ge (tgt := 43) dX5_allPayers_9 (by decide) (fun c9 => ?_) (fun c9 => ?_)
    · skip
      have f9 := Int32.not_lt.mpr c9
      have e9 : i = (vsX T n m x).1.2.N := by have := (nI_leI (by omega) (by omega)).mp c9; omega
      subst e9
      refine rx_iload_n (i := 1) dX5_allPayers_43 rfl rfl ?_
      exact rx_fiI dX5_allPayers_44 hs rfl
    · skip
      have f9 := Int32.not_le.mp c9
      have e9 : i < (vsX T n m x).1.2.N := Nat.lt_of_not_le fun q => c9 (nI_le q (by omega))
      refine rx_iload_n (i := 1) dX5_allPayers_12 rfl rfl ?_
      refine rx_aload_n (i := 0) dX5_allPayers_13 rfl rfl ?_
      refine rx_getR 24 (k := 5) fo_X5_31 kl_19 (by decide) ti_5_5 (by decide) rfl dX5_allPayers_14 ?_
      refine rx_iload_n (i := 2) dX5_allPayers_17 rfl rfl ?_
      refine rx_ialdN kl_24 (by omega) (by first | decide | omega) dX5_allPayers_18 ?_
      refine rx_top _ (q3 i e9).1 ?_
      refine rx_aload_n (i := 0) dX5_allPayers_19 rfl rfl ?_
      refine rx_getI (k := 10) fo_X5_70 kl_19 (by decide) ti_5_10 dX5_allPayers_20 ?_
      refine rx_top _ v10 ?_
      refine rx_icmp_ne (tgt := 34) dX5_allPayers_23 (by decide) (fun c23 => ?_) (fun c23 => ?_)
      · skip
        refine rx_iconst (0) dX5_allPayers_34 rfl ?_
        refine rx_ior dX5_allPayers_35 ?_
        refine rx_istore_n (i := 1) dX5_allPayers_36 rfl (by decide) rfl rfl ?_
        first | refine rx_iincN (i := 2) dX5_allPayers_37 rfl (by decide) rfl rfl ?_ | refine rx_iinc (i := 2) dX5_allPayers_37 rfl rfl (by decide) rfl rfl ?_
        refine rx_goto (tgt := 4) dX5_allPayers_40 (by decide) ?_
        exact ih (i + 1) _ (by omega) (by rw [hs]; simp only [orI]; rw [if_neg c23]) (by omega)
      · skip
        refine rx_aload_n (i := 0) dX5_allPayers_26 rfl rfl ?_
        refine rx_iload_n (i := 2) dX5_allPayers_27 rfl rfl ?_
        refine rx_cvI (ci := 5) mo_X5_payersTo lk_X5_173 (c_X5_payersTo hV hO hn8 hm10 e9) (by decide) rfl rfl (Nat.le_of_ble_eq_true rfl) kl_19 rfl dX5_allPayers_28 ?_
        refine rx_goto (tgt := 35) dX5_allPayers_31 (by decide) ?_
        refine rx_ior dX5_allPayers_35 ?_
        refine rx_istore_n (i := 1) dX5_allPayers_36 rfl (by decide) rfl rfl ?_
        first | refine rx_iincN (i := 2) dX5_allPayers_37 rfl (by decide) rfl rfl ?_ | refine rx_iinc (i := 2) dX5_allPayers_37 rfl rfl (by decide) rfl rfl ?_
        refine rx_goto (tgt := 4) dX5_allPayers_40 (by decide) ?_
        exact ih (i + 1) _ (by omega) (by rw [hs]; simp only [orI]; rw [if_pos c23]) (by omega)
set_option maxRecDepth 100000 in
set_option maxHeartbeats 4000000 in
theorem c_X5_allPayers {M : Mem} {T : TT} {n m : Nat} {x : Int32} (hV : VS M T n m x) (hO : OKS T n m) (hn8 : n ≤ 8) (hm10 : m ≤ 10) : Fun yX5_allPayers cX5_allPayers 3 (some .int) 2 [.ref 19] M (some (.int (orI (fun s => if (vsX T n m x).1.2.mk s = thV T m x then ptS T n m ((vsX T n m x).1.2.mk s) ((vsX T n m x).1.2.co s) else 0) (vsX T n m x).1.2.N))) (M) := by
  refine Fun.of (own := RX5) ([some (.ref 19), none, none]) rfl (by decide +kernel) (Nat.le_of_ble_eq_true rfl) rfl ?_
  refine rx_iconst (0) dX5_allPayers_0 rfl ?_
  refine rx_istore_n (i := 1) dX5_allPayers_1 rfl (by decide) rfl rfl ?_
  refine rx_iconst (0) dX5_allPayers_2 rfl ?_
  refine rx_istore_n (i := 2) dX5_allPayers_3 rfl (by decide) rfl rfl ?_
  exact l_X5_allPayers hV hO hn8 hm10 ((vsX T n m x).1.2.N + 1) 0 0 (Nat.zero_le _) rfl (by omega)
set_option maxRecDepth 100000 in
set_option maxHeartbeats 4000000 in
theorem c_X5_isFewer {M : Mem} {a b : Int32} : Fun yX5_isFewer cX5_isFewer 3 (some .boolean) 1 [.int a, .int b] M (some (.int (zI (fewB a b)))) (M) := by
  refine Fun.of (own := RX5) ([some (.int a), some (.int b), none]) rfl (by decide +kernel) (Nat.le_of_ble_eq_true rfl) rfl ?_
  refine rx_iload_n (i := 0) dX5_isFewer_0 rfl rfl ?_
  refine rx_csI mo_J6_bitCount_0f7a4 lk_X5_153 c_J6_bitCount_0f7a4 (by decide) rfl rfl (Nat.le_of_ble_eq_true rfl) dX5_isFewer_1 ?_
  refine rx_iload_n (i := 1) dX5_isFewer_4 rfl rfl ?_
  refine rx_csI mo_J6_bitCount_0f7a4 lk_X5_153 c_J6_bitCount_0f7a4 (by decide) rfl rfl (Nat.le_of_ble_eq_true rfl) dX5_isFewer_5 ?_
  refine rx_isub dX5_isFewer_8 ?_
  refine rx_istore_n (i := 2) dX5_isFewer_9 rfl (by decide) rfl rfl ?_
  refine rx_iload_n (i := 1) dX5_isFewer_10 rfl rfl ?_
  refine rx_if_lt (tgt := 27) dX5_isFewer_11 (by decide) (fun c11 => ?_) (fun c11 => ?_)
  · skip
    have f11 := Int32.not_le.mpr c11
    refine rx_iconst (1) dX5_isFewer_27 rfl ?_
    refine rx_goto (tgt := 32) dX5_isFewer_28 (by decide) ?_
    exact rx_fiZ dX5_isFewer_32 (by first | exact Or.inl rfl | exact Or.inr rfl) (by simp only [fewB]; simp [*, zI]) rfl
  · skip
    have f11 := Int32.not_lt.mp c11
    refine rx_iload_n (i := 2) dX5_isFewer_14 rfl rfl ?_
    refine rx_if_lt (tgt := 27) dX5_isFewer_15 (by decide) (fun c15 => ?_) (fun c15 => ?_)
    · skip
      have f15 := Int32.not_le.mpr c15
      refine rx_iconst (1) dX5_isFewer_27 rfl ?_
      refine rx_goto (tgt := 32) dX5_isFewer_28 (by decide) ?_
      exact rx_fiZ dX5_isFewer_32 (by first | exact Or.inl rfl | exact Or.inr rfl) (by simp only [fewB]; simp [*, zI]) rfl
    · skip
      have f15 := Int32.not_lt.mp c15
      refine rx_iload_n (i := 2) dX5_isFewer_18 rfl rfl ?_
      refine rx_if_ne (tgt := 31) dX5_isFewer_19 (by decide) (fun c19 => ?_) (fun c19 => ?_)
      · skip
        refine rx_iconst (0) dX5_isFewer_31 rfl ?_
        exact rx_fiZ dX5_isFewer_32 (by first | exact Or.inl rfl | exact Or.inr rfl) (by simp only [fewB]; simp [*, zI]) rfl
      · skip
        refine rx_iload_n (i := 0) dX5_isFewer_22 rfl rfl ?_
        refine rx_iload_n (i := 1) dX5_isFewer_23 rfl rfl ?_
        refine rx_icmp_ge (tgt := 31) dX5_isFewer_24 (by decide) (fun c24 => ?_) (fun c24 => ?_)
        · skip
          have f24 := Int32.not_lt.mpr c24
          refine rx_iconst (0) dX5_isFewer_31 rfl ?_
          exact rx_fiZ dX5_isFewer_32 (by first | exact Or.inl rfl | exact Or.inr rfl) (by simp only [fewB]; simp [*, zI]) rfl
        · skip
          have f24 := Int32.not_le.mp c24
          refine rx_iconst (1) dX5_isFewer_27 rfl ?_
          refine rx_goto (tgt := 32) dX5_isFewer_28 (by decide) ?_
          exact rx_fiZ dX5_isFewer_32 (by first | exact Or.inl rfl | exact Or.inr rfl) (by simp only [fewB]; simp [*, zI]) rfl
set_option maxRecDepth 100000 in
set_option maxHeartbeats 4000000 in
theorem l_X5_fewestPayers {M : Mem} {T : TT} {n m : Nat} {x : Int32} (hV : VS M T n m x) (hO : OKS T n m) (hn8 : n ≤ 8) (hm10 : m ≤ 10) : ∀ (N : Nat) (i : Nat) (s : Int32), (i ≤ (vsX T n m x).1.2.N) → (s = (fewN (fun s => decide ((vsX T n m x).1.2.mk s = thV T m x)) (fun s => ptS T n m ((vsX T n m x).1.2.mk s) ((vsX T n m x).1.2.co s)) i)) → (vsX T n m x).1.2.N - i < N → Reach cX5_fewestPayers RX5 3 2 (FQ cX5_fewestPayers (some .int) (some (.int (fewN (fun s => decide ((vsX T n m x).1.2.mk s = thV T m x)) (fun s => ptS T n m ((vsX T n m x).1.2.mk s) ((vsX T n m x).1.2.co s)) (vsX T n m x).1.2.N))) M) 4 [some (.ref 19), some (.int s), some (.int (nI i))] [] (M) := by
  intro N
  induction N with
  | zero => intro i s hi hs hm; exact absurd ‹_ < 0› (Nat.not_lt_zero _)
  | succ N ih =>
    intro i s hi hs hm
    have ⟨v13, v12, vag, ⟨wn, wm⟩, v10, vR, vf, vp, vb⟩ := hV
    have ⟨tb, q1, q2, q3, q4, q5⟩ := vR
    have ht : isTown 108 := by unfold isTown; omega
    have hO2 : OKS (view M 108) n m := hO.ag vag
    have wt : TW M 108 n m := TW_w wn wm hn8 hm10 hO2
    have eD : ∀ k, k < m → M.1 115 k = T 6 k ∧ M.1 116 k = T 7 k ∧ M.1 117 k = T 8 k := fun k hk => ⟨(vag.2.1 k hk).1, (vag.2.1 k hk).2.1, (vag.2.1 k hk).2.2.1⟩
    refine rx_iload_n (i := 2) dX5_fewestPayers_4 rfl rfl ?_
    refine rx_aload_n (i := 0) dX5_fewestPayers_5 rfl rfl ?_
    refine rx_getI (k := 9) fo_X5_76 kl_19 (by decide) ti_5_9 dX5_fewestPayers_6 ?_
    refine rx_top (nI ((vsX T n m x).1.2.N)) q1 ?_
    refine rx_icmp_ge (tgt := 49) dX5_fewestPayers_9 (by decide) (fun c9 => ?_) (fun c9 => ?_)
    · skip
      have f9 := Int32.not_lt.mpr c9
      have e9 : i = (vsX T n m x).1.2.N := by have := (nI_leI (by omega) (by omega)).mp c9; omega
      subst e9
      refine rx_iload_n (i := 1) dX5_fewestPayers_49 rfl rfl ?_
      exact rx_fiI dX5_fewestPayers_50 hs rfl
    · skip
      have f9 := Int32.not_le.mp c9
      have e9 : i < (vsX T n m x).1.2.N := Nat.lt_of_not_le fun q => c9 (nI_le q (by omega))
      refine rx_aload_n (i := 0) dX5_fewestPayers_12 rfl rfl ?_
      refine rx_getR 24 (k := 5) fo_X5_31 kl_19 (by decide) ti_5_5 (by decide) rfl dX5_fewestPayers_13 ?_
      refine rx_iload_n (i := 2) dX5_fewestPayers_16 rfl rfl ?_
      refine rx_ialdN kl_24 (by omega) (by first | decide | omega) dX5_fewestPayers_17 ?_
      refine rx_top _ (q3 i e9).1 ?_
      refine rx_aload_n (i := 0) dX5_fewestPayers_18 rfl rfl ?_
      refine rx_getI (k := 10) fo_X5_70 kl_19 (by decide) ti_5_10 dX5_fewestPayers_19 ?_
      refine rx_top _ v10 ?_
      refine rx_icmp_ne (tgt := 43) dX5_fewestPayers_22 (by decide) (fun c22 => ?_) (fun c22 => ?_)
      · skip
        first | refine rx_iincN (i := 2) dX5_fewestPayers_43 rfl (by decide) rfl rfl ?_ | refine rx_iinc (i := 2) dX5_fewestPayers_43 rfl rfl (by decide) rfl rfl ?_
        refine rx_goto (tgt := 4) dX5_fewestPayers_46 (by decide) ?_
        exact ih (i + 1) _ (by omega) (by rw [hs]; simp only [fewN]; rw [if_neg (fun q => c22 (of_decide_eq_true q.1))]) (by omega)
      · skip
        refine rx_aload_n (i := 0) dX5_fewestPayers_25 rfl rfl ?_
        refine rx_iload_n (i := 2) dX5_fewestPayers_26 rfl rfl ?_
        refine rx_cvI (ci := 5) mo_X5_payersTo lk_X5_173 (c_X5_payersTo hV hO hn8 hm10 e9) (by decide) rfl rfl (Nat.le_of_ble_eq_true rfl) kl_19 rfl dX5_fewestPayers_27 ?_
        refine rx_iload_n (i := 1) dX5_fewestPayers_30 rfl rfl ?_
        refine rx_csI mo_X5_isFewer lk_X5_176 c_X5_isFewer (by decide) rfl rfl (Nat.le_of_ble_eq_true rfl) dX5_fewestPayers_31 ?_
        refine rx_if_eq (tgt := 43) dX5_fewestPayers_34 (by decide) (fun c34 => ?_) (fun c34 => ?_)
        · skip
          have e34 : fewB (ptS T n m ((vsX T n m x).1.2.mk i) ((vsX T n m x).1.2.co i)) s = false := zI_0.mp c34
          first | refine rx_iincN (i := 2) dX5_fewestPayers_43 rfl (by decide) rfl rfl ?_ | refine rx_iinc (i := 2) dX5_fewestPayers_43 rfl rfl (by decide) rfl rfl ?_
          refine rx_goto (tgt := 4) dX5_fewestPayers_46 (by decide) ?_
          exact ih (i + 1) _ (by omega) (by rw [hs] at e34 ⊢; simp only [fewN]; rw [if_neg (fun q => by rw [e34] at q; exact absurd q.2 (by decide))]) (by omega)
        · skip
          have e34 : fewB (ptS T n m ((vsX T n m x).1.2.mk i) ((vsX T n m x).1.2.co i)) s = true := Decidable.byContradiction fun q => c34 (zI_0.mpr (by simpa using q))
          refine rx_aload_n (i := 0) dX5_fewestPayers_37 rfl rfl ?_
          refine rx_iload_n (i := 2) dX5_fewestPayers_38 rfl rfl ?_
          refine rx_cvI (ci := 5) mo_X5_payersTo lk_X5_173 (c_X5_payersTo hV hO hn8 hm10 e9) (by decide) rfl rfl (Nat.le_of_ble_eq_true rfl) kl_19 rfl dX5_fewestPayers_39 ?_
          refine rx_istore_n (i := 1) dX5_fewestPayers_42 rfl (by decide) rfl rfl ?_
          first | refine rx_iincN (i := 2) dX5_fewestPayers_43 rfl (by decide) rfl rfl ?_ | refine rx_iinc (i := 2) dX5_fewestPayers_43 rfl rfl (by decide) rfl rfl ?_
          refine rx_goto (tgt := 4) dX5_fewestPayers_46 (by decide) ?_
          exact ih (i + 1) _ (by omega) (by rw [hs] at e34; simp only [fewN]; rw [if_pos ⟨decide_eq_true c22, e34⟩]) (by omega)
set_option maxRecDepth 100000 in
set_option maxHeartbeats 4000000 in
theorem c_X5_fewestPayers {M : Mem} {T : TT} {n m : Nat} {x : Int32} (hV : VS M T n m x) (hO : OKS T n m) (hn8 : n ≤ 8) (hm10 : m ≤ 10) : Fun yX5_fewestPayers cX5_fewestPayers 3 (some .int) 2 [.ref 19] M (some (.int (fewN (fun s => decide ((vsX T n m x).1.2.mk s = thV T m x)) (fun s => ptS T n m ((vsX T n m x).1.2.mk s) ((vsX T n m x).1.2.co s)) (vsX T n m x).1.2.N))) (M) := by
  refine Fun.of (own := RX5) ([some (.ref 19), none, none]) rfl (by decide +kernel) (Nat.le_of_ble_eq_true rfl) rfl ?_
  refine rx_iconst (-1) dX5_fewestPayers_0 rfl ?_
  refine rx_istore_n (i := 1) dX5_fewestPayers_1 rfl (by decide) rfl rfl ?_
  refine rx_iconst (0) dX5_fewestPayers_2 rfl ?_
  refine rx_istore_n (i := 2) dX5_fewestPayers_3 rfl (by decide) rfl rfl ?_
  exact l_X5_fewestPayers hV hO hn8 hm10 ((vsX T n m x).1.2.N + 1) 0 (-1) (Nat.zero_le _) rfl (by omega)
theorem lus6 {a k : Nat} (ha : a < 2 ^ 64) (hk : k < 10) : ((lN a).toUInt64 >>> ((nI (6 * k)).toInt64.toUInt64 &&& Int64.toUInt64 63)).toInt64 = lN (a / 64 ^ k) := by
  refine Int64.toBitVec_inj.mp (BitVec.eq_of_toNat_eq ?_)
  show ((lN a).toUInt64 >>> ((nI (6 * k)).toInt64.toUInt64 &&& Int64.toUInt64 63)).toBitVec.toNat = a / 64 ^ k % 2 ^ 64
  rw [UInt64.toBitVec_shiftRight, BitVec.ushiftRight_eq', BitVec.toNat_ushiftRight, (by decide +kernel : ∀ k, k < 10 → (((nI (6 * k)).toInt64.toUInt64 &&& Int64.toUInt64 63).toBitVec % 64).toNat = 6 * k) k hk]
  show (a % 2 ^ 64) >>> (6 * k) = _
  rw [Nat.shiftRight_eq_div_pow, ← (by decide +kernel : ∀ k, k < 10 → 64 ^ k = 2 ^ (6 * k)) k hk, Nat.mod_eq_of_lt ha, Nat.mod_eq_of_lt]
  exact Nat.lt_of_le_of_lt (Nat.div_le_self _ _) ha
theorem and6 (b : Nat) : (lN b).toInt32 &&& 63 = nI (b % 64) := by
  refine Int32.toBitVec_inj.mp (BitVec.eq_of_toNat_eq ?_)
  rw [Int32.toBitVec_and, BitVec.toNat_and]
  show (lN b).toInt32.toBitVec.toNat &&& (2 ^ 6 - 1) = b % 64 % 2 ^ 32
  rw [Nat.and_two_pow_sub_one_eq_mod]
  have e : (lN b).toInt32.toBitVec.toNat = b % 2 ^ 64 % 2 ^ 32 := by
    rw [Int64.toBitVec_toInt32, BitVec.signExtend_eq_setWidth_of_le _ (by decide), BitVec.toNat_setWidth]; rfl
  rw [e]
  omega
theorem d6 : ∀ a, a < 64 → nI a / 6 = nI (a / 6) ∧ nI a - nI a / 6 * 6 = nI (a % 6) := by decide +kernel
theorem unrk {o g i : Nat} (hio : i ≠ o) (hig : i ≠ g) (hog : o ≠ g) : (if max o g ≤ (if min o g ≤ rkN o g i then rkN o g i + 1 else rkN o g i) then (if min o g ≤ rkN o g i then rkN o g i + 1 else rkN o g i) + 1 else (if min o g ≤ rkN o g i then rkN o g i + 1 else rkN o g i)) = i := by
  simp only [rkN]
  rcases Nat.lt_or_ge o g with h | h
  · rw [Nat.max_eq_right (by omega), Nat.min_eq_left (by omega)]
    split <;> split <;> (try split) <;> (try split) <;> omega
  · rw [Nat.max_eq_left (by omega), Nat.min_eq_right (by omega)]
    split <;> split <;> (try split) <;> (try split) <;> omega
theorem mx2 {o g : Nat} (ho : o < 2 ^ 31) (hg : g < 2 ^ 31) : (if nI o < nI g then nI g else nI o) = nI (max o g) := by
  by_cases h : o < g
  · rw [if_pos (nI_lt h hg), Nat.max_eq_right (by omega)]
  · rw [if_neg (nI_nlt (by omega) ho), Nat.max_eq_left (by omega)]
theorem mn2 {o g : Nat} (ho : o < 2 ^ 31) (hg : g < 2 ^ 31) : (if nI g < nI o then nI g else nI o) = nI (min o g) := by
  by_cases h : g < o
  · rw [if_pos (nI_lt h ho), Nat.min_eq_right (by omega)]
  · rw [if_neg (nI_nlt (by omega) hg), Nat.min_eq_left (by omega)]
set_option maxRecDepth 100000 in
set_option maxHeartbeats 4000000 in
theorem c_X5_payment {M : Mem} {T : TT} {n m : Nat} {x : Int32} (hV : VS M T n m x) (hO : OKS T n m) (hn8 : n ≤ 8) (hm10 : m ≤ 10) {j b k o g i : Nat} (hj : j < (vsX T n m x).1.2.N) (hb : b < 10) (hk : k < m) (hi : i < 8) (ho : o < 8) (hg : g < 8) (hio : i ≠ o) (hig : i ≠ g) (hog : o ≠ g) (eo : T 6 k = nI o) (eg : T 7 k = nI g) (hd : (vsX T n m x).1.2.rw j / 64 ^ b % 64 = k * 6 + rkN o g i) : Fun yX5_payment cX5_payment 8 (some .int) 1 [.ref 19, .int (nI j), .int (nI b)] M (some (.int (nI (10 * k + i)))) (M) := by
  refine Fun.of (own := RX5) ([some (.ref 19), some (.int (nI j)), some (.int (nI b)), none, none, none, none, none]) rfl (by decide +kernel) (Nat.le_of_ble_eq_true rfl) rfl ?_
  have ⟨v13, v12, vag, ⟨wn, wm⟩, v10, vR, vf, vp, vb⟩ := hV
  have ⟨tb, q1, q2, q3, q4, q5⟩ := vR
  have ht : isTown 108 := by unfold isTown; omega
  have hO2 : OKS (view M 108) n m := hO.ag vag
  have wt : TW M 108 n m := TW_w wn wm hn8 hm10 hO2
  have eD : ∀ k, k < m → M.1 115 k = T 6 k ∧ M.1 116 k = T 7 k ∧ M.1 117 k = T 8 k := fun k hk => ⟨(vag.2.1 k hk).1, (vag.2.1 k hk).2.1, (vag.2.1 k hk).2.2.1⟩
  have hEX := vis_EX (these := thV T m x) hn8 hm10 hO (fun i hi => by have := hO.1 i hi; omega)
  have hrk := rkN_le (o := o) (g := g) (i := i) hi
  have hrk5 : rkN o g i ≤ 5 := by simp only [rkN]; split <;> split <;> omega
  have hd64 : k * 6 + rkN o g i < 64 := by omega
  refine rx_aload_n (i := 0) dX5_payment_0 rfl rfl ?_
  refine rx_getR 23 (k := 4) fo_X5_28 kl_19 (by decide) ti_5_4 (by decide) rfl dX5_payment_1 ?_
  refine rx_iload_n (i := 1) dX5_payment_4 rfl rfl ?_
  refine rx_laldN kl_23 (by omega) (by first | decide | omega) dX5_payment_5 ?_
  refine rx_topL _ (q3 j hj).2.2.2.2.2.1 ?_
  refine rx_bipush (6) dX5_payment_6 rfl ?_
  refine rx_iload_n (i := 2) dX5_payment_8 rfl rfl ?_
  refine rx_imul dX5_payment_9 ?_
  refine rx_top (nI (6 * b)) (by rw [show (6 : Int32) = nI 6 from rfl, pk_mul]) ?_
  refine rx_lushr dX5_payment_10 rfl ?_
  rw [lus6 (by have hj2 := hEX.2.2 j hj; exact Nat.lt_of_lt_of_le hj2.2.2.2 (Nat.le_trans (p64 pcN_le) (by decide))) hb]
  refine rx_l2i dX5_payment_11 rfl ?_
  refine rx_bipush (63) dX5_payment_12 rfl ?_
  refine rx_iand dX5_payment_14 ?_
  rw [and6, hd]
  refine rx_istore_n (i := 3) dX5_payment_15 rfl (by decide) rfl rfl ?_
  refine rx_iload_n (i := 3) dX5_payment_16 rfl rfl ?_
  refine rx_bipush (6) dX5_payment_17 rfl ?_
  refine rx_idiv dX5_payment_19 (by decide) ?_
  refine rx_top (nI k) (by rw [(d6 _ hd64).1]; congr 1; omega) ?_
  refine rx_istore (i := 4) dX5_payment_20 (by decide) rfl rfl ?_
  refine rx_aload_n (i := 0) dX5_payment_22 rfl rfl ?_
  refine rx_getR 108 (k := 0) fo_X5_12 kl_19 (by decide) ti_5_0 (by decide) rfl dX5_payment_23 ?_
  refine rx_iload (i := 4) dX5_payment_26 rfl ?_
  refine rx_cvI (ci := 8) mo_X8_isDebt lk_X5_166 (c_X8_isDebt ht) (by decide) rfl rfl (Nat.le_of_ble_eq_true rfl) kl_108 rfl dX5_payment_28 ?_
  refine rx_top 1 (if_pos ⟨nI_pos' (by omega), by rw [show M.1 108 16 = nI m from wm]; exact nI_lt hk (by omega)⟩) ?_
  refine rx_if_ne (tgt := 36) dX5_payment_31 (by decide) (fun c31 => ?_) (fun c31 => ?_)
  · skip
    refine rx_iload_n (i := 3) dX5_payment_36 rfl rfl ?_
    refine rx_bipush (6) dX5_payment_37 rfl ?_
    refine rx_irem dX5_payment_39 (by decide) ?_
    refine rx_top (nI (rkN o g i)) (by rw [(d6 _ hd64).2]; congr 1; omega) ?_
    refine rx_istore (i := 5) dX5_payment_40 (by decide) rfl rfl ?_
    refine rx_aload_n (i := 0) dX5_payment_42 rfl rfl ?_
    refine rx_getR 108 (k := 0) fo_X5_12 kl_19 (by decide) ti_5_0 (by decide) rfl dX5_payment_43 ?_
    refine rx_getR 115 (k := 6) fo_X5_139 kl_108 (by decide) ti_8_6 (by decide) rfl dX5_payment_46 ?_
    refine rx_iload (i := 4) dX5_payment_49 rfl ?_
    refine rx_ialdN kl_115 (by omega) (by first | decide | omega) dX5_payment_51 ?_
    refine rx_top (nI o) ((eD k hk).1.trans eo) ?_
    refine rx_aload_n (i := 0) dX5_payment_52 rfl rfl ?_
    refine rx_getR 108 (k := 0) fo_X5_12 kl_19 (by decide) ti_5_0 (by decide) rfl dX5_payment_53 ?_
    refine rx_getR 116 (k := 7) fo_X5_130 kl_108 (by decide) ti_8_7 (by decide) rfl dX5_payment_56 ?_
    refine rx_iload (i := 4) dX5_payment_59 rfl ?_
    refine rx_ialdN kl_116 (by omega) (by first | decide | omega) dX5_payment_61 ?_
    refine rx_top (nI g) ((eD k hk).2.1.trans eg) ?_
    refine rx_mmin (List.mem_of_getElem? (i := 1111) (by decide +kernel)) (by decide) (Nat.le_of_ble_eq_true rfl) dX5_payment_62 ?_
    refine rx_top (nI (min o g)) (mn2 (by omega) (by omega)) ?_
    refine rx_istore (i := 6) dX5_payment_65 (by decide) rfl rfl ?_
    refine rx_aload_n (i := 0) dX5_payment_67 rfl rfl ?_
    refine rx_getR 108 (k := 0) fo_X5_12 kl_19 (by decide) ti_5_0 (by decide) rfl dX5_payment_68 ?_
    refine rx_getR 115 (k := 6) fo_X5_139 kl_108 (by decide) ti_8_6 (by decide) rfl dX5_payment_71 ?_
    refine rx_iload (i := 4) dX5_payment_74 rfl ?_
    refine rx_ialdN kl_115 (by omega) (by first | decide | omega) dX5_payment_76 ?_
    refine rx_top (nI o) ((eD k hk).1.trans eo) ?_
    refine rx_aload_n (i := 0) dX5_payment_77 rfl rfl ?_
    refine rx_getR 108 (k := 0) fo_X5_12 kl_19 (by decide) ti_5_0 (by decide) rfl dX5_payment_78 ?_
    refine rx_getR 116 (k := 7) fo_X5_130 kl_108 (by decide) ti_8_7 (by decide) rfl dX5_payment_81 ?_
    refine rx_iload (i := 4) dX5_payment_84 rfl ?_
    refine rx_ialdN kl_116 (by omega) (by first | decide | omega) dX5_payment_86 ?_
    refine rx_top (nI g) ((eD k hk).2.1.trans eg) ?_
    refine rx_mmax (List.mem_of_getElem? (i := 1082) (by decide +kernel)) (by decide) (Nat.le_of_ble_eq_true rfl) dX5_payment_87 ?_
    refine rx_top (nI (max o g)) (mx2 (by omega) (by omega)) ?_
    have hu := unrk hio hig hog
    obtain ⟨p, hp⟩ : ∃ p, rkN o g i = p := ⟨_, rfl⟩
    rw [hp] at hu hrk
    rw [hp]
    refine rx_istore (i := 7) dX5_payment_90 (by decide) rfl rfl ?_
    refine rx_iload (i := 5) dX5_payment_92 rfl ?_
    refine rx_iload (i := 6) dX5_payment_94 rfl ?_
    refine rx_icmp_lt (tgt := 102) dX5_payment_96 (by decide) (fun c96 => ?_) (fun c96 => ?_)
    · skip
      have f96 := Int32.not_le.mpr c96
      have e96 : p < min o g := (nI_ltI (by omega) (by omega)).mp c96
      rw [if_neg (show ¬ min o g ≤ p by omega)] at hu
      refine rx_iload (i := 5) dX5_payment_102 rfl ?_
      refine rx_iload (i := 7) dX5_payment_104 rfl ?_
      refine rx_icmp_lt (tgt := 112) dX5_payment_106 (by decide) (fun c106 => ?_) (fun c106 => ?_)
      · skip
        have f106 := Int32.not_le.mpr c106
        have e106 := (nI_ltI (by omega) (by omega)).mp c106
        rw [if_neg (Nat.not_le.mpr e106)] at hu
        refine rx_bipush (10) dX5_payment_112 rfl ?_
        refine rx_iload (i := 4) dX5_payment_114 rfl ?_
        refine rx_imul dX5_payment_116 ?_
        refine rx_iload (i := 5) dX5_payment_117 rfl ?_
        refine rx_iadd dX5_payment_119 ?_
        exact rx_fiI dX5_payment_120 (by rw [show (10 : Int32) = nI 10 from rfl, pk_mul, nI_add, hu]) rfl
      · skip
        have f106 := Int32.not_lt.mp c106
        have e106 := (nI_leI (by omega) (by omega)).mp (Int32.not_lt.mp c106)
        rw [if_pos e106] at hu
        first | refine rx_iincN (i := 5) dX5_payment_109 rfl (by decide) rfl rfl ?_ | refine rx_iinc (i := 5) dX5_payment_109 rfl rfl (by decide) rfl rfl ?_
        refine rx_bipush (10) dX5_payment_112 rfl ?_
        refine rx_iload (i := 4) dX5_payment_114 rfl ?_
        refine rx_imul dX5_payment_116 ?_
        refine rx_iload (i := 5) dX5_payment_117 rfl ?_
        refine rx_iadd dX5_payment_119 ?_
        exact rx_fiI dX5_payment_120 (by rw [show (10 : Int32) = nI 10 from rfl, pk_mul, nI_add, hu]) rfl
    · skip
      have f96 := Int32.not_lt.mp c96
      have e96 : min o g ≤ p := (nI_leI (by omega) (by omega)).mp (Int32.not_lt.mp c96)
      rw [if_pos e96] at hu
      first | refine rx_iincN (i := 5) dX5_payment_99 rfl (by decide) rfl rfl ?_ | refine rx_iinc (i := 5) dX5_payment_99 rfl rfl (by decide) rfl rfl ?_
      refine rx_iload (i := 5) dX5_payment_102 rfl ?_
      refine rx_iload (i := 7) dX5_payment_104 rfl ?_
      refine rx_icmp_lt (tgt := 112) dX5_payment_106 (by decide) (fun c106 => ?_) (fun c106 => ?_)
      · skip
        have f106 := Int32.not_le.mpr c106
        have e106 := (nI_ltI (by omega) (by omega)).mp c106
        rw [if_neg (Nat.not_le.mpr e106)] at hu
        refine rx_bipush (10) dX5_payment_112 rfl ?_
        refine rx_iload (i := 4) dX5_payment_114 rfl ?_
        refine rx_imul dX5_payment_116 ?_
        refine rx_iload (i := 5) dX5_payment_117 rfl ?_
        refine rx_iadd dX5_payment_119 ?_
        exact rx_fiI dX5_payment_120 (by rw [show (10 : Int32) = nI 10 from rfl, pk_mul, nI_add, hu]) rfl
      · skip
        have f106 := Int32.not_lt.mp c106
        have e106 := (nI_leI (by omega) (by omega)).mp (Int32.not_lt.mp c106)
        rw [if_pos e106] at hu
        first | refine rx_iincN (i := 5) dX5_payment_109 rfl (by decide) rfl rfl ?_ | refine rx_iinc (i := 5) dX5_payment_109 rfl rfl (by decide) rfl rfl ?_
        refine rx_bipush (10) dX5_payment_112 rfl ?_
        refine rx_iload (i := 4) dX5_payment_114 rfl ?_
        refine rx_imul dX5_payment_116 ?_
        refine rx_iload (i := 5) dX5_payment_117 rfl ?_
        refine rx_iadd dX5_payment_119 ?_
        exact rx_fiI dX5_payment_120 (by rw [show (10 : Int32) = nI 10 from rfl, pk_mul, nI_add, hu]) rfl
  · skip
    exact absurd c31 (by decide)
    skip
