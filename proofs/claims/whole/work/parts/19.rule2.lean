
theorem upd_same {f : Nat → Int32} {k : Nat} {x : Int32} : upd f k x k = x := by simp [upd]
theorem upd_ne {f : Nat → Int32} {k j : Nat} {x : Int32} (h : j ≠ k) : upd f k x j = f j := by simp [upd, h]
/-- the values' first state doesn't count -/
theorem wrn_indep {th : Int32 → Int32} {S V W : Nat → Int32} : ∀ i, (wrn th S V i).1 = (wrn th S W i).1 ∧ ∀ j, j < (wrn th S V i).1 → (wrn th S V i).2 j = (wrn th S W i).2 j
  | 0 => ⟨rfl, fun j h => absurd h (Nat.not_lt_zero _)⟩
  | i + 1 => by
    obtain ⟨h1, h2⟩ := wrn_indep (th := th) (S := S) (V := V) (W := W) i
    simp only [wrn]
    generalize wrn th S V i = a at h1 h2
    generalize wrn th S W i = b at h1 h2
    obtain ⟨a1, a2⟩ := a
    obtain ⟨b1, b2⟩ := b
    simp only at h1 h2
    subst h1
    simp only [wst]
    split
    · refine ⟨rfl, fun j hj => ?_⟩
      simp only [upd] at hj ⊢
      split
      · rfl
      · exact h2 j (by omega)
    · split
      · next c =>
        refine ⟨rfl, fun j hj => ?_⟩
        simp only [upd] at hj ⊢
        rw [h2 (a1 - 1) (by omega)]
        split
        · rfl
        · exact h2 j (by omega)
      · split
        · next c =>
          refine ⟨rfl, fun j hj => ?_⟩
          simp only [upd] at hj ⊢
          rw [h2 (a1 - 1) (by omega), h2 (a1 - 2) (by omega)]
          split
          · rfl
          · exact h2 j (by omega)
        · exact ⟨rfl, h2⟩
def wrX (th : Int32 → Int32) (S : Nat → Int32) (z : Nat) : Int32 := if 0 < (wrn th S (fun _ => 0) z).1 then (wrn th S (fun _ => 0) z).2 0 else 0
theorem wrX_eq {th : Int32 → Int32} {S V : Nat → Int32} {z : Nat} : (if 0 < (wrn th S V z).1 then (wrn th S V z).2 0 else 0) = wrX th S z := by
  obtain ⟨h1, h2⟩ := wrn_indep (th := th) (S := S) (V := V) (W := fun _ => 0) z
  unfold wrX
  rw [h1]
  split
  · next c => exact h2 0 (by rw [h1]; exact c)
  · rfl
theorem thM_mkL {M : Mem} {t n m i k l : Nat} {x : Int32} : thM (mkL M t l) t n m i k x = thM M t n m i k x := by
  simp only [thM, priceM, mkL_o (show t + 1 ≠ t + 6 by omega), mkL_o (show t + 2 ≠ t + 6 by omega), mkL_o (show t + 3 ≠ t + 6 by omega), mkL_o (show t + 4 ≠ t + 6 by omega), mkL_o (show t + 7 ≠ t + 6 by omega), mkL_o (show t + 8 ≠ t + 6 by omega), mkL_o (show t + 9 ≠ t + 6 by omega), mkL_o (show t + 11 ≠ t + 6 by omega), mkL_o (show t + 13 ≠ t + 6 by omega)]
theorem wrV_X {M : Mem} {t n m i k z : Nat} : wrV M t n m i k z = wrX (thM M t n m i k) (M.1 8) z := wrX_eq
/-- what THE RULE is for i and k -/
def ruM (M : Mem) (t n m i k z : Nat) : Int32 := wrX (thM M t n m i k) (M.1 8) z
/-- who is WILLING, and for how much -/
def chs (p : Nat → Bool) (v : Nat → Int32) : Nat → Int32 × Int32
  | 0 => (-1, -1)
  | i + 1 => if p i = true ∧ (chs p v i).2 < v i then (nI i, v i) else chs p v i
def chV (M : Mem) (t n m k z : Nat) (p : Nat → Bool) : Nat → Nat → Int32
  | 0 => M.1 9
  | i + 1 => if p i = true then (wrn (thM M t n m i k) (M.1 8) (chV M t n m k z p i) z).2 else chV M t n m k z p i
def chP (M : Mem) (t n k : Nat) (i : Nat) : Bool := decide (M.1 (t + 11) k = 0) && mayL (mkL M t n) t n k i
def chM (M : Mem) (t n m k z : Nat) : Mem := setA (mkL M t n) 9 (chV M t n m k z (chP M t n k) n)

set_option maxRecDepth 100000 in
set_option maxHeartbeats 4000000 in
theorem l_X3_chosen {t : Nat} (ht : isTown t) {M : Mem} {n m : Nat} (w : TW M t n m) {k z : Nat} (hk : k < m) (hz : M.1 7 2 = nI z) (hz40 : z ≤ 40) {b : Int32} (hb : ∀ i, i < n → bt b i = chP M t n k i) : ∀ (N : Nat) (i : Nat) (s : Int32 × Int32) (V : Nat → Int32), (i ≤ n) → (s = chs (chP M t n k) (fun i => ruM M t n m i k z) i) → (V = chV M t n m k z (chP M t n k) i) → n - i < N → Reach cX3_chosen RX3 8 4 (FQ cX3_chosen (some .int) (some (.int (chs (chP M t n k) (fun i => ruM M t n m i k z) n).1)) (chM M t n m k z)) 19 [some (.ref 7), some (.ref t), some (.int (nI k)), some (.int b), some (.int s.1), some (.int s.2), some (.int (nI i)), none] [] (setA (mkL M t n) 9 V) := by
  intro N
  induction N with
  | zero => intro i s V hi hs hV hm; exact absurd ‹_ < 0› (Nat.not_lt_zero _)
  | succ N ih =>
    intro i s V hi hs hV hm
    have ⟨hn, hn8, hm, hm10, hd⟩ := w
    have hge := town_ge ht
    have hsT : sameT (mkL M t n) (setA (mkL M t n) 9 V) t := sameT_A (by omega)
    refine rx_iload (i := 6) dX3_chosen_19 rfl ?_
    refine rx_aload_n (i := 1) dX3_chosen_21 rfl rfl ?_
    refine rx_getI (k := 15) fo_X3_41 (kt_0 ht) (by decide) ti_8_15 dX3_chosen_22 ?_
    refine rx_icmp_ge (tgt := 68) dX3_chosen_25 (by decide) (fun c25 => ?_) (fun c25 => ?_)
    · skip
      have f25 := Int32.not_lt.mpr c25
      rw [(setA_o (by omega)), mkL_o (by omega), hn, nI_leI (by omega) (by omega)] at c25
      obtain rfl : i = n := by omega
      refine rx_iload (i := 4) dX3_chosen_68 rfl ?_
      exact rx_fiI dX3_chosen_70 (by rw [hs]) (by rw [hV]; rfl)
    · skip
      have f25 := Int32.not_le.mp c25
      rw [(setA_o (by omega)), mkL_o (by omega), hn, nI_leI (by omega) (by omega)] at c25
      refine rx_iload_n (i := 3) dX3_chosen_28 rfl rfl ?_
      refine rx_iconst (1) dX3_chosen_29 rfl ?_
      refine rx_iload (i := 6) dX3_chosen_30 rfl ?_
      refine rx_ishl dX3_chosen_32 ?_
      refine rx_iand dX3_chosen_33 ?_
      refine rx_if_eq (tgt := 62) dX3_chosen_34 (by decide) (fun c34 => ?_) (fun c34 => ?_)
      · skip
        try have e34 := (and_bit _ (by omega)).mp c34
        have e34b : chP M t n k i = false := by rw [← hb i (by omega)]; exact e34
        first | refine rx_iincN (i := 6) dX3_chosen_62 rfl (by decide) rfl rfl ?_ | refine rx_iinc (i := 6) dX3_chosen_62 rfl rfl (by decide) rfl rfl ?_
        refine rx_goto (tgt := 19) dX3_chosen_65 (by decide) ?_
        refine rx_drop 7 ?_
        exact ih (i + 1) s _ (by omega) (by rw [show chs (chP M t n k) (fun i => ruM M t n m i k z) (i + 1) = _ from if_neg (fun q => by rw [e34b] at q; exact absurd q.1 (by decide))]; exact hs) (by simp [chV, *]) (by omega)
      · skip
        try have e34 := (and_bitn _ (by omega)).mp c34
        have e34b : chP M t n k i = true := by rw [← hb i (by omega)]; exact e34
        refine rx_aload_n (i := 0) dX3_chosen_37 rfl rfl ?_
        refine rx_aload_n (i := 1) dX3_chosen_38 rfl rfl ?_
        refine rx_iload (i := 6) dX3_chosen_39 rfl ?_
        refine rx_iload_n (i := 2) dX3_chosen_41 rfl rfl ?_
        refine rx_cvI (ci := 3) mo_X3_worth lk_X3_44 (c_X3_worth ht (hsT.TW (w.keep (mkL_o (by omega)) (mkL_o (by omega)) (fun _ _ => mkL_o (by omega)) (fun _ _ => mkL_o (by omega)))) (by omega) hk (by rw [setA_o (by decide), mkL_o (by omega)]; exact hz) hz40) (by decide) rfl rfl (Nat.le_of_ble_eq_true rfl) kl_7 rfl dX3_chosen_42 ?_
        refine rx_top (ruM M t n m i k z) (by rw [wrV_X]; rw [show thM (setA (mkL M t n) 9 V) t n m i k = thM M t n m i k from funext fun x => by rw [thM_same hsT, thM_mkL]]; rw [show (setA (mkL M t n) 9 V).1 8 = M.1 8 from by funext j; rw [setA_o (by decide), mkL_o (by omega)]]; rfl) ?_
        have eV : setA (setA (mkL M t n) 9 V) 9 (wrS (setA (mkL M t n) 9 V) t n m i k z).2 = setA (mkL M t n) 9 (chV M t n m k z (chP M t n k) (i + 1)) := by
          rw [setA_setA]
          congr 1
          simp only [chV, e34b, if_true, wrS]
          rw [show (setA (mkL M t n) 9 V).1 8 = M.1 8 from by funext j; rw [setA_o (by decide), mkL_o (by omega)], show (setA (mkL M t n) 9 V).1 9 = V from by funext j; exact setA_i, show thM (setA (mkL M t n) 9 V) t n m i k = thM M t n m i k from by funext x; rw [thM_same hsT, thM_mkL], hV]
        rw [eV]
        refine rx_istore (i := 7) dX3_chosen_45 (by decide) rfl rfl ?_
        refine rx_iload (i := 7) dX3_chosen_47 rfl ?_
        refine rx_iload (i := 5) dX3_chosen_49 rfl ?_
        refine rx_icmp_le (tgt := 62) dX3_chosen_51 (by decide) (fun c51 => ?_) (fun c51 => ?_)
        · skip
          have f51 := Int32.not_lt.mpr c51
          first | refine rx_iincN (i := 6) dX3_chosen_62 rfl (by decide) rfl rfl ?_ | refine rx_iinc (i := 6) dX3_chosen_62 rfl rfl (by decide) rfl rfl ?_
          refine rx_goto (tgt := 19) dX3_chosen_65 (by decide) ?_
          refine rx_drop 7 ?_
          exact ih (i + 1) s _ (by omega) (by rw [show chs (chP M t n k) (fun i => ruM M t n m i k z) (i + 1) = _ from if_neg (fun q => f51 (hs ▸ q.2))]; exact hs) (by simp [chV, *]) (by omega)
        · skip
          have f51 := Int32.not_le.mp c51
          refine rx_iload (i := 7) dX3_chosen_54 rfl ?_
          refine rx_istore (i := 5) dX3_chosen_56 (by decide) rfl rfl ?_
          refine rx_iload (i := 6) dX3_chosen_58 rfl ?_
          refine rx_istore (i := 4) dX3_chosen_60 (by decide) rfl rfl ?_
          first | refine rx_iincN (i := 6) dX3_chosen_62 rfl (by decide) rfl rfl ?_ | refine rx_iinc (i := 6) dX3_chosen_62 rfl rfl (by decide) rfl rfl ?_
          refine rx_goto (tgt := 19) dX3_chosen_65 (by decide) ?_
          refine rx_drop 7 ?_
          exact ih (i + 1) (nI i, ruM M t n m i k z) _ (by omega) (by rw [show chs (chP M t n k) (fun i => ruM M t n m i k z) (i + 1) = _ from if_pos ⟨e34b, hs ▸ f51⟩]) (by simp [chV, *]) (by omega)
set_option maxRecDepth 100000 in
set_option maxHeartbeats 4000000 in
theorem c_X3_chosen {t : Nat} (ht : isTown t) {M : Mem} {n m : Nat} (w : TW M t n m) {k z : Nat} (hk : k < m) (hz : M.1 7 2 = nI z) (hz40 : z ≤ 40) (hB : BB (onL M t) n) (hby : byOK M t) : Fun yX3_chosen cX3_chosen 8 (some .int) 4 [.ref 7, .ref t, .int (nI k)] M (some (.int (chs (chP M t n k) (fun i => ruM M t n m i k z) n).1)) (chM M t n m k z) := by
  refine Fun.of (own := RX3) ([some (.ref 7), some (.ref t), some (.int (nI k)), none, none, none, none, none]) rfl (by decide +kernel) (Nat.le_of_ble_eq_true rfl) rfl ?_
  have ⟨hn, hn8, hm, hm10, hd⟩ := w
  have hge := town_ge ht
  have w2 : TW (mkL M t n) t n m := w.keep (mkL_o (by omega)) (mkL_o (by omega)) (fun _ _ => mkL_o (by omega)) (fun _ _ => mkL_o (by omega))
  have hB2 : BB ((mkL M t n).1 (t + 6)) n := fun j hj => by rw [mkL_l hj]; exact hB j hj
  have hb2 : byOK (mkL M t n) t := by unfold byOK; rw [mkL_o (by omega)]; exact hby
  refine rx_aload_n (i := 1) dX3_chosen_0 rfl rfl ?_
  refine rx_cvN (ci := 8) mo_X8_makeList lk_X3_32 (c_X8_makeList ht w) (by decide) rfl rfl (Nat.le_of_ble_eq_true rfl) (kt_0 ht) rfl dX3_chosen_1 ?_
  refine rx_aload_n (i := 1) dX3_chosen_4 rfl rfl ?_
  refine rx_iload_n (i := 2) dX3_chosen_5 rfl rfl ?_
  refine rx_cvI (ci := 8) mo_X8_payers lk_X3_37 (c_X8_payers ht w2 hk hB2 hb2) (by decide) rfl rfl (Nat.le_of_ble_eq_true rfl) (kt_0 ht) rfl dX3_chosen_6 ?_
  refine rx_istore_n (i := 3) dX3_chosen_9 rfl (by decide) rfl rfl ?_
  refine rx_iconst (-1) dX3_chosen_10 rfl ?_
  refine rx_istore (i := 4) dX3_chosen_11 (by decide) rfl rfl ?_
  refine rx_iconst (-1) dX3_chosen_13 rfl ?_
  refine rx_istore (i := 5) dX3_chosen_14 (by decide) rfl rfl ?_
  refine rx_iconst (0) dX3_chosen_16 rfl ?_
  refine rx_istore (i := 6) dX3_chosen_17 (by decide) rfl rfl ?_
  have h := l_X3_chosen ht w hk hz hz40 (b := if (mkL M t n).1 (t + 11) k = 0 then fbor (mayL (mkL M t n) t n k) n else 0) (fun i hi => by
    rw [mkL_o (by omega)]
    unfold chP
    by_cases h0 : M.1 (t + 11) k = 0
    · rw [if_pos h0, b_fbor _ n (by omega)]; simp [hi, h0]
    · rw [if_neg h0, b_0]; simp [h0]) (n + 1) 0 (-1, -1) (M.1 9) (by omega) rfl rfl (by omega)
  rw [show setA (mkL M t n) 9 (M.1 9) = mkL M t n from by rw [show M.1 9 = (mkL M t n).1 9 from by funext j; rw [mkL_o (by omega)]]; exact setA_same] at h
  exact h
set_option maxRecDepth 100000 in
set_option maxHeartbeats 4000000 in
theorem c_X3_take {M : Mem} : Fun yX3_take cX3_take 2 none 1 [.ref 7, .ref 10] M (none) (setI (setA M 8 (M.1 11)) 7 2 (M.1 10 3)) := by
  refine Fun.of (own := RX3) ([some (.ref 7), some (.ref 10)]) rfl (by decide +kernel) (Nat.le_of_ble_eq_true rfl) rfl ?_
  refine rx_aload_n (i := 1) dX3_take_0 rfl rfl ?_
  refine rx_getR 11 (k := 0) fo_X3_18 kl_10 (by decide) ti_4_0 (by decide) rfl dX3_take_1 ?_
  refine rx_iconst (0) dX3_take_4 rfl ?_
  refine rx_aload_n (i := 0) dX3_take_5 rfl rfl ?_
  refine rx_getR 8 (k := 0) fo_X3_11 kl_7 (by decide) ti_3_0 (by decide) rfl dX3_take_6 ?_
  refine rx_iconst (0) dX3_take_9 rfl ?_
  refine rx_bipush (40) dX3_take_10 rfl ?_
  refine rx_copy kl_11 kl_8 (by decide) (List.mem_of_getElem? (i := 737) (by decide +kernel)) (by decide) rfl rfl rfl (by decide) dX3_take_12 ?_
  refine rx_aload_n (i := 0) dX3_take_15 rfl rfl ?_
  refine rx_aload_n (i := 1) dX3_take_16 rfl rfl ?_
  refine rx_getI (k := 3) fo_X3_27 kl_10 (by decide) ti_4_3 dX3_take_17 ?_
  refine rx_putI (k := 2) fo_X3_31 fn_3_2 kl_7 (by decide) ty_3_2 dX3_take_20 ?_
  exact rx_fiV dX3_take_23 rfl
