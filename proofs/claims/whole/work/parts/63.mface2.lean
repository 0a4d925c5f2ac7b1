/-- nothing of the model changes but the row and what is free -/
def frQ (M N : Mem) : Prop := (∀ a j, ¬ (159 ≤ a ∧ a ≤ 172) → ¬ (a = 140 ∧ (j = 20 ∨ j = 21 ∨ (23 ≤ j ∧ j ≤ 26) ∨ j = 29 ∨ j = 30 ∨ j = 44 ∨ j = 46 ∨ (50 ≤ j ∧ j ≤ 53))) → N.1 a j = M.1 a j) ∧ ∀ a, a ≠ 155 → a ≠ 166 → N.2.1 a = M.2.1 a
theorem frQ.refl {M : Mem} : frQ M M := ⟨fun _ _ _ _ => rfl, fun _ _ _ => rfl⟩
theorem frQ.trans {M N K : Mem} (h : frQ M N) (h2 : frQ N K) : frQ M K := ⟨fun a j q r => (h2.1 a j q r).trans (h.1 a j q r), fun a q r => (h2.2 a q r).trans (h.2 a q r)⟩
theorem frS.Q {M N : Mem} (h : frS M N) : frQ M N := ⟨fun a j q r => h.1 a j (by omega), fun a _ _ => by rw [h.2]⟩
theorem frQ_I {M : Mem} {a j : Nat} {x : Int32} (h : (159 ≤ a ∧ a ≤ 172) ∨ (a = 140 ∧ (j = 20 ∨ j = 21 ∨ (23 ≤ j ∧ j ≤ 26) ∨ j = 29 ∨ j = 30 ∨ j = 44 ∨ j = 46 ∨ (50 ≤ j ∧ j ≤ 53)))) : frQ M (setI M a j x) := ⟨fun b k q r => if_neg (by omega), fun _ _ _ => rfl⟩
theorem frQ_t0 {M : Mem} : frQ M (t0 M) := frQ_I (by omega)
theorem frQ_mt {M : Mem} {s : Nat} {v : Int64} : frQ M (mt M s v) := ⟨fun a j _ r => sI_ne (by omega), fun a q _ => by funext j; show (setJ M 155 s v).2.1 a j = _; exact sJ_na q⟩
theorem frQ.mv {M N : Mem} (h : frQ M N) : mv N = mv M := by
  funext c j
  match c with
  | 0 | 1 | 2 | 3 | 4 | 6 | 7 | 8 | 9 | 10 | 11 | 12 | 13 | 14 => exact h.1 _ _ (by omega) (by omega)
  | 15 | 16 | 17 | 18 | 19 => exact h.1 _ _ (by omega) (by omega)
  | 5 => rfl
  | c + 20 => rfl
theorem frQ.MW {M N : Mem} {n m : Nat} (h : frQ M N) (w : MW M n m) : MW N n m := w.keep (h.1 _ _ (by omega) (by omega)) (h.1 _ _ (by omega) (by omega)) (fun _ _ => h.1 _ _ (by omega) (by omega)) (fun _ _ => h.1 _ _ (by omega) (by omega))
theorem frQ.MR {M N : Mem} {n m : Nat} {S : Nat → Int32} {z L : Nat} (h : frQ M N) (r : MR M n m S z L) : MR N n m S z L :=
  r.keep (h.MW r.1) (funext fun j => h.1 _ _ (by omega) (by omega)) (h.1 _ _ (by omega) (by omega)) (funext fun j => h.1 _ _ (by omega) (by omega)) (h.1 _ _ (by omega) (by omega))
/-- a row of one, of two -/
def row1 (N : Mem) (a : Int64) : Prop := N.1 140 20 = 1 ∧ N.2.1 155 0 = a
def row2 (N : Mem) (a b : Int64) : Prop := N.1 140 20 = 2 ∧ N.2.1 155 0 = a ∧ N.2.1 155 1 = b
theorem mt_row1 {M : Mem} {a : Int64} : row1 (mt M 0 a) a := by simp [row1, mt, setI, setJ]; rfl
theorem mt_row2 {M : Mem} {a b : Int64} : row2 (mt (mt M 0 a) 1 b) a b := by simp [row2, mt, setI, setJ]; rfl
theorem mt_20 {M : Mem} {s : Nat} {v : Int64} : (mt M s v).1 140 20 = nI (s + 1) := sI_eq
/-- the first of the cheapest of some (bits) -/
def bsF (T : TT) (k : Nat) (b : Int32) : Nat → Option Nat
  | 0 => none
  | i + 1 => if bt b i = true then (match bsF T k b i with
    | none => some i
    | some c => if prT T i k < prT T c k then some i else some c) else bsF T k b i
theorem bsF_lt {T : TT} {k : Nat} {b : Int32} : ∀ {i c : Nat}, bsF T k b i = some c → c < i
  | 0, c, h => by cases h
  | i + 1, c, h => by
    simp only [bsF] at h
    split at h
    · split at h
      · obtain rfl := Option.some.inj h; omega
      · next c' hc =>
        split at h
        · obtain rfl := Option.some.inj h; omega
        · obtain rfl := Option.some.inj h; have := bsF_lt hc; omega
    · have := bsF_lt h; omega
set_option maxRecDepth 100000 in
set_option maxHeartbeats 4000000 in
theorem l_X11_may_ {M : Mem} {n m : Nat} (w : MW M n m) (hk01 : ∀ i, i < n → M.1 143 i = 0 ∨ M.1 143 i = 1) (hs : sortOK (M.1 153 0)) {k : Nat} (hk : k < m) {b : Int32} : ∀ (N : Nat) (i : Nat) (bo : Option Nat), (i ≤ n) → (bo = bsF (mv M) k b i) → n - i < N → Reach cX11_may_ RX11 5 5 (RetQ cX11_may_ (some .int) (fun v N => v = some (.int b) ∧ frQ M N ∧ match bsF (mv M) k b n with | none => N.1 140 20 = 0 | some c => row2 N (prT (mv M) c k).toInt64 (nI c).toInt64)) 39 [some (.ref 140), some (.int (nI k)), some (.int b), some (.int (optI bo)), some (.int (nI i))] [] (M) := by
  intro N
  induction N with
  | zero => intro i bo hi hbo hm; exact absurd ‹_ < 0› (Nat.not_lt_zero _)
  | succ N ih =>
    intro i bo hi hbo hm
    have ⟨hn, hn8, hm, hm10, hd⟩ := w
    refine rx_iload (i := 4) dX11_may__39 rfl ?_
    refine rx_aload_n (i := 0) dX11_may__41 rfl rfl ?_
    refine rx_getI (k := 0) fo_X11_132 kl_140 (by decide) ti_11_0 dX11_may__42 ?_
    refine rx_top (nI n) (hn) ?_
    refine rx_icmp_ge (tgt := 87) dX11_may__45 (by decide) (fun c45 => ?_) (fun c45 => ?_)
    · skip
      have f45 := Int32.not_lt.mpr c45
      have e45 : i = n := by have := (nI_leI (by omega) (by omega)).mp c45; omega
      subst e45
      refine rx_aload_n (i := 0) dX11_may__87 rfl rfl ?_
      refine rx_iconst (0) dX11_may__88 rfl ?_
      refine rx_putI (k := 20) fo_X11_129 fn_11_20 kl_140 (by decide) ty_11_20 dX11_may__89 ?_
      refine rx_iload_n (i := 3) dX11_may__92 rfl rfl ?_
      refine rx_iconst (-1) dX11_may__93 rfl ?_
      rcases bo with - | c
      · skip
        refine rx_icmp_eq (tgt := 114) dX11_may__94 (by decide) (fun c94 => ?_) (fun c94 => absurd rfl c94)
        refine rx_iload_n (i := 2) dX11_may__114 rfl rfl ?_
        exact rx_iret dX11_may__115 ⟨rfl, frQ_I (by omega), by rw [← hbo]; exact sI_eq⟩
      · skip
        have hcn : c < i := bsF_lt hbo.symm
        refine rx_icmp_eq (tgt := 114) dX11_may__94 (by decide) (fun c94 => absurd (show (0 : Int32) ≤ -1 by rw [← show nI c = -1 from c94]; exact nI_pos' (by omega)) (by decide)) (fun c94 => ?_)
        refine rx_aload_n (i := 0) dX11_may__97 rfl rfl ?_
        refine rx_aload_n (i := 0) dX11_may__98 rfl rfl ?_
        refine rx_iload_n (i := 3) dX11_may__99 rfl rfl ?_
        refine rx_iload_n (i := 1) dX11_may__100 rfl rfl ?_
        refine rx_cvI (ci := 11) mo_X11_priceOf lk_X11_231 ((c_X11_priceOf (M := setI M 140 20 0) (i := c) (k := k) (by omega) (by omega) (hk01 c (by omega))).conv (v' := some (.int (prT (mv M) c k))) (by rw [mv_I (by omega)]) rfl) (by decide) rfl rfl (Nat.le_of_ble_eq_true rfl) kl_140 rfl dX11_may__101 ?_
        refine rx_i2l dX11_may__104 rfl ?_
        refine rx_cvN (ci := 11) mo_X11_tell lk_X11_294 (c_X11_tell (s := 0) (v := (prT (mv M) c k).toInt64) sI_eq (by omega)) (by decide) rfl rfl (Nat.le_of_ble_eq_true rfl) kl_140 rfl dX11_may__105 ?_
        refine rx_aload_n (i := 0) dX11_may__108 rfl rfl ?_
        refine rx_iload_n (i := 3) dX11_may__109 rfl rfl ?_
        refine rx_i2l dX11_may__110 rfl ?_
        refine rx_cvN (ci := 11) mo_X11_tell lk_X11_294 (c_X11_tell (s := 1) (v := (nI c).toInt64) mt_20 (by omega)) (by decide) rfl rfl (Nat.le_of_ble_eq_true rfl) kl_140 rfl dX11_may__111 ?_
        refine rx_iload_n (i := 2) dX11_may__114 rfl rfl ?_
        exact rx_iret dX11_may__115 ⟨rfl, (frQ_I (by omega)).trans (frQ_mt.trans frQ_mt), by rw [← hbo]; exact mt_row2⟩
    · skip
      have f45 := Int32.not_le.mp c45
      have e45 : i < n := Nat.lt_of_not_le fun q => c45 (nI_le q (by omega))
      refine rx_iload_n (i := 2) dX11_may__48 rfl rfl ?_
      refine rx_iload (i := 4) dX11_may__49 rfl ?_
      refine rx_csI mo_X11_has lk_X11_291 (c_X11_has (by omega)) (by decide) rfl rfl (Nat.le_of_ble_eq_true rfl) dX11_may__51 ?_
      refine rx_if_eq (tgt := 81) dX11_may__54 (by decide) (fun c54 => ?_) (fun c54 => ?_)
      · skip
        have e54 := zI_0.mp c54
        first | refine rx_iincN (i := 4) dX11_may__81 rfl (by decide) rfl rfl ?_ | refine rx_iinc (i := 4) dX11_may__81 rfl rfl (by decide) rfl rfl ?_
        refine rx_goto (tgt := 39) dX11_may__84 (by decide) ?_
        exact ih (i + 1) _ (by omega) (by simp only [bsF]; rw [if_neg (by rw [e54]; decide)]; exact hbo) (by omega)
      · skip
        have e54 := zI_n c54
        refine rx_iload_n (i := 3) dX11_may__57 rfl rfl ?_
        rcases bo with - | c
        · skip
          refine rx_iconst (-1) dX11_may__58 rfl ?_
          refine rx_icmp_eq (tgt := 78) dX11_may__59 (by decide) (fun c59 => ?_) (fun c59 => absurd rfl c59)
          refine rx_iload (i := 4) dX11_may__78 rfl ?_
          refine rx_istore_n (i := 3) dX11_may__80 rfl (by decide) rfl rfl ?_
          first | refine rx_iincN (i := 4) dX11_may__81 rfl (by decide) rfl rfl ?_ | refine rx_iinc (i := 4) dX11_may__81 rfl rfl (by decide) rfl rfl ?_
          refine rx_goto (tgt := 39) dX11_may__84 (by decide) ?_
          exact ih (i + 1) (some i) (by omega) (by simp only [bsF]; rw [if_pos e54, ← hbo]) (by omega)
        · skip
          have hcn : c < i := bsF_lt hbo.symm
          refine rx_iconst (-1) dX11_may__58 rfl ?_
          refine rx_icmp_eq (tgt := 78) dX11_may__59 (by decide) (fun c59 => absurd (show (0 : Int32) ≤ -1 by rw [← show nI c = -1 from c59]; exact nI_pos' (by omega)) (by decide)) (fun c59 => ?_)
          refine rx_aload_n (i := 0) dX11_may__62 rfl rfl ?_
          refine rx_iload (i := 4) dX11_may__63 rfl ?_
          refine rx_iload_n (i := 1) dX11_may__65 rfl rfl ?_
          refine rx_cvI (ci := 11) mo_X11_priceOf lk_X11_231 (c_X11_priceOf (by omega) (by omega) (hk01 i (by omega))) (by decide) rfl rfl (Nat.le_of_ble_eq_true rfl) kl_140 rfl dX11_may__66 ?_
          refine rx_aload_n (i := 0) dX11_may__69 rfl rfl ?_
          refine rx_iload_n (i := 3) dX11_may__70 rfl rfl ?_
          refine rx_iload_n (i := 1) dX11_may__71 rfl rfl ?_
          refine rx_cvI (ci := 11) mo_X11_priceOf lk_X11_231 (c_X11_priceOf (by omega) (by omega) (hk01 c (by omega))) (by decide) rfl rfl (Nat.le_of_ble_eq_true rfl) kl_140 rfl dX11_may__72 ?_
          refine rx_icmp_ge (tgt := 81) dX11_may__75 (by decide) (fun c75 => ?_) (fun c75 => ?_)
          · skip
            have e75 : ¬ prT (mv M) i k < prT (mv M) c k := Int32.not_lt.mpr c75
            first | refine rx_iincN (i := 4) dX11_may__81 rfl (by decide) rfl rfl ?_ | refine rx_iinc (i := 4) dX11_may__81 rfl rfl (by decide) rfl rfl ?_
            refine rx_goto (tgt := 39) dX11_may__84 (by decide) ?_
            exact ih (i + 1) (some c) (by omega) (by simp only [bsF]; rw [if_pos e54, ← hbo]; exact (if_neg e75).symm) (by omega)
          · skip
            have e75 : prT (mv M) i k < prT (mv M) c k := Int32.not_le.mp c75
            refine rx_iload (i := 4) dX11_may__78 rfl ?_
            refine rx_istore_n (i := 3) dX11_may__80 rfl (by decide) rfl rfl ?_
            first | refine rx_iincN (i := 4) dX11_may__81 rfl (by decide) rfl rfl ?_ | refine rx_iinc (i := 4) dX11_may__81 rfl rfl (by decide) rfl rfl ?_
            refine rx_goto (tgt := 39) dX11_may__84 (by decide) ?_
            exact ih (i + 1) (some i) (by omega) (by simp only [bsF]; rw [if_pos e54, ← hbo]; exact (if_pos e75).symm) (by omega)
set_option maxRecDepth 100000 in
set_option maxHeartbeats 4000000 in
theorem c_X11_may_ {M : Mem} {n m : Nat} (w : MW M n m) (hk01 : ∀ i, i < n → M.1 143 i = 0 ∨ M.1 143 i = 1) (hs : sortOK (M.1 153 0)) {k : Nat} (hk : k < m) : Con yX11_may_ cX11_may_ 5 (some .int) 5 [.ref 140, .int (nI k)] M (fun v N => v = some (.int (payT (mv M) n k)) ∧ frQ M N ∧ match bsF (mv M) k (payT (mv M) n k) n with | none => N.1 140 20 = 0 | some c => row2 N (prT (mv M) c k).toInt64 (nI c).toInt64) := by
  refine Con.of (own := RX11) (ls := [some (.ref 140), some (.int (nI k)), none, none, none]) rfl (by decide +kernel) (Nat.le_of_ble_eq_true rfl) rfl ?_
  have w0 := w.t0
  have ⟨hn, hn8, hm, hm10, hd⟩ := w
  refine rx_aload_n (i := 0) dX11_may__0 rfl rfl ?_
  refine rx_iconst (0) dX11_may__1 rfl ?_
  refine rx_putI (k := 21) fo_X11_126 fn_11_21 kl_140 (by decide) ty_11_21 dX11_may__2 ?_
  refine rx_aload_n (i := 0) dX11_may__5 rfl rfl ?_
  refine rx_iload_n (i := 1) dX11_may__6 rfl rfl ?_
  refine rx_cvI (ci := 11) mo_X11_isDebt lk_X11_142 (c_X11_isDebt w0.2.2.1 (by omega)) (by decide) rfl rfl (Nat.le_of_ble_eq_true rfl) kl_140 rfl dX11_may__7 ?_
  refine rx_top (1) (one_i hk (by omega)) ?_
  refine rx_if_ne (tgt := 15) dX11_may__10 (by decide) (fun c10 => ?_) (fun c10 => ?_)
  · skip
    refine rx_aload_n (i := 0) dX11_may__15 rfl rfl ?_
    refine rx_getR 151 (k := 12) fo_X11_41 kl_140 (by decide) ti_11_12 (by decide) rfl dX11_may__16 ?_
    refine rx_iload_n (i := 1) dX11_may__19 rfl rfl ?_
    refine rx_ialdN kl_151 (by omega) (by first | decide | omega) dX11_may__20 ?_
    refine rx_if_ne (tgt := 32) dX11_may__21 (by decide) (fun c21 => ?_) (fun c21 => ?_)
    · skip
      have ep : (0 : Int32) = payT (mv M) n k := (if_neg c21).symm
      refine rx_iconst (0) dX11_may__32 rfl ?_
      refine rx_top _ ep ?_
      refine rx_istore_n (i := 2) dX11_may__33 rfl (by decide) rfl rfl ?_
      refine rx_iconst (-1) dX11_may__34 rfl ?_
      refine rx_istore_n (i := 3) dX11_may__35 rfl (by decide) rfl rfl ?_
      refine rx_iconst (0) dX11_may__36 rfl ?_
      refine rx_istore (i := 4) dX11_may__37 (by decide) rfl rfl ?_
      refine (l_X11_may_ w0 (fun i hi => hk01 i hi) (show sortOK ((t0 M).1 153 0) from hs) hk (b := payT (mv M) n k) (n + 1) 0 none (Nat.zero_le _) rfl (by omega)).mono ?_
      rintro pc' ls' st' N ⟨v, h1, ⟨h2, h3, h4⟩, h5⟩
      rw [t0_mv] at h4
      exact ⟨v, h1, ⟨h2, frQ_t0.trans h3, h4⟩, h5⟩
    · skip
      have ep : fbor (mayT (mv (t0 M)) n k) n = payT (mv M) n k := by rw [t0_mv]; exact (if_pos c21).symm
      refine rx_aload_n (i := 0) dX11_may__24 rfl rfl ?_
      refine rx_iload_n (i := 1) dX11_may__25 rfl rfl ?_
      refine rx_cvI (ci := 11) mo_X11_mayPay lk_X11_288 (c_X11_mayPay w0 (show sortOK ((t0 M).1 153 0) from hs) hk) (by decide) rfl rfl (Nat.le_of_ble_eq_true rfl) kl_140 rfl dX11_may__26 ?_
      refine rx_goto (tgt := 33) dX11_may__29 (by decide) ?_
      refine rx_top _ ep ?_
      refine rx_istore_n (i := 2) dX11_may__33 rfl (by decide) rfl rfl ?_
      refine rx_iconst (-1) dX11_may__34 rfl ?_
      refine rx_istore_n (i := 3) dX11_may__35 rfl (by decide) rfl rfl ?_
      refine rx_iconst (0) dX11_may__36 rfl ?_
      refine rx_istore (i := 4) dX11_may__37 (by decide) rfl rfl ?_
      refine (l_X11_may_ w0 (fun i hi => hk01 i hi) (show sortOK ((t0 M).1 153 0) from hs) hk (b := payT (mv M) n k) (n + 1) 0 none (Nat.zero_le _) rfl (by omega)).mono ?_
      rintro pc' ls' st' N ⟨v, h1, ⟨h2, h3, h4⟩, h5⟩
      rw [t0_mv] at h4
      exact ⟨v, h1, ⟨h2, frQ_t0.trans h3, h4⟩, h5⟩
  · skip
    exact absurd c10 (by decide)
    skip
set_option maxRecDepth 100000 in
set_option maxHeartbeats 4000000 in
theorem c_X11_may__no {M : Mem} {n m : Nat} (w : MW M n m) {y : Int32} (hx : ¬ (0 ≤ y ∧ y < nI m)) : Fun yX11_may_ cX11_may_ 5 (some .int) 5 [.ref 140, .int y] M (some (.int (-1))) (t0 M) := by
  refine Fun.of (own := RX11) ([some (.ref 140), some (.int y), none, none, none]) rfl (by decide +kernel) (Nat.le_of_ble_eq_true rfl) rfl ?_
  have w0 := w.t0
  have ⟨hn, hn8, hm, hm10, hd⟩ := w
  refine rx_aload_n (i := 0) dX11_may__0 rfl rfl ?_
  refine rx_iconst (0) dX11_may__1 rfl ?_
  refine rx_putI (k := 21) fo_X11_126 fn_11_21 kl_140 (by decide) ty_11_21 dX11_may__2 ?_
  refine rx_aload_n (i := 0) dX11_may__5 rfl rfl ?_
  refine rx_iload_n (i := 1) dX11_may__6 rfl rfl ?_
  refine rx_cvI (ci := 11) mo_X11_isDebt lk_X11_142 (c_X11_isDebt w0.2.2.1 (by omega)) (by decide) rfl rfl (Nat.le_of_ble_eq_true rfl) kl_140 rfl dX11_may__7 ?_
  refine rx_if_ne (tgt := 15) dX11_may__10 (by decide) (fun c10 => ?_) (fun c10 => ?_)
  · skip
    exact absurd (ite1n c10) hx
    skip
  · skip
    refine rx_iconst (-1) dX11_may__13 rfl ?_
    exact rx_fiI dX11_may__14 rfl rfl
set_option maxRecDepth 100000 in
set_option maxHeartbeats 4000000 in
theorem c_X11_willing {M : Mem} {n m : Nat} {S : Nat → Int32} {z L : Nat} (r : MR M n m S z L) {k : Nat} (hk : k < m) : Con yX11_willing cX11_willing 3 (some .int) 174 [.ref 140, .int (nI k)] M (fun v N => frQ M N ∧ ((0 ≤ (wilT S z (mv M) n m k).1 ∧ v = some (.int (wilT S z (mv M) n m k).1) ∧ row1 N (wilT S z (mv M) n m k).2.toInt64) ∨ (¬ 0 ≤ (wilT S z (mv M) n m k).1 ∧ v = some (.int (-2)) ∧ N.1 140 20 = M.1 140 20 ∧ N.2.1 = M.2.1))) := by
  refine Con.of (own := RX11) (ls := [some (.ref 140), some (.int (nI k)), none]) rfl (by decide +kernel) (Nat.le_of_ble_eq_true rfl) rfl ?_
  have r0 := frQ_t0.MR r
  have ⟨⟨hn, hn8, hm, hm10, hd⟩, hk01, hs, hR, hL⟩ := r
  refine rx_aload_n (i := 0) dX11_willing_0 rfl rfl ?_
  refine rx_iconst (0) dX11_willing_1 rfl ?_
  refine rx_putI (k := 21) fo_X11_126 fn_11_21 kl_140 (by decide) ty_11_21 dX11_willing_2 ?_
  refine rx_aload_n (i := 0) dX11_willing_5 rfl rfl ?_
  refine rx_iload_n (i := 1) dX11_willing_6 rfl rfl ?_
  refine rx_cvI (ci := 11) mo_X11_isDebt lk_X11_142 (c_X11_isDebt r0.1.2.2.1 (by omega)) (by decide) rfl rfl (Nat.le_of_ble_eq_true rfl) kl_140 rfl dX11_willing_7 ?_
  refine rx_top (1) (one_i hk (by omega)) ?_
  refine rx_if_ne (tgt := 15) dX11_willing_10 (by decide) (fun c10 => ?_) (fun c10 => ?_)
  · skip
    refine rx_aload_n (i := 0) dX11_willing_15 rfl rfl ?_
    refine rx_iload_n (i := 1) dX11_willing_16 rfl rfl ?_
    refine rx_callV (ci := 11) mo_X11_willingTo lk_X11_301 (c_X11_willingTo r0 hk) (by decide) rfl rfl (Nat.le_of_ble_eq_true rfl) kl_140 rfl dX11_willing_17 ?_
    rintro _ N ⟨rfl, hF⟩
    rw [t0_mv]
    obtain ⟨x, hx⟩ : ∃ x, (wilT S z (mv M) n m k).1 = x := ⟨_, rfl⟩
    rw [hx]
    have rN := hF.MR r0
    refine rx_istore_n (i := 2) dX11_willing_20 rfl (by decide) rfl rfl ?_
    refine rx_iload_n (i := 2) dX11_willing_21 rfl rfl ?_
    refine rx_if_ge (tgt := 28) dX11_willing_22 (by decide) (fun c22 => ?_) (fun c22 => ?_)
    · skip
      have e22 : 0 ≤ x := Decidable.byContradiction fun q => by rw [wlI, if_neg q] at c22; exact absurd c22 (by decide)
      obtain ⟨i, hi, hp, hw1, hw2⟩ := chs_in (p := fun i => decide (mv M 10 k = 0) && mayT (mv M) n k i) (v := fun i => ruT S z (mv M) n m i k) (n := n) (by omega) (show 0 ≤ (wilT S z (mv M) n m k).1 by rw [hx]; exact e22)
      have hxi : wlI x = nI i := by rw [wlI, if_pos e22, ← hx]; exact hw1
      rw [hxi]
      replace hw1 : (wilT S z (mv M) n m k).1 = nI i := hw1
      replace hw2 : (wilT S z (mv M) n m k).2 = ruT S z (mv M) n m i k := hw2
      refine rx_aload_n (i := 0) dX11_willing_28 rfl rfl ?_
      refine rx_iconst (0) dX11_willing_29 rfl ?_
      refine rx_putI (k := 20) fo_X11_129 fn_11_20 kl_140 (by decide) ty_11_20 dX11_willing_30 ?_
      have rB := (frQ_I (M := N) (a := 140) (j := 20) (x := 0) (by omega)).MR rN
      refine rx_aload_n (i := 0) dX11_willing_33 rfl rfl ?_
      refine rx_aload_n (i := 0) dX11_willing_34 rfl rfl ?_
      refine rx_iload_n (i := 2) dX11_willing_35 rfl rfl ?_
      refine rx_iload_n (i := 1) dX11_willing_36 rfl rfl ?_
      refine rx_callV (ci := 11) mo_X11_ruleFor lk_X11_298 (c_X11_ruleFor (i := i) rB.1 rB.2.1 rB.2.2.2.1 rB.2.2.2.2 hi hk) (by decide) rfl rfl (Nat.le_of_ble_eq_true rfl) kl_140 rfl dX11_willing_37 ?_
      rintro _ N2 ⟨rfl, hF2⟩
      refine rx_i2l dX11_willing_40 rfl ?_
      refine rx_cvN (ci := 11) mo_X11_tell lk_X11_294 (c_X11_tell (s := 0) (by rw [hF2.1 _ _ (by omega)]; exact sI_eq) (by omega)) (by decide) rfl rfl (Nat.le_of_ble_eq_true rfl) kl_140 rfl dX11_willing_41 ?_
      refine rx_iload_n (i := 2) dX11_willing_44 rfl rfl ?_
      exact rx_iret dX11_willing_45 ⟨frQ_t0.trans (hF.Q.trans ((frQ_I (by omega)).trans (hF2.Q.trans frQ_mt))), Or.inl ⟨e22, by rw [← hx, hw1], by rw [hw2]; have em : mv (setI N 140 20 0) = mv M := (by rw [mv_I (by omega), hF.mv, t0_mv]); rw [em]; exact mt_row1⟩⟩
    · skip
      have e22 : ¬ 0 ≤ x := fun q => by rw [wlI, if_pos q] at c22; exact absurd q (Int32.not_le.mpr (Int32.not_le.mp c22))
      refine rx_bipush (-2) dX11_willing_25 rfl ?_
      exact rx_iret dX11_willing_27 ⟨frQ_t0.trans hF.Q, Or.inr ⟨e22, rfl, (hF.1 _ _ (by omega)).trans (t0_o (by omega)), hF.2⟩⟩
  · skip
    exact absurd c10 (by decide)
    skip
set_option maxRecDepth 100000 in
set_option maxHeartbeats 4000000 in
theorem c_X11_willing_no {M : Mem} {n m : Nat} (w : MW M n m) {y : Int32} (hx : ¬ (0 ≤ y ∧ y < nI m)) : Fun yX11_willing cX11_willing 3 (some .int) 174 [.ref 140, .int y] M (some (.int (-1))) (t0 M) := by
  refine Fun.of (own := RX11) ([some (.ref 140), some (.int y), none]) rfl (by decide +kernel) (Nat.le_of_ble_eq_true rfl) rfl ?_
  have w0 := w.t0
  have ⟨hn, hn8, hm, hm10, hd⟩ := w
  refine rx_aload_n (i := 0) dX11_willing_0 rfl rfl ?_
  refine rx_iconst (0) dX11_willing_1 rfl ?_
  refine rx_putI (k := 21) fo_X11_126 fn_11_21 kl_140 (by decide) ty_11_21 dX11_willing_2 ?_
  refine rx_aload_n (i := 0) dX11_willing_5 rfl rfl ?_
  refine rx_iload_n (i := 1) dX11_willing_6 rfl rfl ?_
  refine rx_cvI (ci := 11) mo_X11_isDebt lk_X11_142 (c_X11_isDebt w0.2.2.1 (by omega)) (by decide) rfl rfl (Nat.le_of_ble_eq_true rfl) kl_140 rfl dX11_willing_7 ?_
  refine rx_if_ne (tgt := 15) dX11_willing_10 (by decide) (fun c10 => ?_) (fun c10 => ?_)
  · skip
    exact absurd (ite1n c10) hx
    skip
  · skip
    refine rx_iconst (-1) dX11_willing_13 rfl ?_
    exact rx_fiI dX11_willing_14 rfl rfl
set_option maxRecDepth 100000 in
set_option maxHeartbeats 4000000 in
theorem c_X11_pay {M : Mem} {n m : Nat} (w : MW M n m) (hk01 : ∀ i, i < n → M.1 143 i = 0 ∨ M.1 143 i = 1) (hs : sortOK (M.1 153 0)) {i k o g u : Nat} (hi : i < n) (hk : k < m) (ho : o < n) (hg : g < n) (eo : M.1 147 k = nI o) (eg : M.1 148 k = nI g) (eu : M.1 140 32 = nI u) (hu : u < 10) (h10 : M.1 151 k = 0) (hmay : mayT (mv M) n k i = true) : Fun yX11_pay cX11_pay 3 (some .int) 4 [.ref 140, .int (nI i), .int (nI k)] M (some (.int (prT (mv M) i k))) (mM (setI (setI (t0 M) 157 u (nI k)) 140 32 (nI (u + 1))) o g i k) := by
  refine Fun.of (own := RX11) ([some (.ref 140), some (.int (nI i)), some (.int (nI k))]) rfl (by decide +kernel) (Nat.le_of_ble_eq_true rfl) rfl ?_
  have w0 := w.t0
  have ⟨hn, hn8, hm, hm10, hd⟩ := w
  refine rx_aload_n (i := 0) dX11_pay_0 rfl rfl ?_
  refine rx_iconst (0) dX11_pay_1 rfl ?_
  refine rx_putI (k := 21) fo_X11_126 fn_11_21 kl_140 (by decide) ty_11_21 dX11_pay_2 ?_
  refine rx_aload_n (i := 0) dX11_pay_5 rfl rfl ?_
  refine rx_iload_n (i := 1) dX11_pay_6 rfl rfl ?_
  refine rx_cvI (ci := 11) mo_X11_isOne lk_X11_244 (c_X11_isOne w0.1 (by omega)) (by decide) rfl rfl (Nat.le_of_ble_eq_true rfl) kl_140 rfl dX11_pay_7 ?_
  refine rx_top (1) (one_i hi (by omega)) ?_
  refine rx_if_eq (tgt := 21) dX11_pay_10 (by decide) (fun c10 => absurd c10 (by decide)) (fun c10 => ?_)
  refine rx_aload_n (i := 0) dX11_pay_13 rfl rfl ?_
  refine rx_iload_n (i := 2) dX11_pay_14 rfl rfl ?_
  refine rx_cvI (ci := 11) mo_X11_isDebt lk_X11_142 (c_X11_isDebt w0.2.2.1 (by omega)) (by decide) rfl rfl (Nat.le_of_ble_eq_true rfl) kl_140 rfl dX11_pay_15 ?_
  refine rx_top (1) (one_i hk (by omega)) ?_
  refine rx_if_ne (tgt := 23) dX11_pay_18 (by decide) (fun c18 => ?_) (fun c18 => absurd c18 (by decide))
  refine rx_aload_n (i := 0) dX11_pay_23 rfl rfl ?_
  refine rx_getR 151 (k := 12) fo_X11_41 kl_140 (by decide) ti_11_12 (by decide) rfl dX11_pay_24 ?_
  refine rx_iload_n (i := 2) dX11_pay_27 rfl rfl ?_
  refine rx_ialdN kl_151 (by omega) (by first | decide | omega) dX11_pay_28 ?_
  refine rx_if_ne (tgt := 41) dX11_pay_29 (by decide) (fun c29 => ?_) (fun c29 => ?_)
  · skip
    exact absurd h10 c29
    skip
  · skip
    refine rx_aload_n (i := 0) dX11_pay_32 rfl rfl ?_
    refine rx_iload_n (i := 1) dX11_pay_33 rfl rfl ?_
    refine rx_iload_n (i := 2) dX11_pay_34 rfl rfl ?_
    refine rx_cvI (ci := 11) mo_X11_may lk_X11_285 (c_X11_may w0 (show sortOK ((t0 M).1 153 0) from hs) hi hk) (by decide) rfl rfl (Nat.le_of_ble_eq_true rfl) kl_140 rfl dX11_pay_35 ?_
    refine rx_top (1) (by rw [t0_mv, hmay]; rfl) ?_
    refine rx_if_ne (tgt := 44) dX11_pay_38 (by decide) (fun c38 => ?_) (fun c38 => absurd c38 (by decide))
    refine rx_aload_n (i := 0) dX11_pay_44 rfl rfl ?_
    refine rx_getR 157 (k := 31) fo_X11_68 kl_140 (by decide) ti_11_31 (by decide) rfl dX11_pay_45 ?_
    refine rx_aload_n (i := 0) dX11_pay_48 rfl rfl ?_
    refine rx_getI (k := 32) fo_X11_198 kl_140 (by decide) ti_11_32 dX11_pay_49 ?_
    refine rx_top (nI u) ((t0_o (by omega)).trans eu) ?_
    refine rx_iload_n (i := 2) dX11_pay_52 rfl rfl ?_
    refine rx_iastN kl_157 (by omega) (by first | decide | omega) dX11_pay_53 ?_
    refine rx_aload_n (i := 0) dX11_pay_54 rfl rfl ?_
    refine rx_dup dX11_pay_55 rfl ?_
    refine rx_getI (k := 32) fo_X11_198 kl_140 (by decide) ti_11_32 dX11_pay_56 ?_
    refine rx_top (nI u) ((sI_na (by omega)).trans ((t0_o (by omega)).trans eu)) ?_
    refine rx_iconst (1) dX11_pay_59 rfl ?_
    refine rx_iadd dX11_pay_60 ?_
    rw [nI_1]
    refine rx_putI (k := 32) fo_X11_198 fn_11_32 kl_140 (by decide) ty_11_32 dX11_pay_61 ?_
    refine rx_aload_n (i := 0) dX11_pay_64 rfl rfl ?_
    refine rx_iload_n (i := 1) dX11_pay_65 rfl rfl ?_
    refine rx_iload_n (i := 2) dX11_pay_66 rfl rfl ?_
    refine rx_cvI (ci := 11) mo_X11_make lk_X11_304 ((c_X11_make (M := setI (setI (t0 M) 157 u (nI k)) 140 32 (nI (u + 1))) (i := i) (k := k) (o := o) (g := g) (by omega) (by omega) (hk01 i hi) (by omega) (by omega) eo eg).conv (v' := some (.int (prT (mv M) i k))) (by rw [mv_I (by omega)]; rfl) rfl) (by decide) rfl rfl (Nat.le_of_ble_eq_true rfl) kl_140 rfl dX11_pay_67 ?_
    exact rx_fiI dX11_pay_70 rfl rfl
set_option maxRecDepth 100000 in
set_option maxHeartbeats 4000000 in
theorem c_X11_pay_2 {M : Mem} {n m : Nat} (w : MW M n m) (hk01 : ∀ i, i < n → M.1 143 i = 0 ∨ M.1 143 i = 1) (hs : sortOK (M.1 153 0)) {i k : Nat} (hi : i < n) (hk : k < m) (h : ¬ (M.1 151 k = 0 ∧ mayT (mv M) n k i = true)) : Fun yX11_pay cX11_pay 3 (some .int) 4 [.ref 140, .int (nI i), .int (nI k)] M (some (.int (-2))) (t0 M) := by
  refine Fun.of (own := RX11) ([some (.ref 140), some (.int (nI i)), some (.int (nI k))]) rfl (by decide +kernel) (Nat.le_of_ble_eq_true rfl) rfl ?_
  have w0 := w.t0
  have ⟨hn, hn8, hm, hm10, hd⟩ := w
  refine rx_aload_n (i := 0) dX11_pay_0 rfl rfl ?_
  refine rx_iconst (0) dX11_pay_1 rfl ?_
  refine rx_putI (k := 21) fo_X11_126 fn_11_21 kl_140 (by decide) ty_11_21 dX11_pay_2 ?_
  refine rx_aload_n (i := 0) dX11_pay_5 rfl rfl ?_
  refine rx_iload_n (i := 1) dX11_pay_6 rfl rfl ?_
  refine rx_cvI (ci := 11) mo_X11_isOne lk_X11_244 (c_X11_isOne w0.1 (by omega)) (by decide) rfl rfl (Nat.le_of_ble_eq_true rfl) kl_140 rfl dX11_pay_7 ?_
  refine rx_top (1) (one_i hi (by omega)) ?_
  refine rx_if_eq (tgt := 21) dX11_pay_10 (by decide) (fun c10 => absurd c10 (by decide)) (fun c10 => ?_)
  refine rx_aload_n (i := 0) dX11_pay_13 rfl rfl ?_
  refine rx_iload_n (i := 2) dX11_pay_14 rfl rfl ?_
  refine rx_cvI (ci := 11) mo_X11_isDebt lk_X11_142 (c_X11_isDebt w0.2.2.1 (by omega)) (by decide) rfl rfl (Nat.le_of_ble_eq_true rfl) kl_140 rfl dX11_pay_15 ?_
  refine rx_top (1) (one_i hk (by omega)) ?_
  refine rx_if_ne (tgt := 23) dX11_pay_18 (by decide) (fun c18 => ?_) (fun c18 => absurd c18 (by decide))
  refine rx_aload_n (i := 0) dX11_pay_23 rfl rfl ?_
  refine rx_getR 151 (k := 12) fo_X11_41 kl_140 (by decide) ti_11_12 (by decide) rfl dX11_pay_24 ?_
  refine rx_iload_n (i := 2) dX11_pay_27 rfl rfl ?_
  refine rx_ialdN kl_151 (by omega) (by first | decide | omega) dX11_pay_28 ?_
  refine rx_if_ne (tgt := 41) dX11_pay_29 (by decide) (fun c29 => ?_) (fun c29 => ?_)
  · skip
    refine rx_bipush (-2) dX11_pay_41 rfl ?_
    exact rx_fiI dX11_pay_43 rfl rfl
  · skip
    refine rx_aload_n (i := 0) dX11_pay_32 rfl rfl ?_
    refine rx_iload_n (i := 1) dX11_pay_33 rfl rfl ?_
    refine rx_iload_n (i := 2) dX11_pay_34 rfl rfl ?_
    refine rx_cvI (ci := 11) mo_X11_may lk_X11_285 (c_X11_may w0 (show sortOK ((t0 M).1 153 0) from hs) hi hk) (by decide) rfl rfl (Nat.le_of_ble_eq_true rfl) kl_140 rfl dX11_pay_35 ?_
    refine rx_if_ne (tgt := 44) dX11_pay_38 (by decide) (fun c38 => ?_) (fun c38 => ?_)
    · skip
      have e38 := zI_n c38
      rw [t0_mv] at e38
      exact absurd ⟨c29, e38⟩ h
      skip
    · skip
      refine rx_bipush (-2) dX11_pay_41 rfl ?_
      exact rx_fiI dX11_pay_43 rfl rfl
set_option maxRecDepth 100000 in
set_option maxHeartbeats 4000000 in
theorem c_X11_pay_no {M : Mem} {n m : Nat} (w : MW M n m) {y x : Int32} (hx : ¬ ((0 ≤ y ∧ y < nI n) ∧ 0 ≤ x ∧ x < nI m)) : Fun yX11_pay cX11_pay 3 (some .int) 4 [.ref 140, .int y, .int x] M (some (.int (-1))) (t0 M) := by
  refine Fun.of (own := RX11) ([some (.ref 140), some (.int y), some (.int x)]) rfl (by decide +kernel) (Nat.le_of_ble_eq_true rfl) rfl ?_
  have w0 := w.t0
  have ⟨hn, hn8, hm, hm10, hd⟩ := w
  refine rx_aload_n (i := 0) dX11_pay_0 rfl rfl ?_
  refine rx_iconst (0) dX11_pay_1 rfl ?_
  refine rx_putI (k := 21) fo_X11_126 fn_11_21 kl_140 (by decide) ty_11_21 dX11_pay_2 ?_
  refine rx_aload_n (i := 0) dX11_pay_5 rfl rfl ?_
  refine rx_iload_n (i := 1) dX11_pay_6 rfl rfl ?_
  refine rx_cvI (ci := 11) mo_X11_isOne lk_X11_244 (c_X11_isOne w0.1 (by omega)) (by decide) rfl rfl (Nat.le_of_ble_eq_true rfl) kl_140 rfl dX11_pay_7 ?_
  refine rx_if_eq (tgt := 21) dX11_pay_10 (by decide) (fun c10 => ?_) (fun c10 => ?_)
  · skip
    refine rx_iconst (-1) dX11_pay_21 rfl ?_
    exact rx_fiI dX11_pay_22 rfl rfl
  · skip
    have e10 := ite1n c10
    refine rx_aload_n (i := 0) dX11_pay_13 rfl rfl ?_
    refine rx_iload_n (i := 2) dX11_pay_14 rfl rfl ?_
    refine rx_cvI (ci := 11) mo_X11_isDebt lk_X11_142 (c_X11_isDebt w0.2.2.1 (by omega)) (by decide) rfl rfl (Nat.le_of_ble_eq_true rfl) kl_140 rfl dX11_pay_15 ?_
    refine rx_if_ne (tgt := 23) dX11_pay_18 (by decide) (fun c18 => ?_) (fun c18 => ?_)
    · skip
      exact absurd ⟨e10, ite1n c18⟩ hx
      skip
    · skip
      refine rx_iconst (-1) dX11_pay_21 rfl ?_
      exact rx_fiI dX11_pay_22 rfl rfl
set_option maxRecDepth 100000 in
set_option maxHeartbeats 4000000 in
theorem c_X11_undo {M : Mem} {n m : Nat} (w : MW M n m) (hk01 : ∀ i, i < n → M.1 143 i = 0 ∨ M.1 143 i = 1) (hs : sortOK (M.1 153 0)) {i k o g u : Nat} (hi : i < n) (hk : k < m) (ho : o < n) (hg : g < n) (eo : M.1 147 k = nI o) (eg : M.1 148 k = nI g) (eu : M.1 140 32 = nI (u + 1)) (hu : u < 10) (euk : M.1 157 u = nI k) (ep : M.1 152 k = nI i) : Fun yX11_undo cX11_undo 1 (some .int) 2 [.ref 140] M (some (.int (nI u))) (uM (setI (t0 M) 140 32 (nI u)) o g i k) := by
  refine Fun.of (own := RX11) ([some (.ref 140)]) rfl (by decide +kernel) (Nat.le_of_ble_eq_true rfl) rfl ?_
  have w0 := w.t0
  have ⟨hn, hn8, hm, hm10, hd⟩ := w
  refine rx_aload_n (i := 0) dX11_undo_0 rfl rfl ?_
  refine rx_iconst (0) dX11_undo_1 rfl ?_
  refine rx_putI (k := 21) fo_X11_126 fn_11_21 kl_140 (by decide) ty_11_21 dX11_undo_2 ?_
  refine rx_aload_n (i := 0) dX11_undo_5 rfl rfl ?_
  refine rx_getI (k := 32) fo_X11_198 kl_140 (by decide) ti_11_32 dX11_undo_6 ?_
  refine rx_top (nI (u + 1)) ((t0_o (by omega)).trans eu) ?_
  refine rx_if_ne (tgt := 14) dX11_undo_9 (by decide) (fun c9 => ?_) (fun c9 => ?_)
  · skip
    refine rx_aload_n (i := 0) dX11_undo_14 rfl rfl ?_
    refine rx_dup dX11_undo_15 rfl ?_
    refine rx_getI (k := 32) fo_X11_198 kl_140 (by decide) ti_11_32 dX11_undo_16 ?_
    refine rx_top (nI (u + 1)) ((t0_o (by omega)).trans eu) ?_
    refine rx_iconst (1) dX11_undo_19 rfl ?_
    refine rx_isub dX11_undo_20 ?_
    refine rx_top (nI u) (by rw [show (1 : Int32) = nI 1 from rfl, pk_sub (by omega), Nat.add_sub_cancel]) ?_
    refine rx_putI (k := 32) fo_X11_198 fn_11_32 kl_140 (by decide) ty_11_32 dX11_undo_21 ?_
    refine rx_aload_n (i := 0) dX11_undo_24 rfl rfl ?_
    refine rx_aload_n (i := 0) dX11_undo_25 rfl rfl ?_
    refine rx_getR 157 (k := 31) fo_X11_68 kl_140 (by decide) ti_11_31 (by decide) rfl dX11_undo_26 ?_
    refine rx_aload_n (i := 0) dX11_undo_29 rfl rfl ?_
    refine rx_getI (k := 32) fo_X11_198 kl_140 (by decide) ti_11_32 dX11_undo_30 ?_
    refine rx_top (nI u) (sI_eq) ?_
    refine rx_ialdN kl_157 (by omega) (by first | decide | omega) dX11_undo_33 ?_
    refine rx_top (nI k) ((sI_na (by omega)).trans ((t0_o (by omega)).trans euk)) ?_
    refine rx_cvN (ci := 11) mo_X11_unmake lk_X11_307 (c_X11_unmake (M := setI (t0 M) 140 32 (nI u)) (i := i) (k := k) (o := o) (g := g) (by omega) (by omega) (hk01 i hi) (by omega) (by omega) eo eg ep) (by decide) rfl rfl (Nat.le_of_ble_eq_true rfl) kl_140 rfl dX11_undo_34 ?_
    refine rx_aload_n (i := 0) dX11_undo_37 rfl rfl ?_
    refine rx_getI (k := 32) fo_X11_198 kl_140 (by decide) ti_11_32 dX11_undo_38 ?_
    refine rx_top (nI u) (((sI_na (by omega)).trans ((sI_na (by omega)).trans ((sI_na (by omega)).trans ((sI_na (by omega)).trans (sI_na (by omega)))))).trans sI_eq) ?_
    exact rx_fiI dX11_undo_41 rfl rfl
  · skip
    exact absurd c9 (nI_ne0 (by omega) (by omega))
    skip
set_option maxRecDepth 100000 in
set_option maxHeartbeats 4000000 in
theorem c_X11_undo_no {M : Mem} (eu : M.1 140 32 = 0) : Fun yX11_undo cX11_undo 1 (some .int) 2 [.ref 140] M (some (.int (-1))) (t0 M) := by
  refine Fun.of (own := RX11) ([some (.ref 140)]) rfl (by decide +kernel) (Nat.le_of_ble_eq_true rfl) rfl ?_
  refine rx_aload_n (i := 0) dX11_undo_0 rfl rfl ?_
  refine rx_iconst (0) dX11_undo_1 rfl ?_
  refine rx_putI (k := 21) fo_X11_126 fn_11_21 kl_140 (by decide) ty_11_21 dX11_undo_2 ?_
  refine rx_aload_n (i := 0) dX11_undo_5 rfl rfl ?_
  refine rx_getI (k := 32) fo_X11_198 kl_140 (by decide) ti_11_32 dX11_undo_6 ?_
  refine rx_if_ne (tgt := 14) dX11_undo_9 (by decide) (fun c9 => ?_) (fun c9 => ?_)
  · skip
    exact absurd eu c9
    skip
  · skip
    refine rx_iconst (-1) dX11_undo_12 rfl ?_
    exact rx_fiI dX11_undo_13 rfl rfl
