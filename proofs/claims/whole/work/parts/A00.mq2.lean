/-- some can pay k in s; what is paid wherever some can -/
def adP (T : TT) (n : Nat) (these : Int32) (S : SS) (k s : Nat) : Bool := anyB (lq T n these S s k) 8
def adF (T : TT) (n : Nat) (these : Int32) (S : SS) (k : Nat) : Nat → Int32
  | 0 => -1
  | s + 1 => if adP T n these S k s = true then adF T n these S k s &&& S.mk s else adF T n these S k s
theorem and_aa (x y : Int32) : x &&& y &&& y = x &&& y := by
  apply b_ext
  intro i hi
  simp only [b_and]
  cases bt x i <;> cases bt y i <;> rfl
theorem ix88 (s k i : Nat) : 80 * nI s + 8 * nI k + nI i = nI (80 * s + (8 * k + i)) := by
  rw [show (80 : Int32) = nI 80 from rfl, show (8 : Int32) = nI 8 from rfl, pk_mul, pk_mul, nI_add, nI_add, Nat.add_assoc]
theorem FS.ld {N : Mem} {T : TT} {n m : Nat} {these : Int32} {S : SS} {D : Nat → Nat × Nat × Nat} {rk W : Nat → Nat} (h : FS N T n m these S D rk W) {s k i : Nat} (hs : s < S.N) (hk : k < 10) (hi : i < 8) : (lq T n these S s k i = false → N.1 161 (80 * s + (8 * k + i)) = -1) ∧ (lq T n these S s k i = true → ∃ u, eg T n these S s k i u ∧ u < S.N ∧ N.1 161 (80 * s + (8 * k + i)) = nI u) := by
  have := h.2.2.2.2.2.2 s hs (8 * k + i) (by omega)
  unfold lsW at this
  rw [show (8 * k + i) / 8 = k by omega, show (8 * k + i) % 8 = i by omega] at this
  exact this
set_option maxRecDepth 100000 in
set_option maxHeartbeats 4000000 in
theorem l_aheadIn {M : Mem} {n m k : Nat} {T : TT} {th x : Int32} {S : SS} {D : Nat → Nat × Nat × Nat} {rk W : Nat → Nat} (hn8 : n ≤ 8) (hm10 : m ≤ 10) (hk : k < m) (ht : thOK T m th) (hF : FS M T n m th S D rk W) (h46 : M.1 140 46 = th) {s : Nat} (hs : s < S.N) {QQ : Nat → List (Option Value) → List Value → Mem → Prop} (K : Reach cX11_ahead RX11 7 5 QQ 115 [some (.ref 140), some (.int (nI k)), some (.int x), some (.int (adF T n th S k (s + 1))), some (.int (zI (anyB (adP T n th S k) (s + 1)))), some (.int (nI s)), none] [] M) : ∀ (N : Nat) (i : Nat) (al : Int32) (an : Int32), (i ≤ 8) → (al = if anyB (lq T n th S s k) i = true then adF T n th S k s &&& S.mk s else adF T n th S k s) → (an = zI (anyB (adP T n th S k) s || anyB (lq T n th S s k) i)) → 8 - i < N → Reach cX11_ahead RX11 7 5 (QQ) 53 [some (.ref 140), some (.int (nI k)), some (.int x), some (.int al), some (.int an), some (.int (nI s)), some (.int (nI i))] [] (M) := by
  intro N
  induction N with
  | zero => intro i al an hi hal han hm; exact absurd ‹_ < 0› (Nat.not_lt_zero _)
  | succ N ih =>
    intro i al an hi hal han hm
    have hN3 := (repM_N hF.2.1).2
    refine rx_iload (i := 6) dX11_ahead_53 rfl ?_
    refine rx_bipush (8) dX11_ahead_55 rfl ?_
    refine rx_icmp_ge (tgt := 115) dX11_ahead_57 (by decide) (fun c57 => ?_) (fun c57 => ?_)
    · skip
      have f57 := Int32.not_lt.mpr c57
      have e57 : i = 8 := by have := (nI_leI (a := 8) (by omega) (by omega)).mp c57; omega
      subst e57
      have h1 : adF T n th S k (s + 1) = al := by
        rw [hal]; simp only [adF]
        rw [show adP T n th S k s = anyB (lq T n th S s k) 8 from rfl]
      have h2 : zI (anyB (adP T n th S k) (s + 1)) = an := by
        rw [han]
        show zI (anyB (adP T n th S k) s || adP T n th S k s) = _
        rw [show adP T n th S k s = anyB (lq T n th S s k) 8 from rfl]
      rw [h1, h2] at K
      refine rx_drop 6 ?_
      exact K
      skip
    · skip
      have f57 := Int32.not_le.mp c57
      have e57 : i < 8 := Nat.lt_of_not_le fun z => c57 (nI_le (a := 8) z (by omega))
      have hld := hF.ld hs (show k < 10 by omega) e57
      refine rx_aload_n (i := 0) dX11_ahead_60 rfl rfl ?_
      refine rx_getI (k := 46) fo_X11_331 kl_140 (by decide) ti_11_46 dX11_ahead_61 ?_
      refine rx_top (th) (h46) ?_
      refine rx_iload_n (i := 1) dX11_ahead_64 rfl rfl ?_
      refine rx_csI mo_X11_has lk_X11_291 (c_X11_has (by omega)) (by decide) rfl rfl (Nat.le_of_ble_eq_true rfl) dX11_ahead_65 ?_
      refine rx_if_eq (tgt := 115) dX11_ahead_68 (by decide) (fun c68 => ?_) (fun c68 => ?_)
      · skip
        have e68 : bt th k = false := zI_0.mp c68
        have hno : ∀ j, lq T n th S s k j = false := fun j => Bool.eq_false_iff.mpr fun z => by have := ((lq_iff ht hn8).mp z).1.1; rw [e68] at this; cases this
        have hany : ∀ e, anyB (lq T n th S s k) e = false := fun e => by
          induction e with
          | zero => rfl
          | succ e ih2 => exact anyB_f ih2 (hno e)
        have h1 : adF T n th S k (s + 1) = al := by
          rw [hal]; simp only [adF]
          rw [show adP T n th S k s = anyB (lq T n th S s k) i from by rw [hany]; exact hany 8]
        have h2 : zI (anyB (adP T n th S k) (s + 1)) = an := by
          rw [han]
          show zI (anyB (adP T n th S k) s || adP T n th S k s) = _
          rw [show adP T n th S k s = anyB (lq T n th S s k) i from by rw [hany]; exact hany 8]
        rw [h1, h2] at K
        refine rx_drop 6 ?_
        exact K
        skip
      · skip
        have e68 : bt th k = true := zI_n c68
        refine rx_aload_n (i := 0) dX11_ahead_71 rfl rfl ?_
        refine rx_getR 161 (k := 37) fo_X11_81 kl_140 (by decide) ti_11_37 (by decide) rfl dX11_ahead_72 ?_
        refine rx_bipush (80) dX11_ahead_75 rfl ?_
        refine rx_iload (i := 5) dX11_ahead_77 rfl ?_
        refine rx_imul dX11_ahead_79 ?_
        refine rx_bipush (8) dX11_ahead_80 rfl ?_
        refine rx_iload_n (i := 1) dX11_ahead_82 rfl rfl ?_
        refine rx_imul dX11_ahead_83 ?_
        refine rx_iadd dX11_ahead_84 ?_
        refine rx_iload (i := 6) dX11_ahead_85 rfl ?_
        refine rx_iadd dX11_ahead_87 ?_
        refine rx_top (nI (80 * s + (8 * k + i))) (ix88 s k i) ?_
        refine rx_ialdN kl_161 (by omega) (by first | decide | omega) dX11_ahead_88 ?_
        refine rx_iconst (-1) dX11_ahead_89 rfl ?_
        refine rx_icmp_ne (tgt := 96) dX11_ahead_90 (by decide) (fun c90 => ?_) (fun c90 => ?_)
        · skip
          have e90 : lq T n th S s k i = true := by
            cases hq : lq T n th S s k i with
            | true => rfl
            | false => exact absurd (hld.1 hq) c90
          refine rx_iconst (1) dX11_ahead_96 rfl ?_
          refine rx_istore (i := 4) dX11_ahead_97 (by decide) rfl rfl ?_
          refine rx_iload_n (i := 3) dX11_ahead_99 rfl rfl ?_
          refine rx_aload_n (i := 0) dX11_ahead_100 rfl rfl ?_
          refine rx_getR 159 (k := 35) fo_X11_74 kl_140 (by decide) ti_11_35 (by decide) rfl dX11_ahead_101 ?_
          refine rx_iload (i := 5) dX11_ahead_104 rfl ?_
          refine rx_ialdN kl_159 (by omega) (by first | decide | omega) dX11_ahead_106 ?_
          refine rx_top (S.mk s) ((repM_s hF.2.1 hs).1) ?_
          refine rx_iand dX11_ahead_107 ?_
          refine rx_istore_n (i := 3) dX11_ahead_108 rfl (by decide) rfl rfl ?_
          first | refine rx_iincN (i := 6) dX11_ahead_109 rfl (by decide) rfl rfl ?_ | refine rx_iinc (i := 6) dX11_ahead_109 rfl rfl (by decide) rfl rfl ?_
          refine rx_goto (tgt := 53) dX11_ahead_112 (by decide) ?_
          exact ih (i + 1) _ _ (by omega) (by
            rw [if_pos (show anyB (lq T n th S s k) (i + 1) = true by simp only [anyB, e90, Bool.or_true, Bool.true_or]), hal]
            split
            · exact and_aa _ _
            · rfl) (show (1 : Int32) = _ by simp only [anyB, e90, Bool.or_true, Bool.true_or]; rfl) (by omega)
        · skip
          have e90 : lq T n th S s k i = false := by
            cases hq : lq T n th S s k i with
            | false => rfl
            | true =>
              obtain ⟨u, u1, u2, u3⟩ := hld.2 hq
              exact absurd (u3.symm.trans c90) (nI_nm1 (by omega))
          refine rx_goto (tgt := 109) dX11_ahead_93 (by decide) ?_
          first | refine rx_iincN (i := 6) dX11_ahead_109 rfl (by decide) rfl rfl ?_ | refine rx_iinc (i := 6) dX11_ahead_109 rfl rfl (by decide) rfl rfl ?_
          refine rx_goto (tgt := 53) dX11_ahead_112 (by decide) ?_
          exact ih (i + 1) _ _ (by omega) (by rw [hal]; simp only [anyB, e90, Bool.or_false, Bool.false_or]) (by rw [han]; simp only [anyB, e90, Bool.or_false, Bool.false_or]) (by omega)
set_option maxRecDepth 100000 in
set_option maxHeartbeats 4000000 in
theorem l_aheadOut {M : Mem} {n m k : Nat} {T : TT} {th x : Int32} {S : SS} {D : Nat → Nat × Nat × Nat} {rk W : Nat → Nat} (hn8 : n ≤ 8) (hm10 : m ≤ 10) (hk : k < m) (ht : thOK T m th) (hF : FS M T n m th S D rk W) (h46 : M.1 140 46 = th) : ∀ (N : Nat) (s : Nat), (s ≤ S.N) → S.N - s < N → Reach cX11_ahead RX11 7 5 (FQ cX11_ahead (some .int) (some (.int (if anyB (adP T n th S k) S.N = true then adF T n th S k S.N else -2))) M) 41 [some (.ref 140), some (.int (nI k)), some (.int x), some (.int (adF T n th S k s)), some (.int (zI (anyB (adP T n th S k) s))), some (.int (nI s)), none] [] (M) := by
  intro N
  induction N with
  | zero => intro s hs hm; exact absurd ‹_ < 0› (Nat.not_lt_zero _)
  | succ N ih =>
    intro s hs hm
    have hN3 := (repM_N hF.2.1).2
    refine rx_iload (i := 5) dX11_ahead_41 rfl ?_
    refine rx_aload_n (i := 0) dX11_ahead_43 rfl rfl ?_
    refine rx_getI (k := 44) fo_X11_325 kl_140 (by decide) ti_11_44 dX11_ahead_44 ?_
    refine rx_top (nI S.N) ((repM_N hF.2.1).1) ?_
    refine rx_icmp_ge (tgt := 121) dX11_ahead_47 (by decide) (fun c47 => ?_) (fun c47 => ?_)
    · skip
      have f47 := Int32.not_lt.mpr c47
      have e47 : s = S.N := by have := (nI_leI (by omega) (by omega)).mp c47; omega
      subst e47
      refine rx_iload (i := 4) dX11_ahead_121 rfl ?_
      refine rx_if_eq (tgt := 130) dX11_ahead_123 (by decide) (fun c123 => ?_) (fun c123 => ?_)
      · skip
        have e123 : anyB (adP T n th S k) S.N = false := zI_0.mp c123
        refine rx_bipush (-2) dX11_ahead_130 rfl ?_
        first | exact rx_fiI dX11_ahead_132 (by rw [if_pos e123]) rfl | exact rx_fiI dX11_ahead_132 (by rw [if_neg (by rw [e123]; decide)]) rfl
      · skip
        have e123 : anyB (adP T n th S k) S.N = true := zI_n c123
        refine rx_iload_n (i := 3) dX11_ahead_126 rfl rfl ?_
        refine rx_goto (tgt := 132) dX11_ahead_127 (by decide) ?_
        first | exact rx_fiI dX11_ahead_132 (by rw [if_pos e123]) rfl | exact rx_fiI dX11_ahead_132 (by rw [if_neg (by rw [e123]; decide)]) rfl
    · skip
      have f47 := Int32.not_le.mp c47
      have e47 : s < S.N := Nat.lt_of_not_le fun q => c47 (nI_le q (by omega))
      refine rx_iconst (0) dX11_ahead_50 rfl ?_
      refine rx_istore (i := 6) dX11_ahead_51 (by decide) rfl rfl ?_
      refine l_aheadIn hn8 hm10 hk ht hF h46 e47 ?_ 9 0 _ _ (by omega) rfl (by rw [show anyB (lq T n th S s k) 0 = false from rfl, Bool.or_false]) (by omega)
      first | refine rx_iincN (i := 5) dX11_ahead_115 rfl (by decide) rfl rfl ?_ | refine rx_iinc (i := 5) dX11_ahead_115 rfl rfl (by decide) rfl rfl ?_
      refine rx_goto (tgt := 41) dX11_ahead_118 (by decide) ?_
      exact ih (s + 1) (by omega) (by omega)
set_option maxRecDepth 100000 in
set_option maxHeartbeats 4000000 in
theorem c_X11_ahead {M : Mem} {n m k : Nat} {x : Int32} (w : MW M n m) (hs : sortOK (M.1 153 0)) (hO : OKS (mv M) n m) (hA : AOK (mv M) n) (hx : 0 ≤ x ∧ x ≤ 99) (hk : k < m) : Con yX11_ahead cX11_ahead 7 (some .int) 5 [.ref 140, .int (nI k), .int x] M (fun v N => ((vis (mv M) n m (thV (mv M) m x)).1.1 = true ∧ frK M N ∧ v = some (.int (if anyB (adP (mv M) n (thV (mv M) m x) (vis (mv M) n m (thV (mv M) m x)).1.2 k) (vis (mv M) n m (thV (mv M) m x)).1.2.N = true then adF (mv M) n (thV (mv M) m x) (vis (mv M) n m (thV (mv M) m x)).1.2 k (vis (mv M) n m (thV (mv M) m x)).1.2.N else -2))) ∨ ((vis (mv M) n m (thV (mv M) m x)).1.1 = false ∧ v = some (.int (-3)) ∧ frK M N)) := by
  refine Con.of (own := RX11) (ls := [some (.ref 140), some (.int (nI k)), some (.int x), none, none, none, none]) rfl (by decide +kernel) (Nat.le_of_ble_eq_true rfl) rfl ?_
  have w0 := w.t0
  have ⟨hn, hn8, hm, hm10, hd⟩ := w
  refine rx_aload_n (i := 0) dX11_ahead_0 rfl rfl ?_
  refine rx_iconst (0) dX11_ahead_1 rfl ?_
  refine rx_putI (k := 21) fo_X11_126 fn_11_21 kl_140 (by decide) ty_11_21 dX11_ahead_2 ?_
  refine rx_aload_n (i := 0) dX11_ahead_5 rfl rfl ?_
  refine rx_iload_n (i := 1) dX11_ahead_6 rfl rfl ?_
  refine rx_cvI (ci := 11) mo_X11_isDebt lk_X11_142 (c_X11_isDebt w0.2.2.1 (by omega)) (by decide) rfl rfl (Nat.le_of_ble_eq_true rfl) kl_140 rfl dX11_ahead_7 ?_
  refine rx_top (1) (if_pos ⟨nI_pos' (by omega), nI_lt hk (by omega)⟩) ?_
  refine rx_if_eq (tgt := 20) dX11_ahead_10 (by decide) (fun c10 => absurd c10 (by decide)) (fun c10 => ?_)
  refine rx_iload_n (i := 2) dX11_ahead_13 rfl rfl ?_
  refine rx_csI mo_X11_isDay lk_X11_355 c_X11_isDay (by decide) rfl rfl (Nat.le_of_ble_eq_true rfl) dX11_ahead_14 ?_
  refine rx_top (1) (if_pos hx) ?_
  refine rx_if_ne (tgt := 22) dX11_ahead_17 (by decide) (fun c17 => ?_) (fun c17 => absurd c17 (by decide))
  refine rx_aload_n (i := 0) dX11_ahead_22 rfl rfl ?_
  refine rx_iload_n (i := 2) dX11_ahead_23 rfl rfl ?_
  refine rx_callV (ci := 11) mo_X11_findStates lk_X11_358 (c_X11_findStates (M := t0 M) (x := x) w0 (show sortOK ((t0 M).1 153 0) from hs) (by rw [t0_mv]; exact hO) (by rw [t0_mv]; exact hA)) (by decide) rfl rfl (Nat.le_of_ble_eq_true rfl) kl_140 rfl dX11_ahead_24 ?_
  rintro _ N0 ⟨rfl, hK, h46, -, hF⟩
  rw [t0_mv] at h46 hF ⊢
  have hK := frK_t0.trans hK
  refine rx_if_ne (tgt := 33) dX11_ahead_27 (by decide) (fun c27 => ?_) (fun c27 => ?_)
  · skip
    have hok : (vis (mv M) n m (thV (mv M) m x)).1.1 = true := zI_n c27
    obtain ⟨D, rk, W, hF⟩ := hF hok
    have hNN := repM_N hF.2.1
    obtain ⟨hN0, hN3⟩ := hNN
    refine rx_iconst (-1) dX11_ahead_33 rfl ?_
    refine rx_istore_n (i := 3) dX11_ahead_34 rfl (by decide) rfl rfl ?_
    refine rx_iconst (0) dX11_ahead_35 rfl ?_
    refine rx_istore (i := 4) dX11_ahead_36 (by decide) rfl rfl ?_
    refine rx_iconst (0) dX11_ahead_38 rfl ?_
    refine rx_istore (i := 5) dX11_ahead_39 (by decide) rfl rfl ?_
    refine (l_aheadOut hn8 hm10 hk (thV_OK hm10) hF h46 (x := x) ((vis (mv M) n m (thV (mv M) m x)).1.2.N + 1) 0 (Nat.zero_le _) (by omega)).mono ?_
    rintro pc' ls' st' N ⟨v, h1, ⟨h2, h3⟩, h5⟩
    exact ⟨v, h1, Or.inl ⟨hok, by rw [h3]; exact hK, h2⟩, h5⟩
  · skip
    have hok : (vis (mv M) n m (thV (mv M) m x)).1.1 = false := zI_0.mp c27
    refine rx_bipush (-3) dX11_ahead_30 rfl ?_
    exact rx_iret dX11_ahead_32 (Or.inr ⟨hok, rfl, hK⟩)
set_option maxRecDepth 100000 in
set_option maxHeartbeats 4000000 in
theorem c_X11_ahead_no {M : Mem} {m : Nat} {y x : Int32} (hm : M.1 140 7 = nI m) (hm10 : m ≤ 10) (hx : ¬ ((0 ≤ y ∧ y < nI m) ∧ 0 ≤ x ∧ x ≤ 99)) : Fun yX11_ahead cX11_ahead 7 (some .int) 5 [.ref 140, .int y, .int x] M (some (.int (-1))) (t0 M) := by
  refine Fun.of (own := RX11) ([some (.ref 140), some (.int y), some (.int x), none, none, none, none]) rfl (by decide +kernel) (Nat.le_of_ble_eq_true rfl) rfl ?_
  refine rx_aload_n (i := 0) dX11_ahead_0 rfl rfl ?_
  refine rx_iconst (0) dX11_ahead_1 rfl ?_
  refine rx_putI (k := 21) fo_X11_126 fn_11_21 kl_140 (by decide) ty_11_21 dX11_ahead_2 ?_
  refine rx_aload_n (i := 0) dX11_ahead_5 rfl rfl ?_
  refine rx_iload_n (i := 1) dX11_ahead_6 rfl rfl ?_
  refine rx_cvI (ci := 11) mo_X11_isDebt lk_X11_142 (c_X11_isDebt (M := t0 M) ((sI_ne (by omega)).trans hm) (by omega)) (by decide) rfl rfl (Nat.le_of_ble_eq_true rfl) kl_140 rfl dX11_ahead_7 ?_
  refine rx_if_eq (tgt := 20) dX11_ahead_10 (by decide) (fun c10 => ?_) (fun c10 => ?_)
  · skip
    refine rx_iconst (-1) dX11_ahead_20 rfl ?_
    exact rx_fiI dX11_ahead_21 rfl rfl
  · skip
    have e10 := ite1n c10
    refine rx_iload_n (i := 2) dX11_ahead_13 rfl rfl ?_
    refine rx_csI mo_X11_isDay lk_X11_355 c_X11_isDay (by decide) rfl rfl (Nat.le_of_ble_eq_true rfl) dX11_ahead_14 ?_
    refine rx_if_ne (tgt := 22) dX11_ahead_17 (by decide) (fun c17 => ?_) (fun c17 => ?_)
    · skip
      exact absurd ⟨e10, ite1n c17⟩ hx
      skip
    · skip
      refine rx_iconst (-1) dX11_ahead_20 rfl ?_
      exact rx_fiI dX11_ahead_21 rfl rfl
