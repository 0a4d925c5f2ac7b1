/-- the states while s is left: s stays -/
def SS.iv (S : SS) (s : Nat) (mk0 : Int32) (c0 : Nat → Nat) (p0 : Int32) (r0 : Nat) : Prop := S.dis ∧ s < S.N ∧ S.mk s = mk0 ∧ S.co s = c0 ∧ S.pr s = p0 ∧ S.rw s = r0 ∧ ∀ t, t < S.N → S.rw t < 2 ^ 60
theorem or_bit_ne {x : Int32} {k : Nat} (hk : k < 32) (h : bt x k = false) : x ≠ x ||| bit k := by
  intro q
  have e := congrArg (fun y => bt y k) q
  simp only [b_or, h, b_bit hk, Bool.false_or, decide_true] at e
  cases e
theorem iv_go {S : SS} {s : Nat} {mk0 : Int32} {c0 : Nat → Nat} {p0 : Int32} {r0 : Nat} (h : S.iv s mk0 c0 p0 r0) {k : Nat} (hk : k < 32) (hb : bt mk0 k = false) {c : Nat → Nat} {cost : Int32} {row : Nat} (hr : row < 2 ^ 60) : (S.go s (mk0 ||| bit k) c cost row).2.iv s mk0 c0 p0 r0 := by
  obtain ⟨h1, h2, h3, h4, h5, h6, h7⟩ := h
  obtain ⟨k1, k2, k3, k4, k5, k6⟩ := go_keep (s := s) (mk := mk0 ||| bit k) (c := c) (cost := cost) (row := row) h2 (by rw [h3]; exact or_bit_ne hk hb)
  exact ⟨go_dis h1, k1, k2.trans h3, k3.trans h4, k5.trans h5, k6.trans h6, go_all (P := fun _ _ r => r < 2 ^ 60) h7 (by decide) hr (fun _ _ _ => hr)⟩
/-- person i pays debt k in s -/
def gp (T : TT) (s : Nat) (mk0 : Int32) (c0 : Nat → Nat) (p0 : Int32) (r0 k i : Nat) (S : SS) : Bool × SS :=
  S.go s (mk0 ||| bit k) (shN c0 i (T 7 k).toNatClampNeg (T 8 k).toNatClampNeg) (p0 + prT T i k) (r0 * 64 + (k * 6 + rkN (T 6 k).toNatClampNeg (T 7 k).toNatClampNeg i))
/-- each of some (bits) pays debt k in s -/
def inn (T : TT) (s : Nat) (mk0 : Int32) (c0 : Nat → Nat) (p0 : Int32) (r0 k : Nat) (Q : Int32) : Nat → Bool × SS → Bool × SS
  | 0, r => r
  | i + 1, r => if bt Q i = true then ((inn T s mk0 c0 p0 r0 k Q i r).1 && (gp T s mk0 c0 p0 r0 k i (inn T s mk0 c0 p0 r0 k Q i r).2).1, (gp T s mk0 c0 p0 r0 k i (inn T s mk0 c0 p0 r0 k Q i r).2).2) else inn T s mk0 c0 p0 r0 k Q i r
theorem rkN_le {o g i : Nat} (hi : i < 8) : rkN o g i ≤ 7 := by simp only [rkN]; omega
theorem inn_iv {T : TT} {s : Nat} {mk0 : Int32} {c0 : Nat → Nat} {p0 : Int32} {r0 k : Nat} {Q : Int32} (hk : k < 10) (hr : Q = 0 ∨ (bt mk0 k = false ∧ r0 < 2 ^ 54)) {r : Bool × SS} (h : r.2.iv s mk0 c0 p0 r0) : ∀ {i : Nat}, i ≤ 8 → (inn T s mk0 c0 p0 r0 k Q i r).2.iv s mk0 c0 p0 r0
  | 0, _ => h
  | i + 1, hi => by
    have h2 := inn_iv (T := T) (Q := Q) hk hr h (i := i) (by omega)
    simp only [inn]
    split
    · next q =>
      obtain ⟨hb, hr'⟩ : bt mk0 k = false ∧ r0 < 2 ^ 54 := hr.elim (fun e => by rw [e, b_0] at q; cases q) id
      have := rkN_le (o := (T 6 k).toNatClampNeg) (g := (T 7 k).toNatClampNeg) (i := i) (by omega)
      exact iv_go h2 (by omega) hb (by omega)
    · exact h2
theorem inn_t {T : TT} {s : Nat} {mk0 : Int32} {c0 : Nat → Nat} {p0 : Int32} {r0 k : Nat} {Q : Int32} {i : Nat} {r : Bool × SS} (h : bt Q i = true) : inn T s mk0 c0 p0 r0 k Q (i + 1) r = ((inn T s mk0 c0 p0 r0 k Q i r).1 && (gp T s mk0 c0 p0 r0 k i (inn T s mk0 c0 p0 r0 k Q i r).2).1, (gp T s mk0 c0 p0 r0 k i (inn T s mk0 c0 p0 r0 k Q i r).2).2) := if_pos h
theorem inn_f {T : TT} {s : Nat} {mk0 : Int32} {c0 : Nat → Nat} {p0 : Int32} {r0 k : Nat} {Q : Int32} {i : Nat} {r : Bool × SS} (h : bt Q i = false) : inn T s mk0 c0 p0 r0 k Q (i + 1) r = inn T s mk0 c0 p0 r0 k Q i r := if_neg (by rw [h]; decide)
set_option maxRecDepth 100000 in
set_option maxHeartbeats 4000000 in
theorem l_leave_in {M0 : Mem} {n s k o g v : Nat} {mk0 : Int32} {c0 : Nat → Nat} {p0 lf : Int32} {r0 : Nat} {Q : Int32} {R0 : Bool × SS} (hn : M0.1 108 15 = nI n) (hn8 : n ≤ 8) (hk : k < 10) (ho : o < 8) (hg : g < 8) (hog : o ≠ g) (eo : M0.1 115 k = nI o) (eg : M0.1 116 k = nI g) (ev : M0.1 117 k = nI v) (hv : v < 65536) (hgd : ∀ i, i < n → bt Q i = true → i ≠ o ∧ i ≠ g ∧ v ≤ c0 i ∧ ∀ j, shN c0 i g v j < 65536) (hr : Q = 0 ∨ (bt mk0 k = false ∧ r0 < 2 ^ 54)) (hI : R0.2.iv s mk0 c0 p0 r0) {QQ : Nat → List (Option Value) → List Value → Mem → Prop} (K : ∀ N, stF M0 N → repC N (inn (view M0 108) s mk0 c0 p0 r0 k Q n R0).2 → (N.1 19 14 = if (inn (view M0 108) s mk0 c0 p0 r0 k Q n R0).1 = true then 0 else 1) → Reach cX5_leave RX5 6 3 QQ 127 [some (.ref 19), some (.int (nI s)), some (.int lf), some (.int (nI k)), some (.int Q), some (.int (nI n))] [] N) : ∀ (N : Nat) (i : Nat) (M1 : Mem), (i ≤ n) → (stF M0 M1) → (repC M1 (inn (view M0 108) s mk0 c0 p0 r0 k Q i R0).2) → ((M1.1 19 14 = if (inn (view M0 108) s mk0 c0 p0 r0 k Q i R0).1 = true then 0 else 1)) → n - i < N → Reach cX5_leave RX5 6 3 (QQ) 91 [some (.ref 19), some (.int (nI s)), some (.int lf), some (.int (nI k)), some (.int Q), some (.int (nI i))] [] (M1) := by
  intro N
  induction N with
  | zero => intro i M1 hi hst hR hf hm; exact absurd ‹_ < 0› (Nat.not_lt_zero _)
  | succ N ih =>
    intro i M1 hi hst hR hf hm
    refine rx_iload (i := 5) dX5_leave_91 rfl ?_
    refine rx_aload_n (i := 0) dX5_leave_93 rfl rfl ?_
    refine rx_getR 108 (k := 0) fo_X5_12 kl_19 (by decide) ti_5_0 (by decide) rfl dX5_leave_94 ?_
    refine rx_getI (k := 15) fo_X5_95 kl_108 (by decide) ti_8_15 dX5_leave_97 ?_
    refine rx_top (nI n) ((hst.1 _ _ (by omega)).trans hn) ?_
    refine rx_icmp_ge (tgt := 127) dX5_leave_100 (by decide) (fun c100 => ?_) (fun c100 => ?_)
    · skip
      have f100 := Int32.not_lt.mpr c100
      have e100 : i = n := by have := (nI_leI (by omega) (by omega)).mp c100; omega
      subst e100
      exact K M1 hst hR hf
    · skip
      have f100 := Int32.not_le.mp c100
      have e100 : i < n := Nat.lt_of_not_le fun q => c100 (nI_le q (by omega))
      refine rx_iload (i := 4) dX5_leave_103 rfl ?_
      refine rx_iconst (1) dX5_leave_105 rfl ?_
      refine rx_iload (i := 5) dX5_leave_106 rfl ?_
      refine rx_ishl dX5_leave_108 ?_
      refine rx_iand dX5_leave_109 ?_
      refine rx_if_eq (tgt := 121) dX5_leave_110 (by decide) (fun c110 => ?_) (fun c110 => ?_)
      · skip
        try have e110 := (and_bit _ (by omega)).mp c110
        first | refine rx_iincN (i := 5) dX5_leave_121 rfl (by decide) rfl rfl ?_ | refine rx_iinc (i := 5) dX5_leave_121 rfl rfl (by decide) rfl rfl ?_
        refine rx_goto (tgt := 91) dX5_leave_124 (by decide) ?_
        exact ih (i + 1) M1 (by omega) hst (by rw [inn_f e110]; exact hR) (by rw [inn_f e110]; exact hf) (by omega)
      · skip
        try have e110 := (and_bitn _ (by omega)).mp c110
        obtain ⟨hb0, hr0⟩ : bt mk0 k = false ∧ r0 < 2 ^ 54 := hr.elim (fun e => by rw [e, b_0] at e110; cases e110) id
        obtain ⟨g1, g2, g3, g4, g5, g6, g7⟩ := inn_iv (T := view M0 108) (Q := Q) hk hr hI (i := i) (by omega)
        obtain ⟨q1, q2, q3, q4⟩ := hgd i (by omega) e110
        refine rx_aload_n (i := 0) dX5_leave_113 rfl rfl ?_
        refine rx_iload_n (i := 1) dX5_leave_114 rfl rfl ?_
        refine rx_iload_n (i := 3) dX5_leave_115 rfl rfl ?_
        refine rx_iload (i := 5) dX5_leave_116 rfl ?_
        refine rx_callV (ci := 5) mo_X5_step lk_X5_123 (c_X5_step (S := (inn (view M0 108) s mk0 c0 p0 r0 k Q i R0).2) hR g1 g2 hk (by omega) ho hg q1 q2 hog ((hst.1 _ _ (by omega)).trans eo) ((hst.1 _ _ (by omega)).trans eg) ((hst.1 _ _ (by omega)).trans ev) hv (by rw [g4]; exact q3) (by rw [g4]; exact q4) (by rw [g6]; exact hr0) g7) (by decide) rfl rfl (Nat.le_of_ble_eq_true rfl) kl_19 rfl dX5_leave_118 ?_
        rintro _ N2 ⟨rfl, hF, hR2, h14⟩
        have ep : priceM M1 108 i k = prT (view M0 108) i k := by rw [← priceM_T]; unfold priceM; rw [hst.1 _ _ (by omega), hst.1 _ _ (by omega), hst.1 _ _ (by omega)]
        have eo6 : (view M0 108 6 k).toNatClampNeg = o := by show (M0.1 115 k).toNatClampNeg = o; rw [eo, nI_clamp (by omega)]
        have eo7 : (view M0 108 7 k).toNatClampNeg = g := by show (M0.1 116 k).toNatClampNeg = g; rw [eg, nI_clamp (by omega)]
        have eo8 : (view M0 108 8 k).toNatClampNeg = v := by show (M0.1 117 k).toNatClampNeg = v; rw [ev, nI_clamp (by omega)]
        rw [g3, g4, g5, g6, ep] at hR2 h14
        have egp : gp (view M0 108) s mk0 c0 p0 r0 k i (inn (view M0 108) s mk0 c0 p0 r0 k Q i R0).2 = SS.go (inn (view M0 108) s mk0 c0 p0 r0 k Q i R0).2 s (mk0 ||| bit k) (shN c0 i g v) (p0 + prT (view M0 108) i k) (r0 * 64 + (k * 6 + rkN o g i)) := by unfold gp; rw [eo6, eo7, eo8]
        rw [← egp] at hR2 h14
        first | refine rx_iincN (i := 5) dX5_leave_121 rfl (by decide) rfl rfl ?_ | refine rx_iinc (i := 5) dX5_leave_121 rfl rfl (by decide) rfl rfl ?_
        refine rx_goto (tgt := 91) dX5_leave_124 (by decide) ?_
        exact ih (i + 1) N2 (by omega) (hst.trans hF) (by rw [inn_t e110]; exact hR2) (by rw [inn_t e110, h14, hf]; cases (inn (view M0 108) s mk0 c0 p0 r0 k Q i R0).1 <;> cases (gp (view M0 108) s mk0 c0 p0 r0 k i (inn (view M0 108) s mk0 c0 p0 r0 k Q i R0).2).1 <;> rfl) (by omega)
