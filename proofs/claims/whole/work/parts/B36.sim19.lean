/-! days keep what ties both towns -/
theorem lapse_P {T T' : TT} {n m dx k : Nat} (h : twP T T' n m dx) : twP (setT T 10 k 2) (setT T' 10 k 2) n m dx := by
  obtain ⟨⟨⟨b1, b2, b3⟩, a2, a3, a4, a5, a6⟩, p2, p3, p4, p5⟩ := h
  refine ⟨⟨⟨b1.lapse, b2, b3⟩, a2, a3, a4, fun j hj z => ?_, a6⟩, p2.set10, p3, p4, p5⟩
  have e11 : setT T 10 k 2 11 = T 11 := setT_o (by omega)
  rw [e11]
  by_cases e : j = k
  · exfalso
    have y : setT T 10 k 2 10 j = 2 := if_pos ⟨rfl, e⟩
    rw [y] at z
    exact absurd z (by decide)
  · have y : setT T 10 k 2 10 j = T 10 j := if_neg fun w => e w.2
    rw [y] at z
    exact a5 j hj z
theorem noon_P {T T' : TT} {n m dx : Nat} (h : twP T T' n m dx) : twP (noonT T n) (noonT T' n) n m dx := by
  refine twP_of h (noon_S h.1) h.2.1.noon (fun c hc => ?_) (fun c hc => ?_)
  · funext j; exact if_neg (by omega)
  · funext j; exact if_neg (by omega)
theorem day_P {T T' : TT} {n m dx : Nat} (h : twP T T' n m dx) : twP (setS T 18 (T 18 0 + 1)) (setS T' 18 (T' 18 0 + 1)) n m (dx + 1) := by
  obtain ⟨⟨⟨b1, b2, b3⟩, a2, a3, a4, a5, d, d1, d2⟩, p2, p3, p4, p5⟩ := h
  refine ⟨⟨⟨b1.day, b2, b3⟩, a2, a3, a4, a5, d + 1, by omega, ?_⟩, ?_, p3, p4, p5⟩
  · show T 18 0 + 1 = _
    rw [d2, show (1 : Int32) = nI 1 from rfl, nI_add]
  · rw [p2.2.2.2.2]
    exact p2.day
def tpS (s s' : DS) (n m dx : Nat) : Prop := twP s.1 s'.1 n m dx ∧ s'.2 = s.2
theorem tp_go {S : Nat → Int32} {z n m k dx : Nat} {s s' : DS} (h : tpS s s' n m dx) (hn : n ≤ 8) (hk : k < m) : tpS (goT S z n m s k) (goT S z n m s' k) n m dx := by
  obtain ⟨T, a, b, c, d⟩ := s
  obtain ⟨T', a', b', c', d'⟩ := s'
  obtain ⟨h1, h2⟩ := h
  simp only at h1 h2
  obtain ⟨rfl, rfl, rfl, rfl⟩ := h2
  have ag := h1.2.1
  have hO := h1.1.1.1
  obtain ⟨b6, b7, b8, b9, b10⟩ := ag.1.2.1 k hk
  simp only [goT, wilT_ag (S := S) (z := z) ag hO hn hk, b8, b9, ag.2.2.2.1, ag.2.2.2.2]
  split
  · next q =>
    obtain ⟨i, hi, hp, h10, hmay⟩ := wil_in (S := S) (z := z) (T := T) (n := n) (m := m) (k := k) hn q
    rw [hp, nI_clamp (by omega)]
    exact ⟨pay_P h1 hi hn hk hmay, by rw [prT_ag ag.1 hk hi]⟩
  · split
    · exact ⟨lapse_P h1, rfl⟩
    · exact ⟨h1, rfl⟩
theorem tp_fold {S : Nat → Int32} {z n m dx : Nat} (hn : n ≤ 8) : ∀ (l : List Nat) (s s' : DS), (∀ k ∈ l, k < m) → tpS s s' n m dx → tpS (l.foldl (goT S z n m) s) (l.foldl (goT S z n m) s') n m dx
  | [], _, _, _, h => h
  | k :: l, s, s', hl, h => tp_fold hn l _ _ (fun a ha => hl a (List.mem_cons_of_mem _ ha)) (tp_go h hn (hl k List.mem_cons_self))
theorem tp_day {S : Nat → Int32} {z n m dx : Nat} {s s' : DS} (h : tpS s s' n m dx) (hn : n ≤ 8) : tpS (dayT S z n m s) (dayT S z n m s') n m (dx + 1) := by
  have h1 : tpS (noonT s.1 n, s.2) (noonT s'.1 n, s'.2) n m dx := ⟨noon_P h.1, h.2⟩
  have h2 := tp_fold (S := S) (z := z) hn (dueOf (noonT s.1 n) m) _ _ (dueOf_lt h1.1.1.1.1) h1
  unfold dayT
  simp only
  rw [dueOf_ag h.1.2.1.noon]
  exact ⟨day_P h2.1, h2.2⟩
theorem tp_days {S : Nat → Int32} {z n m dx : Nat} {s s' : DS} (h : tpS s s' n m dx) (hn : n ≤ 8) : ∀ e, tpS (daysT S z n m s e) (daysT S z n m s' e) n m (dx + e)
  | 0 => h
  | e + 1 => tp_day (tp_days h hn e) hn
theorem ds_P {S : Nat → Int32} {z n m dx N0 : Nat} {T T' : TT} (h : twP T T' n m dx) (hn : n ≤ 8) : twP (dsX S z n m T N0).1 (dsX S z n m T' N0).1 n m (dx + N0) := (tp_days (s := (T, 0, 0, 0, 0)) (s' := (T', 0, 0, 0, 0)) ⟨h, rfl⟩ hn N0).1
/-- what days don't change -/
theorem go_st {S : Nat → Int32} {z n m k c : Nat} {s : DS} (h : c ≠ 0 ∧ c ≠ 4 ∧ c ≠ 10 ∧ c ≠ 11 ∧ c ≠ 12 ∧ c ≠ 18) : (goT S z n m s k).1 c = s.1 c := by
  simp only [goT]
  split
  · exact mk_o h.1 h.2.2.1 h.2.2.2.1 h.2.2.2.2.1
  · split
    · exact setT_o h.2.2.1
    · rfl
theorem fold_st {S : Nat → Int32} {z n m c : Nat} (h : c ≠ 0 ∧ c ≠ 4 ∧ c ≠ 10 ∧ c ≠ 11 ∧ c ≠ 12 ∧ c ≠ 18) : ∀ (l : List Nat) (s : DS), (l.foldl (goT S z n m) s).1 c = s.1 c
  | [], _ => rfl
  | _ :: l, s => (fold_st h l _).trans (go_st h)
theorem day_st {S : Nat → Int32} {z n m c : Nat} {s : DS} (h : c ≠ 0 ∧ c ≠ 4 ∧ c ≠ 10 ∧ c ≠ 11 ∧ c ≠ 12 ∧ c ≠ 18) : (dayT S z n m s).1 c = s.1 c := by
  unfold dayT
  simp only
  rw [setS_o h.2.2.2.2.2, fold_st h]
  funext j
  exact if_neg fun w => h.2.1 w.1
theorem days_st {S : Nat → Int32} {z n m c : Nat} {s : DS} (h : c ≠ 0 ∧ c ≠ 4 ∧ c ≠ 10 ∧ c ≠ 11 ∧ c ≠ 12 ∧ c ≠ 18) : ∀ e, (daysT S z n m s e).1 c = s.1 c
  | 0 => rfl
  | e + 1 => (day_st h).trans (days_st h e)
theorem ds_st {S : Nat → Int32} {z n m c N0 : Nat} {T : TT} (h : c ≠ 0 ∧ c ≠ 4 ∧ c ≠ 10 ∧ c ≠ 11 ∧ c ≠ 12 ∧ c ≠ 18) : (dsX S z n m T N0).1 c = T c := days_st (s := (T, 0, 0, 0, 0)) h N0
theorem s_days {M : Mem} {n m dx tn : Nat} (h : Sim M n m dx tn) (hd : dx ≤ 60000) (x : Int32) : Two yX10_days cX10_days 2 (some .int) 6 yX11_days cX11_days 2 176 [.int x] M n m dx tn := by
  have q := h.q
  have ag := q.ag
  have hO := q.okC
  have n8 := q.n8
  have m10 := q.m10
  by_cases hx : 0 ≤ x ∧ x ≤ 60
  · obtain ⟨N0, hN, rfl⟩ := rngJ (n := 60) hx (by omega)
    obtain ⟨z, L, hz, hz2, r⟩ := q.MR
    refine ⟨_, c_X10_days q.1 hO hz2 hz hN, fun v N hv => by rw [hv.1]; exact tyI _, fun v N hv => ?_⟩
    obtain ⟨rfl, al, tw, ⟨f1, f2, f3⟩, e14, hr⟩ := hv
    have e140 : ∀ a b, 140 ≤ a → N.1 a b = M.1 a b := fun a b h140 => f1 a b (by omega) (by omega) (by omega)
    have em : mv N = mv M := mv_eq e140
    have e8 : N.1 8 = M.1 8 := funext fun j => f1 8 j (by omega) (by omega) (by omega)
    have rN : MR N n m (M.1 8) z L := MR.keep r (r.1.keep (e140 _ _ (by omega)) (e140 _ _ (by omega)) (fun _ _ => e140 _ _ (by omega)) (fun _ _ => e140 _ _ (by omega))) (funext fun j => e140 _ _ (by omega)) (e140 _ _ (by omega)) (funext fun j => e140 _ _ (by omega)) (e140 _ _ (by omega))
    obtain ⟨d, hdd, e18⟩ := q.day
    refine Con.mono (c_X11_days rN (td := d) (by rw [em]; exact q.okM) (by rw [em]; exact e18) (by omega) hN) fun v' K hk => ?_
    rw [em] at hk
    obtain ⟨rfl, al2, g1, g2, g14, hr2⟩ := hk
    have e2 := (dsX_ag (S := M.1 8) (z := z) (N0 := N0) ag hO n8).2
    have e21 : (dsX (M.1 8) z n m (mv M) N0).2.1 = (dsX (M.1 8) z n m (view M 28) N0).2.1 := congrArg (fun q => q.1) e2
    have e22 : (dsX (M.1 8) z n m (mv M) N0).2.2.1 = (dsX (M.1 8) z n m (view M 28) N0).2.2.1 := congrArg (fun q => q.2.1) e2
    have e23 : (dsX (M.1 8) z n m (mv M) N0).2.2.2.2 = (dsX (M.1 8) z n m (view M 28) N0).2.2.2.2 := congrArg (fun q => q.2.2.2) e2
    rw [e21]
    rw [e22, e23] at hr2
    have st : ∀ c j, c = 1 ∨ c = 2 ∨ (6 ≤ c ∧ c ≤ 9) → N.1 (29 + c) j = M.1 (29 + c) j := fun c j hc => by
      have y := congrFun ((al c (by omega) (by omega)).trans (ds_st (by omega))) j
      unfold view at y
      rw [if_pos (by omega), if_pos (by omega)] at y
      exact y
    have ev : view K 28 = view N 28 := by
      funext c j
      unfold view
      split
      · exact g1 _ _ (by omega)
      · exact g1 _ _ (by omega)
    have frN : ∀ a b, ¬ (a = 29 ∨ a = 32 ∨ a = 33 ∨ a = 34 ∨ (39 ≤ a ∧ a ≤ 43) ∨ (a = 28 ∧ b ≠ 15 ∧ b ≠ 16)) → ¬ (a = 9 ∨ a = 17 ∨ a = 18) → ¬ (a = 4 ∧ b = 1) → ¬ (a = 0 ∧ b = 14) → N.1 a b = M.1 a b := fun a b h1 h2 h3 h4 => by
      by_cases h28 : 28 ≤ a ∧ a ≤ 43
      · by_cases h30 : a = 30 ∨ a = 31 ∨ (35 ≤ a ∧ a ≤ 38)
        · have y := st (a - 29) b (by omega)
          rw [show 29 + (a - 29) = a by omega] at y
          exact y
        · have a28 : a = 28 := by omega
          subst a28
          rcases (show b = 15 ∨ b = 16 by omega) with y | y
          · rw [y]; exact tw.1.trans q.1.1.symm
          · rw [y]; exact tw.2.2.1.trans q.1.2.2.1.symm
      · exact f1 a b (by omega) h3 h4
    have fr : frG M K := ⟨fun a b q1 q2 q3 q4 => (g1 a b (by omega)).trans (frN a b (by omega) (by omega) (by omega) (by omega)), fun a y1 y2 y3 => (g2 a y2).trans (f2 a y1)⟩
    have p : twP (view K 28) (mv K) n m (dx + 60) := by
      rw [ev]
      refine twP_dx (dx := dx + N0) (twP_alk ?_ al) (by omega)
      have y := ds_P (S := M.1 8) (z := z) (N0 := N0) q.2.2.1 n8
      refine twP_q y (fun c j hi => ?_) n8 m10
      by_cases hc : c ≠ 5 ∧ c < 20
      · exact congrFun (al2 c hc.1 hc.2) j
      · rw [mv_no hc]
        by_cases c5 : c = 5
        · subst c5
          rw [ds_st (by omega)]; exact (mv_no (by omega)).symm
        · rw [ds_st (by omega)]; exact (mv_no hc).symm
    refine ⟨rfl, n, m, tn, sim_gen (h.dx (by omega)) fr p (simU_0 ((g1 _ _ (by omega)).trans e14) g14) (simX_k h.2.2.2.2.1 ?_ ?_ (fun j => ?_) (fun j => ?_)) (simR_k h.2.2.2.2.2.1 ?_ ?_ (fun j => ?_) (fun j => ?_)) ⟨2, by omega, (g1 4 1 (by omega)).trans hr.1, hr2.1, fun j hj => ?_⟩⟩
    · exact (g1 _ _ (by omega)).trans (frN _ _ (by omega) (by omega) (by omega) (by omega))
    · exact (g1 _ _ (by omega)).trans (frN _ _ (by omega) (by omega) (by omega) (by omega))
    · exact (g1 _ _ (by omega)).trans (frN _ _ (by omega) (by omega) (by omega) (by omega))
    · exact (g1 _ _ (by omega)).trans (frN _ _ (by omega) (by omega) (by omega) (by omega))
    · exact (g1 _ _ (by omega)).trans (frN _ _ (by omega) (by omega) (by omega) (by omega))
    · exact (g1 _ _ (by omega)).trans (frN _ _ (by omega) (by omega) (by omega) (by omega))
    · exact (g1 _ _ (by omega)).trans (frN _ _ (by omega) (by omega) (by omega) (by omega))
    · exact (g1 _ _ (by omega)).trans (frN _ _ (by omega) (by omega) (by omega) (by omega))
    · rw [g2 5 (by omega)]
      rcases (show j = 0 ∨ j = 1 by omega) with y | y
      · rw [y, hr.2.1]; exact hr2.2.1
      · rw [y, hr.2.2]; exact hr2.2.2
  · exact two_0 h (c_X10_days_no hx) (c_X11_days_no hx)
