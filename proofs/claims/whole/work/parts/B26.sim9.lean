theorem jdR_ag {n m : Nat} {t : Int32} (hn : n ≤ 8) : ∀ (f q : Nat) (T T' : TT) (a b : Int32), okD T n m → agD T T' n m → (jdR n m t f q T' a b).2 = (jdR n m t f q T a b).2
  | 0, _, _, _, _, _, _, _ => rfl
  | f + 1, q, T, T', a, b, hO, ag => by
    simp only [jdR]
    by_cases hk : jdD t q < m
    · by_cases hi : jdP t q < n
      · rw [(ag.1.2.1 _ hk).2.2.2.2, mayT_ag ag.1 hO.1 hn hk hi, prT_ag ag.1 hk hi, (ag.1.2.1 _ hk).2.2.1]
        by_cases c : (jdD t q < m ∧ T 10 (jdD t q) = 0) ∧ jdP t q < n ∧ mayT T n (jdD t q) (jdP t q) = true
        · rw [if_pos c, if_pos c]
          exact jdR_ag hn f (q + 1) _ _ _ _ (hO.mk hi hn hk c.2.2) (ag.mk hO.1 hn hi hk)
        · rw [if_neg c, if_neg c]
      · rw [if_neg (fun z => hi z.2.1), if_neg (fun z => hi z.2.1)]
    · rw [if_neg (fun z => hk z.1.1), if_neg (fun z => hk z.1.1)]
theorem SimQ.hop {M : Mem} {n m dx tn : Nat} (h : SimQ M n m dx tn) : ∀ k, k < m → M.1 151 k = 0 → M.1 152 k = -1 := fun k hk z => by
  have e1 : M.1 151 k = view M 28 10 k := (h.ag.1.2.1 k hk).2.2.2.2
  have e2 : M.1 152 k = view M 28 11 k := h.ag.2.1 k hk
  rw [e2]
  exact h.2.2.1.1.2.2.2.2.1 k hk (e1.symm.trans z)
theorem s_judge {M : Mem} {n m dx tn : Nat} (h : Sim M n m dx tn) (x t : Int32) : Two yX10_judge cX10_judge 9 (some .int) 4 yX11_judge cX11_judge 11 4 [.int x, .int t] M n m dx tn := by
  have q := h.q
  have ag := q.ag
  have hO := q.okC
  have n8 := q.n8
  have m10 := q.m10
  by_cases hx : 0 ≤ x ∧ x ≤ 4
  · obtain ⟨N0, hN, rfl⟩ := rngJ (n := 4) hx (by omega)
    refine two_q h (c_X10_judge q.1 hO.1 hN) (fun v N hv => ⟨hv.2.1.V, SV_fr h.v hv.2.1⟩) fun v N hv qN em => ?_
    obtain ⟨rfl, hf, hr⟩ := hv
    refine Con.mono (c_X11_judge qN.2.1 qN.k01 qN.srt hN qN.hop) fun v' K hk => ?_
    obtain ⟨rfl, hg, hr2⟩ := hk
    have e2 := jdR_ag (t := t) n8 N0 0 (view M 28) (mv M) 0 0 hO ag
    rw [em] at hr2 ⊢
    rw [show (jdR n m t N0 0 (mv M) 0 0).2.2.2 = (jdR n m t N0 0 (view M 28) 0 0).2.2.2 from congrArg (fun z => z.2.2) e2]
    rw [show (jdR n m t N0 0 (mv M) 0 0).2.1 = (jdR n m t N0 0 (view M 28) 0 0).2.1 from congrArg (fun z => z.1) e2, show (jdR n m t N0 0 (mv M) 0 0).2.2.1 = (jdR n m t N0 0 (view M 28) 0 0).2.2.1 from congrArg (fun z => z.2.1) e2] at hr2
    exact ⟨rfl, hg.B, simW_2 hr hg.B hr2⟩
  · exact two_0 h (c_X10_judge_no hx) (c_X11_judge_no hx)
theorem shT_ag {T T' : TT} {n m f o : Nat} {x : Int32} (h : agV T T' n m) (hf : f < n) (ho : o < n) : agV (shT T f o x) (shT T' f o x) n m := by
  have e : ∀ (U : TT) c, c ≠ 0 → shT U f o x c = U c := fun U c hc => by
    funext j
    unfold shT
    rw [if_neg hc]
  refine ⟨fun j hj => ?_, fun k hk => ?_, ?_, ?_, ?_⟩
  · rw [e _ 1 (by omega), e _ 1 (by omega), e _ 2 (by omega), e _ 2 (by omega), e _ 3 (by omega), e _ 3 (by omega), e _ 4 (by omega), e _ 4 (by omega)]
    refine ⟨?_, (h.1 j hj).2⟩
    simp only [shT]
    simp only [if_true, upd]
    rw [(h.1 j hj).1, (h.1 f hf).1, (h.1 o ho).1]
  · rw [e _ 6 (by omega), e _ 6 (by omega), e _ 7 (by omega), e _ 7 (by omega), e _ 8 (by omega), e _ 8 (by omega), e _ 9 (by omega), e _ 9 (by omega), e _ 10 (by omega), e _ 10 (by omega)]
    exact h.2.1 k hk
  · rw [e _ 14 (by omega), e _ 14 (by omega)]; exact h.2.2.1
  · rw [e _ 14 (by omega), e _ 14 (by omega)]; exact h.2.2.2.1
  · rw [e _ 14 (by omega), e _ 14 (by omega)]; exact h.2.2.2.2
/-- who may pay, where only the DEBTS' people are known -/
theorem payT_ow {T T' : TT} {n m k : Nat} (h : agV T T' n m) (hd : ∃ o, o < n ∧ T 6 k = nI o) (hn : n ≤ 8) (hk : k < m) : payT T' n k = payT T n k := by
  obtain ⟨o, ho, eo⟩ := hd
  unfold payT
  rw [(h.2.1 k hk).2.2.2.2]
  split
  · refine fbor_congr fun i hi => ?_
    unfold mayT
    rw [(h.2.1 k hk).1, (h.2.1 k hk).2.1, (h.2.1 k hk).2.2.1, (h.1 i hi).1, (h.1 i hi).2.2.2.1, h.2.2.1, h.2.2.2.1, eo, nI_clamp (by omega)]
    rw [blw_congr (L := onT T') (L' := onT T) (fun j hj => onT_ag h hj) ho hi]
  · rfl
theorem gok_ag {T T' : TT} {n m o k : Nat} (h : agV T T' n m) (hO : OKS T n m) (hn : n ≤ 8) (ho : o < n) (hk : k < m) {c f : Nat} : gok T' n o k c f ↔ gok T n o k c f := by
  obtain ⟨-, -, o2, g2, ho2, -, -, eo2, -⟩ := hO.2.2.2 k hk
  unfold gok
  by_cases hf : f < n
  · rw [(h.1 f hf).1, (h.1 f hf).2.2.2.1, payT_ow (shT_ag h hf ho) ⟨o2, ho2, eo2⟩ hn hk]
  · exact ⟨fun z => absurd z.1 hf, fun z => absurd z.1 hf⟩
theorem gLe_ag {T T' : TT} {n m o k : Nat} (h : agV T T' n m) (hO : OKS T n m) (hn : n ≤ 8) (ho : o < n) (hk : k < m) {c f : Nat} (z : gLe T' n o k c f) : gLe T n o k c f := by
  obtain ⟨a1, a2, a3, a4⟩ := z
  exact ⟨a1, (gok_ag h hO hn ho hk).mp a2, fun c' f' h1 h2 y => a3 c' f' h1 h2 ((gok_ag h hO hn ho hk).mpr y), fun f' h1 y => a4 f' h1 ((gok_ag h hO hn ho hk).mpr y)⟩
theorem lok_ag {T T' : TT} {n m i k : Nat} (h : agV T T' n m) (hO : OKS T n m) (hn : n ≤ 8) (hi : i < n) (hk : k < m) {c f : Nat} : lok T' n i k c f ↔ lok T n i k c f := by
  obtain ⟨-, -, o2, g2, ho2, -, -, eo2, -⟩ := hO.2.2.2 k hk
  unfold lok
  by_cases hf : f < n
  · rw [payT_ow (shT_ag h hi hf) ⟨o2, ho2, eo2⟩ hn hk]
  · exact ⟨fun z => absurd z.1 hf, fun z => absurd z.1 hf⟩
theorem lLe_ag {T T' : TT} {n m i k : Nat} (h : agV T T' n m) (hO : OKS T n m) (hn : n ≤ 8) (hi : i < n) (hk : k < m) {c f : Nat} (z : lLe T' n i k c f) : lLe T n i k c f := by
  obtain ⟨a1, a2, a3, a4⟩ := z
  exact ⟨a1, (lok_ag h hO hn hi hk).mp a2, fun c' f' h1 h2 y => a3 c' f' h1 h2 ((lok_ag h hO hn hi hk).mpr y), fun f' h1 y => a4 f' h1 ((lok_ag h hO hn hi hk).mpr y)⟩
