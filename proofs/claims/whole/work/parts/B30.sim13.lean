theorem netF_cg {f g : Nat → Int32} {P : Nat → Nat → Bool} (h : ∀ q, q < 64 → g q = f q) {q : Nat} (hq : q < 64) : netF g P q = netF f P q := by
  have hs : swp q < 64 := by unfold swp; omega
  unfold netF
  rw [h q hq, h _ hs]
theorem netS_cg {f g : Nat → Int32} (h : ∀ q, q < 64 → g q = f q) {n : Nat} (hn : n ≤ 8) : netS g n = netS f n := by
  unfold netS
  refine fsum_congr fun a ha => fsum_congr fun b hb => ?_
  unfold net2
  rw [h _ (by omega), h _ (by omega)]
theorem setA_ee {M : Mem} {i j : Nat} {f : Nat → Int32} : (setA M i f).1 i j = f j := if_pos rfl
/-- a town in which favours are set off -/
def netT (T : TT) (n : Nat) : TT := fun c j => if c = 12 then netF (T 12) (prA n 0) j else T c j
theorem net_o {T : TT} {n c : Nat} (h : c ≠ 12) : netT T n c = T c := by funext j; exact if_neg h
theorem net_S {T : TT} {n m dx : Nat} (h : twS T n m dx) : twS (netT T n) n m dx := h
theorem s_nets {M : Mem} {n m dx tn : Nat} (h : Sim M n m dx tn)  : Two yX10_nets cX10_nets 4 (some .int) 2 yX11_nets cX11_nets 5 1 [] M n m dx tn := by
  have q := h.q
  have ag := q.ag
  have hO := q.okC
  have n8 := q.n8
  have m10 := q.m10
  have f12 : ∀ j, j < 64 → M.1 146 j = M.1 41 j := q.2.2.1.2.2.1
  have ek : ∀ a b, 140 ≤ a → (setI (setA M 41 (netF (M.1 41) (prA n 0))) 0 14 0).1 a b = M.1 a b := fun a b h140 => (sI_na (by omega)).trans (if_neg (by omega))
  have w1 : MW (setI (setA M 41 (netF (M.1 41) (prA n 0))) 0 14 0) n m := q.2.1.keep (ek _ _ (by omega)) (ek _ _ (by omega)) (fun _ _ => ek _ _ (by omega)) (fun _ _ => ek _ _ (by omega))
  have hC := c_X10_nets q.1
  have hM := c_X11_nets w1
  have e146 : (setI (setA M 41 (netF (M.1 41) (prA n 0))) 0 14 0).1 146 = M.1 146 := funext fun b => ek 146 b (by omega)
  rw [e146, netS_cg f12 n8] at hM
  have v1 : view (setI (setA (t0 (setI (setA M 41 (netF (M.1 41) (prA n 0))) 0 14 0)) 146 (netF (M.1 146) (prA n 0))) 140 32 0) 28 = netT (view M 28) n := by
    unfold t0
    rw [view_I (by omega), view_A (by omega), view_I (by omega), view_I (by omega)]
    funext c j
    unfold netT view
    by_cases hc : c < 15
    · rw [if_pos hc, if_pos hc]
      show (if 28 + 1 + c = 41 then netF (M.1 41) (prA n 0) j else M.1 (28 + 1 + c) j) = _
      by_cases h12 : c = 12
      · rw [if_pos h12, if_pos (by omega)]; rfl
      · rw [if_neg h12, if_neg (by omega)]
    · rw [if_neg hc, if_neg hc, if_neg (by omega)]
      exact setA_oo (by omega)
  have v2 : mv (setI (setA (t0 (setI (setA M 41 (netF (M.1 41) (prA n 0))) 0 14 0)) 146 (netF (M.1 146) (prA n 0))) 140 32 0) = netT (mv M) n := by
    rw [mv_I (by omega)]
    funext c j
    unfold netT
    by_cases h12 : c = 12
    · subst h12
      rw [if_pos rfl]
      exact setA_ee
    · rw [if_neg h12]
      by_cases hc : c ≠ 5 ∧ c < 20
      · rw [mv_mo hc, mv_mo hc]
        show (if mo c = 146 then _ else (t0 (setI (setA M 41 (netF (M.1 41) (prA n 0))) 0 14 0)).1 (mo c) (mj c j)) = _
        obtain ⟨m0, m3, mjj, m140⟩ := mo_0 (j := j) hc
        have hge : 140 ≤ mo c := by
          unfold mo
          repeat' split
          all_goals omega
        have hne : mo c ≠ 146 := by
          unfold mo
          repeat' split
          all_goals omega
        rw [if_neg hne, t0_o (fun z => m140 ⟨z.1, Or.inl z.2⟩), ek _ _ hge]
      · rw [mv_no hc, mv_no hc]
  refine two_t h hC hM ⟨fun a b q1 q2 q3 q4 => ?_, rfl⟩ ?_ ?_ sI_eq
  · rw [sI_ne (by omega)]
    by_cases z : a = 146
    · subst z
      have hb : ¬ b < 64 := fun hb => pK_no (c := 146) (i := b) q3 (by omega) ⟨rfl, rfl⟩
      rw [setA_ee]
      unfold netF
      have hp : prA n 0 (b / 8) (b % 8) = false := by
        unfold prA
        simp
        omega
      rw [if_neg (by rw [hp]; decide)]
    · rw [setA_oo z, t0_o (by omega), sI_ne (by omega), setA_oo (by omega)]
  · rw [v1, v2]
    refine ⟨net_S q.2.2.1.1, ?_, fun j hj => ?_, ?_, ?_⟩
    · refine ⟨⟨ag.1.1, ag.1.2.1, ag.1.2.2⟩, ag.2.1, fun i j hi hj => ?_, ag.2.2.2⟩
      exact netF_cg f12 (by omega)
    · exact netF_cg f12 hj
    · exact q.2.2.1.2.2.2.1
    · exact q.2.2.1.2.2.2.2
  · rw [sI_na (by omega)]
    rw [setA_oo (by omega), t0_o (by omega)]; exact sI_eq
/-- a town in which hidden coin was found -/
theorem sr_S {T : TT} {n m dx i : Nat} (h : twS T n m dx) (hi : i < n) : twS (setT (setT T 0 i (T 0 i - T 3 i)) 3 i 0) n m dx := by
  have e : ∀ b, b ≠ 0 → b ≠ 3 → setT (setT T 0 i (T 0 i - T 3 i)) 3 i 0 b = T b := fun b h0 h3 => by rw [setT_o h3, setT_o h0]
  obtain ⟨⟨⟨b1, b2, b3, b4⟩, b5, b6⟩, a2, a3, a4, a5, a6⟩ := h
  have hc : (T 0 i - T 3 i).toInt = (T 0 i).toInt - (T 3 i).toInt := OKT.cnt (OKS.T (m := m) ⟨b1, b2, b3, b4⟩) hi
  have e0 : setT (setT T 0 i (T 0 i - T 3 i)) 3 i 0 0 = setT T 0 i (T 0 i - T 3 i) 0 := setT_o (by omega)
  have ei : setT T 0 i (T 0 i - T 3 i) 0 i = T 0 i - T 3 i := if_pos ⟨rfl, rfl⟩
  have ej : ∀ j, j ≠ i → setT T 0 i (T 0 i - T 3 i) 0 j = T 0 j := fun j hj => if_neg fun z => hj z.2
  have h3i : setT (setT T 0 i (T 0 i - T 3 i)) 3 i 0 3 i = 0 := if_pos ⟨rfl, rfl⟩
  have h3j : ∀ j, j ≠ i → setT (setT T 0 i (T 0 i - T 3 i)) 3 i 0 3 j = T 3 j := fun j hj => by
    unfold setT
    rw [if_neg (fun z => hj z.2), if_neg (by omega)]
  have hsum := isum_put (f := fun j => (T 0 j).toInt) (g := fun j => (setT T 0 i (T 0 i - T 3 i) 0 j).toInt) hi (fun k hk => by show (setT T 0 i (T 0 i - T 3 i) 0 k).toInt = _; rw [ej k hk])
  have hsum2 : isum (fun j => (setT T 0 i (T 0 i - T 3 i) 0 j).toInt) n = isum (fun j => (T 0 j).toInt) n - (T 0 i).toInt + (setT T 0 i (T 0 i - T 3 i) 0 i).toInt := hsum
  rw [ei, hc] at hsum2
  have bi := b1 i hi
  refine ⟨⟨⟨fun j hj => ?_, ?_, ?_, ?_⟩, ?_, ?_⟩, ?_, ?_, ?_, ?_, ?_⟩
  · rw [e0, e 4 (by omega) (by omega)]
    by_cases z : j = i
    · rw [z, h3i, ei, hc, i_0]; omega
    · rw [h3j j z, ej j z]; exact b1 j hj
  · rw [e0]
    show isum (fun j => (setT T 0 i (T 0 i - T 3 i) 0 j).toInt) n ≤ 8000
    rw [hsum2]; omega
  · rw [e 14 (by omega) (by omega)]; exact b3
  · rw [e 8 (by omega) (by omega), e 9 (by omega) (by omega), e 6 (by omega) (by omega), e 7 (by omega) (by omega)]; exact b4
  · rw [e 15 (by omega) (by omega)]; exact b5
  · rw [e 16 (by omega) (by omega)]; exact b6
  · unfold AOK; rw [e 1 (by omega) (by omega), e 2 (by omega) (by omega)]; exact a2
  · rw [e0]
    show isum (fun j => (setT T 0 i (T 0 i - T 3 i) 0 j).toInt) n ≤ _
    rw [hsum2]; omega
  · rw [e 14 (by omega) (by omega)]; exact a4
  · rw [e 10 (by omega) (by omega), e 11 (by omega) (by omega)]; exact a5
  · rw [e 18 (by omega) (by omega)]; exact a6
theorem set0_D {T T' : TT} {n m i : Nat} {x : Int32} (h : agD T T' n m) : agD (setT T 0 i x) (setT T' 0 i x) n m := by
  refine ⟨⟨fun j hj => ⟨?_, (h.1.1 j hj).2⟩, h.1.2⟩, h.2⟩
  unfold setT
  split
  · rfl
  · exact (h.1.1 j hj).1
theorem rd_P {T T' : TT} {n m dx : Nat} {r : Int32} (h : twP T T' n m dx) : twP (setS T 19 r) (setS T' 19 r) n m dx := by
  obtain ⟨p1, p2, p3, p4, p5⟩ := h
  refine ⟨seed_S p1, p2, p3, ?_, p5⟩
  unfold setS; rw [if_pos rfl, if_pos rfl]
theorem srt_P {T T' : TT} {n m dx i : Nat} {r : Int32} (h : twP T T' n m dx) (hi : i < n) : twP (setT (setT (setS T 19 r) 0 i (T 0 i - T 3 i)) 3 i 0) (setT (setT (setS T' 19 r) 0 i (T 0 i - T 3 i)) 3 i 0) n m dx := by
  have h2 := rd_P (r := r) h
  have e0 : setS T 19 r 0 = T 0 := setS_o (by omega)
  have e3 : setS T 19 r 3 = T 3 := setS_o (by omega)
  refine twP_of h2 ?_ (set0_D h2.2.1).hid (fun c hc => by rw [setT_o (by omega), setT_o (by omega)]) (fun c hc => by rw [setT_o (by omega), setT_o (by omega)])
  rw [← e0, ← e3]
  exact sr_S h2.1 hi
theorem s_search {M : Mem} {n m dx tn : Nat} (h : Sim M n m dx tn) (y x : Int32) : Two yX10_search cX10_search 4 (some .int) 1 yX11_search cX11_search 4 2 [.int y, .int x] M n m dx tn := by
  have q := h.q
  have ag := q.ag
  have hO := q.okC
  have n8 := q.n8
  have m10 := q.m10
  have e16 : M.1 140 16 = M.1 28 19 := q.2.2.1.2.2.2.1
  obtain ⟨p1, p2, p3, p4, p5⟩ := q.2.2.1
  by_cases hx : (0 ≤ y ∧ y < nI n) ∧ 0 ≤ x ∧ x ≤ 10
  · obtain ⟨i, hi, rfl⟩ := rngI hx.1 (by omega)
    have hC := c_X10_search q.1 hi hx.2
    have ec : ∀ a b, ¬ (a = 0 ∧ b = 14) → ¬ (a = 28 ∧ b = 19) → (srC M).1 a b = M.1 a b := fun a b h1 h2 => by unfold srC; rw [sI_ne h2, sI_ne h1]
    have em : ∀ (N : Mem) a b, ¬ (a = 140 ∧ (b = 16 ∨ b = 21 ∨ b = 32)) → (srM N).1 a b = N.1 a b := fun N a b h1 => by unfold srM; rw [sI_ne (by omega), sI_ne (by omega), t0_o (by omega)]
    have e0 : ∀ N : Mem, (srM N).1 140 32 = 0 := fun N => sI_eq
    have vm : ∀ N : Mem, mv (srM N) = setS (mv N) 19 (rnd (N.1 140 16)) := fun N => by unfold srM; rw [mv_I (by omega), mv_16, t0_mv]
    have vv : ∀ N : Mem, view (srM N) 28 = view N 28 := fun N => by unfold srM t0; rw [view_I (by omega), view_I (by omega), view_I (by omega)]
    have vc : view (srC M) 28 = setS (view M 28) 19 (rnd (M.1 28 19)) := by unfold srC; rw [view_S (by omega), view_I (by omega)]
    have a141 : M.1 141 i = M.1 29 i := (ag.1.1 i hi).1
    have a144 : M.1 144 i = M.1 32 i := (ag.1.1 i hi).2.2.2.1
    by_cases hd : drw (M.1 28 19) < x
    · rw [if_pos hd, if_pos hd] at hC
      have ek : ∀ a b, 140 ≤ a → (setI (setI (srC M) 29 i (M.1 29 i - M.1 32 i)) 32 i 0).1 a b = M.1 a b := fun a b h140 => by rw [sI_na (by omega), sI_na (by omega), ec _ _ (by omega) (by omega)]
      have w1 : MW (setI (setI (srC M) 29 i (M.1 29 i - M.1 32 i)) 32 i 0) n m := q.2.1.keep (ek _ _ (by omega)) (ek _ _ (by omega)) (fun _ _ => ek _ _ (by omega)) (fun _ _ => ek _ _ (by omega))
      have hM := c_X11_search w1 hi hx.2
      rw [ek 140 16 (by omega), e16, if_pos hd, if_pos hd, ek 144 i (by omega), ek 141 i (by omega), a141, a144] at hM
      have f3 : ∀ (N : Mem) (u : Int32), view (setI N 32 i u) 28 = setT (view N 28) 3 i u := fun N u => view_set (M := N) (t := 28) (c := 3) (j := i) (x := u) (by omega)
      have f0 : ∀ (N : Mem) (u : Int32), view (setI N 29 i u) 28 = setT (view N 28) 0 i u := fun N u => view_set (M := N) (t := 28) (c := 0) (j := i) (x := u) (by omega)
      have g0 : ∀ (N : Mem) (u : Int32), mv (setI N 141 i u) = setT (mv N) 0 i u := fun N u => mv_set (M := N) (c := 0) (j := i) (x := u) (by omega) (by omega)
      refine two_t h hC hM ⟨fun a b q1 q2 q3 q4 => ?_, rfl⟩ ?_ ?_ ?_
      · rw [sI_ne (pK_no q3 (by omega)), sI_ne (pK_no q3 (by omega)), em _ _ _ (fun z => by
          rcases z.2 with y | y | y
          · exact pK_no (c := 140) (i := 16) q3 (by omega) ⟨z.1, y⟩
          · omega
          · omega), sI_ne (by omega), sI_ne (by omega), ec _ _ (by omega) (by omega)]
      · rw [view_I (by omega), view_I (by omega), vv, f3, f0, vc, mv_144, g0, vm, mv_eq (M := M) ek, ek 140 16 (by omega), e16]
        generalize rnd (M.1 28 19) = r
        exact srt_P q.2.2.1 hi
      · rw [sI_na (by omega), sI_na (by omega), em _ _ _ (by omega), sI_na (by omega), sI_na (by omega)]
        unfold srC
        rw [sI_na (by omega)]; exact sI_eq
      · rw [sI_na (by omega), sI_na (by omega)]; exact e0 _
    · rw [if_neg hd, if_neg hd] at hC
      have ek : ∀ a b, 140 ≤ a → (srC M).1 a b = M.1 a b := fun a b h140 => ec _ _ (by omega) (by omega)
      have w1 : MW (srC M) n m := q.2.1.keep (ek _ _ (by omega)) (ek _ _ (by omega)) (fun _ _ => ek _ _ (by omega)) (fun _ _ => ek _ _ (by omega))
      have hM := c_X11_search w1 hi hx.2
      rw [ek 140 16 (by omega), e16, if_neg hd, if_neg hd] at hM
      refine two_t h hC hM ⟨fun a b q1 q2 q3 q4 => ?_, rfl⟩ ?_ ?_ ?_
      · rw [em _ _ _ (fun z => by
          rcases z.2 with y | y | y
          · exact pK_no (c := 140) (i := 16) q3 (by omega) ⟨z.1, y⟩
          · omega
          · omega), ec _ _ (by omega) (by omega)]
      · rw [vv, vc, vm, mv_eq (M := M) ek, ek 140 16 (by omega), e16]
        generalize rnd (M.1 28 19) = r
        exact rd_P q.2.2.1
      · rw [em _ _ _ (by omega)]
        unfold srC
        rw [sI_na (by omega)]; exact sI_eq
      · exact e0 _
  · exact two_0 h (c_X10_search_no q.1 hx) (c_X11_search_no q.2.1 hx)
