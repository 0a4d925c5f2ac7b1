theorem gotT_ag {T T' : TT} {n m : Nat} (h : agV T T' n m) {mk : Int32} {i : Nat} : gotT T' m mk i = gotT T m mk i := by
  unfold gotT
  exact fsum_congr fun k hk => by rw [(h.2.1 k hk).2.1, (h.2.1 k hk).2.2.1]
theorem pyS_ag {T T' : TT} {n m : Nat} (h : agV T T' n m) {S : SS} : pyS T' n m S = pyS T n m S := by
  funext s
  unfold pyS ptS
  exact fbor_congr fun i hi => by rw [gotT_ag h, (h.1 i hi).1]
theorem VS_ag {N : Mem} {T T' : TT} {n m : Nat} {x : Int32} (h : VS N T n m x) (e : agV T T' n m) (hO : OKS T n m) (hn : n ≤ 8) (hm : m ≤ 10) : VS N T' n m x := by
  obtain ⟨a1, a2, a3, a4, a5, a6, a7, a8, a9⟩ := h
  have ev : vsX T' n m x = vsX T n m x := vsX_ag e hO hn hm
  unfold VS
  rw [ev, thV_ag e]
  exact ⟨a1, a2, e.symm.trans a3, a4, a5, a6, a7, a8, a9⟩
theorem fcV_al {M N : Mem} (f : fcV M N) : alk (view M 28) (view N 28) := fun c h5 h20 => view_same (M := M) (M' := N) (t := 28) (fun c' h1 h2 => by funext j; exact f.1 _ _ (by unfold scr; omega) (by omega) (by omega)) c h5 h20
theorem VS_SV {M N : Mem} {n m : Nat} {x : Int32} (h : VS N (view M 28) n m x) (f : fcV M N) (hO : OKS (view M 28) n m) (hn : n ≤ 8) (hm : m ≤ 10) : SV N n m := by
  refine VS_sv (x := x) (srt := view N 28 14 0) ?_ hn hm
  rw [setT_id]
  exact VS_ag h (alk_D (fcV_al f)).1 hO hn hm
theorem bsF_ag {T T' : TT} {n m : Nat} (h : agV T T' n m) {k : Nat} (hk : k < m) {b : Int32} : ∀ {i : Nat}, i ≤ n → bsF T' k b i = bsF T k b i
  | 0, _ => rfl
  | i + 1, hi => by
    simp only [bsF]
    rw [bsF_ag h hk (i := i) (by omega)]
    cases hb : bsF T k b i with
    | none => rfl
    | some c =>
      have hc := bsF_lt hb
      dsimp only
      rw [prT_ag h hk (show i < n by omega), prT_ag h hk (show c < n by omega)]
theorem simW_0 {N K : Mem} (h : N.1 4 1 = 0) (g : frB N K) (h2 : K.1 140 20 = 0) : simW K :=
  ⟨0, by omega, (frB_row g).1.trans h, h2, fun j hj => absurd hj (Nat.not_lt_zero _)⟩
theorem s_most {M : Mem} {n m dx tn : Nat} (h : Sim M n m dx tn) (x : Int32) : Two yX10_most cX10_most 2 (some .int) 6 yX11_most cX11_most 4 5 [.int x] M n m dx tn := by
  have q := h.q
  have ag := q.ag
  have hO := q.okC
  have n8 := q.n8
  have m10 := q.m10
  have aC := q.aC
  by_cases hx : 0 ≤ x ∧ x ≤ 99
  · refine two_q h (c_X10_most q.1 hO.1 h.v aC hx) (fun v N hv => by
      obtain ⟨hs, ⟨-, hf, -⟩ | ⟨-, -, hf⟩⟩ := hv
      · exact ⟨hf, VS_SV hs hf hO.1 n8 m10⟩
      · exact ⟨hf.1, VS_SV hs hf.1 hO.1 n8 m10⟩) fun v N hv qN em => ?_
    refine Con.mono (c_X11_most qN.2.1 qN.srt qN.okM.1 qN.aM hx) fun v' K hk => ?_
    have ev : vis (mv M) n m (thV (mv M) m x) = vsX (view M 28) n m x := vsX_ag ag.1 hO.1 n8 m10
    rw [em, ev] at hk
    obtain ⟨-, ⟨b1, hf, rfl, hr⟩ | ⟨b1, rfl, hf⟩⟩ := hv
    · rcases hk with ⟨-, hg, rfl, hr2⟩ | ⟨b2, -⟩
      · refine ⟨rfl, hg.B, simW_2 hr hg.B ?_⟩
        rw [show (fun s => sumT (view M 28) m ((vsX (view M 28) n m x).1.2.mk s)) = fun s => sumT (mv M) m ((vsX (view M 28) n m x).1.2.mk s) from funext fun s => (sumT_ag ag.1).symm]
        exact hr2
      · rw [b1] at b2; cases b2
    · rcases hk with ⟨b2, -⟩ | ⟨-, rfl, hg⟩
      · rw [b1] at b2; cases b2
      · exact ⟨rfl, hg.1.B, simW_k h.w hf hg.1.B hg.2.1 hg.2.2⟩
  · exact two_0 h (c_X10_most_no hx) (c_X11_most_no hx)
theorem s_never {M : Mem} {n m dx tn : Nat} (h : Sim M n m dx tn) (x : Int32) : Two yX10_never cX10_never 2 (some .int) 6 yX11_never cX11_never 4 5 [.int x] M n m dx tn := by
  have q := h.q
  have ag := q.ag
  have hO := q.okC
  have n8 := q.n8
  have m10 := q.m10
  have aC := q.aC
  by_cases hx : 0 ≤ x ∧ x ≤ 99
  · refine two_q h (c_X10_never q.1 hO.1 h.v aC hx) (fun v N hv => by
      obtain ⟨hs, ⟨-, hf, -⟩ | ⟨-, -, hf⟩⟩ := hv
      · exact ⟨hf, VS_SV hs hf hO.1 n8 m10⟩
      · exact ⟨hf.1, VS_SV hs hf.1 hO.1 n8 m10⟩) fun v N hv qN em => ?_
    refine Con.mono (c_X11_never qN.2.1 qN.srt qN.okM.1 qN.aM hx) fun v' K hk => ?_
    have ev : vis (mv M) n m (thV (mv M) m x) = vsX (view M 28) n m x := vsX_ag ag.1 hO.1 n8 m10
    rw [em, ev] at hk
    rw [thV_ag ag.1] at hk
    obtain ⟨-, ⟨b1, -, rfl, hf⟩ | ⟨b1, rfl, hf⟩⟩ := hv
    · rcases hk with ⟨-, -, rfl, hg⟩ | ⟨b2, -⟩
      · exact ⟨rfl, hg.1.B, simW_k h.w hf hg.1.B hg.2.1 hg.2.2⟩
      · rw [b1] at b2; cases b2
    · rcases hk with ⟨b2, -⟩ | ⟨-, rfl, hg⟩
      · rw [b1] at b2; cases b2
      · exact ⟨rfl, hg.1.B, simW_k h.w hf hg.1.B hg.2.1 hg.2.2⟩
  · exact two_0 h (c_X10_never_no hx) (c_X11_never_no hx)
theorem s_ways {M : Mem} {n m dx tn : Nat} (h : Sim M n m dx tn) (x : Int32) : Two yX10_ways cX10_ways 4 (some .long) 6 yX11_ways cX11_ways 9 5 [.int x] M n m dx tn := by
  have q := h.q
  have ag := q.ag
  have hO := q.okC
  have n8 := q.n8
  have m10 := q.m10
  have aC := q.aC
  by_cases hx : 0 ≤ x ∧ x ≤ 99
  · refine two_q h (c_X10_ways q.1 hO.1 h.v aC hx) (fun v N hv => by
      obtain ⟨hs, ⟨-, hf, -⟩ | ⟨-, -, hf⟩⟩ := hv
      · exact ⟨hf, VS_SV hs hf hO.1 n8 m10⟩
      · exact ⟨hf.1, VS_SV hs hf.1 hO.1 n8 m10⟩) fun v N hv qN em => ?_
    refine Con.mono (c_X11_ways qN.2.1 qN.srt qN.okM.1 qN.aM hx) fun v' K hk => ?_
    have ev : vis (mv M) n m (thV (mv M) m x) = vsX (view M 28) n m x := vsX_ag ag.1 hO.1 n8 m10
    rw [em, ev] at hk
    rw [thV_ag ag.1, pyS_ag ag.1] at hk
    obtain ⟨-, ⟨b1, -, rfl, hw⟩ | ⟨b1, rfl, hf⟩⟩ := hv
    · rcases hk with ⟨-, rfl, hk⟩ | ⟨b2, -⟩
      · rcases hw with ⟨p1, hr⟩ | ⟨p1, hf⟩
        · rcases hk with ⟨-, hg, hr2⟩ | ⟨p2, -⟩
          · exact ⟨rfl, hg.B, simW_1 hr hg.B hr2⟩
          · exact absurd p1 p2
        · rcases hk with ⟨p2, -⟩ | ⟨-, hg⟩
          · exact absurd p2 p1
          · exact ⟨rfl, hg.1.B, simW_k h.w hf hg.1.B hg.2.1 hg.2.2⟩
      · rw [b1] at b2; cases b2
    · rcases hk with ⟨b2, -⟩ | ⟨-, rfl, hg⟩
      · rw [b1] at b2; cases b2
      · exact ⟨rfl, hg.1.B, simW_k h.w hf hg.1.B hg.2.1 hg.2.2⟩
  · exact two_0 h (c_X10_ways_no hx) (c_X11_ways_no hx)
theorem s_fewest {M : Mem} {n m dx tn : Nat} (h : Sim M n m dx tn) (x : Int32) : Two yX10_fewest cX10_fewest 3 (some .int) 6 yX11_fewest cX11_fewest 4 5 [.int x] M n m dx tn := by
  have q := h.q
  have ag := q.ag
  have hO := q.okC
  have n8 := q.n8
  have m10 := q.m10
  have aC := q.aC
  by_cases hx : 0 ≤ x ∧ x ≤ 99
  · refine two_q h (c_X10_fewest q.1 hO.1 h.v aC hx) (fun v N hv => by
      obtain ⟨hs, ⟨-, hf, -⟩ | ⟨-, -, hf⟩⟩ := hv
      · exact ⟨hf, VS_SV hs hf hO.1 n8 m10⟩
      · exact ⟨hf.1, VS_SV hs hf.1 hO.1 n8 m10⟩) fun v N hv qN em => ?_
    refine Con.mono (c_X11_fewest qN.2.1 qN.srt qN.okM.1 qN.aM hx) fun v' K hk => ?_
    have ev : vis (mv M) n m (thV (mv M) m x) = vsX (view M 28) n m x := vsX_ag ag.1 hO.1 n8 m10
    rw [em, ev] at hk
    rw [thV_ag ag.1, pyS_ag ag.1] at hk
    obtain ⟨-, ⟨b1, -, hw⟩ | ⟨b1, rfl, hf⟩⟩ := hv
    · rcases hk with ⟨-, hk⟩ | ⟨b2, -⟩
      · rcases hw with ⟨p1, rfl, hf⟩ | ⟨p1, rfl, hr⟩
        · rcases hk with ⟨-, rfl, hg⟩ | ⟨p2, -⟩
          · exact ⟨rfl, hg.1.B, simW_k h.w hf hg.1.B hg.2.1 hg.2.2⟩
          · exact absurd p1 p2
        · rcases hk with ⟨p2, -⟩ | ⟨-, rfl, hg, hr2⟩
          · exact absurd p2 p1
          · exact ⟨rfl, hg.B, simW_1 hr hg.B hr2⟩
      · rw [b1] at b2; cases b2
    · rcases hk with ⟨b2, -⟩ | ⟨-, rfl, hg⟩
      · rw [b1] at b2; cases b2
      · exact ⟨rfl, hg.1.B, simW_k h.w hf hg.1.B hg.2.1 hg.2.2⟩
  · exact two_0 h (c_X10_fewest_no hx) (c_X11_fewest_no hx)
theorem s_sorts {M : Mem} {n m dx tn : Nat} (h : Sim M n m dx tn) (x : Int32) : Two yX10_sorts cX10_sorts 7 (some .int) 5 yX11_sorts cX11_sorts 9 5 [.int x] M n m dx tn := by
  have q := h.q
  have ag := q.ag
  have hO := q.okC
  have n8 := q.n8
  have m10 := q.m10
  have aC := q.aC
  by_cases hx : 0 ≤ x ∧ x ≤ 99
  · refine two_q h (c_X10_sorts q.1 hO.1 h.v aC hx) (fun v N hv => by
      obtain ⟨hs, ⟨-, -, hf, -⟩ | ⟨-, -, hf⟩⟩ := hv
      · exact ⟨hf, hs⟩
      · exact ⟨hf.1, hs⟩) fun v N hv qN em => ?_
    refine Con.mono (c_X11_sorts qN.2.1 qN.okM.1 qN.aM hx) fun v' K hk => ?_
    have es : vsS (mv M) n m x = vsS (view M 28) n m x := funext fun j => by
      have hp : OKS (setT (view M 28) 14 0 (nI j)) n m := (hO.put (x := nI j)).1
      unfold vsS
      rw [thV_ag ag.1, vis_ag n8 m10 (ag.put (x := nI j)).1 hp fun i hi => by have := hp.1 i hi; omega]
    have emp : mpS (mv M) n m x = mpS (view M 28) n m x := funext fun j => by
      unfold mpS
      rw [es]
    rw [em, es, emp] at hk
    obtain ⟨-, ⟨b1, rfl, hf, hr⟩ | ⟨b1, rfl, hf⟩⟩ := hv
    · rcases hk with ⟨-, rfl, hg, hr2⟩ | ⟨⟨j, hj, b2⟩, -⟩
      · refine ⟨rfl, hg.B, ⟨4, by omega, (frB_row hg.B).1.trans hr.1, hr2.1, fun j hj => ?_⟩⟩
        rw [(frB_row hg.B).2, hr.2 j hj]
        rcases (show j = 0 ∨ j = 1 ∨ j = 2 ∨ j = 3 by omega) with y | y | y | y
        · rw [y]; exact hr2.2.1
        · rw [y]; exact hr2.2.2.1
        · rw [y]; exact hr2.2.2.2.1
        · rw [y]; exact hr2.2.2.2.2
      · rw [b1 j hj] at b2; cases b2
    · rcases hk with ⟨b2, -⟩ | ⟨-, rfl, hg⟩
      · obtain ⟨j, hj, b3⟩ := b1
        rw [b2 j hj] at b3; cases b3
      · exact ⟨rfl, hg.1.B, simW_k h.w hf hg.1.B hg.2.1 hg.2.2⟩
  · exact two_0 h (c_X10_sorts_no hx) (c_X11_sorts_no hx)
theorem s_count {M : Mem} {n m dx tn : Nat} (h : Sim M n m dx tn) (x : Int32) : Two yX10_count cX10_count 2 (some .int) 2 yX11_count cX11_count 4 0 [.int x] M n m dx tn := by
  have q := h.q
  have ag := q.ag
  have hO := q.okC
  have n8 := q.n8
  have m10 := q.m10
  refine two_0 h (c_X10_count q.1) ?_
  have e : cntM M n m x = cntC M n m x := by
    obtain ⟨u, -, u1, u2, -⟩ := q.2.2.2.2.2.2.1
    obtain ⟨t, -, t1, t2, -⟩ := q.2.2.2.2.1
    obtain ⟨s, -, r1, r2, -⟩ := h.w
    obtain ⟨c, -, l1, l2, -⟩ := q.2.2.1.2.2.2.2
    have l1 : M.1 28 17 = nI c := l1
    have l2 : M.1 140 34 = nI c := l2
    unfold cntM cntC
    rw [u1, u2, t1, t2, r1, r2, l1, l2, fbor_congr (q := fun k => decide (M.1 39 k = 0)) (fun k hk => by rw [show M.1 151 k = M.1 39 k from (ag.1.2.1 k hk).2.2.2.2]), fsum_congr (g := M.1 29) (fun i hi => show M.1 141 i = M.1 29 i from (ag.1.1 i hi).1)]
  rw [← e]
  exact c_X11_count q.2.1
theorem s_may {M : Mem} {n m dx tn : Nat} (h : Sim M n m dx tn) (x : Int32) : Two yX10_may cX10_may 3 (some .int) 3 yX11_may_ cX11_may_ 5 5 [.int x] M n m dx tn := by
  have q := h.q
  have ag := q.ag
  have hO := q.okC
  have n8 := q.n8
  have m10 := q.m10
  have aC := q.aC
  by_cases hx : 0 ≤ x ∧ x < nI m
  · obtain ⟨k, hk, rfl⟩ := rngI hx (by omega)
    refine two_q h (c_X10_may q.1 hO.1 aC hk) (fun v N hv => ⟨hv.2.1.V, SV_fr h.v hv.2.1⟩) fun v N hv qN em => ?_
    obtain ⟨rfl, hf, hr⟩ := hv
    refine Con.mono (c_X11_may_ qN.2.1 qN.k01 qN.srt hk) fun v' K hk2 => ?_
    obtain ⟨rfl, hg, hr2⟩ := hk2
    rw [em, payT_ag ag.1 hO.1 n8 hk] at hr2 ⊢
    rw [bsF_ag ag.1 hk (Nat.le_refl _)] at hr2
    refine ⟨rfl, hg.B, ?_⟩
    cases hb : bsF (view M 28) k (payT (view M 28) n k) n with
    | none =>
      rw [hb] at hr hr2
      exact simW_0 hr hg.B hr2
    | some c =>
      rw [hb] at hr hr2
      have hr2 : row2 K (prT (mv M) c k).toInt64 (nI c).toInt64 := hr2
      rw [prT_ag ag.1 hk (bsF_lt hb)] at hr2
      exact simW_2 hr hg.B hr2
  · exact two_0 h (c_X10_may_no q.1 hx) (c_X11_may__no q.2.1 hx)
theorem s_willing {M : Mem} {n m dx tn : Nat} (h : Sim M n m dx tn) (x : Int32) : Two yX10_willing cX10_willing 3 (some .int) 5 yX11_willing cX11_willing 3 174 [.int x] M n m dx tn := by
  have q := h.q
  have ag := q.ag
  have hO := q.okC
  have n8 := q.n8
  have m10 := q.m10
  by_cases hx : 0 ≤ x ∧ x < nI m
  · obtain ⟨k, hk, rfl⟩ := rngI hx (by omega)
    obtain ⟨z, L, hz, hz2, -⟩ := q.MR
    refine two_q h (c_X10_willing q.1 hO.1 hk hz2 hz) (fun v N hv => by
      rcases hv with ⟨-, -, hf, -⟩ | ⟨-, -, hf⟩
      · exact ⟨hf.V, SV_fr h.v hf⟩
      · exact ⟨hf.1.V, SV_fr h.v hf.1⟩) fun v N hv qN em => ?_
    have hfr : fcR M N := by
      rcases hv with ⟨-, -, hf, -⟩ | ⟨-, -, hf⟩
      · exact hf
      · exact hf.1
    obtain ⟨z', L', hz', hz2', r⟩ := qN.MR
    have ez : z' = z := by
      have e1 := hfr.1 7 2 (by unfold scr; omega) (by omega)
      rw [hz2, hz2'] at e1
      have e2 := congrArg Int32.toInt e1
      rw [nI_toInt (by omega), nI_toInt (by omega)] at e2
      omega
    have e8 : N.1 8 = M.1 8 := funext fun j => hfr.1 8 j (by unfold scr; omega) (by omega)
    rw [e8, ez] at r
    refine Con.mono (c_X11_willing r hk) fun v' K hk2 => ?_
    rw [em, wilT_ag ag hO.1 n8 hk] at hk2
    obtain ⟨hg, hk2⟩ := hk2
    rcases hv with ⟨b1, rfl, hf, hr⟩ | ⟨b1, rfl, hf⟩
    · rcases hk2 with ⟨-, rfl, hr2⟩ | ⟨b2, -⟩
      · exact ⟨rfl, hg.B, simW_1 hr hg.B hr2⟩
      · exact absurd b1 b2
    · rcases hk2 with ⟨b2, -⟩ | ⟨-, rfl, g1, g2⟩
      · exact absurd b2 b1
      · exact ⟨rfl, hg.B, simW_k h.w hf.W hg.B g1 (by rw [g2])⟩
  · exact two_0 h (c_X10_willing_no q.1 hx) (c_X11_willing_no q.2.1 hx)
