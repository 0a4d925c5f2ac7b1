/-- the coin of all, as the class and the model count it -/
theorem fsum_is {f : Nat → Int32} : ∀ {n : Nat}, (∀ k, k < n → 0 ≤ (f k).toInt) → isum (fun i => (f i).toInt) n < 2147483648 → 0 ≤ isum (fun i => (f i).toInt) n ∧ (fsum f n).toInt = isum (fun i => (f i).toInt) n
  | 0, _, _ => ⟨Int.le_refl _, rfl⟩
  | n + 1, h, hb => by
    simp only [isum] at hb ⊢
    have hn := h n (by omega)
    obtain ⟨a1, a2⟩ := fsum_is (n := n) (fun k hk => h k (by omega)) (by omega)
    refine ⟨by omega, ?_⟩
    simp only [fsum]
    rw [i_add (by omega) (by omega), a2]
theorem coin_sum {T : TT} {n m : Nat} (h : OKS T n m) : ∃ S, fsum (T 0) n = nI S ∧ S ≤ 8000 ∧ ∀ f, f < n → ∀ c, c ≤ 8000 → nI c ≤ T 0 f - T 3 f → c ≤ S := by
  have hp : ∀ k, k < n → 0 ≤ (T 0 k).toInt := fun k hk => by have := h.1 k hk; omega
  have hs := h.2.1
  obtain ⟨a1, a2⟩ := fsum_is hp (by omega)
  obtain ⟨e, hb⟩ := i_nI (x := fsum (T 0) n) (by omega)
  refine ⟨(fsum (T 0) n).toNatClampNeg, e, ?_, fun f hf c hc hle => ?_⟩
  · rw [e, nI_toInt hb] at a2; omega
  · have h1 := isum_le (f := fun i => (T 0 i).toInt) hf hp
    rw [i_le, h.T.cnt hf, nI_toInt (by omega)] at hle
    have h3 := (h.1 f hf).1
    rw [e, nI_toInt hb] at a2
    have h1' : (T 0 f).toInt ≤ isum (fun i => (T 0 i).toInt) n := h1
    omega
theorem s_gift {M : Mem} {n m dx tn : Nat} (h : Sim M n m dx tn) (x : Int32) : Two yX10_gift cX10_gift 3 (some .int) 5 yX11_gift cX11_gift 10 5 [.int x] M n m dx tn := by
  have q := h.q
  have ag := q.ag
  have hO := q.okC
  have n8 := q.n8
  have m10 := q.m10
  by_cases hx : (0 ≤ x ∧ x < nI m) ∧ M.1 39 x.toNatClampNeg = 0
  · obtain ⟨k, hk, rfl⟩ := rngI hx.1 (by omega)
    have h10 : M.1 39 k = 0 := by have z := hx.2; rw [nI_clamp (by omega)] at z; exact z
    have e10 : M.1 151 k = M.1 39 k := (ag.1.2.1 k hk).2.2.2.2
    obtain ⟨-, -, o, g, ho, hg, hog, eo, eg⟩ := hO.1.2.2.2 k hk
    have e6 : M.1 147 k = M.1 35 k := (ag.1.2.1 k hk).1
    obtain ⟨S, eS, hS, hb⟩ := coin_sum hO.1
    have pe := payT_ag ag.1 hO.1 n8 hk
    refine two_q h (c_X10_gift q.1 hO.1.T ho hk h10 eo eS (by omega)) (fun v N hv => by
      rcases hv with ⟨-, -, f⟩ | ⟨-, ⟨c, f, -, -, -, hf, -⟩ | ⟨-, hf, -⟩⟩
      · exact ⟨f.1.V, SV_fr h.v f.1⟩
      · exact ⟨hf.V, SV_fr h.v hf⟩
      · exact ⟨hf.1.V, SV_fr h.v hf.1⟩) fun v N hv qN em => ?_
    have hM := c_X11_gift qN.2.1 qN.srt ho hk ((congrFun (congrFun em 10) k).trans (e10.trans h10)) qN.okM.1.T ((congrFun (congrFun em 6) k).trans (e6.trans eo))
    refine Con.mono hM fun v' K hk' => ?_
    obtain ⟨hg', hc⟩ := hk'
    rw [em, pe] at hc
    rcases hv with ⟨p1, rfl, f⟩ | ⟨p1, hv⟩
    · rcases hc with ⟨-, rfl, rfl⟩ | ⟨p2, -⟩
      · exact ⟨rfl, hg'.B, simW_k h.w f.W hg'.B (t0_o (by omega)) rfl⟩
      · exact absurd p2 p1
    · rcases hc with ⟨p2, -⟩ | ⟨-, hc⟩
      · exact absurd p1 p2
      · rcases hv with ⟨c, f, c1, c2, rfl, hf, hr⟩ | ⟨rfl, hf, c1⟩
        · rcases hc with ⟨c', f', d1, d2, rfl, hr2⟩ | ⟨rfl, -, d1⟩
          · obtain ⟨rfl, rfl⟩ := gLe_uniq c2 (gLe_ag ag.1 hO.1 n8 ho hk d2)
            rw [payT_ow (shT_ag ag.1 c2.2.1.1 ho) ⟨o, ho, eo⟩ n8 hk] at hr2
            exact ⟨rfl, hg'.B, simW_2 hr hg'.B hr2⟩
          · exact absurd ((gok_ag ag.1 hO.1 n8 ho hk).mpr c2.2.1) (d1 c f c2.1 (by omega))
        · rcases hc with ⟨c', f', d1, d2, rfl, hr2⟩ | ⟨rfl, rfl, d1⟩
          · have z := gLe_ag ag.1 hO.1 n8 ho hk d2
            exact absurd z.2.1 (c1 c' f' z.1 (hb f' z.2.1.1 c' d1 z.2.1.2.2.1))
          · exact ⟨rfl, hg'.B, simW_k h.w hf.W hg'.B (t0_o (by omega)) rfl⟩
  · refine two_0 h (c_X10_gift_no q.1 hx) (c_X11_gift_no q.2.1 fun z => hx ⟨z.1, ?_⟩)
    obtain ⟨k, hk, e⟩ := rngI z.1 (by omega)
    have z2 := z.2
    rw [e, nI_clamp (by omega)] at z2 ⊢
    exact (show M.1 151 k = M.1 39 k from (ag.1.2.1 k hk).2.2.2.2).symm.trans z2
theorem s_poorer {M : Mem} {n m dx tn : Nat} (h : Sim M n m dx tn) (x y : Int32) : Two yX10_poorer cX10_poorer 4 (some .int) 5 yX11_poorer cX11_poorer 9 4 [.int x, .int y] M n m dx tn := by
  have q := h.q
  have ag := q.ag
  have hO := q.okC
  have n8 := q.n8
  have m10 := q.m10
  by_cases hx : (0 ≤ x ∧ x < nI n) ∧ (0 ≤ y ∧ y < nI m) ∧ M.1 39 y.toNatClampNeg = 0
  · obtain ⟨i, hi, rfl⟩ := rngI hx.1 (by omega)
    obtain ⟨k, hk, rfl⟩ := rngI hx.2.1 (by omega)
    have h10 : M.1 39 k = 0 := by have z := hx.2.2; rw [nI_clamp (by omega)] at z; exact z
    have e10 : M.1 151 k = M.1 39 k := (ag.1.2.1 k hk).2.2.2.2
    have hT := hO.1.T
    have h1 := hO.1.1 i hi
    have h2 := hO.1.le hi
    have hc : (view M 28 0 i - view M 28 3 i).toInt = (view M 28 0 i).toInt - (view M 28 3 i).toInt := hT.cnt hi
    obtain ⟨eS, hb⟩ := i_nI (x := view M 28 0 i - view M 28 3 i) (by omega)
    have hS : (view M 28 0 i - view M 28 3 i).toNatClampNeg ≤ 8000 := by
      rw [eS, nI_toInt hb] at hc; omega
    have eC : mv M 0 i - mv M 3 i = nI (view M 28 0 i - view M 28 3 i).toNatClampNeg := by
      rw [(ag.1.1 i hi).1, (ag.1.1 i hi).2.2.2.1]; exact eS
    generalize (view M 28 0 i - view M 28 3 i).toNatClampNeg = S at eS hS eC hb
    have pe := mayT_ag ag.1 hO.1 n8 hk hi
    refine two_q h (c_X10_poorer q.1 hT hi hk h10 eS (by omega)) (fun v N hv => by
      rcases hv with ⟨-, -, f⟩ | ⟨-, ⟨c, f, -, -, -, hf, -⟩ | ⟨-, hf, -⟩⟩
      · exact ⟨f.1.V, SV_fr h.v f.1⟩
      · exact ⟨hf.V, SV_fr h.v hf⟩
      · exact ⟨hf.1.V, SV_fr h.v hf.1⟩) fun v N hv qN em => ?_
    have hM := c_X11_poorer qN.2.1 qN.srt hi hk ((congrFun (congrFun em 10) k).trans (e10.trans h10)) (C := S) (by rw [em]; exact eC) hS
    refine Con.mono hM fun v' K hk' => ?_
    obtain ⟨hg', hc⟩ := hk'
    rw [em, pe] at hc
    rcases hv with ⟨p1, rfl, f⟩ | ⟨p1, hv⟩
    · rcases hc with ⟨-, rfl, rfl⟩ | ⟨p2, -⟩
      · exact ⟨rfl, hg'.B, simW_k h.w f.W hg'.B (t0_o (by omega)) rfl⟩
      · rw [p1] at p2; cases p2
    · rcases hc with ⟨p2, -⟩ | ⟨-, hc⟩
      · rw [p1] at p2; cases p2
      · rcases hv with ⟨c, f, c1, c2, rfl, hf, hr⟩ | ⟨rfl, hf, c1⟩
        · rcases hc with ⟨c', f', d1, d2, rfl, hr2⟩ | ⟨rfl, -, d1⟩
          · obtain ⟨rfl, rfl⟩ := lLe_uniq c2 (lLe_ag ag.1 hO.1 n8 hi hk d2)
            exact ⟨rfl, hg'.B, simW_1 hr hg'.B hr2⟩
          · exact absurd ((lok_ag ag.1 hO.1 n8 hi hk).mpr c2.2.1) (d1 c f c2.1 c1)
        · rcases hc with ⟨c', f', d1, d2, rfl, hr2⟩ | ⟨rfl, rfl, d1⟩
          · have z := lLe_ag ag.1 hO.1 n8 hi hk d2
            exact absurd z.2.1 (c1 c' f' z.1 d1)
          · exact ⟨rfl, hg'.B, simW_k h.w hf.W hg'.B (t0_o (by omega)) rfl⟩
  · refine two_0 h (c_X10_poorer_no q.1 hx) (c_X11_poorer_no q.2.1 fun z => hx ⟨z.1, z.2.1, ?_⟩)
    obtain ⟨k, hk, e⟩ := rngI z.2.1 (by omega)
    have z2 := z.2.2
    rw [e, nI_clamp (by omega)] at z2 ⊢
    exact (show M.1 151 k = M.1 39 k from (ag.1.2.1 k hk).2.2.2.2).symm.trans z2
theorem lq_ag {T T' : TT} {n m : Nat} {these : Int32} (h : agV T T' n m) (hO : OKS T n m) (hn : n ≤ 8) (ht : thOK T m these) {S : SS} {s k i : Nat} : lq T' n these S s k i = lq T n these S s k i := by
  unfold lq lvQ
  by_cases q : bt these k = true ∧ bt (S.mk s) k = false
  · rw [if_pos q, if_pos q]
    have hk := (ht k q.1).1
    obtain ⟨-, -, o, g, ho, -, -, eo, -⟩ := hO.2.2.2 k hk
    rw [payT_ow (ldT_ag h (fun _ _ => rfl)) ⟨o, ho, by rw [ldT_o (by decide)]; exact eo⟩ hn hk]
  · rw [if_neg q, if_neg q]
theorem lq_k {T : TT} {n : Nat} {these : Int32} {S : SS} {s k i : Nat} (h : lq T n these S s k i = true) : bt these k = true := by
  unfold lq lvQ at h
  by_cases q : bt these k = true ∧ bt (S.mk s) k = false
  · exact q.1
  · rw [if_neg q, b_0] at h; cases h
theorem eg_ag {T T' : TT} {n m : Nat} {these : Int32} (h : agV T T' n m) (hO : OKS T n m) (hn : n ≤ 8) (ht : thOK T m these) {S : SS} {s k i t : Nat} (z : eg T' n these S s k i t) : eg T n these S s k i t := by
  have z1 := (lq_ag h hO hn ht).symm.trans z.1
  have hk := (ht k (lq_k z1)).1
  refine ⟨z1, ?_⟩
  have z2 := z.2
  unfold gK vK at z2 ⊢
  rw [(h.2.1 k hk).2.1, (h.2.1 k hk).2.2.1] at z2
  exact z2
theorem CX_ag {T T' : TT} {n m : Nat} {these : Int32} (h : agV T T' n m) (hO : OKS T n m) (hn : n ≤ 8) (ht : thOK T m these) {S : SS} {D : Nat → Nat × Nat × Nat} (z : CX T' n m these S D) : CX T n m these S D := by
  obtain ⟨⟨d, ⟨e0, e1, e2, e3, e4, e5⟩, e6⟩, p, c3, c4, c5⟩ := z
  refine ⟨⟨d, ⟨e0, e1, e2.trans (coT_ag h), e3, e4, e5⟩, fun s hs => ?_⟩, fun t t0 tN => ?_, c3, c4, fun t tN k i hl => ?_⟩
  · obtain ⟨f1, f2, f3, f4⟩ := e6 s hs
    exact ⟨f1, f2, f3.ag (ldT_ag h (fun _ _ => rfl)).symm, f4⟩
  · obtain ⟨f1, f2, f3⟩ := p t t0 tN
    have g2 := eg_ag h hO hn ht f2
    have hk := (ht _ (lq_k g2.1)).1
    refine ⟨f1, g2, f3.trans ?_⟩
    unfold cdE oK gK
    rw [(h.2.1 _ hk).1, (h.2.1 _ hk).2.1]
  · obtain ⟨u, u1, u2⟩ := c5 t tN k i ((lq_ag h hO hn ht).trans hl)
    exact ⟨u, eg_ag h hO hn ht u1, u2⟩
theorem adP_ag {T T' : TT} {n m : Nat} {these : Int32} (h : agV T T' n m) (hO : OKS T n m) (hn : n ≤ 8) (ht : thOK T m these) {S : SS} {k : Nat} : adP T' n these S k = adP T n these S k := by
  funext s
  unfold adP
  exact congrArg (fun f => anyB f 8) (funext fun i => lq_ag h hO hn ht)
theorem adF_ag {T T' : TT} {n m : Nat} {these : Int32} (h : agV T T' n m) (hO : OKS T n m) (hn : n ≤ 8) (ht : thOK T m these) {S : SS} {k : Nat} : ∀ {s : Nat}, adF T' n these S k s = adF T n these S k s
  | 0 => rfl
  | s + 1 => by
    simp only [adF]
    rw [adF_ag h hO hn ht (s := s), adP_ag h hO hn ht]
theorem s_all {M : Mem} {n m dx tn : Nat} (h : Sim M n m dx tn) (x : Int32) : Two yX10_all cX10_all 3 (some .int) 6 yX11_all cX11_all 6 5 [.int x] M n m dx tn := by
  have q := h.q
  have ag := q.ag
  have hO := q.okC
  have n8 := q.n8
  have m10 := q.m10
  have aC := q.aC
  by_cases hx : 0 ≤ x ∧ x ≤ 99
  · refine two_q h (c_X10_all q.1 hO.1 h.v aC hx) (fun v N hv => by
      obtain ⟨hs, ⟨-, hf, -⟩ | ⟨-, -, hf⟩⟩ := hv
      · exact ⟨hf, VS_SV hs hf hO.1 n8 m10⟩
      · exact ⟨hf.1, VS_SV hs hf.1 hO.1 n8 m10⟩) fun v N hv qN em => ?_
    refine Con.mono (c_X11_all qN.2.1 qN.srt qN.okM.1 qN.aM hx) fun v' K hk => ?_
    have ev : vis (mv M) n m (thV (mv M) m x) = vsX (view M 28) n m x := vsX_ag ag.1 hO.1 n8 m10
    rw [em, ev, thV_ag ag.1] at hk
    obtain ⟨-, ⟨b1, hf, hv⟩ | ⟨b1, rfl, hf⟩⟩ := hv
    · rcases hk with ⟨-, hk⟩ | ⟨b2, -⟩
      · rcases hv with ⟨c1, rfl, hf2⟩ | ⟨b, D, c1, rfl, c2, hr⟩
        · rcases hk with ⟨-, rfl, hg⟩ | ⟨b', D', d1, -⟩
          · exact ⟨rfl, hg.1.B, simW_k h.w hf2 hg.1.B hg.2.1 hg.2.2⟩
          · rw [c1] at d1; cases d1
        · rcases hk with ⟨d1, -⟩ | ⟨b', D', d1, rfl, hg, d2, hr2⟩
          · rw [c1] at d1; cases d1
          · have hbN := (ceN_lt c1).1
            have e := Option.some.inj (c1.symm.trans d1)
            subst e
            have hl : pcS (vsX (view M 28) n m x).1.2 b ≤ 10 := pcN_le
            refine ⟨rfl, hg.B, simW_N hl hr hg.B ⟨hr2.1, fun j hj => (hr2.2 j hj).trans ?_⟩⟩
            show (nI (pyD D' b _)).toInt64 = (nI (pyD D b _)).toInt64
            rw [pyD_uniq (thV_OK m10) n8 m10 hO.1 (CX_ag ag.1 hO.1 n8 (thV_OK m10) d2) c2 hbN (by omega)]
      · rw [b1] at b2; cases b2
    · rcases hk with ⟨b2, -⟩ | ⟨-, rfl, hg⟩
      · rw [b1] at b2; cases b2
      · exact ⟨rfl, hg.1.B, simW_k h.w hf hg.1.B hg.2.1 hg.2.2⟩
  · exact two_0 h (c_X10_all_no hx) (c_X11_all_no hx)
theorem s_ahead {M : Mem} {n m dx tn : Nat} (h : Sim M n m dx tn) (y x : Int32) : Two yX10_ahead cX10_ahead 3 (some .int) 6 yX11_ahead cX11_ahead 7 5 [.int y, .int x] M n m dx tn := by
  have q := h.q
  have ag := q.ag
  have hO := q.okC
  have n8 := q.n8
  have m10 := q.m10
  have aC := q.aC
  by_cases hx : (0 ≤ y ∧ y < nI m) ∧ 0 ≤ x ∧ x ≤ 99
  · obtain ⟨k, hk, rfl⟩ := rngI hx.1 (by omega)
    refine two_q h (c_X10_ahead q.1 hO.1 h.v aC hx.2 hk) (fun v N hv => by
      obtain ⟨hs, ⟨-, hf, -⟩ | ⟨-, -, hf⟩⟩ := hv
      · exact ⟨hf, VS_SV hs hf hO.1 n8 m10⟩
      · exact ⟨hf.1, VS_SV hs hf.1 hO.1 n8 m10⟩) fun v N hv qN em => ?_
    refine Con.mono (c_X11_ahead qN.2.1 qN.srt qN.okM.1 qN.aM hx.2 hk) fun v' K hk' => ?_
    have ev : vis (mv M) n m (thV (mv M) m x) = vsX (view M 28) n m x := vsX_ag ag.1 hO.1 n8 m10
    rw [em, ev, thV_ag ag.1] at hk'
    obtain ⟨-, ⟨b1, -, rfl, hf⟩ | ⟨b1, rfl, hf⟩⟩ := hv
    · rcases hk' with ⟨-, hg, rfl⟩ | ⟨b2, -⟩
      · rw [adP_ag ag.1 hO.1 n8 (thV_OK m10), adF_ag ag.1 hO.1 n8 (thV_OK m10)]
        exact ⟨rfl, hg.1.B, simW_k h.w hf hg.1.B hg.2.1 hg.2.2⟩
      · rw [b1] at b2; cases b2
    · rcases hk' with ⟨b2, -⟩ | ⟨-, rfl, hg⟩
      · rw [b1] at b2; cases b2
      · exact ⟨rfl, hg.1.B, simW_k h.w hf hg.1.B hg.2.1 hg.2.2⟩
  · exact two_0 h (c_X10_ahead_no q.1 hx) (c_X11_ahead_no q.2.1.2.2.1 m10 hx)
