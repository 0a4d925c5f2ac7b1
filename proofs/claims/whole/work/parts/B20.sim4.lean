theorem s_today {M : Mem} {n m dx tn : Nat} (h : Sim M n m dx tn)  : Two yX10_today cX10_today 1 (some .int) 0 yX11_today cX11_today 1 0 [] M n m dx tn := by
  refine two_0 h c_X10_today ?_
  have e : M.1 140 15 = M.1 28 18 := h.q.ag.2.2.2.2
  rw [← e]
  exact c_X11_today
theorem s_below {M : Mem} {n m dx tn : Nat} (h : Sim M n m dx tn) (x : Int32) : Two yX10_below cX10_below 2 (some .int) 2 yX11_below cX11_below 4 3 [.int x] M n m dx tn := by
  have q := h.q
  have ag := q.ag
  have hO := q.okC
  have n8 := q.n8
  have m10 := q.m10
  by_cases hx : 0 ≤ x ∧ x < nI n
  · obtain ⟨i, hi, rfl⟩ := rngI hx (by omega)
    refine two_q h (c_X10_below q.1 hO.1.T hi) (fun v N hv => by rw [hv.2]; exact ⟨fcK_L.W.1, SV_fr h.v fcK_L.1⟩) fun v N hv qN em => ?_
    obtain ⟨rfl, rfl⟩ := hv
    refine Con.mono (c_X11_below qN.2.1 qN.srt hi) fun v' K hk => ?_
    obtain ⟨rfl, rfl⟩ := hk
    refine ⟨?_, frQ_t0.B, simW_k h.w fcK_L.W frQ_t0.B (t0_o (by omega)) rfl⟩
    rw [em, ag.1.2.2.1, ag.1.2.2.2.1]
    refine congrArg (fun z => some (Value.int z)) (fbor_congr fun o ho => ?_)
    rw [blw_congr (L := onT (mv M)) (L' := onT (view M 28)) (fun j hj => onT_ag ag.1 hj) hi ho]
  · exact two_0 h (c_X10_below_no q.1 hx) (c_X11_below_no q.2.1 hx)
theorem s_flow {M : Mem} {n m dx tn : Nat} (h : Sim M n m dx tn) (x : Int32) : Two yX10_flow cX10_flow 2 (some .int) 4 yX11_flow cX11_flow 5 7 [.int x] M n m dx tn := by
  have q := h.q
  have ag := q.ag
  have hO := q.okC
  have n8 := q.n8
  have m10 := q.m10
  by_cases hx : 0 ≤ x ∧ x ≤ 99
  · refine two_q h (c_X10_flow q.1 hO.1 hx) (fun v N hv => ⟨hv.2.1.V, SV_fr h.v hv.2.1⟩) fun v N hv qN em => ?_
    obtain ⟨rfl, hf, hr⟩ := hv
    refine Con.mono (c_X11_flow qN.2.1 qN.srt hx) fun v' K hk => ?_
    obtain ⟨rfl, hg, hr2⟩ := hk
    have e0 : N.1 153 0 = M.1 43 0 := by rw [qN.s0]; exact hf.1 43 0 (by unfold scr; omega) (by omega)
    rw [em, e0, thV_ag ag.1] at hr2 ⊢
    rw [floT_ag ag.1 hO.1 n8]
    rw [notT_ag ag.1 hO.1 n8] at hr2
    exact ⟨rfl, hg.B, simW_1 hr hg.B hr2⟩
  · exact two_0 h (c_X10_flow_no hx) (c_X11_flow_no hx)
theorem s_proof {M : Mem} {n m dx tn : Nat} (h : Sim M n m dx tn) (x : Int32) : Two yX10_proof cX10_proof 3 (some .int) 4 yX11_proof cX11_proof 5 7 [.int x] M n m dx tn := by
  have q := h.q
  have ag := q.ag
  have hO := q.okC
  have n8 := q.n8
  have m10 := q.m10
  by_cases hx : 0 ≤ x ∧ x ≤ 99
  · refine two_q h (c_X10_proof q.1 hO.1 hx) (fun v N hv => by obtain ⟨W, -, -, -, -, hf, -⟩ := hv; exact ⟨hf.V, SV_fr h.v hf⟩) fun v N hv qN em => ?_
    obtain ⟨W, w1, w2, w3, rfl, hf, hr⟩ := hv
    have e0 : N.1 153 0 = M.1 43 0 := by rw [qN.s0]; exact hf.1 43 0 (by unfold scr; omega) (by omega)
    refine Con.mono (c_X11_proof qN.2.1 qN.srt hx (W := W) w1 ?_ ?_) fun v' K hk => ?_
    · rw [em, e0, thV_ag ag.1, bdT_ag ag.1 hO.1 n8, floT_ag ag.1 hO.1 n8]; exact w2
    · intro q hq
      rw [em, e0, thV_ag ag.1, bdT_ag ag.1 hO.1 n8, floT_ag ag.1 hO.1 n8]; exact w3 q hq
    · obtain ⟨rfl, hg, hr2⟩ := hk
      rw [em, e0, thV_ag ag.1, lfT_ag ag.1 hO.1 n8, sumT_ag ag.1] at hr2
      exact ⟨rfl, hg.B, simW_2 hr hg.B hr2⟩
  · exact two_0 h (c_X10_proof_no hx) (c_X11_proof_no hx)
theorem s_gap {M : Mem} {n m dx tn : Nat} (h : Sim M n m dx tn) (y x : Int32) : Two yX10_gap cX10_gap 4 (some .int) 4 yX11_gap cX11_gap 7 7 [.int y, .int x] M n m dx tn := by
  have q := h.q
  have ag := q.ag
  have hO := q.okC
  have n8 := q.n8
  have m10 := q.m10
  by_cases hx : (0 ≤ y ∧ y ≤ 3) ∧ 0 ≤ x ∧ x ≤ 99
  · refine two_q h (c_X10_gap q.1 hO.1 hx.2 hx.1) (fun v N hv => ⟨hv.2.1.V, SV_fr h.v hv.2.1⟩) fun v N hv qN em => ?_
    obtain ⟨rfl, hf⟩ := hv
    have e0 : N.1 153 0 = M.1 43 0 := by rw [qN.s0]; exact hf.1.1 43 0 (by unfold scr; omega) (by omega)
    have hys : sortOK y := by
      obtain ⟨j, hj, rfl⟩ := rngJ (n := 3) hx.1 (by omega)
      exact sort_nI (by omega)
    refine Con.mono (c_X11_gap qN.2.1 qN.srt hx.2 hx.1 hys) fun v' K hk => ?_
    obtain ⟨rfl, rfl⟩ := hk
    rw [em, e0, thV_ag ag.1, floT_ag ag.1 hO.1 n8, floT_ag ag.1 hO.1 n8]
    exact ⟨rfl, frQ_t0.B, simW_k h.w hf.W frQ_t0.B (t0_o (by omega)) rfl⟩
  · exact two_0 h (c_X10_gap_no hx) (c_X11_gap_no hx)
theorem s_lowest {M : Mem} {n m dx tn : Nat} (h : Sim M n m dx tn)  : Two yX10_lowest cX10_lowest 4 (some .int) 2 yX11_lowest cX11_lowest 5 2 [] M n m dx tn := by
  have q := h.q
  have ag := q.ag
  have hO := q.okC
  have n8 := q.n8
  have m10 := q.m10
  by_cases hn : 0 < n
  · refine two_q h (c_X10_lowest q.1 hn) (fun v N hv => ⟨hv.2.1.V, SV_fr h.v hv.2.1⟩) fun v N hv qN em => ?_
    obtain ⟨rfl, hf, hr⟩ := hv
    refine Con.mono (c_X11_lowest qN.2.1 hn) fun v' K hk => ?_
    obtain ⟨rfl, hg, hr2⟩ := hk
    rw [em, lwF_ag ag.1 (Nat.le_refl _) hn]
    rw [em, lwB_ag ag.1 hn, lwD_ag ag.1 hn] at hr2
    exact ⟨rfl, hg.B, simW_2 hr hg.B hr2⟩
  · have e : n = 0 := by omega
    subst e
    exact two_0 h (c_X10_lowest_no q.1.1) (c_X11_lowest_no q.2.1.1)
theorem s_lapse {M : Mem} {n m dx tn : Nat} (h : Sim M n m dx tn) (hd : dx ≤ 60000) (x : Int32) : Two yX10_lapse cX10_lapse 2 (some .int) 6 yX11_lapse cX11_lapse 3 176 [.int x] M n m dx tn := by
  have q := h.q
  have ag := q.ag
  have hO := q.okC
  have n8 := q.n8
  have m10 := q.m10
  by_cases hx : 0 ≤ x ∧ x ≤ 60
  · obtain ⟨N0, hN, rfl⟩ := rngJ (n := 60) hx (by omega)
    obtain ⟨z, L, hz, hz2, -⟩ := q.MR
    refine two_q h (c_X10_lapse q.1 hO hz2 hz hN) (fun v N hv => ⟨hv.2.1.V, SV_fr h.v hv.2.1⟩) fun v N hv qN em => ?_
    obtain ⟨rfl, hf, hr⟩ := hv
    obtain ⟨z', L', hz', hz2', r⟩ := qN.MR
    have ez : z' = z := by
      have e1 := hf.1 7 2 (by unfold scr; omega) (by omega)
      rw [hz2, hz2'] at e1
      have e2 := congrArg Int32.toInt e1
      rw [nI_toInt (by omega), nI_toInt (by omega)] at e2
      omega
    have e8 : N.1 8 = M.1 8 := funext fun j => hf.1 8 j (by unfold scr; omega) (by omega)
    rw [e8, ez] at r
    obtain ⟨d, hdd, e18⟩ := qN.day
    refine Con.mono (c_X11_lapse r (td := d) qN.okM e18 (by omega) hN) fun v' K hk => ?_
    obtain ⟨rfl, hg, hr2⟩ := hk
    rw [em] at hr2 ⊢
    have e2 := (dsX_ag (S := M.1 8) (z := z) (N0 := N0) ag hO n8).2
    rw [show (dsX (M.1 8) z n m (mv M) N0).2.2.2.2 = (dsX (M.1 8) z n m (view M 28) N0).2.2.2.2 from congrArg (fun q => q.2.2.2) e2] at hr2 ⊢
    rw [sumT_ag ag.1] at hr2
    exact ⟨rfl, hg, simW_1 hr hg hr2⟩
  · exact two_0 h (c_X10_lapse_no hx) (c_X11_lapse_no hx)
theorem s_best {M : Mem} {n m dx tn : Nat} (h : Sim M n m dx tn) (hd : dx ≤ 60000) (x : Int32) : Two yX10_best cX10_best 5 (some .int) 6 yX11_best cX11_best 8 176 [.int x] M n m dx tn := by
  have q := h.q
  have ag := q.ag
  have hO := q.okC
  have n8 := q.n8
  have m10 := q.m10
  by_cases hx : 0 ≤ x ∧ x ≤ 60
  · obtain ⟨N0, hN, rfl⟩ := rngJ (n := 60) hx (by omega)
    obtain ⟨z, L, hz, hz2, -⟩ := q.MR
    refine two_q h (c_X10_best q.1 hO hz2 hz hN) (fun v N hv => ⟨hv.2.1.V, SV_fr h.v hv.2.1⟩) fun v N hv qN em => ?_
    obtain ⟨rfl, hf, hr⟩ := hv
    obtain ⟨z', L', hz', hz2', r⟩ := qN.MR
    have ez : z' = z := by
      have e1 := hf.1 7 2 (by unfold scr; omega) (by omega)
      rw [hz2, hz2'] at e1
      have e2 := congrArg Int32.toInt e1
      rw [nI_toInt (by omega), nI_toInt (by omega)] at e2
      omega
    have e8 : N.1 8 = M.1 8 := funext fun j => hf.1 8 j (by unfold scr; omega) (by omega)
    rw [e8, ez] at r
    obtain ⟨d, hdd, e18⟩ := qN.day
    refine Con.mono (c_X11_best r (td := d) qN.okM e18 (by omega) hN) fun v' K hk => ?_
    obtain ⟨rfl, hg, hr2⟩ := hk
    rw [em] at hr2 ⊢
    rw [bSo_ag ag hO n8] at hr2 ⊢
    refine ⟨rfl, hg, ⟨4, by omega, (frB_row hg).1.trans hr.1, hr2.1, fun j hj => ?_⟩⟩
    rw [(frB_row hg).2, hr.2 j hj]
    rcases (show j = 0 ∨ j = 1 ∨ j = 2 ∨ j = 3 by omega) with y | y | y | y
    · rw [y]; exact hr2.2.1
    · rw [y]; exact hr2.2.2.1
    · rw [y]; exact hr2.2.2.2.1
    · rw [y]; exact hr2.2.2.2.2
  · exact two_0 h (c_X10_best_no hx) (c_X11_best_no hx)
theorem s_spread {M : Mem} {n m dx tn : Nat} (h : Sim M n m dx tn)  : Two yX10_spread cX10_spread 8 (some .int) 3 yX11_spread cX11_spread 9 101 [] M n m dx tn := by
  have q := h.q
  have ag := q.ag
  have hO := q.okC
  have n8 := q.n8
  have m10 := q.m10
  have hc : ∀ i, i < n → M.1 29 i = nI (M.1 29 i).toNatClampNeg ∧ (M.1 29 i).toNatClampNeg ≤ 8000 := fun i hi => by
    have a1 := hO.1.1 i hi
    have a2 : (M.1 29 i).toInt ≤ 8000 := hO.1.le hi
    have a3 : 0 ≤ (M.1 29 i).toInt := Int.le_trans a1.1 a1.2.1
    obtain ⟨e, hb⟩ := i_nI a3
    refine ⟨e, ?_⟩
    rw [e, nI_toInt hb] at a2
    omega
  refine two_q h (c_X10_spread q.1 (c := fun i => (M.1 29 i).toNatClampNeg) hc) (fun v N hv => by
    rcases hv with ⟨-, -, rfl⟩ | ⟨-, -, hf, -⟩
    · exact ⟨fcR.refl.V, h.v⟩
    · exact ⟨hf.V, SV_fr h.v hf⟩) fun v N hv qN em => ?_
  have hc2 : ∀ i, i < n → N.1 141 i = nI (M.1 29 i).toNatClampNeg ∧ (M.1 29 i).toNatClampNeg ≤ 8000 := fun i hi => by
    have e1 : N.1 141 i = M.1 141 i := congrFun (congrFun em 0) i
    have e2 : M.1 141 i = M.1 29 i := (ag.1.1 i hi).1
    rw [e1, e2]; exact hc i hi
  refine Con.mono (c_X11_spread qN.2.1 (c := fun i => (M.1 29 i).toNatClampNeg) hc2) fun v' K hk => ?_
  rcases hv with ⟨z0, rfl, rfl⟩ | ⟨z0, rfl, hf, hr⟩
  · rcases hk with ⟨-, rfl, rfl⟩ | ⟨z1, -⟩
    · exact ⟨rfl, frQ_t0.B, simW_k h.w fcK.refl.W frQ_t0.B (t0_o (by omega)) rfl⟩
    · exact absurd z0 z1
  · rcases hk with ⟨z1, -⟩ | ⟨-, rfl, hg, hr2⟩
    · exact absurd z1 z0
    · exact ⟨rfl, hg.B, simW_4 hr hg.B hr2⟩
theorem s_favour {M : Mem} {n m dx tn : Nat} (h : Sim M n m dx tn) (x y : Int32) : Two yX10_favour cX10_favour 3 (some .int) 1 yX11_favour cX11_favour 3 2 [.int x, .int y] M n m dx tn := by
  have q := h.q
  have ag := q.ag
  have hO := q.okC
  have n8 := q.n8
  have m10 := q.m10
  by_cases hx : (0 ≤ x ∧ x < nI n) ∧ (0 ≤ y ∧ y < nI n) ∧ ¬ x = y
  · obtain ⟨i, hi, rfl⟩ := rngI hx.1 (by omega)
    obtain ⟨j, hj, rfl⟩ := rngI hx.2.1 (by omega)
    have hij : i ≠ j := fun z => hx.2.2 (by rw [z])
    refine two_0 h (c_X10_favour q.1 hi hj hij) ?_
    have e : M.1 146 (8 * i + j) = M.1 41 (8 * i + j) := ag.2.2.1 i j hi hj
    rw [← e]
    exact c_X11_favour q.2.1 hi hj hij
  · exact two_0 h (c_X10_favour_no q.1 hx) (c_X11_favour_no q.2.1 hx)
