theorem mgo_old {S : SS} {s t : Nat} {mk : Int32} {c : Nat → Nat} {cost : Int32} {row : Nat} (hD : S.dis) (hs : s < S.N) (hc : cost < 2147483647) (ht : t < S.N) (hi : S.is mk c t) : S.go s mk c cost row = (true, S.lead s t cost row) ∧ GS S (S.lead s t cost row) s t mk c cost row := by
  have e : S.go s mk c cost row = (true, S.lead s t cost row) := by rw [SS.go, fd_some hD ht hi]
  refine ⟨e, ?_⟩
  obtain ⟨u, g⟩ := go_GS (S := S) (s := s) (mk := mk) (c := c) (cost := cost) (row := row) hs hc (by rw [e])
  rw [e] at g
  have : u = t := by
    rcases g.1 with z | z
    · exact hD u t z.1 ht (z.2.2.1.trans hi.1.symm) fun j hj => (z.2.2.2 j hj).trans (hi.2 j hj).symm
    · exact absurd hi (z.2.2.2 t ht)
  rw [← this]
  rw [this] at g ⊢
  exact g
theorem mgo_new {S : SS} {s : Nat} {mk : Int32} {c : Nat → Nat} {cost : Int32} {row : Nat} (hs : s < S.N) (hc : cost < 2147483647) (hno : ∀ j, j < S.N → ¬ S.is mk c j) (hN : S.N < 3000) : S.go s mk c cost row = (true, (S.add mk c).lead s S.N cost row) ∧ GS S ((S.add mk c).lead s S.N cost row) s S.N mk c cost row := by
  have e : S.go s mk c cost row = (true, (S.add mk c).lead s S.N cost row) := by rw [SS.go, fd_none hno]; exact if_pos hN
  refine ⟨e, ?_⟩
  obtain ⟨u, g⟩ := go_GS (S := S) (s := s) (mk := mk) (c := c) (cost := cost) (row := row) hs hc (by rw [e])
  rw [e] at g
  have : u = S.N := by
    rcases g.1 with z | z
    · exact absurd z.2.2 (hno u z.1)
    · exact z.1
  rw [this] at g
  exact g
theorem mgo_no {S : SS} {s : Nat} {mk : Int32} {c : Nat → Nat} {cost : Int32} {row : Nat} (hno : ∀ j, j < S.N → ¬ S.is mk c j) (hN : S.N = 3000) : S.go s mk c cost row = (false, S) := by rw [SS.go, fd_none hno]; exact if_neg (by omega)
theorem lq_good {T : TT} {n m : Nat} {these : Int32} (ht : thOK T m these) (hn : n ≤ 8) (hO : OKS T n m) {S : SS} {s k i : Nat} (hP : PX T n m these (S.mk s) (S.co s) (S.rw s)) (hl : lq T n these S s k i = true) : T 8 k = nI (vK T k) ∧ T 7 k = nI (gK T k) ∧ vK T k ≤ 99 ∧ vK T k ≤ S.co s i ∧ ∀ j, shN (S.co s) i (gK T k) (vK T k) j < 65536 := by
  obtain ⟨k1, i1, o1, g1, h1, h2, h3⟩ := lq_og ht hn hO hl
  obtain ⟨⟨s1, s2⟩, -, o, g, ho, hg, hog, eo, eg⟩ := hO.2.2.2 k k1
  obtain ⟨e8, l8⟩ := i_nI (x := T 8 k) (by omega)
  have h99 : (T 8 k).toNatClampNeg ≤ 99 := by rw [e8, nI_toInt l8] at s2; omega
  have eK : gK T k = g := by unfold gK; rw [eg, nI_clamp (by omega)]
  obtain ⟨z1, z2, z3, z4⟩ := lv_good (c0 := S.co s) (v := (T 8 k).toNatClampNeg) hP.2.2.1 hn k1 ho hg (by rw [ldT_o (by decide)]; exact eo) (by rw [ldT_o (by decide)]; exact eg) (by rw [ldT_o (by decide)]; exact e8) h99 (fun i hi => ldT_i hi) hP.2.1 i i1 hl
  refine ⟨e8, by rw [eK]; exact eg, h99, z3, ?_⟩
  rw [eK]; exact z4
theorem cur3 {M : Mem} {S : SS} {n s i g v : Nat} (hR : repM M S n) (hs : s < S.N) (hi : i < n) (hg : g < n) (hig : i ≠ g) (h65 : ∀ j, shN (S.co s) i g v j < 65536) (hhi : ∀ t, t < S.N → ∀ j, n ≤ j → j < 8 → S.co t j = 0) : curM (setI (setI (loM M s n) 141 i (nI (S.co s i - v))) 141 g (nI (S.co s g + v))) S n (shN (S.co s) i g v) := by
  obtain ⟨-, r1, -, -⟩ := repM_s hR hs
  refine ⟨fun j hj => ?_, h65, fun t ht j hj h8 => ?_⟩
  · simp only [shN, icr, dcr]
    by_cases q : j = g
    · subst q
      rw [if_pos rfl, if_neg (show ¬ j = i by omega)]
      exact sI_eq
    · rw [if_neg q, sI_ne (fun z => q z.2)]
      by_cases q2 : j = i
      · subst q2
        rw [if_pos rfl]; exact sI_eq
      · rw [if_neg q2, sI_ne (fun z => q2 z.2)]
        exact (if_pos ⟨rfl, hj⟩).trans (r1 j hj)
  · rw [hhi t ht j hj h8]
    simp only [shN, icr, dcr]
    rw [if_neg (by omega), if_neg (by omega), hhi s hs j hj h8]
theorem step_all {T : TT} {n m : Nat} {these : Int32} (ht : thOK T m these) (hn : n ≤ 8) (hm : m ≤ 10) (hO : OKS T n m) (hA : AOK T n) {S S' : SS} {s C w t : Nat} {mk0 : Int32} {c0 : Nat → Nat} {p0 : Int32} {r0 : Nat} {x : Bool × SS} {D : Nat → Nat × Nat × Nat} {rk W : Nat → Nat} {M0 M M4 N : Mem}
    (hrun : mrun T n s mk0 c0 p0 r0 these x w = (true, S)) (hq : S.mk s = mk0 ∧ S.co s = c0 ∧ S.pr s = p0 ∧ S.rw s = r0) (h : MI M0 M T n these S s w D rk) (hP : PI T n m these S s C D rk W) (hC : ∀ k i, w ≤ 8 * k + i → i < 8 → lq T n these S s k i = true → C ≤ cdE T k i) (hl : lq T n these S s (w / 8) (w % 8) = true)
    (hg : mgo T S s (w / 8) (w % 8) = (true, S')) (g : GS S S' s t (S.mk s ||| bit (w / 8)) (shN (S.co s) (w % 8) (gK T (w / 8)) (vK T (w / 8))) (S.pr s + prT T (w % 8) (w / 8)) (S.rw s * 64 + cdE T (w / 8) (w % 8)))
    (h4 : ∀ a j, ¬ (a = 159 ∨ a = 160 ∨ (a = 163 ∧ t = S.N ∧ j = S.N) ∨ a = 168 ∨ (a = 140 ∧ j = 44)) → M4.1 a j = M.1 a j) (hm4 : msF M0 M4 n) (h163 : t = S.N → M4.1 163 t = -1) (hr : repM (setJ (setI M4 161 (80 * s + w) (nI t)) 166 t (M4.2.1 166 t + M4.2.1 166 s)) S' n)
    (hN1 : isLs (setJ (setI M4 161 (80 * s + w) (nI t)) 166 t (M4.2.1 166 t + M4.2.1 166 s)) s w t (S.pr s + prT T (w % 8) (w / 8)) (D t).1 → N = leM (setJ (setI M4 161 (80 * s + w) (nI t)) 166 t (M4.2.1 166 t + M4.2.1 166 s)) s w t (S.pr s + prT T (w % 8) (w / 8))) (hN0 : ¬ isLs (setJ (setI M4 161 (80 * s + w) (nI t)) 166 t (M4.2.1 166 t + M4.2.1 166 s)) s w t (S.pr s + prT T (w % 8) (w / 8)) (D t).1 → N = setJ (setI M4 161 (80 * s + w) (nI t)) 166 t (M4.2.1 166 t + M4.2.1 166 s)) :
    ∃ D' W' C', mrun T n s mk0 c0 p0 r0 these x (w + 1) = (true, S') ∧ (S'.mk s = mk0 ∧ S'.co s = c0 ∧ S'.pr s = p0 ∧ S'.rw s = r0) ∧ MI M0 N T n these S' s (w + 1) D' rk ∧ PI T n m these S' s C' D' rk W' ∧ C' ≤ 60 ∧ ∀ k i, w + 1 ≤ 8 * k + i → i < 8 → lq T n these S' s k i = true → C' ≤ cdE T k i := by
  obtain ⟨q1, q2, q3, q4⟩ := hq
  have hs := hP.2.1
  obtain ⟨k1, i1, -⟩ := lq_og ht hn hO hl
  obtain ⟨-, -, -, hst⟩ := GS.fx ht hn hm hP hl g
  obtain ⟨k, hk⟩ : ∃ k, w / 8 = k := ⟨_, rfl⟩
  obtain ⟨i, hi⟩ : ∃ i, w % 8 = i := ⟨_, rfl⟩
  obtain rfl : w = 8 * k + i := by omega
  have hrn := mrun_t hrun q1 q2 q3 q4 hl
  rw [hk, hi] at hl hg g hN1 hN0 hrn
  have hpx := hP.1.2.2 s hs
  have hE : EX T n m these S' := by
    have hpay := hpx.pay hn hm k1 i1 (by rw [hk, hi]; exact hl)
    rw [hk, hi, ldT_o (by decide), ldT_o (by decide), ldT_o (by decide)] at hpay
    have e := hP.1.go (s := s) (cost := S.pr s + prT T i k) (by omega) hpay.1 hpay.2
    have e2 : (S.go s (S.mk s ||| bit k) (shN (S.co s) i (T 7 k).toNatClampNeg (T 8 k).toNatClampNeg) (S.pr s + prT T i k) (S.rw s * 64 + (k * 6 + rkN (T 6 k).toNatClampNeg (T 7 k).toNatClampNeg i))) = (true, S') := hg
    rw [e2] at e
    exact e
  have hMI := MI.end ht hn hm hO h hP hl g h4 hm4 h163 hr hN1 hN0
  have hPI := PI.go ht hn hm hO hA hP hl (hC k i (Nat.le_refl _) (by omega) hl) rfl g hE
  obtain ⟨g1, g2, g3, g4, -⟩ := g
  refine ⟨_, _, _, hrn.trans hg, ⟨(g2 s hs).1.trans q1, (g2 s hs).2.trans q2, (g4 s hs (by omega)).2.1.trans q3, (g4 s hs (by omega)).2.2.trans q4⟩, hMI, hPI, cd_60 ht hn hm hO hl, fun k' i' h1 h2 h3 => ?_⟩
  rw [lq_eq (g2 s hs)] at h3
  exact (cd_iff ht hn hO hl h3).mpr (by omega)
theorem pr_max {T : TT} {n m : Nat} {these : Int32} {S : SS} {s C k i : Nat} {D : Nat → Nat × Nat × Nat} {rk W : Nat → Nat} (hO : OKS T n m) (hA : AOK T n) (h : PI T n m these S s C D rk W) (hi : i < n) (hk : k < m) : S.pr s + prT T i k < 2147483647 := by
  have p1 := h.2.2.2.2.1 s h.2.1
  have p2 := prT_le hO hA hi hk
  have p3 : pcS S s ≤ 10 := pcN_le
  rw [Int32.lt_iff_toInt_lt, i_add (by omega) (by omega), show (2147483647 : Int32).toInt = 2147483647 from rfl]
  omega
