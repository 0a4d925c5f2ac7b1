theorem GS.fx {T : TT} {n m : Nat} {these : Int32} (ht : thOK T m these) (hn : n ≤ 8) (hm : m ≤ 10) {S S' : SS} {s C k i t : Nat} {D : Nat → Nat × Nat × Nat} {rk W : Nat → Nat} {cost : Int32} {row : Nat} (h : PI T n m these S s C D rk W) (hl : lq T n these S s k i = true) (g : GS S S' s t (S.mk s ||| bit k) (shN (S.co s) i (gK T k) (vK T k)) cost row) :
    pcS S' t = pcS S s + 1 ∧ (∀ j, j < S.N → pcS S' j = pcS S j) ∧ (S'.N = S.N ∧ t < S.N ∨ S'.N = S.N + 1 ∧ t = S.N) ∧ s < t := by
  obtain ⟨g1, g2, g3, -⟩ := g
  obtain ⟨⟨lb1, lb2⟩, -⟩ := (lq_iff ht hn).mp hl
  have k1 := (ht k lb1).1
  have hs := h.2.1
  have hpt : pcS S' t = pcS S s + 1 := by
    unfold pcS
    rw [g3.1, pcN_or (by omega) lb2, if_pos (by omega)]
  have hpo : ∀ j, j < S.N → pcS S' j = pcS S j := fun j hj => by unfold pcS; rw [(g2 j hj).1]
  have hN : S'.N = S.N ∧ t < S.N ∨ S'.N = S.N + 1 ∧ t = S.N := g1.elim (fun q => Or.inl ⟨q.2.1, q.1⟩) fun q => Or.inr ⟨q.2.2.1, q.1⟩
  refine ⟨hpt, hpo, hN, ?_⟩
  rcases hN with ⟨q, q2⟩ | ⟨q, q2⟩
  · refine Nat.lt_of_not_le fun z => ?_
    have := h.2.2.1.1 t s z hs
    rw [hpo t q2] at hpt
    omega
  · omega
theorem lsW_up {T : TT} {n : Nat} {these : Int32} {S S' : SS} {M N : Mem} {t w : Nat} (h : lsW T n these S M t w) (hN : N.1 161 (80 * t + w) = M.1 161 (80 * t + w)) (ht : t < S.N) (hm : ∀ j, j < S.N → S'.mk j = S.mk j ∧ S'.co j = S.co j) (hle : S.N ≤ S'.N) : lsW T n these S' N t w := by
  refine ⟨fun z => ?_, fun z => ?_⟩
  · rw [lq_eq (hm t ht)] at z
    rw [hN]; exact h.1 z
  · rw [lq_eq (hm t ht)] at z
    obtain ⟨u, u1, u2, u3⟩ := h.2 z
    exact ⟨u, eg_eq (hm t ht) (hm u u2) u1, by omega, by rw [hN]; exact u3⟩
theorem MI.end0 {T : TT} {n m : Nat} {these : Int32} (ht : thOK T m these) (hn : n ≤ 8) (hm : m ≤ 10) (hO : OKS T n m) {S S' : SS} {s C k i t : Nat} {D : Nat → Nat × Nat × Nat} {rk W : Nat → Nat} {cost : Int32} {M0 M N : Mem} (h : MI M0 M T n these S s (8 * k + i) D rk) (hP : PI T n m these S s C D rk W) (hl : lq T n these S s k i = true) (g : GS S S' s t (S.mk s ||| bit k) (shN (S.co s) i (gK T k) (vK T k)) cost (S.rw s * 64 + cdE T k i))
    (hf : msF M0 N n) (hr : repM N S' n) (h161 : ∀ j, N.1 161 j = if j = 80 * s + (8 * k + i) then nI t else M.1 161 j) (h165 : N.1 165 = M.1 165) (ho : ∀ j, j < S.N → j ≠ t → N.1 162 j = M.1 162 j ∧ N.1 163 j = M.1 163 j ∧ N.1 164 j = M.1 164 j)
    (h1 : acT S t cost (S.rw s * 64 + cdE T k i) → N.1 162 t = cost ∧ N.1 163 t = nI s ∧ N.1 164 t = nI (8 * k + i)) (h0 : ¬ acT S t cost (S.rw s * 64 + cdE T k i) → N.1 162 t = M.1 162 t ∧ N.1 163 t = M.1 163 t ∧ N.1 164 t = M.1 164 t) :
    MI M0 N T n these S' s (8 * k + i + 1) (dAc S t cost (S.rw s * 64 + cdE T k i) D (s, k, i)) rk := by
  obtain ⟨hpt, hpo, hN, hst⟩ := GS.fx ht hn hm hP hl g
  obtain ⟨g1, g2, g3, g4, g5, g6, g7⟩ := g
  obtain ⟨b1, b2, b3, b4, b5, b6, b7⟩ := h
  have hs := hP.2.1
  obtain ⟨k1, i1, -⟩ := lq_og ht hn hO hl
  have hle : S.N ≤ S'.N := by omega
  have hot : ∀ j, j < S'.N → j ≠ t → j < S.N := fun j a b => by omega
  have hjN : ¬ acT S t cost (S.rw s * 64 + cdE T k i) → t < S.N := fun ac => hN.elim (fun q => q.2) fun q => absurd (Or.inl q.2) ac
  refine ⟨hf, hr, fun j hj => ?_, ⟨?_, fun j j0 hj => ?_⟩, ⟨fun j hj hle2 => ?_, b5.2⟩, fun j hj w' hw' => ?_, fun w' hw' => ?_⟩
  · by_cases q : j = t
    · subst q
      by_cases ac : acT S j cost (S.rw s * 64 + cdE T k i)
      · rw [(h1 ac).1, (g6 ac).1]
      · rw [(h0 ac).1, (g7 ac).1]; exact b3 j (hjN ac)
    · rw [(ho j (hot j hj q) q).1, (g4 j (hot j hj q) q).2.1]; exact b3 j (hot j hj q)
  · rw [(ho 0 (by omega) (by omega)).2.1]; exact b4.1
  · by_cases q : j = t
    · subst q
      by_cases ac : acT S j cost (S.rw s * 64 + cdE T k i)
      · rw [dAc_t ac, show updD D j (s, k, i) j = (s, k, i) from if_pos rfl]
        exact (h1 ac).2
      · rw [dAc_f ac, (h0 ac).2.1, (h0 ac).2.2]
        exact b4.2 j j0 (hjN ac)
    · rw [dAc_o q, (ho j (hot j hj q) q).2.1, (ho j (hot j hj q) q).2.2]
      exact b4.2 j j0 (hot j hj q)
  · have hne : j ≠ t := fun e => by rw [e, hpt, hpo s hs] at hle2; omega
    rw [hpo j (hot j hj hne), hpo s hs] at hle2
    rw [h165]; exact b5.1 j (hot j hj hne) hle2
  · exact lsW_up (b6 j hj w' hw') ((h161 _).trans (if_neg (by omega))) (by omega) g2 hle
  · by_cases q : w' = 8 * k + i
    · subst q
      unfold lsW
      rw [show (8 * k + i) / 8 = k by omega, show (8 * k + i) % 8 = i by omega, lq_eq (g2 s hs)]
      refine ⟨fun z => (by rw [hl] at z; cases z), fun _ => ⟨t, ⟨by rw [lq_eq (g2 s hs)]; exact hl, ?_⟩, by omega, (h161 _).trans (if_pos rfl)⟩⟩
      rw [(g2 s hs).1, (g2 s hs).2]; exact g3
    · exact lsW_up (b7 w' (by omega)) ((h161 _).trans (if_neg (by omega))) hs g2 hle
theorem MI.end {T : TT} {n m : Nat} {these : Int32} (ht : thOK T m these) (hn : n ≤ 8) (hm : m ≤ 10) (hO : OKS T n m) {S S' : SS} {s C k i t : Nat} {D : Nat → Nat × Nat × Nat} {rk W : Nat → Nat} {cost : Int32} {M0 M M4 N : Mem} (h : MI M0 M T n these S s (8 * k + i) D rk) (hP : PI T n m these S s C D rk W) (hl : lq T n these S s k i = true) (g : GS S S' s t (S.mk s ||| bit k) (shN (S.co s) i (gK T k) (vK T k)) cost (S.rw s * 64 + cdE T k i))
    (h4 : ∀ a j, ¬ (a = 159 ∨ a = 160 ∨ (a = 163 ∧ t = S.N ∧ j = S.N) ∨ a = 168 ∨ (a = 140 ∧ j = 44)) → M4.1 a j = M.1 a j) (hm4 : msF M0 M4 n) (h163 : t = S.N → M4.1 163 t = -1) (hr : repM (setJ (setI M4 161 (80 * s + (8 * k + i)) (nI t)) 166 t (M4.2.1 166 t + M4.2.1 166 s)) S' n)
    (hN1 : isLs (setJ (setI M4 161 (80 * s + (8 * k + i)) (nI t)) 166 t (M4.2.1 166 t + M4.2.1 166 s)) s (8 * k + i) t cost (D t).1 → N = leM (setJ (setI M4 161 (80 * s + (8 * k + i)) (nI t)) 166 t (M4.2.1 166 t + M4.2.1 166 s)) s (8 * k + i) t cost) (hN0 : ¬ isLs (setJ (setI M4 161 (80 * s + (8 * k + i)) (nI t)) 166 t (M4.2.1 166 t + M4.2.1 166 s)) s (8 * k + i) t cost (D t).1 → N = setJ (setI M4 161 (80 * s + (8 * k + i)) (nI t)) 166 t (M4.2.1 166 t + M4.2.1 166 s)) :
    MI M0 N T n these S' s (8 * k + i + 1) (dAc S t cost (S.rw s * 64 + cdE T k i) D (s, k, i)) rk := by
  obtain ⟨hpt, hpo, hN, hst⟩ := GS.fx ht hn hm hP hl g
  have hs := hP.2.1
  have hN3 := (repM_N h.2.1).2
  obtain ⟨M6, hM6⟩ : ∃ z, setJ (setI M4 161 (80 * s + (8 * k + i)) (nI t)) 166 t (M4.2.1 166 t + M4.2.1 166 s) = z := ⟨_, rfl⟩
  rw [hM6] at hr hN1 hN0
  have e6 : ∀ a, a ≠ 161 → M6.1 a = M4.1 a := fun a ha => by rw [← hM6]; exact funext fun j => sI_na ha
  have e161 : ∀ j, M6.1 161 j = if j = 80 * s + (8 * k + i) then nI t else M.1 161 j := fun j => by
    rw [← hM6]
    show (if 161 = 161 ∧ j = 80 * s + (8 * k + i) then nI t else M4.1 161 j) = _
    rw [h4 161 j (by omega)]
    simp
  have hf6 : msF M0 M6 n := by rw [← hM6]; exact (hm4.trans (msF_I (by omega))).trans msF_J
  have hiff : isLs M6 s (8 * k + i) t cost (D t).1 ↔ acT S t cost (S.rw s * 64 + cdE T k i) := by
    by_cases q : t = S.N
    · exact ⟨fun _ => Or.inl q, fun _ => Or.inl (by rw [e6 163 (by omega)]; exact h163 q)⟩
    · have htN : t < S.N := by omega
      have hegt : eg T n these S s k i t := by
        rcases g.1 with z | z
        · exact ⟨hl, z.2.2⟩
        · omega
      have hq := hP.pd t (by omega) htN
      have p1 := eg_pc ht hn hm hq.2.1
      have p2 := eg_pc ht hn hm hegt
      have e4 := h.2.2.2.1.2 t (by omega) htN
      exact isLs_iff ht hn hm hO hP hegt (by omega) htN hN3 (by rw [e6 163 (by omega), h4 163 t (by omega)]; exact e4.1) (by rw [e6 164 (by omega), h4 164 t (by omega)]; exact e4.2) (by rw [e6 162 (by omega), h4 162 t (by omega)]; exact h.2.2.1 t htN) (by rw [e6 165 (by omega), h4 165 s (by omega)]; exact h.2.2.2.2.1.1 s hs (Nat.le_refl _)) (by rw [e6 165 (by omega), h4 165 _ (by omega)]; exact h.2.2.2.2.1.1 _ (by omega) (by omega)) h.2.2.2.2.1.2
  by_cases ac : acT S t cost (S.rw s * 64 + cdE T k i)
  · have eN := hN1 (hiff.mpr ac)
    have x : ∀ a, a ≠ 162 → a ≠ 163 → a ≠ 164 → N.1 a = M6.1 a := fun a a1 a2 a3 => by rw [eN]; funext j; exact (sI_na a3).trans ((sI_na a2).trans (sI_na a1))
    refine MI.end0 ht hn hm hO h hP hl g (by rw [eN]; exact hf6.trans msF_le) (repM_keep hr (by rw [x 140 (by omega) (by omega) (by omega)]) (x _ (by omega) (by omega) (by omega)) (x _ (by omega) (by omega) (by omega)) (by rw [eN]; rfl) (x _ (by omega) (by omega) (by omega))) (fun j => by rw [x 161 (by omega) (by omega) (by omega)]; exact e161 j) ?_ (fun j hj hjt => ?_) (fun _ => ?_) (fun z => absurd ac z)
    · rw [x 165 (by omega) (by omega) (by omega), e6 165 (by omega)]; funext j; exact h4 165 j (by omega)
    · rw [eN]
      refine ⟨(sI_ne (by omega)).trans ((sI_ne (by omega)).trans ((sI_ne (by omega)).trans ?_)), (sI_ne (by omega)).trans ((sI_ne (by omega)).trans ((sI_ne (by omega)).trans ?_)), (sI_ne (by omega)).trans ((sI_ne (by omega)).trans ((sI_ne (by omega)).trans ?_))⟩
      · rw [e6 162 (by omega)]; exact h4 162 j (by omega)
      · rw [e6 163 (by omega)]; exact h4 163 j (by omega)
      · rw [e6 164 (by omega)]; exact h4 164 j (by omega)
    · rw [eN]
      exact ⟨(sI_ne (by omega)).trans ((sI_ne (by omega)).trans sI_eq), (sI_ne (by omega)).trans sI_eq, sI_eq⟩
  · have eN := hN0 (fun z => ac (hiff.mp z))
    rw [eN]
    have htN : t ≠ S.N := fun q => ac (Or.inl q)
    refine MI.end0 ht hn hm hO h hP hl g hf6 hr e161 ?_ (fun j hj hjt => ?_) (fun z => absurd z ac) (fun _ => ?_)
    · rw [e6 165 (by omega)]; funext j; exact h4 165 j (by omega)
    · rw [e6 162 (by omega), e6 163 (by omega), e6 164 (by omega)]; exact ⟨h4 162 j (by omega), h4 163 j (by omega), h4 164 j (by omega)⟩
    · rw [e6 162 (by omega), e6 163 (by omega), e6 164 (by omega)]; exact ⟨h4 162 t (by omega), h4 163 t (by omega), h4 164 t (by omega)⟩
/-! the class's steps, one by one -/
def mgo (T : TT) (S : SS) (s k i : Nat) : Bool × SS := S.go s (S.mk s ||| bit k) (shN (S.co s) i (gK T k) (vK T k)) (S.pr s + prT T i k) (S.rw s * 64 + cdE T k i)
def mrun (T : TT) (n s : Nat) (mk0 : Int32) (c0 : Nat → Nat) (p0 : Int32) (r0 : Nat) (these : Int32) (x : Bool × SS) : Nat → Bool × SS
  | 0 => x
  | w + 1 => if bt (lvQ (ldT T n c0) n these mk0 (w / 8)) (w % 8) = true then ((mrun T n s mk0 c0 p0 r0 these x w).1 && (gp (ldT T n c0) s mk0 c0 p0 r0 (w / 8) (w % 8) (mrun T n s mk0 c0 p0 r0 these x w).2).1, (gp (ldT T n c0) s mk0 c0 p0 r0 (w / 8) (w % 8) (mrun T n s mk0 c0 p0 r0 these x w).2).2) else mrun T n s mk0 c0 p0 r0 these x w
theorem gp_ld {T : TT} {n s k i : Nat} {mk0 : Int32} {c0 : Nat → Nat} {p0 : Int32} {r0 : Nat} {S : SS} (h1 : S.mk s = mk0) (h2 : S.co s = c0) (h3 : S.pr s = p0) (h4 : S.rw s = r0) : gp (ldT T n c0) s mk0 c0 p0 r0 k i S = mgo T S s k i := by
  unfold gp mgo prT cdE oK gK vK
  rw [h1, h2, h3, h4, ldT_o (by decide), ldT_o (by decide), ldT_o (by decide), ldT_o (by decide), ldT_o (by decide)]
theorem mrun_t {T : TT} {n s w : Nat} {mk0 : Int32} {c0 : Nat → Nat} {p0 : Int32} {r0 : Nat} {these : Int32} {x : Bool × SS} {S : SS} (h : mrun T n s mk0 c0 p0 r0 these x w = (true, S)) (h1 : S.mk s = mk0) (h2 : S.co s = c0) (h3 : S.pr s = p0) (h4 : S.rw s = r0) (hl : lq T n these S s (w / 8) (w % 8) = true) : mrun T n s mk0 c0 p0 r0 these x (w + 1) = mgo T S s (w / 8) (w % 8) := by
  unfold lq at hl
  rw [h1, h2] at hl
  simp only [mrun]
  rw [if_pos hl, h, gp_ld h1 h2 h3 h4, Bool.true_and]
theorem mrun_f {T : TT} {n s w : Nat} {mk0 : Int32} {c0 : Nat → Nat} {p0 : Int32} {r0 : Nat} {these : Int32} {x : Bool × SS} {S : SS} (h : mrun T n s mk0 c0 p0 r0 these x w = (true, S)) (h1 : S.mk s = mk0) (h2 : S.co s = c0) (hl : lq T n these S s (w / 8) (w % 8) = false) : mrun T n s mk0 c0 p0 r0 these x (w + 1) = (true, S) := by
  unfold lq at hl
  rw [h1, h2] at hl
  simp only [mrun]
  rw [if_neg (by rw [hl]; decide), h]
theorem mrun_no {T : TT} {n s : Nat} {mk0 : Int32} {c0 : Nat → Nat} {p0 : Int32} {r0 : Nat} {these : Int32} {x : Bool × SS} {w : Nat} (h : (mrun T n s mk0 c0 p0 r0 these x w).1 = false) : ∀ {e : Nat}, (mrun T n s mk0 c0 p0 r0 these x (w + e)).1 = false
  | 0 => h
  | e + 1 => by
    have := mrun_no h (e := e)
    rw [show w + (e + 1) = w + e + 1 by omega]
    simp only [mrun]
    split
    · rw [this]; rfl
    · exact this
theorem inn_hi {T : TT} {s : Nat} {mk0 : Int32} {c0 : Nat → Nat} {p0 : Int32} {r0 k n : Nat} {Q : Int32} (hQ : ∀ i, n ≤ i → bt Q i = false) {r : Bool × SS} : ∀ {e : Nat}, inn T s mk0 c0 p0 r0 k Q (n + e) r = inn T s mk0 c0 p0 r0 k Q n r
  | 0 => rfl
  | e + 1 => by
    rw [show n + (e + 1) = n + e + 1 by omega, inn_f (hQ _ (by omega)), inn_hi hQ (e := e)]
theorem lvQ_hi {T : TT} {n : Nat} {these mk0 : Int32} {k : Nat} (hn : n ≤ 8) : ∀ i, n ≤ i → bt (lvQ T n these mk0 k) i = false := fun i hi => by
  unfold lvQ payT
  split
  · split
    · rw [b_fbor _ n (by omega)]; simp; omega
    · exact b_0 i
  · exact b_0 i
theorem mrun_i {T : TT} {n s k : Nat} {mk0 : Int32} {c0 : Nat → Nat} {p0 : Int32} {r0 : Nat} {these : Int32} {x : XS} (h : mrun T n s mk0 c0 p0 r0 these x.1 (8 * k) = (lvs (ldT T n c0) n s mk0 c0 p0 r0 these k x).1) : ∀ {i : Nat}, i ≤ 8 → mrun T n s mk0 c0 p0 r0 these x.1 (8 * k + i) = inn (ldT T n c0) s mk0 c0 p0 r0 k (lvQ (ldT T n c0) n these mk0 k) i (lvs (ldT T n c0) n s mk0 c0 p0 r0 these k x).1
  | 0, _ => h
  | i + 1, hi => by
    have ih := mrun_i h (i := i) (by omega)
    rw [show 8 * k + (i + 1) = 8 * k + i + 1 by omega]
    simp only [mrun, inn]
    rw [show (8 * k + i) / 8 = k by omega, show (8 * k + i) % 8 = i by omega, ih]
theorem mrun_k {T : TT} {n s : Nat} {mk0 : Int32} {c0 : Nat → Nat} {p0 : Int32} {r0 : Nat} {these : Int32} {x : XS} (hn : n ≤ 8) : ∀ {k : Nat}, mrun T n s mk0 c0 p0 r0 these x.1 (8 * k) = (lvs (ldT T n c0) n s mk0 c0 p0 r0 these k x).1
  | 0 => rfl
  | k + 1 => by
    have h := mrun_i (T := T) (n := n) (s := s) (k := k) (mk0 := mk0) (c0 := c0) (p0 := p0) (r0 := r0) (these := these) (x := x) (mrun_k hn) (i := 8) (Nat.le_refl _)
    rw [show 8 * (k + 1) = 8 * k + 8 by omega, h]
    simp only [lvs]
    have e := inn_hi (T := ldT T n c0) (s := s) (mk0 := mk0) (c0 := c0) (p0 := p0) (r0 := r0) (k := k) (n := n) (lvQ_hi (T := ldT T n c0) (these := these) (mk0 := mk0) (k := k) hn) (r := (lvs (ldT T n c0) n s mk0 c0 p0 r0 these k x).1) (e := 8 - n)
    rw [show n + (8 - n) = 8 by omega] at e
    exact e
theorem lvs_hi {T : TT} {n s m : Nat} {mk0 : Int32} {c0 : Nat → Nat} {p0 : Int32} {r0 : Nat} {these : Int32} {x : XS} (hb : ∀ k, m ≤ k → bt these k = false) : ∀ {e : Nat}, lvs T n s mk0 c0 p0 r0 these (m + e) x = lvs T n s mk0 c0 p0 r0 these m x
  | 0 => rfl
  | e + 1 => by
    rw [show m + (e + 1) = m + e + 1 by omega]
    have hq : lvQ T n these mk0 (m + e) = 0 := if_neg fun z => by rw [hb (m + e) (by omega)] at z; cases z.1
    simp only [lvs]
    rw [hq, inn_0, if_pos rfl, if_pos rfl, lvs_hi hb (e := e)]
theorem mrun_80 {T : TT} {n s m : Nat} {mk0 : Int32} {c0 : Nat → Nat} {p0 : Int32} {r0 : Nat} {these : Int32} {x : XS} (hn : n ≤ 8) (hm : m ≤ 10) (ht : thOK T m these) : mrun T n s mk0 c0 p0 r0 these x.1 80 = (lvs (ldT T n c0) n s mk0 c0 p0 r0 these m x).1 := by
  rw [show 80 = 8 * 10 by rfl, mrun_k hn]
  have e := lvs_hi (T := ldT T n c0) (n := n) (s := s) (mk0 := mk0) (c0 := c0) (p0 := p0) (r0 := r0) (these := these) (x := x) (m := m) (fun k hk => Decidable.byContradiction fun q => by
    have := (ht k (by simpa using q)).1
    omega) (e := 10 - m)
  rw [show m + (10 - m) = 10 by omega] at e
  rw [e]
