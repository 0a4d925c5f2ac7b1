/-! a visit, as such: parents, closed ways, what can be paid, what is paid before -/
/-- every way out of the states ahead of s leads on, and of s those ahead of w -/
def CL (T : TT) (n : Nat) (these : Int32) (S : SS) (s w : Nat) : Prop := (∀ t, t < s → ∀ k i, lq T n these S t k i = true → ∃ u, eg T n these S t k i u ∧ u < S.N) ∧ ∀ k i, 8 * k + i < w → i < 8 → lq T n these S s k i = true → ∃ u, eg T n these S s k i u ∧ u < S.N
theorem CL.go {T : TT} {n : Nat} {these : Int32} {S S' : SS} {s w t : Nat} {mk : Int32} {c : Nat → Nat} {cost : Int32} {row : Nat} (h : CL T n these S s w) (hs : s < S.N) (g : GS S S' s t mk c cost row) (hl : lq T n these S s (w / 8) (w % 8) = true) (hm : mk = S.mk s ||| bit (w / 8)) (hc : c = shN (S.co s) (w % 8) (gK T (w / 8)) (vK T (w / 8))) : CL T n these S' s (w + 1) := by
  obtain ⟨g1, g2, g3, -⟩ := g
  have hle : S.N ≤ S'.N ∧ t < S'.N := by
    rcases g1 with z | z <;> omega
  refine ⟨fun u hu k i hl2 => ?_, fun k i h1 h8 hl2 => ?_⟩
  · rw [lq_eq (g2 u (by omega))] at hl2
    obtain ⟨v, v1, v2⟩ := h.1 u hu k i hl2
    exact ⟨v, eg_eq (g2 u (by omega)) (g2 v v2) v1, by omega⟩
  · rw [lq_eq (g2 s hs)] at hl2
    by_cases e : 8 * k + i = w
    · obtain rfl : k = w / 8 := by omega
      obtain rfl : i = w % 8 := by omega
      refine ⟨t, ⟨by rw [lq_eq (g2 s hs)]; exact hl2, ?_⟩, hle.2⟩
      rw [(g2 s hs).1, (g2 s hs).2, ← hm, ← hc]
      exact g3
    · obtain ⟨v, v1, v2⟩ := h.2 k i (by omega) h8 hl2
      exact ⟨v, eg_eq (g2 s hs) (g2 v v2) v1, by omega⟩
theorem pure_in {T : TT} {n m : Nat} {these : Int32} (ht : thOK T m these) (hn : n ≤ 8) (hm : m ≤ 10) (hO : OKS T n m) (hA : AOK T n) {s : Nat} {mk0 : Int32} {c0 : Nat → Nat} {p0 : Int32} {r0 : Nat} {S0 : SS} {rk : Nat → Nat} (hq0 : S0.mk s = mk0 ∧ S0.co s = c0 ∧ S0.pr s = p0 ∧ S0.rw s = r0) {D0 : Nat → Nat × Nat × Nat} {W0 : Nat → Nat} (hP0 : PI T n m these S0 s 0 D0 rk W0) (hN0 : S0.N ≤ 3000) (hC0 : CL T n these S0 s 0) : ∀ (w : Nat) (S : SS), w ≤ 80 → mrun T n s mk0 c0 p0 r0 these (true, S0) w = (true, S) →
    ∃ D W C, (S.mk s = mk0 ∧ S.co s = c0 ∧ S.pr s = p0 ∧ S.rw s = r0) ∧ PI T n m these S s C D rk W ∧ C ≤ 60 ∧ (∀ k i, w ≤ 8 * k + i → i < 8 → lq T n these S s k i = true → C ≤ cdE T k i) ∧ S.N ≤ 3000 ∧ CL T n these S s w ∧ S0.N ≤ S.N ∧ ∀ j, j < S0.N → S.mk j = S0.mk j ∧ S.co j = S0.co j
  | 0, S, _, h => by
    obtain rfl : S0 = S := (Prod.mk.inj h).2
    exact ⟨D0, W0, 0, hq0, hP0, by omega, fun _ _ _ _ _ => Nat.zero_le _, hN0, hC0, Nat.le_refl _, fun _ _ => ⟨rfl, rfl⟩⟩
  | w + 1, S', hw, h => by
    have hfs : (mrun T n s mk0 c0 p0 r0 these (true, S0) w).1 = true := by
      cases hb : (mrun T n s mk0 c0 p0 r0 these (true, S0) w).1 with
      | true => rfl
      | false => have := mrun_no hb (e := 1); rw [h] at this; cases this
    obtain ⟨S, hS⟩ : ∃ S, mrun T n s mk0 c0 p0 r0 these (true, S0) w = (true, S) := ⟨_, Prod.ext hfs rfl⟩
    obtain ⟨D, W, C, hq, hP, h60, hC, hN, hcl, hle0, hsame⟩ := pure_in ht hn hm hO hA hq0 hP0 hN0 hC0 w S (by omega) hS
    have hs := hP.2.1
    cases hl : lq T n these S s (w / 8) (w % 8) with
    | false =>
      rw [mrun_f hS hq.1 hq.2.1 hl] at h
      obtain rfl : S = S' := (Prod.mk.inj h).2
      refine ⟨D, W, C, hq, hP, h60, fun k i h1 h2 h3 => hC k i (by omega) h2 h3, hN, ⟨hcl.1, fun k i h1 h8 h3 => ?_⟩, hle0, hsame⟩
      by_cases e : 8 * k + i = w
      · obtain rfl : k = w / 8 := by omega
        obtain rfl : i = w % 8 := by omega
        rw [hl] at h3; cases h3
      · exact hcl.2 k i (by omega) h8 h3
    | true =>
      obtain ⟨k1, i1, -⟩ := lq_og ht hn hO hl
      have hgo := mrun_t hS hq.1 hq.2.1 hq.2.2.1 hq.2.2.2 hl
      rw [h] at hgo
      obtain ⟨t, g⟩ := go_GS (S := S) (s := s) (mk := S.mk s ||| bit (w / 8)) (c := shN (S.co s) (w % 8) (gK T (w / 8)) (vK T (w / 8))) (cost := S.pr s + prT T (w % 8) (w / 8)) (row := S.rw s * 64 + cdE T (w / 8) (w % 8)) hs (pr_max hO hA hP i1 k1) (congrArg Prod.fst hgo.symm)
      have e2 : (S.go s (S.mk s ||| bit (w / 8)) (shN (S.co s) (w % 8) (gK T (w / 8)) (vK T (w / 8))) (S.pr s + prT T (w % 8) (w / 8)) (S.rw s * 64 + cdE T (w / 8) (w % 8))).2 = S' := congrArg Prod.snd hgo.symm
      rw [e2] at g
      obtain ⟨-, -, -, hst⟩ := GS.fx ht hn hm hP hl g
      have hpx := hP.1.2.2 s hs
      have hE : EX T n m these S' := by
        have hpay := hpx.pay hn hm k1 i1 hl
        rw [ldT_o (by decide), ldT_o (by decide), ldT_o (by decide)] at hpay
        have e := hP.1.go (s := s) (cost := S.pr s + prT T (w % 8) (w / 8)) (by omega) hpay.1 hpay.2
        have e3 : (S.go s (S.mk s ||| bit (w / 8)) (shN (S.co s) (w % 8) (T 7 (w / 8)).toNatClampNeg (T 8 (w / 8)).toNatClampNeg) (S.pr s + prT T (w % 8) (w / 8)) (S.rw s * 64 + (w / 8 * 6 + rkN (T 6 (w / 8)).toNatClampNeg (T 7 (w / 8)).toNatClampNeg (w % 8)))).2 = S' := e2
        rw [e3] at e
        exact e
      have hPI := PI.go ht hn hm hO hA hP hl (hC _ _ (by omega) (by omega) hl) rfl g hE
      have hcl2 := hcl.go hs g hl rfl rfl
      obtain ⟨g1, g2, g3, g4, -⟩ := g
      refine ⟨_, _, _, ⟨(g2 s hs).1.trans hq.1, (g2 s hs).2.trans hq.2.1, (g4 s hs (by omega)).2.1.trans hq.2.2.1, (g4 s hs (by omega)).2.2.trans hq.2.2.2⟩, hPI, cd_60 ht hn hm hO hl, fun k' i' h1 h2 h3 => ?_, by omega, hcl2, by omega, fun j hj => ⟨(g2 j (by omega)).1.trans (hsame j hj).1, (g2 j (by omega)).2.trans (hsame j hj).2⟩⟩
      rw [lq_eq (g2 s hs)] at h3
      exact (cd_iff ht hn hO hl h3).mpr (by omega)
/-- what can be paid at all; what is paid before -/
def PB (T : TT) (n : Nat) (these : Int32) (S : SS) (s : Nat) (x : Int32 × (Nat → Int32)) : Prop :=
  (∀ j, j < 32 → (bt x.1 j = true ↔ ∃ t, t < s ∧ ∃ i, lq T n these S t j i = true)) ∧ ∀ k, k < 10 → ∀ j, j < 32 → (bt (x.2 k) j = true ↔ bt these j = true ∧ ∀ t, t < s → (∃ i, lq T n these S t k i = true) → bt (S.mk t) j = true)
theorem lvQ_0 {T : TT} {n m : Nat} {these : Int32} (ht : thOK T m these) (hn : n ≤ 8) {S : SS} {t k : Nat} : lvQ (ldT T n (S.co t)) n these (S.mk t) k = 0 ↔ ¬ ∃ i, lq T n these S t k i = true := by
  refine ⟨fun h ⟨i, hi⟩ => ?_, fun h => ?_⟩
  · unfold lq at hi; rw [h, b_0] at hi; cases hi
  · refine b_ext fun i _ => ?_
    rw [b_0]
    exact Bool.eq_false_iff.mpr fun z => h ⟨i, z⟩
theorem lvs_pb {T : TT} {n m : Nat} {these : Int32} (ht : thOK T m these) (hn : n ≤ 8) (hm : m ≤ 10) {S : SS} {s : Nat} {p0 : Int32} {r0 : Nat} {x : XS} (h : PB T n these S s x.2) : ∀ {k : Nat}, k ≤ m → (∀ j, j < 32 → (bt (lvs (ldT T n (S.co s)) n s (S.mk s) (S.co s) p0 r0 these k x).2.1 j = true ↔ bt x.2.1 j = true ∨ (j < k ∧ ∃ i, lq T n these S s j i = true))) ∧ ∀ j, (lvs (ldT T n (S.co s)) n s (S.mk s) (S.co s) p0 r0 these k x).2.2 j = if j < k ∧ ¬ lvQ (ldT T n (S.co s)) n these (S.mk s) j = 0 then x.2.2 j &&& S.mk s else x.2.2 j
  | 0, _ => ⟨fun j _ => ⟨Or.inl, fun z => z.elim id fun z => absurd z.1 (Nat.not_lt_zero _)⟩, fun j => (if_neg fun z => absurd z.1 (Nat.not_lt_zero _)).symm⟩
  | k + 1, hk => by
    obtain ⟨h1, h2⟩ := lvs_pb ht hn hm (p0 := p0) (r0 := r0) h (k := k) (by omega)
    have hq := lvQ_0 ht hn (S := S) (t := s) (k := k)
    simp only [lvs]
    by_cases q : lvQ (ldT T n (S.co s)) n these (S.mk s) k = 0
    · rw [if_pos q, if_pos q]
      have hno := hq.mp q
      refine ⟨fun j hj => (h1 j hj).trans ⟨fun z => z.imp id fun z => ⟨by omega, z.2⟩, fun z => z.imp id fun z => ⟨?_, z.2⟩⟩, fun j => ?_⟩
      · have : j ≠ k := fun e => hno (e ▸ z.2)
        omega
      · rw [h2 j]
        by_cases e : j = k
        · subst e; rw [if_neg (fun z => absurd z.1 (Nat.lt_irrefl _)), if_neg (fun z => z.2 q)]
        · have : (j < k ∧ ¬ lvQ (ldT T n (S.co s)) n these (S.mk s) j = 0) ↔ (j < k + 1 ∧ ¬ lvQ (ldT T n (S.co s)) n these (S.mk s) j = 0) := ⟨fun z => ⟨by omega, z.2⟩, fun z => ⟨by omega, z.2⟩⟩
          simp only [this]
    · rw [if_neg q, if_neg q]
      have hex : ∃ i, lq T n these S s k i = true := Classical.byContradiction fun z => q (hq.mpr z)
      refine ⟨fun j hj => ?_, fun j => ?_⟩
      · rw [b_or, b_bit (by omega), Bool.or_eq_true, h1 j hj, decide_eq_true_eq]
        refine ⟨fun z => ?_, fun z => ?_⟩
        · rcases z with (z | z) | z
          · exact Or.inl z
          · exact Or.inr ⟨by omega, z.2⟩
          · exact Or.inr ⟨by omega, z ▸ hex⟩
        · rcases z with z | z
          · exact Or.inl (Or.inl z)
          · by_cases e : j = k
            · exact Or.inr e
            · exact Or.inl (Or.inr ⟨by omega, z.2⟩)
      · simp only [upd]
        by_cases e : j = k
        · subst e
          rw [if_pos rfl, if_pos ⟨by omega, q⟩, h2 j, if_neg (fun z => absurd z.1 (Nat.lt_irrefl _))]
        · rw [if_neg e, h2 j]
          have : (j < k ∧ ¬ lvQ (ldT T n (S.co s)) n these (S.mk s) j = 0) ↔ (j < k + 1 ∧ ¬ lvQ (ldT T n (S.co s)) n these (S.mk s) j = 0) := ⟨fun z => ⟨by omega, z.2⟩, fun z => ⟨by omega, z.2⟩⟩
          simp only [this]
theorem PB.next {T : TT} {n m : Nat} {these : Int32} (ht : thOK T m these) (hn : n ≤ 8) (hm : m ≤ 10) {S S' : SS} {s : Nat} {p0 : Int32} {r0 : Nat} {x : XS} (h : PB T n these S s x.2) (hs : s < S.N) (hS : ∀ j, j < S.N → S'.mk j = S.mk j ∧ S'.co j = S.co j) : PB T n these S' (s + 1) (lvs (ldT T n (S.co s)) n s (S.mk s) (S.co s) p0 r0 these m x).2 := by
  obtain ⟨h1, h2⟩ := lvs_pb ht hn hm (p0 := p0) (r0 := r0) h (k := m) (Nat.le_refl m)
  have hq : ∀ t j i, t < S.N → lq T n these S' t j i = lq T n these S t j i := fun t j i hN => lq_eq (hS t hN)
  refine ⟨fun j hj => ?_, fun k hk j hj => ?_⟩
  · rw [h1 j hj, h.1 j hj]
    refine ⟨fun z => ?_, fun ⟨t, t1, i, t2⟩ => ?_⟩
    · rcases z with ⟨t, t1, i, t2⟩ | ⟨z, i, t2⟩
      · exact ⟨t, by omega, i, by rw [hq t j i (by omega)]; exact t2⟩
      · exact ⟨s, by omega, i, by rw [hq s j i hs]; exact t2⟩
    · rw [hq t j i (by omega)] at t2
      by_cases e : t = s
      · subst e
        exact Or.inr ⟨(ht j ((lq_iff ht hn).mp t2).1.1).1, i, t2⟩
      · exact Or.inl ⟨t, by omega, i, t2⟩
  · rw [h2 k]
    have hk0 := lvQ_0 ht hn (S := S) (t := s) (k := k)
    have key : (k < m ∧ ¬ lvQ (ldT T n (S.co s)) n these (S.mk s) k = 0) ↔ ∃ i, lq T n these S s k i = true := by
      rw [hk0]
      refine ⟨fun z => Classical.byContradiction fun y => z.2 y, fun z => ⟨?_, fun y => y z⟩⟩
      obtain ⟨i, z⟩ := z
      exact (ht k ((lq_iff ht hn).mp z).1.1).1
    by_cases q : k < m ∧ ¬ lvQ (ldT T n (S.co s)) n these (S.mk s) k = 0
    · rw [if_pos q, b_and, Bool.and_eq_true, h.2 k hk j hj]
      have hex := key.mp q
      refine ⟨fun z => ⟨z.1.1, fun t t1 ⟨i, t2⟩ => ?_⟩, fun z => ⟨⟨z.1, fun t t1 ⟨i, t2⟩ => ?_⟩, ?_⟩⟩
      · rw [hq t k i (by omega)] at t2
        rw [(hS t (by omega)).1]
        by_cases e : t = s
        · subst e; exact z.2
        · exact z.1.2 t (by omega) ⟨i, t2⟩
      · have := z.2 t (by omega) ⟨i, by rw [hq t k i (by omega)]; exact t2⟩
        rw [(hS t (by omega)).1] at this; exact this
      · obtain ⟨i, hi⟩ := hex
        have := z.2 s (by omega) ⟨i, by rw [hq s k i hs]; exact hi⟩
        rw [(hS s hs).1] at this; exact this
    · rw [if_neg q, h.2 k hk j hj]
      refine ⟨fun z => ⟨z.1, fun t t1 ⟨i, t2⟩ => ?_⟩, fun z => ⟨z.1, fun t t1 ⟨i, t2⟩ => ?_⟩⟩
      · rw [hq t k i (by omega)] at t2
        rw [(hS t (by omega)).1]
        by_cases e : t = s
        · subst e; exact absurd (key.mpr ⟨i, t2⟩) q
        · exact z.2 t (by omega) ⟨i, t2⟩
      · have := z.2 t (by omega) ⟨i, by rw [hq t k i (by omega)]; exact t2⟩
        rw [(hS t (by omega)).1] at this; exact this
theorem vrun_pure {T : TT} {n m : Nat} {these : Int32} (ht : thOK T m these) (hn : n ≤ 8) (hm : m ≤ 10) (hO : OKS T n m) (hA : AOK T n) : ∀ (f s : Nat) (x : XS) (D : Nat → Nat × Nat × Nat) (rk W : Nat → Nat), f + s = 3001 → x.1.1 = true → PI T n m these x.1.2 s 0 D rk W → x.1.2.N ≤ 3000 → CL T n these x.1.2 s 0 → PB T n these x.1.2 s x.2 → (vrun T n m these f s x).1.1 = true →
    ∃ D rk W, PI T n m these (vrun T n m these f s x).1.2 ((vrun T n m these f s x).1.2.N - 1) 60 D rk W ∧ (vrun T n m these f s x).1.2.N ≤ 3000 ∧ CL T n these (vrun T n m these f s x).1.2 (vrun T n m these f s x).1.2.N 0 ∧ PB T n these (vrun T n m these f s x).1.2 (vrun T n m these f s x).1.2.N (vrun T n m these f s x).2
  | 0, s, x, D, rk, W, hf, hx, hP, hN, hC, hB, hv => by have := hP.2.1; omega
  | f + 1, s, x, D, rk, W, hf, hx, hP, hN, hC, hB, hv => by
    obtain ⟨⟨b, S⟩, z⟩ := x
    obtain rfl : b = true := hx
    have hsN : s < S.N := hP.2.1
    rw [vrun_go (x := ((true, S), z)) hsN rfl] at hv ⊢
    have h80 := mrun_80 (T := T) (n := n) (s := s) (m := m) (mk0 := S.mk s) (c0 := S.co s) (p0 := S.pr s) (r0 := S.rw s) (these := these) (x := ((true, S), z)) hn hm ht
    obtain ⟨y, hy⟩ : ∃ y, lvs (ldT T n (S.co s)) n s (S.mk s) (S.co s) (S.pr s) (S.rw s) these m ((true, S), z) = y := ⟨_, rfl⟩
    have hy1 : lvs (ldT T n ((((true, S), z) : XS).1.2.co s)) n s ((((true, S), z) : XS).1.2.mk s) ((((true, S), z) : XS).1.2.co s) ((((true, S), z) : XS).1.2.pr s) ((((true, S), z) : XS).1.2.rw s) these m ((true, S), z) = y := hy
    rw [hy1] at hv ⊢
    rw [hy] at h80
    cases hyb : y.1.1 with
    | false =>
      rw [vrun_stop (fun q => by rw [hyb] at q; cases q.2)] at hv
      rw [hyb] at hv; cases hv
    | true =>
      obtain ⟨D', W', C, hq, hP', h60, hC', hN', hcl, hle, hsame⟩ := pure_in ht hn hm hO hA (S0 := S) ⟨rfl, rfl, rfl, rfl⟩ hP hN hC 80 y.1.2 (Nat.le_refl _) (h80.trans (Prod.ext hyb rfl))
      have hPB := PB.next ht hn hm (p0 := S.pr s) (r0 := S.rw s) hB hsN hsame
      rw [hy] at hPB
      have hcl2 : CL T n these y.1.2 (s + 1) 0 := by
        refine ⟨fun t ht2 k i hl => ?_, fun k i h1 => absurd h1 (Nat.not_lt_zero _)⟩
        by_cases e : t = s
        · subst e
          obtain ⟨k1, i1, -⟩ := lq_og ht hn hO hl
          exact hcl.2 k i (by omega) (by omega) hl
        · exact hcl.1 t (by omega) k i hl
      by_cases q : s + 1 < y.1.2.N
      · exact vrun_pure ht hn hm hO hA f (s + 1) y D' y.1.2.rw W' (by omega) hyb (hP'.next q fun _ _ _ _ _ _ => Iff.rfl) hN' hcl2 hPB hv
      · have hs2 : y.1.2.N = s + 1 := by have := hP'.2.1; omega
        rw [vrun_stop (fun z => q z.1)]
        refine ⟨D', rk, W', ?_, hN', ?_, ?_⟩
        · rw [hs2, Nat.add_sub_cancel]; exact hP'.wk h60
        · rw [hs2]; exact hcl2
        · rw [hs2]; exact hPB
theorem vis_pure {T : TT} {n m : Nat} {these : Int32} (ht : thOK T m these) (hn : n ≤ 8) (hm : m ≤ 10) (hO : OKS T n m) (hA : AOK T n) (hv : (vis T n m these).1.1 = true) : (∃ D, CX T n m these (vis T n m these).1.2 D) ∧ PB T n these (vis T n m these).1.2 (vis T n m these).1.2.N (vis T n m these).2 := by
  have hE : EX T n m these (SF (coT T n)) := SF_EX hO (fun i hi => by have := hO.1 i hi; omega)
  obtain ⟨D, rk, W, h1, h2, h3, h4⟩ := vrun_pure ht hn hm hO hA 3001 0 ((true, SF (coT T n)), 0, fun _ => these) _ _ _ rfl rfl (PI.start hE) (show 1 ≤ 3000 by omega) ⟨fun t ht => absurd ht (Nat.not_lt_zero _), fun k i h => absurd h (Nat.not_lt_zero _)⟩ ⟨fun j _ => ⟨fun z => absurd ((b_0 j).symm.trans z) (by decide), fun ⟨t, z, _⟩ => absurd z (Nat.not_lt_zero _)⟩, fun k _ j _ => ⟨fun z => ⟨z, fun t z => absurd z (Nat.not_lt_zero _)⟩, fun z => z.1⟩⟩ hv
  exact ⟨⟨D, h1.1, h1.pd, h1.2.2.1.1, h2, fun t htN k i hl => h3.1 t htN k i hl⟩, h4⟩
theorem CX_uniq {T : TT} {n m : Nat} {these : Int32} (ht : thOK T m these) (hn : n ≤ 8) (hm : m ≤ 10) (hO : OKS T n m) {S : SS} {D D' : Nat → Nat × Nat × Nat} (h : CX T n m these S D) (h' : CX T n m these S D') {t : Nat} (h0 : 0 < t) (hN : t < S.N) : D t = D' t := by
  obtain ⟨a1, a2, a3⟩ := h.2.1 t h0 hN
  obtain ⟨b1, b2, b3⟩ := h'.2.1 t h0 hN
  have ca := cd_60 ht hn hm hO a2.1
  have cb := cd_60 ht hn hm hO b2.1
  have pa := eg_pc ht hn hm a2
  have pb := eg_pc ht hn hm b2
  have e1 : (D t).1 = (D' t).1 := row_inj ht hn hm hO h.1 h.2.1 ((D t).1 + 1) _ _ (by omega) (by omega) (by omega) (by omega) (by omega)
  obtain ⟨e2, e3⟩ := cd_inj ht hn hO a2.1 b2.1 (by omega)
  exact Prod.ext e1 (Prod.ext e2 e3)
theorem anc_uniq {T : TT} {n m : Nat} {these : Int32} (ht : thOK T m these) (hn : n ≤ 8) (hm : m ≤ 10) (hO : OKS T n m) {S : SS} {D D' : Nat → Nat × Nat × Nat} (h : CX T n m these S D) (h' : CX T n m these S D') {t : Nat} (hN : t < S.N) : ∀ {j : Nat}, j ≤ pcS S t → anc D t j = anc D' t j
  | 0, _ => rfl
  | j + 1, hj => by
    have h1 := anc_uniq ht hn hm hO h h' hN (j := j) (by omega)
    simp only [anc]
    rw [CX_uniq ht hn hm hO h h' (anc_pos ht hn hm h.1 h.2.1 hN (show j < pcS S t by omega)) (anc_lt ht hn hm h.1 h.2.1 hN (show j ≤ pcS S t by omega)).1, h1]
theorem pyD_uniq {T : TT} {n m : Nat} {these : Int32} (ht : thOK T m these) (hn : n ≤ 8) (hm : m ≤ 10) (hO : OKS T n m) {S : SS} {D D' : Nat → Nat × Nat × Nat} (h : CX T n m these S D) (h' : CX T n m these S D') {t : Nat} (hN : t < S.N) {j : Nat} (hj : j < pcS S t) : pyD D t j = pyD D' t j := by
  unfold pyD
  rw [← anc_uniq ht hn hm hO h h' hN (Nat.le_of_lt hj), CX_uniq ht hn hm hO h h' (anc_pos ht hn hm h.1 h.2.1 hN hj) (anc_lt ht hn hm h.1 h.2.1 hN (Nat.le_of_lt hj)).1]
/-- what never can be paid -/
theorem never_eq {T : TT} {n m : Nat} {these : Int32} (ht : thOK T m these) (hn : n ≤ 8) (hm : m ≤ 10) (hO : OKS T n m) {S : SS} {D : Nat → Nat × Nat × Nat} (hC : CX T n m these S D) {p : Int32} (hp : ∀ j, j < 32 → (bt p j = true ↔ ∃ t, t < S.N ∧ ∃ i, lq T n these S t j i = true)) : these &&& (p ^^^ -1) = these &&& (orI S.mk S.N ^^^ -1) := by
  have key : ∀ (e t : Nat), t < e → t < S.N → ∀ j, bt (S.mk t) j = true → ∃ u, u < S.N ∧ ∃ i, lq T n these S u j i = true := fun e => by
    induction e with
    | zero => intro t h; exact absurd h (Nat.not_lt_zero _)
    | succ e ih =>
      intro t h hN j hj
      by_cases t0 : t = 0
      · subst t0; rw [hC.1.2.1.2.1, b_0] at hj; cases hj
      · obtain ⟨a1, a2, a3⟩ := hC.2.1 t (by omega) hN
        have hk := (ht _ ((lq_iff ht hn).mp a2.1).1.1).1
        rw [a2.2.1, b_or, b_bit (by omega), Bool.or_eq_true, decide_eq_true_eq] at hj
        rcases hj with hj | hj
        · exact ih _ (Nat.lt_of_lt_of_le a1 (by omega)) (by omega) j hj
        · exact ⟨(D t).1, by omega, (D t).2.2, by rw [hj]; exact a2.1⟩
  refine b_ext fun j hj => ?_
  rw [b_and, b_and, b_not _ hj, b_not _ hj]
  have e : bt p j = bt (orI S.mk S.N) j := by
    refine Bool.eq_iff_iff.mpr ((hp j hj).trans (Iff.trans ?_ b_orI.symm))
    refine ⟨fun ⟨t, t1, i, t2⟩ => ?_, fun ⟨t, t1, t2⟩ => key (t + 1) t (by omega) t1 j t2⟩
    obtain ⟨u, u1, u2⟩ := hC.2.2.2.2 t t1 j i t2
    exact ⟨u, u2, by rw [u1.2.1, b_or, b_bit (by have := (ht _ ((lq_iff ht hn).mp t2).1.1).1; omega)]; simp⟩
  rw [e]
theorem adP_iff {T : TT} {n m : Nat} {these : Int32} (ht : thOK T m these) (hn : n ≤ 8) {S : SS} {k s : Nat} : adP T n these S k s = true ↔ ∃ i, lq T n these S s k i = true := by
  unfold adP
  rw [anyB_iff]
  exact ⟨fun ⟨i, _, h⟩ => ⟨i, h⟩, fun ⟨i, h⟩ => ⟨i, by have := ((lq_iff ht hn).mp h).2.1; omega, h⟩⟩
theorem b_adF {T : TT} {n : Nat} {these : Int32} {S : SS} {k j : Nat} (hj : j < 32) : ∀ {s : Nat}, bt (adF T n these S k s) j = true ↔ ∀ t, t < s → adP T n these S k t = true → bt (S.mk t) j = true
  | 0 => ⟨fun _ t ht => absurd ht (Nat.not_lt_zero _), fun _ => b_m1 j hj⟩
  | s + 1 => by
    have ih := b_adF (T := T) (n := n) (these := these) (S := S) (k := k) hj (s := s)
    simp only [adF]
    by_cases q : adP T n these S k s = true
    · rw [if_pos q, b_and, Bool.and_eq_true, ih]
      refine ⟨fun z t ht hp => ?_, fun z => ⟨fun t ht hp => z t (by omega) hp, z s (by omega) q⟩⟩
      by_cases e : t = s
      · subst e; exact z.2
      · exact z.1 t (by omega) hp
    · rw [if_neg q, ih]
      refine ⟨fun z t ht hp => ?_, fun z t ht hp => z t (by omega) hp⟩
      by_cases e : t = s
      · subst e; exact absurd hp q
      · exact z t (by omega) hp
theorem ahead_eq {T : TT} {n m : Nat} {these : Int32} (ht : thOK T m these) (hn : n ≤ 8) (hm : m ≤ 10) {S : SS} {D : Nat → Nat × Nat × Nat} (hC : CX T n m these S D) {x : Int32 × (Nat → Int32)} (hB : PB T n these S S.N x) {k : Nat} (hk : k < 10) : (bt x.1 k = true ↔ anyB (adP T n these S k) S.N = true) ∧ (bt x.1 k = true → x.2 k = adF T n these S k S.N) := by
  have e1 : bt x.1 k = true ↔ anyB (adP T n these S k) S.N = true := by
    rw [hB.1 k (by omega), anyB_iff]
    exact ⟨fun ⟨t, t1, h⟩ => ⟨t, t1, (adP_iff ht hn).mpr h⟩, fun ⟨t, t1, h⟩ => ⟨t, t1, (adP_iff ht hn).mp h⟩⟩
  refine ⟨e1, fun hany => b_ext fun j hj => Bool.eq_iff_iff.mpr ?_⟩
  rw [hB.2 k hk j hj, b_adF hj]
  refine ⟨fun z t t1 hp => z.2 t t1 ((adP_iff ht hn).mp hp), fun z => ⟨?_, fun t t1 hp => z t t1 ((adP_iff ht hn).mpr hp)⟩⟩
  obtain ⟨t, t1, t2⟩ := anyB_iff.mp (e1.mp hany)
  exact (hC.1.2.2 t t1).1 j (z t t1 t2)
