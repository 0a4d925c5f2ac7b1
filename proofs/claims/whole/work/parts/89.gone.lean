/-! a step, as seen from both sides: t is where it leads -/
def acT (S : SS) (t : Nat) (cost : Int32) (row : Nat) : Prop := t = S.N ∨ cost < S.pr t ∨ (cost = S.pr t ∧ row < S.rw t)
def GS (S S' : SS) (s t : Nat) (mk : Int32) (c : Nat → Nat) (cost : Int32) (row : Nat) : Prop :=
  ((t < S.N ∧ S'.N = S.N ∧ S.is mk c t) ∨ (t = S.N ∧ S.N < 3000 ∧ S'.N = S.N + 1 ∧ ∀ j, j < S.N → ¬ S.is mk c j)) ∧ (∀ j, j < S.N → S'.mk j = S.mk j ∧ S'.co j = S.co j) ∧ S'.is mk c t ∧
  (∀ j, j < S.N → j ≠ t → S'.wy j = S.wy j ∧ S'.pr j = S.pr j ∧ S'.rw j = S.rw j) ∧
  S'.wy t = (if t < S.N then S.wy t else 0) + S.wy s ∧
  (acT S t cost row → S'.pr t = cost ∧ S'.rw t = row) ∧ (¬ acT S t cost row → S'.pr t = S.pr t ∧ S'.rw t = S.rw t)
theorem go_GS {S : SS} {s : Nat} {mk : Int32} {c : Nat → Nat} {cost : Int32} {row : Nat} (hs : s < S.N) (hc : cost < 2147483647) (h : (S.go s mk c cost row).1 = true) : ∃ t, GS S (S.go s mk c cost row).2 s t mk c cost row := by
  rcases go_cases S s mk c cost row with ⟨t, h1, h2, e⟩ | ⟨h1, h2, e⟩ | ⟨h1, h2, e⟩
  · refine ⟨t, ?_⟩
    rw [e]
    refine ⟨Or.inl ⟨h1, rfl, h2⟩, fun j _ => ⟨ld_mk, ld_co⟩, h2, fun j hj hn => ⟨ld_wy.trans (if_neg hn), ld_pr.trans (if_neg fun z => hn z.2), ld_rw.trans (if_neg fun z => hn z.2)⟩, ?_, fun ha => ?_, fun ha => ?_⟩
    · rw [if_pos h1]; exact ld_wy.trans (if_pos rfl)
    · have ha := ha.resolve_left (by omega)
      exact ⟨ld_pr.trans (if_pos ⟨ha, rfl⟩), ld_rw.trans (if_pos ⟨ha, rfl⟩)⟩
    · exact ⟨ld_pr.trans (if_neg fun z => ha (Or.inr z.1)), ld_rw.trans (if_neg fun z => ha (Or.inr z.1))⟩
  · refine ⟨S.N, ?_⟩
    rw [e]
    have hx : cost < (S.add mk c).pr S.N := by rw [ad_pr, if_pos rfl]; exact hc
    refine ⟨Or.inr ⟨rfl, h2, rfl, h1⟩, fun j hj => ⟨ld_mk.trans (ad_mk.trans (if_neg (by omega))), ld_co.trans (ad_co.trans (if_neg (by omega)))⟩, ⟨ld_mk.trans (ad_mk.trans (if_pos rfl)), fun i _ => by rw [ld_co, ad_co, if_pos rfl]⟩, fun j hj hn => ⟨ld_wy.trans ((if_neg hn).trans (ad_wy.trans (if_neg hn))), ld_pr.trans ((if_neg fun z => hn z.2).trans (ad_pr.trans (if_neg hn))), ld_rw.trans ((if_neg fun z => hn z.2).trans (ad_rw.trans (if_neg hn)))⟩, ?_, fun _ => ?_, fun ha => absurd (Or.inl rfl) ha⟩
    · rw [if_neg (Nat.lt_irrefl _)]
      refine ld_wy.trans ((if_pos rfl).trans ?_)
      rw [ad_wy, ad_wy, if_pos rfl, if_neg (by omega)]
    · exact ⟨ld_pr.trans (if_pos ⟨Or.inl hx, rfl⟩), ld_rw.trans (if_pos ⟨Or.inl hx, rfl⟩)⟩
  · rw [e] at h; cases h
/-- what holds while s is left, with so much of it done -/
def PI (T : TT) (n m : Nat) (these : Int32) (S : SS) (s C : Nat) (D : Nat → Nat × Nat × Nat) (rk W : Nat → Nat) : Prop :=
  EX T n m these S ∧ s < S.N ∧
  ((∀ a b, a ≤ b → b < S.N → pcS S a ≤ pcS S b) ∧ (∀ t, t < S.N → pcS S t ≤ pcS S s + 1)) ∧
  (∀ t, 0 < t → t < S.N → (D t).1 < t ∧ (D t).1 ≤ s ∧ eg T n these S (D t).1 (D t).2.1 (D t).2.2 t ∧ S.rw t = S.rw (D t).1 * 64 + cdE T (D t).2.1 (D t).2.2) ∧
  (∀ t, t < S.N → 0 ≤ (S.pr t).toInt ∧ (S.pr t).toInt ≤ 197 * (pcS S t : Int)) ∧
  (∀ p q, p < S.N → q < S.N → pcS S p = pcS S q → pcS S p ≤ pcS S s → (rk p < rk q ↔ S.rw p < S.rw q)) ∧
  (∀ t, t < S.N → S.wy t = lN (W t) ∧ 0 < W t) ∧ nsm (phi these S W s C) S.N ≤ 60 ^ 10
/-- the parents alone -/
def PD (T : TT) (n : Nat) (these : Int32) (S : SS) (D : Nat → Nat × Nat × Nat) : Prop := ∀ t, 0 < t → t < S.N → (D t).1 < t ∧ eg T n these S (D t).1 (D t).2.1 (D t).2.2 t ∧ S.rw t = S.rw (D t).1 * 64 + cdE T (D t).2.1 (D t).2.2
theorem PI.pd {T : TT} {n m : Nat} {these : Int32} {S : SS} {s C : Nat} {D : Nat → Nat × Nat × Nat} {rk W : Nat → Nat} (h : PI T n m these S s C D rk W) : PD T n these S D := fun t h0 ht => ⟨(h.2.2.2.1 t h0 ht).1, (h.2.2.2.1 t h0 ht).2.2⟩
theorem eg_pc {T : TT} {n m : Nat} {these : Int32} (ht : thOK T m these) (hn : n ≤ 8) (hm : m ≤ 10) {S : SS} {p k i t : Nat} (h : eg T n these S p k i t) : pcS S t = pcS S p + 1 := by
  obtain ⟨⟨h1, h2⟩, -⟩ := (lq_iff ht hn).mp h.1
  have := (ht k h1).1
  unfold pcS
  rw [h.2.1, pcN_or (by omega) h2, if_pos (by omega)]
theorem pcN_0 : ∀ {n : Nat}, pcN 0 n = 0
  | 0 => rfl
  | n + 1 => by simp only [pcN, pcN_0 (n := n), b_0]; rfl
theorem row_inj {T : TT} {n m : Nat} {these : Int32} (ht : thOK T m these) (hn : n ≤ 8) (hm : m ≤ 10) (hO : OKS T n m) {S : SS} {D : Nat → Nat × Nat × Nat} (hE : EX T n m these S) (hD : PD T n these S D) : ∀ (e a b : Nat), a < e → a < S.N → b < S.N → pcS S a = pcS S b → S.rw a = S.rw b → a = b
  | 0, a, b, h, _, _, _, _ => absurd h (Nat.not_lt_zero _)
  | e + 1, a, b, h, ha, hb, hp, hr => by
    have h0 : pcS S 0 = 0 := by unfold pcS; rw [hE.2.1.2.1, pcN_0]
    by_cases a0 : a = 0
    · subst a0
      by_cases b0 : b = 0
      · exact b0.symm
      · have := eg_pc ht hn hm (hD b (by omega) hb).2.1
        omega
    · by_cases b0 : b = 0
      · subst b0
        have := eg_pc ht hn hm (hD a (by omega) ha).2.1
        omega
      · obtain ⟨a1, a2, a3⟩ := hD a (by omega) ha
        obtain ⟨b1, b2, b3⟩ := hD b (by omega) hb
        have ca := cd_60 ht hn hm hO a2.1
        have cb := cd_60 ht hn hm hO b2.1
        have pa := eg_pc ht hn hm a2
        have pb := eg_pc ht hn hm b2
        have e1 : (D a).1 = (D b).1 := row_inj ht hn hm hO hE hD e _ _ (by omega) (by omega) (by omega) (by omega) (by omega)
        obtain ⟨e2, e3⟩ := cd_inj ht hn hO a2.1 b2.1 (by omega)
        rw [← e1, ← e2, ← e3] at b2
        exact hE.1 a b ha hb (a2.2.1.trans b2.2.1.symm) fun i hi => (a2.2.2 i hi).trans (b2.2.2 i hi).symm
theorem lead_iff {T : TT} {n m : Nat} {these : Int32} (ht : thOK T m these) (hn : n ≤ 8) (hm : m ≤ 10) (hO : OKS T n m) {S : SS} {s C : Nat} {D : Nat → Nat × Nat × Nat} {rk W : Nat → Nat} (h : PI T n m these S s C D rk W) {k i t : Nat} (hl : eg T n these S s k i t) (h0 : 0 < t) (htN : t < S.N) :
    (rk s < rk (D t).1 ∨ (s = (D t).1 ∧ 8 * k + i < 8 * (D t).2.1 + (D t).2.2)) ↔ S.rw s * 64 + cdE T k i < S.rw t := by
  obtain ⟨a1, a2, a3⟩ := h.pd t h0 htN
  have ca := cd_60 ht hn hm hO a2.1
  have cb := cd_60 ht hn hm hO hl.1
  have pa := eg_pc ht hn hm a2
  have pb := eg_pc ht hn hm hl
  have hsN := h.2.1
  by_cases e : s = (D t).1
  · rw [← e] at a3 ⊢
    have := cd_iff ht hn hO hl.1 a2.1
    rw [a3]
    have := Nat.lt_irrefl (rk s)
    omega
  · have hne : S.rw s ≠ S.rw (D t).1 := fun q => e (row_inj ht hn hm hO h.1 h.pd (s + 1) s (D t).1 (by omega) hsN (by omega) (by omega) q)
    have := h.2.2.2.2.2.1 s (D t).1 hsN (by omega) (by omega) (Nat.le_refl _)
    omega
theorem lq_eq {T : TT} {n : Nat} {these : Int32} {S S' : SS} {p k i : Nat} (h : S'.mk p = S.mk p ∧ S'.co p = S.co p) : lq T n these S' p k i = lq T n these S p k i := by unfold lq; rw [h.1, h.2]
theorem eg_eq {T : TT} {n : Nat} {these : Int32} {S S' : SS} {p k i t : Nat} (h : S'.mk p = S.mk p ∧ S'.co p = S.co p) (h2 : S'.mk t = S.mk t ∧ S'.co t = S.co t) (e : eg T n these S p k i t) : eg T n these S' p k i t := by
  refine ⟨by rw [lq_eq h]; exact e.1, ?_⟩
  unfold SS.is
  rw [h.1, h.2, h2.1, h2.2]
  exact e.2
