def updD (D : Nat → Nat × Nat × Nat) (t : Nat) (x : Nat × Nat × Nat) : Nat → Nat × Nat × Nat := fun j => if j = t then x else D j
def updW (S : SS) (W : Nat → Nat) (s t : Nat) : Nat → Nat := fun j => if j = t then (if t < S.N then W t else 0) + W s else W j
def dAc (S : SS) (t : Nat) (cost : Int32) (row : Nat) (D : Nat → Nat × Nat × Nat) (x : Nat × Nat × Nat) : Nat → Nat × Nat × Nat := if t = S.N ∨ cost < S.pr t ∨ (cost = S.pr t ∧ row < S.rw t) then updD D t x else D
theorem dAc_t {S : SS} {t : Nat} {cost : Int32} {row : Nat} {D : Nat → Nat × Nat × Nat} {x : Nat × Nat × Nat} (h : acT S t cost row) : dAc S t cost row D x = updD D t x := if_pos h
theorem dAc_f {S : SS} {t : Nat} {cost : Int32} {row : Nat} {D : Nat → Nat × Nat × Nat} {x : Nat × Nat × Nat} (h : ¬ acT S t cost row) : dAc S t cost row D x = D := if_neg h
theorem dAc_o {S : SS} {t j : Nat} {cost : Int32} {row : Nat} {D : Nat → Nat × Nat × Nat} {x : Nat × Nat × Nat} (h : j ≠ t) : dAc S t cost row D x j = D j := by
  unfold dAc
  split
  · exact if_neg h
  · rfl
theorem PI.go {T : TT} {n m : Nat} {these : Int32} (ht : thOK T m these) (hn : n ≤ 8) (hm : m ≤ 10) (hO : OKS T n m) (hA : AOK T n) {S S' : SS} {s C k i t : Nat} {D : Nat → Nat × Nat × Nat} {rk W : Nat → Nat} {cost : Int32} (h : PI T n m these S s C D rk W) (hl : lq T n these S s k i = true) (hC : C ≤ cdE T k i) (hcost : cost = S.pr s + prT T i k) (g : GS S S' s t (S.mk s ||| bit k) (shN (S.co s) i (gK T k) (vK T k)) cost (S.rw s * 64 + cdE T k i)) (hE : EX T n m these S') :
    PI T n m these S' s (cdE T k i + 1) (dAc S t cost (S.rw s * 64 + cdE T k i) D (s, k, i)) rk (updW S W s t) := by
  obtain ⟨g1, g2, g3, g4, g5, g6, g7⟩ := g
  obtain ⟨h1, hs, ⟨hl1, hl2⟩, hD, hP, hR, hW, hF⟩ := h
  obtain ⟨k1, i1, -⟩ := lq_og ht hn hO hl
  obtain ⟨⟨lb1, lb2⟩, -⟩ := (lq_iff ht hn).mp hl
  have hc60 := cd_60 ht hn hm hO hl
  have hpt : pcS S' t = pcS S s + 1 := by
    unfold pcS
    rw [g3.1, pcN_or (by omega) lb2, if_pos (by omega)]
  have hpo : ∀ j, j < S.N → pcS S' j = pcS S j := fun j hj => by unfold pcS; rw [(g2 j hj).1]
  have hN : S'.N = S.N ∧ t < S.N ∨ S'.N = S.N + 1 ∧ t = S.N := g1.elim (fun q => Or.inl ⟨q.2.1, q.1⟩) fun q => Or.inr ⟨q.2.2.1, q.1⟩
  have hst : s < t := by
    rcases hN with ⟨q, q2⟩ | ⟨q, q2⟩
    · refine Nat.lt_of_not_le fun z => ?_
      have := hl1 t s z hs
      rw [hpo t q2] at hpt
      omega
    · omega
  have hot : ∀ j, j < S'.N → j ≠ t → j < S.N := fun j a b => by omega
  have htN : t < S'.N := by omega
  have hlay : ∀ a b, a ≤ b → b < S'.N → pcS S' a ≤ pcS S' b := fun a b hab hb => by
    by_cases q : b < S.N
    · rw [hpo a (by omega), hpo b q]; exact hl1 a b hab q
    · obtain rfl : b = t := by omega
      by_cases z : a = b
      · subst z; exact Nat.le_refl _
      · rw [hpt, hpo a (by omega)]; exact hl2 a (by omega)
  have hrs : S'.rw s = S.rw s := (g4 s hs (by omega)).2.2
  refine ⟨hE, by omega, ⟨hlay, fun j hj => ?_⟩, fun j h0 hj => ?_, fun j hj => ?_, fun p q hp hq hpq hle => ?_, fun j hj => ?_, ?_⟩
  · rw [hpo s hs]
    by_cases q : j = t
    · rw [q, hpt]; exact Nat.le_refl _
    · rw [hpo j (hot j hj q)]; exact hl2 j (hot j hj q)
  · by_cases q : j = t
    · subst q
      by_cases ac : acT S j cost (S.rw s * 64 + cdE T k i)
      · rw [dAc_t ac, show updD D j (s, k, i) j = (s, k, i) from if_pos rfl]
        refine ⟨hst, Nat.le_refl _, ⟨by rw [lq_eq (g2 s hs)]; exact hl, ?_⟩, ?_⟩
        · show S'.is (S'.mk s ||| bit k) (shN (S'.co s) i (gK T k) (vK T k)) j
          rw [(g2 s hs).1, (g2 s hs).2]
          exact g3
        · show S'.rw j = S'.rw s * 64 + cdE T k i
          rw [(g6 ac).2, hrs]
      · rw [dAc_f ac]
        have hjN : j < S.N := hN.elim (fun q => q.2) fun q => absurd (Or.inl q.2) ac
        obtain ⟨d1, d2, d3, d4⟩ := hD j h0 hjN
        refine ⟨d1, d2, eg_eq (g2 _ (by omega)) (g2 j hjN) d3, ?_⟩
        rw [(g7 ac).2, (g4 (D j).1 (by omega) (by omega)).2.2, d4]
    · have hjN := hot j hj q
      rw [dAc_o q]
      obtain ⟨d1, d2, d3, d4⟩ := hD j h0 hjN
      refine ⟨d1, d2, eg_eq (g2 _ (by omega)) (g2 j hjN) d3, ?_⟩
      rw [(g4 j hjN q).2.2, (g4 (D j).1 (by omega) (by omega)).2.2, d4]
  · by_cases q : j = t
    · subst q
      by_cases ac : acT S j cost (S.rw s * 64 + cdE T k i)
      · rw [(g6 ac).1, hpt, hcost]
        have p1 := hP s hs
        have p2 := prT_le hO hA i1 k1
        have p3 : pcS S s ≤ 10 := pcN_le
        rw [i_add (by omega) (by omega)]
        omega
      · have hjN : j < S.N := hN.elim (fun q => q.2) fun q => absurd (Or.inl q.2) ac
        rw [(g7 ac).1, hpo j hjN]
        exact hP j hjN
    · rw [(g4 j (hot j hj q) q).2.1, hpo j (hot j hj q)]
      exact hP j (hot j hj q)
  · have hp1 : p ≠ t := fun e => by rw [e, hpt, hpo s hs] at hle; omega
    have hq1 : q ≠ t := fun e => by rw [hpq, e, hpt, hpo s hs] at hle; omega
    rw [hpo p (hot p hp hp1), hpo q (hot q hq hq1)] at hpq
    rw [hpo p (hot p hp hp1), hpo s hs] at hle
    rw [(g4 p (hot p hp hp1) hp1).2.2, (g4 q (hot q hq hq1) hq1).2.2]
    exact hR p q (hot p hp hp1) (hot q hq hq1) hpq hle
  · by_cases q : j = t
    · subst q
      rw [g5, show updW S W s j j = (if j < S.N then W j else 0) + W s from if_pos rfl]
      have hws := hW s hs
      split
      · next z => rw [(hW j z).1, hws.1, lN_add]; exact ⟨rfl, by omega⟩
      · rw [hws.1, show (0 : Int64) = lN 0 from rfl, lN_add]; exact ⟨rfl, by omega⟩
    · rw [(g4 j (hot j hj q) q).1, show updW S W s t j = W j from if_neg q]
      exact hW j (hot j hj q)
  · refine Nat.le_trans ?_ hF
    have p3 : pcS S s < 10 := pcN_lt lb2 (by omega)
    have hmt : S.mk s ≠ these := fun e => by rw [e] at lb2; rw [lb2] at lb1; cases lb1
    have fs : phi these S W s C s = W s * ((60 - C) * 60 ^ (9 - pcS S s)) := by
      unfold phi; rw [if_neg (fun z => z.elim hmt fun z => by omega), if_pos rfl, if_pos p3]
    have fs' : phi these S' (updW S W s t) s (cdE T k i + 1) s = W s * ((60 - (cdE T k i + 1)) * 60 ^ (9 - pcS S s)) := by
      unfold phi; rw [(g2 s hs).1, hpo s hs, if_neg (fun z => z.elim hmt fun z => by omega), if_pos rfl, if_pos p3, show updW S W s t s = W s from if_neg (by omega)]
    have ft' : phi these S' (updW S W s t) s (cdE T k i + 1) t = ((if t < S.N then W t else 0) + W s) * 60 ^ (9 - pcS S s) := by
      unfold phi; rw [if_pos (Or.inr hst), hpt, show updW S W s t t = (if t < S.N then W t else 0) + W s from if_pos rfl, show 10 - (pcS S s + 1) = 9 - pcS S s by omega]
    have fo : ∀ j, j < S.N → j ≠ s → j ≠ t → phi these S' (updW S W s t) s (cdE T k i + 1) j = phi these S W s C j := fun j hj a b => by
      unfold phi; rw [(g2 j hj).1, hpo j hj, show updW S W s t j = W j from if_neg b, if_neg a, if_neg a]
    obtain ⟨E9, hE9⟩ : ∃ z, 60 ^ (9 - pcS S s) = z := ⟨_, rfl⟩
    rw [hE9] at fs fs' ft'
    obtain ⟨x, hx⟩ : ∃ x, 60 - C = x + 1 + (60 - (cdE T k i + 1)) := ⟨60 - C - 1 - (60 - (cdE T k i + 1)), by omega⟩
    have hdec : phi these S' (updW S W s t) s (cdE T k i + 1) s + W s * E9 ≤ phi these S W s C s := by
      rw [fs, fs', hx]
      have : (x + 1 + (60 - (cdE T k i + 1))) * E9 = x * E9 + E9 + (60 - (cdE T k i + 1)) * E9 := by rw [Nat.add_mul, Nat.add_mul, Nat.one_mul]
      rw [this, Nat.mul_add, Nat.mul_add]
      omega
    rcases hN with ⟨q, q2⟩ | ⟨q, q2⟩
    · rw [q]
      rw [if_pos q2, Nat.add_mul] at ft'
      have ft : phi these S W s C t = W t * E9 := by
        unfold phi; rw [if_pos (Or.inr hst)]
        rw [hpo t q2] at hpt
        rw [hpt, show 10 - (pcS S s + 1) = 9 - pcS S s by omega, hE9]
      have a1 := nsm_one (f := phi these S W s C) (g := fun j => if j = s then phi these S' (updW S W s t) s (cdE T k i + 1) j else phi these S W s C j) (n := S.N) hs (fun j _ hj => if_neg hj)
      have a2 := nsm_one (f := fun j => if j = s then phi these S' (updW S W s t) s (cdE T k i + 1) j else phi these S W s C j) (g := phi these S' (updW S W s t) s (cdE T k i + 1)) (n := S.N) q2 (fun j hj hj2 => by
        by_cases z : j = s
        · exact (if_pos z).symm
        · rw [fo j hj z hj2]; exact (if_neg z).symm)
      simp only [if_true, if_neg (show ¬ t = s by omega)] at a1 a2
      omega
    · rw [q]
      rw [if_neg (by omega), Nat.zero_add] at ft'
      simp only [nsm]
      have a1 := nsm_one (f := phi these S W s C) (g := phi these S' (updW S W s t) s (cdE T k i + 1)) (n := S.N) hs (fun j hj hj2 => fo j hj hj2 (by omega))
      have e2 : phi these S' (updW S W s t) s (cdE T k i + 1) S.N = W s * E9 := by rw [← q2]; exact ft'
      omega
theorem PI.wk {T : TT} {n m : Nat} {these : Int32} {S : SS} {s C C' : Nat} {D : Nat → Nat × Nat × Nat} {rk W : Nat → Nat} (h : PI T n m these S s C D rk W) (hC : C ≤ C') : PI T n m these S s C' D rk W :=
  ⟨h.1, h.2.1, h.2.2.1, h.2.2.2.1, h.2.2.2.2.1, h.2.2.2.2.2.1, h.2.2.2.2.2.2.1, Nat.le_trans (nsm_mono fun _ _ => phi_C hC) h.2.2.2.2.2.2.2⟩
/-- the next one is left -/
theorem PI.next {T : TT} {n m : Nat} {these : Int32} {S : SS} {s C : Nat} {D : Nat → Nat × Nat × Nat} {rk rk' W : Nat → Nat} (h : PI T n m these S s C D rk W) (hs : s + 1 < S.N) (hR : ∀ p q, p < S.N → q < S.N → pcS S p = pcS S q → pcS S p ≤ pcS S (s + 1) → (rk' p < rk' q ↔ S.rw p < S.rw q)) : PI T n m these S (s + 1) 0 D rk' W := by
  obtain ⟨h1, h2, ⟨hl1, hl2⟩, hD, hP, -, hW, hF⟩ := h
  have hp := hl1 s (s + 1) (by omega) hs
  refine ⟨h1, hs, ⟨hl1, fun t ht => by have := hl2 t ht; omega⟩, fun t h0 ht => ⟨(hD t h0 ht).1, by have := (hD t h0 ht).2.1; omega, (hD t h0 ht).2.2⟩, hP, hR, hW, Nat.le_trans (nsm_mono fun t ht => ?_) hF⟩
  unfold phi
  by_cases a : S.mk t = these ∨ s + 1 < t
  · rw [if_pos a, if_pos (a.elim Or.inl fun a => Or.inr (by omega))]
    exact Nat.le_refl _
  · rw [if_neg a]
    by_cases b : t = s + 1
    · subst b
      rw [if_pos rfl, if_pos (Or.inr (by omega))]
      split
      · next z =>
        rw [Nat.sub_zero, show 10 - pcS S (s + 1) = 9 - pcS S (s + 1) + 1 by omega, Nat.pow_succ, Nat.mul_comm (60 ^ _) 60]
        exact Nat.le_refl _
      · exact Nat.zero_le _
    · rw [if_neg b]; exact Nat.zero_le _
/-- what is left of all that are full -/
theorem PI.full {T : TT} {n m : Nat} {these : Int32} {S : SS} {s C : Nat} {D : Nat → Nat × Nat × Nat} {rk W : Nat → Nat} (h : PI T n m these S s C D rk W) : nsm (fun t => if S.mk t = these then W t else 0) S.N ≤ 60 ^ 10 := by
  refine Nat.le_trans (nsm_mono fun t ht => ?_) h.2.2.2.2.2.2.2
  show (if S.mk t = these then W t else 0) ≤ _
  split
  · next z =>
    unfold phi
    rw [if_pos (Or.inl z)]
    exact Nat.le_mul_of_pos_right _ (Nat.pow_pos (by decide))
  · exact Nat.zero_le _
theorem PI.start {T : TT} {n m : Nat} {these : Int32} {c : Nat → Nat} (hE : EX T n m these (SF c)) : PI T n m these (SF c) 0 0 (fun _ => (0, 0, 0)) (fun _ => 0) (fun _ => 1) := by
  have h1 : ∀ t, t < (SF c).N → t = 0 := fun t ht => Nat.lt_one_iff.mp ht
  refine ⟨hE, by show 0 < 1; omega, ⟨fun a b hab hb => ?_, fun t ht => ?_⟩, fun t h0 ht => ?_, fun t ht => ?_, fun p q hp hq _ _ => ?_, fun t ht => ⟨rfl, Nat.one_pos⟩, ?_⟩
  · obtain rfl := h1 b hb
    obtain rfl : a = 0 := by omega
    exact Nat.le_refl _
  · obtain rfl := h1 t ht; omega
  · have := h1 t ht; omega
  · show 0 ≤ (0 : Int32).toInt ∧ (0 : Int32).toInt ≤ _
    rw [i_0]; omega
  · obtain rfl := h1 p hp; obtain rfl := h1 q hq
    exact ⟨fun z => absurd z (by omega), fun z => absurd z (Nat.lt_irrefl _)⟩
  · show nsm _ 1 ≤ _
    have e : pcS (SF c) 0 = 0 := by unfold pcS; rw [hE.2.1.2.1, pcN_0]
    simp only [nsm, phi, e]
    split
    · decide
    · decide
