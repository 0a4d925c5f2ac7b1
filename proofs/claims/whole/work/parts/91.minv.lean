/-! the model's memory while it finds its states -/
def msF (M0 M : Mem) (n : Nat) : Prop := (∀ a j, ¬ ((a = 141 ∧ j < n) ∨ (159 ≤ a ∧ a ≤ 165) ∨ a = 168 ∨ (a = 140 ∧ j = 44)) → M.1 a j = M0.1 a j) ∧ (∀ a, a ≠ 166 → M.2.1 a = M0.2.1 a) ∧ M.2.2 = M0.2.2
theorem msF.refl {M : Mem} {n : Nat} : msF M M n := ⟨fun _ _ _ => rfl, fun _ _ => rfl, rfl⟩
theorem msF.trans {M N K : Mem} {n : Nat} (h : msF M N n) (h2 : msF N K n) : msF M K n := ⟨fun a j q => (h2.1 a j q).trans (h.1 a j q), fun a q => (h2.2.1 a q).trans (h.2.1 a q), h2.2.2.trans h.2.2⟩
theorem msF_I {M : Mem} {a k n : Nat} {x : Int32} (h : (a = 141 ∧ k < n) ∨ (159 ≤ a ∧ a ≤ 165) ∨ a = 168 ∨ (a = 140 ∧ k = 44)) : msF M (setI M a k x) n := ⟨fun b j q => if_neg fun z => q (by rw [z.1, z.2]; exact h), fun _ _ => rfl, rfl⟩
theorem msF_J {M : Mem} {k n : Nat} {x : Int64} : msF M (setJ M 166 k x) n := ⟨fun _ _ _ => rfl, fun a h => by funext j; exact sJ_na h, rfl⟩
theorem msF_lo {M : Mem} {s n : Nat} : msF M (loM M s n) n := ⟨fun a j q => if_neg (by omega), fun _ _ => rfl, rfl⟩
theorem msF_cy {M : Mem} {N n c : Nat} : msF M (cyM M N c) n := ⟨fun a j q => cy_o (by omega), fun _ _ => rfl, rfl⟩
theorem msF_ns {M : Mem} {p N n : Nat} {mk : Int32} : msF M (nsM M p N mk n) n :=
  ((((((msF_I (by omega)).trans msF_cy).trans (msF_I (by omega))).trans msF_J).trans (msF_I (by omega))).trans (msF_I (by omega)) : _)
theorem msF_le {M : Mem} {s k t n : Nat} {c : Int32} : msF M (leM M s k t c) n := ((msF_I (by omega)).trans (msF_I (by omega))).trans (msF_I (by omega))
theorem mv_cg {M N : Mem} {c j : Nat} (h : ∀ a, 142 ≤ a → a ≤ 158 → N.1 a j = M.1 a j) (h2 : ∀ k, k = 0 ∨ k = 7 ∨ k = 34 ∨ k = 15 ∨ k = 16 → N.1 140 k = M.1 140 k) (hc : c ≠ 0) : mv N c j = mv M c j := by
  unfold mv
  split <;> first | exact absurd rfl hc | exact h _ (by omega) (by omega) | exact h2 _ (by omega) | rfl
theorem mv_lo {M0 M : Mem} {s n : Nat} {c : Nat → Nat} (h : msF M0 M n) (hc : ∀ i, i < n → M.1 160 (8 * s + i) = nI (c i)) : mv (loM M s n) = ldT (mv M0) n c := by
  funext a j
  by_cases e : a = 0
  · subst e
    show (loM M s n).1 141 j = if 0 = 0 ∧ j < n then nI (c j) else M0.1 141 j
    by_cases q : j < n
    · rw [if_pos ⟨rfl, q⟩]; exact (if_pos ⟨rfl, q⟩).trans (hc j q)
    · rw [if_neg fun z => q z.2]
      exact (if_neg fun z => q z.2).trans (h.1 141 j (by omega))
  · rw [ldT_o e]
    exact mv_cg (fun b h1 h2 => (lo_o (by omega)).trans (h.1 b j (by omega))) (fun k hk => (lo_o (by omega)).trans (h.1 140 k (by omega))) e
theorem repM_keep {M N : Mem} {S : SS} {n : Nat} (h : repM M S n) (h1 : N.1 140 44 = M.1 140 44) (h2 : N.1 159 = M.1 159) (h3 : N.1 160 = M.1 160) (h4 : N.2.1 166 = M.2.1 166) (h5 : N.1 168 = M.1 168) : repM N S n := by
  obtain ⟨tb, a1, a2, a3, a4, a5⟩ := h
  exact ⟨tb, h1.trans a1, a2, fun s hs => by rw [h2, h3, h4]; exact a3 s hs, fun p hp => by rw [h5]; exact a4 p hp, a5⟩
theorem repM_lead {M : Mem} {S : SS} {n s t : Nat} {cost : Int32} {row : Nat} (h : repM M S n) (hs : s < S.N) (ht : t < S.N) : repM (setJ M 166 t (M.2.1 166 t + M.2.1 166 s)) (S.lead s t cost row) n := by
  obtain ⟨tb, a1, a2, a3, a4, a5⟩ := h
  refine ⟨tb, a1, a2, fun j hj => ⟨(a3 j hj).1, (a3 j hj).2.1, ?_, (a3 j hj).2.2.2⟩, a4, a5⟩
  rw [ld_wy]
  show (if 166 = 166 ∧ j = t then M.2.1 166 t + M.2.1 166 s else M.2.1 166 j) = _
  rw [(a3 t ht).2.2.1, (a3 s hs).2.2.1]
  by_cases q : j = t
  · rw [if_pos ⟨rfl, q⟩, if_pos q]
  · rw [if_neg fun z => q z.2, if_neg q]; exact (a3 j hj).2.2.1
theorem repM_N {M : Mem} {S : SS} {n : Nat} (h : repM M S n) : M.1 140 44 = nI S.N ∧ S.N ≤ 3000 := by obtain ⟨tb, a1, a2, -⟩ := h; exact ⟨a1, a2⟩
theorem repM_s {M : Mem} {S : SS} {n s : Nat} (h : repM M S n) (hs : s < S.N) : M.1 159 s = S.mk s ∧ (∀ i, i < n → M.1 160 (8 * s + i) = nI (S.co s i)) ∧ M.2.1 166 s = S.wy s ∧ ∀ i, S.co s i < 65536 := by obtain ⟨tb, a1, a2, a3, -⟩ := h; exact a3 s hs
/-- where w leads from t -/
def lsW (T : TT) (n : Nat) (these : Int32) (S : SS) (M : Mem) (t w : Nat) : Prop := (lq T n these S t (w / 8) (w % 8) = false → M.1 161 (80 * t + w) = -1) ∧ (lq T n these S t (w / 8) (w % 8) = true → ∃ u, eg T n these S t (w / 8) (w % 8) u ∧ u < S.N ∧ M.1 161 (80 * t + w) = nI u)
def MI (M0 M : Mem) (T : TT) (n : Nat) (these : Int32) (S : SS) (s w : Nat) (D : Nat → Nat × Nat × Nat) (rk : Nat → Nat) : Prop :=
  msF M0 M n ∧ repM M S n ∧ (∀ t, t < S.N → M.1 162 t = S.pr t) ∧ (M.1 163 0 = -1 ∧ ∀ t, 0 < t → t < S.N → M.1 163 t = nI (D t).1 ∧ M.1 164 t = nI (8 * (D t).2.1 + (D t).2.2)) ∧
  ((∀ t, t < S.N → pcS S t ≤ pcS S s → M.1 165 t = nI (rk t)) ∧ ∀ t, rk t < 3001) ∧ (∀ t, t < s → ∀ w', w' < 80 → lsW T n these S M t w') ∧ ∀ w', w' < w → lsW T n these S M s w'
theorem MI.keep {M0 M N : Mem} {T : TT} {n : Nat} {these : Int32} {S : SS} {s w : Nat} {D : Nat → Nat × Nat × Nat} {rk : Nat → Nat} (h : MI M0 M T n these S s w D rk) (h1 : ∀ a j, ¬ (a = 141 ∧ j < n) → N.1 a j = M.1 a j) (h2 : N.2 = M.2) : MI M0 N T n these S s w D rk := by
  obtain ⟨b1, b2, b3, b4, b5, b6, b7⟩ := h
  have e : ∀ a, a ≠ 141 → N.1 a = M.1 a := fun a ha => funext fun j => h1 a j (by omega)
  unfold MI lsW
  rw [e 162 (by omega), e 163 (by omega), e 164 (by omega), e 165 (by omega), e 161 (by omega)]
  exact ⟨b1.trans ⟨fun a j q => h1 a j (by omega), fun a _ => by rw [h2], by rw [h2]⟩, repM_keep b2 (h1 _ _ (by omega)) (e _ (by omega)) (e _ (by omega)) (by rw [h2]) (e _ (by omega)), b3, b4, b5, b6, b7⟩
theorem MI.wr {M0 M : Mem} {T : TT} {n : Nat} {these : Int32} {S : SS} {s w : Nat} {D : Nat → Nat × Nat × Nat} {rk : Nat → Nat} (hw : w < 80) (h : MI M0 M T n these S s w D rk) : MI M0 (setI M 161 (80 * s + w) (-1)) T n these S s w D rk := by
  obtain ⟨b1, b2, b3, b4, b5, b6, b7⟩ := h
  refine ⟨b1.trans (msF_I (by omega)), repM_keep b2 (sI_na (by omega)) rfl rfl rfl rfl, b3, b4, b5, fun t ht w' hw' => ?_, fun w' hw' => ?_⟩
  · unfold lsW; rw [sI_ne (by omega)]; exact b6 t ht w' hw'
  · unfold lsW; rw [sI_ne (by omega)]; exact b7 w' hw'
theorem MI.skip {M0 M : Mem} {T : TT} {n : Nat} {these : Int32} {S : SS} {s w : Nat} {D : Nat → Nat × Nat × Nat} {rk : Nat → Nat} (h : MI M0 M T n these S s w D rk) (e : M.1 161 (80 * s + w) = -1) (hl : lq T n these S s (w / 8) (w % 8) = false) : MI M0 M T n these S s (w + 1) D rk := by
  obtain ⟨b1, b2, b3, b4, b5, b6, b7⟩ := h
  refine ⟨b1, b2, b3, b4, b5, b6, fun w' hw' => ?_⟩
  by_cases q : w' = w
  · subst q; exact ⟨fun _ => e, fun z => by rw [hl] at z; cases z⟩
  · exact b7 w' (by omega)
theorem co_hi {T : TT} {n m : Nat} {these : Int32} (ht : thOK T m these) (hn : n ≤ 8) (hO : OKS T n m) {S : SS} {D : Nat → Nat × Nat × Nat} (hE : EX T n m these S) (hD : PD T n these S D) : ∀ (e t : Nat), t < e → t < S.N → ∀ j, n ≤ j → j < 8 → S.co t j = 0
  | 0, t, h, _ => absurd h (Nat.not_lt_zero _)
  | e + 1, t, h, hN => fun j hj h8 => by
    by_cases t0 : t = 0
    · subst t0
      rw [hE.2.1.2.2.1]
      exact if_neg (by omega)
    · obtain ⟨a1, a2, a3⟩ := hD t (by omega) hN
      obtain ⟨k1, k2, k3, k4, -⟩ := lq_og ht hn hO a2.1
      rw [a2.2.2 j h8]
      simp only [shN, icr, dcr, if_neg (show ¬ j = gK T (D t).2.1 by omega), if_neg (show ¬ j = (D t).2.2 by omega)]
      exact co_hi ht hn hO hE hD e _ (by omega) (by omega) j hj h8
theorem isLs_iff {T : TT} {n m : Nat} {these : Int32} (ht : thOK T m these) (hn : n ≤ 8) (hm : m ≤ 10) (hO : OKS T n m) {S : SS} {M : Mem} {s C k i t : Nat} {D : Nat → Nat × Nat × Nat} {rk W : Nat → Nat} {cost : Int32} (hP : PI T n m these S s C D rk W) (hl : eg T n these S s k i t) (h0 : 0 < t) (htN : t < S.N) (hN : S.N ≤ 3000)
    (e3 : M.1 163 t = nI (D t).1) (e4 : M.1 164 t = nI (8 * (D t).2.1 + (D t).2.2)) (e2 : M.1 162 t = S.pr t) (es : M.1 165 s = nI (rk s)) (ep : M.1 165 (D t).1 = nI (rk (D t).1)) (hrk : ∀ t, rk t < 3001) : isLs M s (8 * k + i) t cost (D t).1 ↔ acT S t cost (S.rw s * 64 + cdE T k i) := by
  obtain ⟨a1, a2, a3⟩ := hP.pd t h0 htN
  have hsN := hP.2.1
  obtain ⟨k1, k2, -⟩ := lq_og ht hn hO hl.1
  obtain ⟨d1, d2, -⟩ := lq_og ht hn hO a2.1
  have key := lead_iff ht hn hm hO hP hl h0 htN
  unfold isLs acT
  rw [e3, e4, e2, es, ep, ← key]
  have x1 : ¬ nI (D t).1 = -1 := fun q => by
    have := congrArg Int32.toInt q
    rw [nI_toInt (by omega), show (-1 : Int32).toInt = -1 from rfl] at this
    omega
  have x2 : (nI (rk s) < nI (rk (D t).1)) ↔ rk s < rk (D t).1 := nI_ltI (by have := hrk s; omega) (by have := hrk (D t).1; omega)
  have x3 : (nI s = nI (D t).1) ↔ s = (D t).1 := nI_eq (by omega) (by omega)
  have x4 : (nI (8 * k + i) < nI (8 * (D t).2.1 + (D t).2.2)) ↔ 8 * k + i < 8 * (D t).2.1 + (D t).2.2 := nI_ltI (by omega) (by omega)
  rw [x2, x3, x4]
  have x5 : ¬ t = S.N := by omega
  simp only [x1, x5, false_or]
