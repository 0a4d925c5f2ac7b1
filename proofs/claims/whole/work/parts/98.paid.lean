/-! who has paid in a state -/
def gotN (T : TT) (mk : Int32) (i : Nat) : Nat → Nat
  | 0 => 0
  | k + 1 => gotN T mk i k + (if bt mk k = true ∧ gK T k = i then vK T k else 0)
theorem kv_m {T : TT} {n m : Nat} (hn : n ≤ 8) (hO : OKS T n m) {k : Nat} (hk : k < m) : T 7 k = nI (gK T k) ∧ gK T k < n ∧ T 8 k = nI (vK T k) ∧ 1 ≤ vK T k ∧ vK T k ≤ 99 := by
  obtain ⟨⟨s1, s2⟩, -, o, g, ho, hg, hog, eo, eg⟩ := hO.2.2.2 k hk
  obtain ⟨e8, l8⟩ := i_nI (x := T 8 k) (by omega)
  unfold gK vK
  rw [e8, nI_toInt l8] at s1 s2
  refine ⟨by rw [eg, nI_clamp (by omega)], by rw [eg, nI_clamp (by omega)]; exact hg, e8, by omega, by omega⟩
theorem got_nI {T : TT} {n m : Nat} (hn : n ≤ 8) (hO : OKS T n m) {mk : Int32} {i : Nat} (hi : i < 8) : ∀ {e : Nat}, e ≤ m → fsum (fun k => if bt mk k = true ∧ T 7 k = nI i then T 8 k else 0) e = nI (gotN T mk i e) ∧ gotN T mk i e ≤ 99 * e
  | 0, _ => ⟨rfl, Nat.zero_le _⟩
  | e + 1, he => by
    obtain ⟨h1, h2⟩ := got_nI hn hO (mk := mk) hi (e := e) (by omega)
    obtain ⟨a1, a2, a3, a4, a5⟩ := kv_m hn hO (k := e) (by omega)
    simp only [fsum, gotN]
    rw [h1]
    by_cases q : bt mk e = true ∧ gK T e = i
    · rw [if_pos q, if_pos ⟨q.1, by rw [a1, q.2]⟩, a3, nI_add]
      exact ⟨rfl, by omega⟩
    · rw [if_neg q, if_neg (fun z => q ⟨z.1, (nI_eq (by omega) (by omega)).mp (a1.symm.trans z.2)⟩)]
      exact ⟨i_add0 _, by omega⟩
theorem gotN_or {T : TT} {mk : Int32} {i k : Nat} (hk : k < 32) (hb : bt mk k = false) : ∀ {e : Nat}, gotN T (mk ||| bit k) i e = gotN T mk i e + if k < e ∧ gK T k = i then vK T k else 0
  | 0 => by simp [gotN]
  | e + 1 => by
    simp only [gotN, gotN_or hk hb (e := e), b_or, b_bit hk]
    by_cases q : e = k
    · subst q
      rw [hb]
      simp
    · have h1 : (k < e + 1 ∧ gK T k = i) ↔ (k < e ∧ gK T k = i) := by omega
      simp only [q, decide_false, Bool.or_false, h1]
      omega
/-- by how much one has less than it had and got -/
def dfc (T : TT) (m : Nat) (S : SS) (t j : Nat) : Int := (S.co 0 j : Int) + gotN T (S.mk t) j m - S.co t j
/-- states and their parents; every way leads on -/
def CX (T : TT) (n m : Nat) (these : Int32) (S : SS) (D : Nat → Nat × Nat × Nat) : Prop :=
  EX T n m these S ∧ PD T n these S D ∧ (∀ a b, a ≤ b → b < S.N → pcS S a ≤ pcS S b) ∧ S.N ≤ 3000 ∧ ∀ t, t < S.N → ∀ k i, lq T n these S t k i = true → ∃ u, eg T n these S t k i u ∧ u < S.N
theorem FS.cx {N : Mem} {T : TT} {n m : Nat} {these : Int32} {S : SS} {D : Nat → Nat × Nat × Nat} {rk W : Nat → Nat} (ht : thOK T m these) (hn : n ≤ 8) (hm : m ≤ 10) (hO : OKS T n m) (h : FS N T n m these S D rk W) : CX T n m these S D := by
  obtain ⟨h1, h2, h3, h4, h5, h6, h7⟩ := h
  refine ⟨h1.1, h1.pd, h1.2.2.1.1, (repM_N h2).2, fun t htN k i hl => ?_⟩
  obtain ⟨k1, i1, -⟩ := lq_og ht hn hO hl
  have := (h7 t htN (8 * k + i) (by omega)).2
  rw [show (8 * k + i) / 8 = k by omega, show (8 * k + i) % 8 = i by omega] at this
  obtain ⟨u, u1, u2, -⟩ := this hl
  exact ⟨u, u1, u2⟩
theorem dfc_edge {T : TT} {n m : Nat} {these : Int32} (ht : thOK T m these) (hn : n ≤ 8) (hm : m ≤ 10) (hO : OKS T n m) {S : SS} (hE : EX T n m these S) {p k i t j : Nat} (hp : p < S.N) (h : eg T n these S p k i t) (hj : j < 8) : dfc T m S t j = dfc T m S p j + if j = i then (vK T k : Int) else 0 := by
  obtain ⟨k1, i1, o1, g1, h1, h2, h3⟩ := lq_og ht hn hO h.1
  obtain ⟨-, -, -, hvc, -⟩ := lq_good ht hn hO (hE.2.2 p hp) h.1
  obtain ⟨⟨lb1, lb2⟩, -⟩ := (lq_iff ht hn).mp h.1
  unfold dfc
  rw [h.2.1, gotN_or (by omega) lb2, h.2.2 j hj]
  simp only [shN, icr, dcr]
  by_cases q : j = gK T k
  · have q2 : ¬ j = i := fun z => h3 (z.symm.trans q)
    have q3 : ¬ gK T k = i := fun z => h3 z.symm
    rw [if_pos ⟨k1, q.symm⟩, if_pos q, if_neg q2, if_neg q3, q]
    omega
  · rw [if_neg (fun z => q z.2.symm), if_neg q]
    by_cases q2 : j = i
    · rw [if_pos q2, if_pos q2, q2]
      omega
    · rw [if_neg q2, if_neg q2]
      omega
theorem dfc_0 {T : TT} {n m : Nat} {these : Int32} {S : SS} (hE : EX T n m these S) {j : Nat} : dfc T m S 0 j = 0 := by
  unfold dfc
  rw [hE.2.1.2.1]
  have : ∀ e, gotN T 0 j e = 0 := fun e => by
    induction e with
    | zero => rfl
    | succ e ih => simp only [gotN, ih, b_0]; simp
  rw [this]; omega
theorem dfc_nn {T : TT} {n m : Nat} {these : Int32} (ht : thOK T m these) (hn : n ≤ 8) (hm : m ≤ 10) (hO : OKS T n m) {S : SS} {D : Nat → Nat × Nat × Nat} (hE : EX T n m these S) (hD : PD T n these S D) {j : Nat} (hj : j < 8) : ∀ (e t : Nat), t < e → t < S.N → 0 ≤ dfc T m S t j
  | 0, t, h, _ => absurd h (Nat.not_lt_zero _)
  | e + 1, t, h, hN => by
    by_cases t0 : t = 0
    · subst t0; rw [dfc_0 hE]; omega
    · obtain ⟨a1, a2, a3⟩ := hD t (by omega) hN
      have := dfc_nn ht hn hm hO hE hD hj e _ (Nat.lt_of_lt_of_le a1 (by omega)) (by omega)
      rw [dfc_edge ht hn hm hO hE (by omega) a2 hj]
      split <;> omega
def pyS (T : TT) (n m : Nat) (S : SS) (t : Nat) : Int32 := ptS T n m (S.mk t) (S.co t)
theorem py_iff {T : TT} {n m : Nat} {these : Int32} (hn : n ≤ 8) (hm : m ≤ 10) (hO : OKS T n m) {S : SS} (hE : EX T n m these S) {t j : Nat} (ht : t < S.N) : bt (pyS T n m S t) j = true ↔ j < n ∧ 0 < dfc T m S t j := by
  unfold pyS ptS
  rw [b_fbor _ n (by omega)]
  by_cases hj : j < n
  · have hc := (hE.2.2 t ht).2.1 j
    obtain ⟨g1, g2⟩ := got_nI hn hO (mk := S.mk t) (i := j) (by omega) (Nat.le_refl m)
    have c0 := coT_nI hO hj
    have c0' : coT T n j ≤ 8000 := by
      have h1 := hO.le hj
      have h2 := coT_lt hO (n := n) j
      rw [← c0, nI_toInt (by omega)] at h1
      omega
    have e0 : S.co 0 = coT T n := hE.2.1.2.2.1
    have eT : T 0 j + gotT T m (S.mk t) j = nI (coT T n j + gotN T (S.mk t) j m) := by
      rw [← c0, show gotT T m (S.mk t) j = nI (gotN T (S.mk t) j m) from g1, nI_add]
    simp only [hj, decide_true, Bool.true_and, true_and, decide_eq_true_eq]
    rw [eT, nI_ltI (by omega) (by omega)]
    unfold dfc
    rw [e0]
    omega
  · simp [hj]
theorem eg_lt {T : TT} {n m : Nat} {these : Int32} (ht : thOK T m these) (hn : n ≤ 8) (hm : m ≤ 10) {S : SS} {D : Nat → Nat × Nat × Nat} (hC : CX T n m these S D) {p k i t : Nat} (hp : p < S.N) (h : eg T n these S p k i t) : p < t := by
  have := eg_pc ht hn hm h
  refine Nat.lt_of_not_le fun z => ?_
  have := hC.2.2.1 t p z hp
  omega
theorem py_edge {T : TT} {n m : Nat} {these : Int32} (ht : thOK T m these) (hn : n ≤ 8) (hm : m ≤ 10) (hO : OKS T n m) {S : SS} {D : Nat → Nat × Nat × Nat} (hC : CX T n m these S D) {p k i t : Nat} (hp : p < S.N) (htN : t < S.N) (h : eg T n these S p k i t) (j : Nat) : bt (pyS T n m S t) j = true ↔ bt (pyS T n m S p) j = true ∨ j = i := by
  obtain ⟨k1, i1, -⟩ := lq_og ht hn hO h.1
  rw [py_iff hn hm hO hC.1 htN, py_iff hn hm hO hC.1 hp]
  have hv := (kv_m hn hO k1).2.2.2.1
  by_cases hj : j < n
  · have e := dfc_edge ht hn hm hO hC.1 hp h (j := j) (by omega)
    have nn := dfc_nn ht hn hm hO hC.1 hC.2.1 (j := j) (by omega) (p + 1) p (by omega) hp
    rw [e]
    by_cases q : j = i
    · rw [if_pos q]
      exact ⟨fun _ => Or.inr q, fun _ => ⟨hj, by omega⟩⟩
    · rw [if_neg q]
      exact ⟨fun z => Or.inl ⟨hj, by omega⟩, fun z => z.elim (fun z => ⟨hj, by omega⟩) fun z => absurd z q⟩
  · exact ⟨fun z => absurd z.1 hj, fun z => z.elim (fun z => absurd z.1 hj) fun z => by omega⟩
theorem py_0 {T : TT} {n m : Nat} {these : Int32} (hn : n ≤ 8) (hm : m ≤ 10) (hO : OKS T n m) {S : SS} (hE : EX T n m these S) (j : Nat) : bt (pyS T n m S 0) j = false := Bool.eq_false_iff.mpr fun z => by
  have := ((py_iff hn hm hO hE hE.2.1.1).mp z).2
  rw [dfc_0 hE] at this
  omega
/-! on the way to a state with all paid -/
def onF (T : TT) (n : Nat) (these : Int32) (S : SS) : Nat → Nat → Prop
  | 0, t => S.mk t = these
  | f + 1, t => S.mk t = these ∨ ∃ k i u, eg T n these S t k i u ∧ u < S.N ∧ onF T n these S f u
def onW (T : TT) (n : Nat) (these : Int32) (S : SS) (t : Nat) : Prop := ∃ f, onF T n these S f t
theorem onW_iff {T : TT} {n : Nat} {these : Int32} {S : SS} {t : Nat} : onW T n these S t ↔ S.mk t = these ∨ ∃ k i u, eg T n these S t k i u ∧ u < S.N ∧ onW T n these S u := by
  refine ⟨fun ⟨f, h⟩ => ?_, fun h => ?_⟩
  · cases f with
    | zero => exact Or.inl h
    | succ f => exact h.imp id fun ⟨k, i, u, h1, h2, h3⟩ => ⟨k, i, u, h1, h2, f, h3⟩
  · rcases h with h | ⟨k, i, u, h1, h2, f, h3⟩
    · exact ⟨0, h⟩
    · exact ⟨f + 1, Or.inr ⟨k, i, u, h1, h2, h3⟩⟩
theorem onF_py {T : TT} {n m : Nat} {these : Int32} (ht : thOK T m these) (hn : n ≤ 8) (hm : m ≤ 10) (hO : OKS T n m) {S : SS} {D : Nat → Nat × Nat × Nat} (hC : CX T n m these S D) : ∀ (f t : Nat), t < S.N → onF T n these S f t → ∃ u, u < S.N ∧ S.mk u = these ∧ ∀ j, bt (pyS T n m S t) j = true → bt (pyS T n m S u) j = true
  | 0, t, hN, h => ⟨t, hN, h, fun _ z => z⟩
  | f + 1, t, hN, h => by
    rcases h with h | ⟨k, i, u, h1, h2, h3⟩
    · exact ⟨t, hN, h, fun _ z => z⟩
    · obtain ⟨v, v1, v2, v3⟩ := onF_py ht hn hm hO hC f u h2 h3
      exact ⟨v, v1, v2, fun j z => v3 j ((py_edge ht hn hm hO hC hN h2 h1 j).mpr (Or.inl z))⟩
theorem on_back {T : TT} {n m : Nat} {these : Int32} (ht : thOK T m these) (hn : n ≤ 8) (hm : m ≤ 10) (hO : OKS T n m) {S : SS} {D : Nat → Nat × Nat × Nat} (hC : CX T n m these S D) {i : Nat} : ∀ (e t : Nat), t < e → t < S.N → onW T n these S t → bt (pyS T n m S t) i = true → ∃ s k u, s < S.N ∧ eg T n these S s k i u ∧ u < S.N ∧ onW T n these S u
  | 0, t, h, _, _, _ => absurd h (Nat.not_lt_zero _)
  | e + 1, t, h, hN, hon, hb => by
    by_cases t0 : t = 0
    · subst t0
      rw [py_0 hn hm hO hC.1] at hb; cases hb
    · obtain ⟨a1, a2, a3⟩ := hC.2.1 t (by omega) hN
      have hpN : (D t).1 < S.N := by omega
      rcases (py_edge ht hn hm hO hC hpN hN a2 i).mp hb with q | q
      · exact on_back ht hn hm hO hC e (D t).1 (Nat.lt_of_lt_of_le a1 (by omega)) hpN (onW_iff.mpr (Or.inr ⟨_, _, t, a2, hN, hon⟩)) q
      · exact ⟨(D t).1, (D t).2.1, t, hpN, by rw [q]; exact a2, hN, hon⟩
/-- who pays on a way to all paid pays in a row to a state with all paid -/
theorem pay_iff {T : TT} {n m : Nat} {these : Int32} (ht : thOK T m these) (hn : n ≤ 8) (hm : m ≤ 10) (hO : OKS T n m) {S : SS} {D : Nat → Nat × Nat × Nat} (hC : CX T n m these S D) {i : Nat} : (∃ s k u, s < S.N ∧ eg T n these S s k i u ∧ u < S.N ∧ onW T n these S u) ↔ ∃ t, t < S.N ∧ S.mk t = these ∧ bt (pyS T n m S t) i = true := by
  refine ⟨fun ⟨s, k, u, h1, h2, h3, f, h4⟩ => ?_, fun ⟨t, h1, h2, h3⟩ => on_back ht hn hm hO hC (t + 1) t (by omega) h1 (onW_iff.mpr (Or.inl h2)) h3⟩
  obtain ⟨v, v1, v2, v3⟩ := onF_py ht hn hm hO hC f u h3 h4
  exact ⟨v, v1, v2, v3 i ((py_edge ht hn hm hO hC h1 h3 h2 i).mpr (Or.inr rfl))⟩
/-! reached with some people alone -/
def rcF (T : TT) (n : Nat) (these : Int32) (S : SS) (who : Int32) : Nat → Nat → Prop
  | 0, t => t = 0
  | f + 1, t => t = 0 ∨ ∃ p k i, p < S.N ∧ eg T n these S p k i t ∧ bt who i = true ∧ rcF T n these S who f p
def rch (T : TT) (n : Nat) (these : Int32) (S : SS) (who : Int32) (t : Nat) : Prop := ∃ f, rcF T n these S who f t
theorem rch_iff {T : TT} {n : Nat} {these : Int32} {S : SS} {who : Int32} {t : Nat} : rch T n these S who t ↔ t = 0 ∨ ∃ p k i, p < S.N ∧ eg T n these S p k i t ∧ bt who i = true ∧ rch T n these S who p := by
  refine ⟨fun ⟨f, h⟩ => ?_, fun h => ?_⟩
  · cases f with
    | zero => exact Or.inl h
    | succ f => exact h.imp id fun ⟨p, k, i, h1, h2, h3, h4⟩ => ⟨p, k, i, h1, h2, h3, f, h4⟩
  · rcases h with h | ⟨p, k, i, h1, h2, h3, f, h4⟩
    · exact ⟨0, h⟩
    · exact ⟨f + 1, Or.inr ⟨p, k, i, h1, h2, h3, h4⟩⟩
theorem rcF_sub {T : TT} {n m : Nat} {these : Int32} (ht : thOK T m these) (hn : n ≤ 8) (hm : m ≤ 10) (hO : OKS T n m) {S : SS} {D : Nat → Nat × Nat × Nat} (hC : CX T n m these S D) {who : Int32} : ∀ (f t : Nat), t < S.N → rcF T n these S who f t → ∀ j, bt (pyS T n m S t) j = true → bt who j = true
  | 0, t, hN, h, j, hj => by
    rw [show t = 0 from h, py_0 hn hm hO hC.1] at hj; cases hj
  | f + 1, t, hN, h, j, hj => by
    rcases h with h | ⟨p, k, i, h1, h2, h3, h4⟩
    · rw [h, py_0 hn hm hO hC.1] at hj; cases hj
    · rcases (py_edge ht hn hm hO hC h1 hN h2 j).mp hj with q | q
      · exact rcF_sub ht hn hm hO hC f p h1 h4 j q
      · rw [q]; exact h3
theorem sub_rch {T : TT} {n m : Nat} {these : Int32} (ht : thOK T m these) (hn : n ≤ 8) (hm : m ≤ 10) (hO : OKS T n m) {S : SS} {D : Nat → Nat × Nat × Nat} (hC : CX T n m these S D) {who : Int32} : ∀ (e t : Nat), t < e → t < S.N → (∀ j, bt (pyS T n m S t) j = true → bt who j = true) → rch T n these S who t
  | 0, t, h, _, _ => absurd h (Nat.not_lt_zero _)
  | e + 1, t, h, hN, hs => by
    by_cases t0 : t = 0
    · exact ⟨0, t0⟩
    · obtain ⟨a1, a2, a3⟩ := hC.2.1 t (by omega) hN
      have hpN : (D t).1 < S.N := by omega
      have hed := py_edge ht hn hm hO hC hpN hN a2
      exact rch_iff.mpr (Or.inr ⟨_, _, _, hpN, a2, hs _ ((hed _).mpr (Or.inr rfl)), sub_rch ht hn hm hO hC e _ (Nat.lt_of_lt_of_le a1 (by omega)) hpN fun j hj => hs j ((hed j).mpr (Or.inl hj))⟩)
theorem rch_sub {T : TT} {n m : Nat} {these : Int32} (ht : thOK T m these) (hn : n ≤ 8) (hm : m ≤ 10) (hO : OKS T n m) {S : SS} {D : Nat → Nat × Nat × Nat} (hC : CX T n m these S D) {who : Int32} {t : Nat} (hN : t < S.N) : rch T n these S who t ↔ ∀ j, bt (pyS T n m S t) j = true → bt who j = true :=
  ⟨fun ⟨f, h⟩ => rcF_sub ht hn hm hO hC f t hN h, sub_rch ht hn hm hO hC (t + 1) t (by omega) hN⟩
