/-- two towns are alike in what payments need -/
def agV (T T' : TT) (n m : Nat) : Prop :=
  (∀ j, j < n → T' 0 j = T 0 j ∧ T' 1 j = T 1 j ∧ T' 2 j = T 2 j ∧ T' 3 j = T 3 j ∧ T' 4 j = T 4 j) ∧ (∀ k, k < m → T' 6 k = T 6 k ∧ T' 7 k = T 7 k ∧ T' 8 k = T 8 k ∧ T' 9 k = T 9 k ∧ T' 10 k = T 10 k) ∧ T' 14 0 = T 14 0 ∧ T' 14 1 = T 14 1 ∧ T' 14 2 = T 14 2
theorem agV.refl {T : TT} {n m : Nat} : agV T T n m := ⟨fun _ _ => ⟨rfl, rfl, rfl, rfl, rfl⟩, fun _ _ => ⟨rfl, rfl, rfl, rfl, rfl⟩, rfl, rfl, rfl⟩
theorem agV.symm {T T' : TT} {n m : Nat} (h : agV T T' n m) : agV T' T n m :=
  ⟨fun j hj => have q := h.1 j hj; ⟨q.1.symm, q.2.1.symm, q.2.2.1.symm, q.2.2.2.1.symm, q.2.2.2.2.symm⟩, fun k hk => have q := h.2.1 k hk; ⟨q.1.symm, q.2.1.symm, q.2.2.1.symm, q.2.2.2.1.symm, q.2.2.2.2.symm⟩, h.2.2.1.symm, h.2.2.2.1.symm, h.2.2.2.2.symm⟩
theorem agV.trans {T T' T'' : TT} {n m : Nat} (h : agV T T' n m) (g : agV T' T'' n m) : agV T T'' n m :=
  ⟨fun j hj => have q := h.1 j hj; have r := g.1 j hj; ⟨r.1.trans q.1, r.2.1.trans q.2.1, r.2.2.1.trans q.2.2.1, r.2.2.2.1.trans q.2.2.2.1, r.2.2.2.2.trans q.2.2.2.2⟩, fun k hk => have q := h.2.1 k hk; have r := g.2.1 k hk; ⟨r.1.trans q.1, r.2.1.trans q.2.1, r.2.2.1.trans q.2.2.1, r.2.2.2.1.trans q.2.2.2.1, r.2.2.2.2.trans q.2.2.2.2⟩, g.2.2.1.trans h.2.2.1, g.2.2.2.1.trans h.2.2.2.1, g.2.2.2.2.trans h.2.2.2.2⟩
theorem alk.ag {T T' : TT} {n m : Nat} (h : alk T T') : agV T T' n m := by
  have e : ∀ c, c ≠ 5 → c < 20 → ∀ j, T' c j = T c j := fun c h5 h20 j => congrFun (h c h5 h20) j
  exact ⟨fun j _ => ⟨e 0 (by omega) (by omega) j, e 1 (by omega) (by omega) j, e 2 (by omega) (by omega) j, e 3 (by omega) (by omega) j, e 4 (by omega) (by omega) j⟩, fun j _ => ⟨e 6 (by omega) (by omega) j, e 7 (by omega) (by omega) j, e 8 (by omega) (by omega) j, e 9 (by omega) (by omega) j, e 10 (by omega) (by omega) j⟩, e 14 (by omega) (by omega) 0, e 14 (by omega) (by omega) 1, e 14 (by omega) (by omega) 2⟩
theorem OKS.ag {T T' : TT} {n m : Nat} (h : OKS T n m) (e : agV T T' n m) : OKS T' n m := by
  refine ⟨fun i hi => ?_, ?_, ?_, fun k hk => ?_⟩
  · obtain ⟨e0, -, -, e3, e4⟩ := e.1 i hi
    rw [e0, e3, e4]; exact h.1 i hi
  · rw [isum_congr (g := fun i => (T 0 i).toInt) (fun i hi => by rw [(e.1 i hi).1])]; exact h.2.1
  · rw [e.2.2.2.1]; exact h.2.2.1
  · obtain ⟨e6, e7, e8, e9, -⟩ := e.2.1 k hk
    rw [e6, e7, e8, e9]; exact h.2.2.2 k hk
theorem onT_ag {T T' : TT} {n m j : Nat} (h : agV T T' n m) (hj : j < n) : onT T' j = onT T j := by
  obtain ⟨e0, -, -, e3, e4⟩ := h.1 j hj
  simp only [onT, e0, e3, e4, h.2.2.2.2]
theorem mayT_ag {T T' : TT} {n m k i : Nat} (h : agV T T' n m) (hO : OKS T n m) (hn : n ≤ 8) (hk : k < m) (hi : i < n) : mayT T' n k i = mayT T n k i := by
  obtain ⟨e0, -, -, e3, e4⟩ := h.1 i hi
  obtain ⟨e6, e7, e8, -, -⟩ := h.2.1 k hk
  obtain ⟨-, -, o, g, ho, hg, hog, eo, eg⟩ := hO.2.2.2 k hk
  simp only [mayT, e0, e3, e6, e7, e8, h.2.2.1, h.2.2.2.1]
  rw [blw_congr (L := onT T') (L' := onT T) (fun j hj => onT_ag h hj) (by rw [eo, nI_clamp (by omega)]; exact ho) hi]
theorem payT_ag {T T' : TT} {n m k : Nat} (h : agV T T' n m) (hO : OKS T n m) (hn : n ≤ 8) (hk : k < m) : payT T' n k = payT T n k := by
  simp only [payT, (h.2.1 k hk).2.2.2.2]
  rw [fbor_congr (fun i hi => mayT_ag h hO hn hk hi)]
theorem prT_ag {T T' : TT} {n m k i : Nat} (h : agV T T' n m) (hk : k < m) (hi : i < n) : prT T' i k = prT T i k := by
  simp only [prT, (h.1 i hi).2.2.1, (h.1 i hi).2.1, (h.2.1 k hk).2.2.1]
theorem lvQ_ag {T T' : TT} {n m k : Nat} {these mk0 : Int32} (h : agV T T' n m) (hO : OKS T n m) (hn : n ≤ 8) (hk : k < m) : lvQ T' n these mk0 k = lvQ T n these mk0 k := by
  unfold lvQ; rw [payT_ag h hO hn hk]
theorem inn_ag {T T' : TT} {n m : Nat} (h : agV T T' n m) {s : Nat} {mk0 : Int32} {c0 : Nat → Nat} {p0 : Int32} {r0 k : Nat} (hk : k < m) {Q : Int32} {r : Bool × SS} : ∀ {i : Nat}, i ≤ n → inn T' s mk0 c0 p0 r0 k Q i r = inn T s mk0 c0 p0 r0 k Q i r
  | 0, _ => rfl
  | i + 1, hi => by
    have hg : gp T' s mk0 c0 p0 r0 k i = gp T s mk0 c0 p0 r0 k i := by
      funext S
      simp only [gp, prT_ag h hk (show i < n by omega), (h.2.1 k hk).1, (h.2.1 k hk).2.1, (h.2.1 k hk).2.2.1]
    simp only [inn, inn_ag h hk (i := i) (by omega), hg]
theorem lvs_ag {T T' : TT} {n m : Nat} (h : agV T T' n m) (hO : OKS T n m) (hn : n ≤ 8) {s : Nat} {mk0 : Int32} {c0 : Nat → Nat} {p0 : Int32} {r0 : Nat} {these : Int32} {x : (Bool × SS) × Int32 × (Nat → Int32)} : ∀ {k : Nat}, k ≤ m → lvs T' n s mk0 c0 p0 r0 these k x = lvs T n s mk0 c0 p0 r0 these k x
  | 0, _ => rfl
  | k + 1, hk => by simp only [lvs, lvs_ag h hO hn (k := k) (by omega), lvQ_ag h hO hn (show k < m by omega), inn_ag h (show k < m by omega) (Nat.le_refl n)]
/-- a town with other coin -/
def ldT (T : TT) (n : Nat) (c : Nat → Nat) : TT := fun a j => if a = 0 ∧ j < n then nI (c j) else T a j
theorem ldT_o {T : TT} {n a : Nat} {c : Nat → Nat} (h : a ≠ 0) : ldT T n c a = T a := by funext j; exact if_neg fun q => h q.1
theorem ldT_i {T : TT} {n j : Nat} {c : Nat → Nat} (h : j < n) : ldT T n c 0 j = nI (c j) := if_pos ⟨rfl, h⟩
theorem ldT_ag {T T' : TT} {n m : Nat} {c c' : Nat → Nat} (h : agV T T' n m) (hc : ∀ i, i < n → c' i = c i) : agV (ldT T n c) (ldT T' n c') n m := by
  refine ⟨fun j hj => ?_, fun k hk => ?_, ?_⟩
  · obtain ⟨e0, e1, e2, e3, e4⟩ := h.1 j hj
    rw [ldT_i hj, ldT_i hj, hc j hj, ldT_o (by decide), ldT_o (by decide), ldT_o (by decide), ldT_o (by decide), ldT_o (by decide), ldT_o (by decide), ldT_o (by decide), ldT_o (by decide)]
    exact ⟨rfl, e1, e2, e3, e4⟩
  · rw [ldT_o (by decide), ldT_o (by decide), ldT_o (by decide), ldT_o (by decide), ldT_o (by decide), ldT_o (by decide), ldT_o (by decide), ldT_o (by decide), ldT_o (by decide), ldT_o (by decide)]
    exact h.2.1 k hk
  · rw [ldT_o (by decide), ldT_o (by decide)]
    exact h.2.2
/-! how many bits -/
def pcN (x : Int32) : Nat → Nat
  | 0 => 0
  | k + 1 => pcN x k + if bt x k = true then 1 else 0
theorem pcN_le {x : Int32} : ∀ {n : Nat}, pcN x n ≤ n
  | 0 => Nat.le_refl _
  | n + 1 => by
    have := pcN_le (x := x) (n := n)
    simp only [pcN]; split <;> omega
theorem pcN_or {x : Int32} {k : Nat} (hk : k < 32) (hb : bt x k = false) : ∀ {n : Nat}, pcN (x ||| bit k) n = pcN x n + if k < n then 1 else 0
  | 0 => by simp [pcN]
  | n + 1 => by
    simp only [pcN, pcN_or hk hb (n := n), b_or, b_bit hk]
    by_cases q : n = k
    · subst q; simp [hb]
    · by_cases r : k < n
      · simp [q, r, show k < n + 1 by omega]; omega
      · simp [q, r, show ¬ k < n + 1 by omega]
theorem pcN_lt {x : Int32} {k : Nat} (hb : bt x k = false) : ∀ {n : Nat}, k < n → pcN x n < n
  | n + 1, hk => by
    simp only [pcN]
    by_cases q : n = k
    · subst q
      rw [hb]
      have := pcN_le (x := x) (n := n)
      simp; omega
    · have := pcN_lt hb (n := n) (by omega)
      split <;> omega
theorem p64 {a b : Nat} (h : a ≤ b) : 64 ^ a ≤ 64 ^ b := Nat.pow_le_pow_right (by decide) h
/-! all states -/
abbrev XS : Type := (Bool × SS) × Int32 × (Nat → Int32)
def vrun (T : TT) (n m : Nat) (these : Int32) : Nat → Nat → XS → XS
  | 0, _, x => x
  | f + 1, s, x => if s < x.1.2.N ∧ x.1.1 = true then vrun T n m these f (s + 1) (lvs (ldT T n (x.1.2.co s)) n s (x.1.2.mk s) (x.1.2.co s) (x.1.2.pr s) (x.1.2.rw s) these m x) else x
def coT (T : TT) (n : Nat) : Nat → Nat := cap (fun i => (T 0 i).toNatClampNeg) n
def vis (T : TT) (n m : Nat) (these : Int32) : XS := vrun T n m these 3001 0 ((true, SF (coT T n)), 0, fun _ => these)
/-- a state is one that can be -/
def PX (T : TT) (n m : Nat) (these mk : Int32) (c : Nat → Nat) (r : Nat) : Prop :=
  (∀ j, bt mk j = true → bt these j = true) ∧ (∀ i, c i < 65536) ∧ OKS (ldT T n c) n m ∧ r < 64 ^ pcN mk 10
def EX (T : TT) (n m : Nat) (these : Int32) (S : SS) : Prop :=
  S.dis ∧ (0 < S.N ∧ S.mk 0 = 0 ∧ S.co 0 = coT T n ∧ S.pr 0 = 0 ∧ S.rw 0 = 0 ∧ S.wy 0 = 1) ∧ ∀ s, s < S.N → PX T n m these (S.mk s) (S.co s) (S.rw s)
theorem mk_ne0 {x : Int32} {k : Nat} (hk : k < 32) : (0 : Int32) ≠ x ||| bit k := fun q => by
  have e := congrArg (fun y => bt y k) q
  simp only [b_0, b_or, b_bit hk, decide_true, Bool.or_true] at e
  cases e
theorem EX.go {T : TT} {n m : Nat} {these : Int32} {S : SS} (h : EX T n m these S) {s k : Nat} (hk : k < 10) {mk0 : Int32} {c : Nat → Nat} {cost : Int32} {row : Nat} (hb : bt mk0 k = false) (h1 : PX T n m these (mk0 ||| bit k) c row) : EX T n m these (S.go s (mk0 ||| bit k) c cost row).2 := by
  obtain ⟨h2, ⟨h3, e1, e2, e3, e4, e5⟩, h5⟩ := h
  obtain ⟨k1, k2, k3, k4, k5, k6⟩ := go_keep (s := s) (mk := mk0 ||| bit k) (c := c) (cost := cost) (row := row) h3 (by rw [e1]; exact mk_ne0 (by omega))
  refine ⟨go_dis h2, ⟨k1, k2.trans e1, k3.trans e2, k5.trans e3, k6.trans e4, k4.trans e5⟩, go_all (P := PX T n m these) h5 ⟨h1.1, h1.2.1, h1.2.2.1, Nat.pow_pos (by decide)⟩ h1 (fun t ht hi => ?_)⟩
  have ht2 := h5 t ht
  exact ⟨ht2.1, ht2.2.1, ht2.2.2.1, by rw [hi.1]; exact h1.2.2.2⟩
/-- whoever may pay leads to a state that can be -/
theorem PX.pay {T : TT} {n m k i : Nat} {these mk0 : Int32} {c0 : Nat → Nat} {r0 : Nat} (h : PX T n m these mk0 c0 r0) (hn : n ≤ 8) (hm : m ≤ 10) (hk : k < m) (hi : i < n) (hb : bt (lvQ (ldT T n c0) n these mk0 k) i = true) :
    bt mk0 k = false ∧ PX T n m these (mk0 ||| bit k) (shN c0 i (ldT T n c0 7 k).toNatClampNeg (ldT T n c0 8 k).toNatClampNeg) (r0 * 64 + (k * 6 + rkN (ldT T n c0 6 k).toNatClampNeg (ldT T n c0 7 k).toNatClampNeg i)) := by
  obtain ⟨p1, p2, p3, p4⟩ := h
  have hb0 := hb
  unfold lvQ at hb
  split at hb
  rotate_left
  · rw [b_0] at hb; cases hb
  next q =>
  obtain ⟨⟨s1, s2⟩, -, o, g, ho, hg, hog, eo, eg⟩ := p3.2.2.2 k hk
  have e8 : ldT T n c0 8 k = nI (ldT T n c0 8 k).toNatClampNeg := by
    obtain ⟨v, hv, e⟩ := nI_of (x := ldT T n c0 8 k) (fun q => by have := Int32.lt_iff_toInt_lt.mp q; rw [i_0] at this; omega)
    rw [e, nI_clamp hv]
  have hv99 : (ldT T n c0 8 k).toNatClampNeg ≤ 99 := by
    have h31 : (ldT T n c0 8 k).toNatClampNeg < 2 ^ 31 := by
      obtain ⟨v, hv, e⟩ := nI_of (x := ldT T n c0 8 k) (fun q => by have := Int32.lt_iff_toInt_lt.mp q; rw [i_0] at this; omega)
      rw [e, nI_clamp hv]; exact hv
    rw [e8, nI_toInt h31] at s2; omega
  obtain ⟨g1, g2, g3, g4⟩ := lv_good (c0 := c0) p3 hn hk ho hg eo eg e8 hv99 (fun i hi => ldT_i hi) p2 i hi hb0
  refine ⟨q.2, fun j hj => ?_, ?_, ?_, ?_⟩
  · rw [b_or, b_bit (by omega)] at hj
    by_cases e : j = k
    · rw [e]; exact q.1
    · simp [e] at hj; exact p1 j hj
  · rw [eg, nI_clamp (show g < 2 ^ 31 by omega)]; exact g4
  · rw [eg, nI_clamp (show g < 2 ^ 31 by omega)]
    have hmay : mayT (ldT T n c0) n k i = true := by
      unfold payT at hb
      split at hb
      · rw [b_fbor _ n (by omega)] at hb
        simpa [hi] using hb
      · rw [b_0] at hb; cases hb
    refine p3.sh (i := i) (g := g) (x := ldT T n c0 8 k) hi hg g2 (by omega) (mayT_cnt hmay).1 ?_ ?_
    · obtain ⟨v, ev⟩ : ∃ v, (ldT T n c0 8 k).toNatClampNeg = v := ⟨_, rfl⟩
      rw [ev] at e8 g3 ⊢
      rw [e8]
      funext j
      have hgi : ¬ g = i := fun z => g2 z.symm
      simp only [shT, if_true, upd]
      by_cases j1 : j = g
      · subst j1
        rw [if_pos rfl, if_neg hgi, ldT_i hg, ldT_i hg, nI_add]
        simp only [shN, icr, dcr, if_true, if_neg hgi]
      · rw [if_neg j1]
        by_cases j2 : j = i
        · subst j2
          rw [if_pos rfl, ldT_i hi, ldT_i hi, pk_sub g3]
          simp only [shN, icr, dcr, if_true, if_neg j1]
        · rw [if_neg j2]
          simp only [ldT]
          split
          · simp only [shN, icr, dcr, if_neg j1, if_neg j2]
          · rfl
    · intro c hc
      rw [ldT_o (by omega), ldT_o (by omega)]
  · have e10 : pcN (mk0 ||| bit k) 10 = pcN mk0 10 + 1 := by rw [pcN_or (by omega) q.2, if_pos (by omega)]
    have := rkN_le (o := (ldT T n c0 6 k).toNatClampNeg) (g := (ldT T n c0 7 k).toNatClampNeg) (i := i) (by omega)
    rw [e10, Nat.pow_succ]
    omega
theorem inn_EX {T : TT} {n m : Nat} {these : Int32} (hn : n ≤ 8) (hm : m ≤ 10) {s : Nat} {mk0 : Int32} {c0 : Nat → Nat} {p0 : Int32} {r0 k : Nat} (hk : k < m) (hP : PX T n m these mk0 c0 r0) {r : Bool × SS} (h : EX T n m these r.2) : ∀ {i : Nat}, i ≤ n → EX T n m these (inn (ldT T n c0) s mk0 c0 p0 r0 k (lvQ (ldT T n c0) n these mk0 k) i r).2
  | 0, _ => h
  | i + 1, hi => by
    have h2 := inn_EX (s := s) (p0 := p0) hn hm hk hP h (i := i) (by omega)
    simp only [inn]
    split
    · next q =>
      obtain ⟨q1, q2⟩ := hP.pay hn hm hk (show i < n by omega) q
      exact h2.go (by omega) q1 q2
    · exact h2
theorem lvs_EX {T : TT} {n m : Nat} {these : Int32} (hn : n ≤ 8) (hm : m ≤ 10) {s : Nat} {mk0 : Int32} {c0 : Nat → Nat} {p0 : Int32} {r0 : Nat} (hP : PX T n m these mk0 c0 r0) {x : XS} (h : EX T n m these x.1.2) : ∀ {k : Nat}, k ≤ m → EX T n m these (lvs (ldT T n c0) n s mk0 c0 p0 r0 these k x).1.2
  | 0, _ => h
  | k + 1, hk => by
    have h2 := lvs_EX (s := s) (p0 := p0) hn hm hP h (k := k) (by omega)
    exact inn_EX hn hm (by omega) hP h2 (Nat.le_refl n)
theorem EX.iv {T : TT} {n m : Nat} {these : Int32} {S : SS} (h : EX T n m these S) {s : Nat} (hs : s < S.N) : S.iv s (S.mk s) (S.co s) (S.pr s) (S.rw s) :=
  ⟨h.1, hs, rfl, rfl, rfl, rfl, fun t ht => Nat.lt_of_lt_of_le (h.2.2 t ht).2.2.2 (Nat.le_trans (p64 pcN_le) (by decide))⟩
theorem PX.r54 {T : TT} {n m : Nat} {these mk0 : Int32} {c0 : Nat → Nat} {r0 : Nat} (h : PX T n m these mk0 c0 r0) : ∀ k, k < 10 → bt these k = true → bt mk0 k = false → r0 < 2 ^ 54 := fun k hk _ hb =>
  Nat.lt_of_lt_of_le h.2.2.2 (Nat.le_trans (p64 (show pcN mk0 10 ≤ 9 from Nat.le_of_lt_succ (pcN_lt hb hk))) (by decide))
theorem SF_EX {T : TT} {n m : Nat} {these : Int32} (hO : OKS T n m) (h8 : ∀ i, i < n → 0 ≤ (T 0 i).toInt) : EX T n m these (SF (coT T n)) := by
  have e : ∀ i, i < n → nI (coT T n i) = T 0 i := fun i hi => by
    obtain ⟨v, hv, e⟩ := nI_of (x := T 0 i) (fun q => by have := Int32.lt_iff_toInt_lt.mp q; rw [i_0] at this; have := h8 i hi; omega)
    show nI (if i < n then (T 0 i).toNatClampNeg else 0) = _
    rw [if_pos hi, e, nI_clamp hv]
  have h65 : ∀ i, coT T n i < 65536 := fun i => by
    by_cases hi : i < n
    · obtain ⟨v, hv, e2⟩ := nI_of (x := T 0 i) (fun q => by have := Int32.lt_iff_toInt_lt.mp q; rw [i_0] at this; have := h8 i hi; omega)
      have := hO.le hi
      show (if i < n then (T 0 i).toNatClampNeg else 0) < 65536
      rw [if_pos hi, e2, nI_clamp hv]
      rw [e2, nI_toInt hv] at this; omega
    · show (if i < n then (T 0 i).toNatClampNeg else 0) < 65536
      rw [if_neg hi]; decide
  refine ⟨fun s t hs ht _ _ => ?_, ⟨(show 0 < 1 by omega), rfl, rfl, rfl, rfl, rfl⟩, fun s hs => ?_⟩
  · have hs : s < 1 := hs
    have ht : t < 1 := ht
    omega
  · have hs : s < 1 := hs
    obtain rfl : s = 0 := by omega
    refine ⟨fun j hj => ?_, h65, hO.ag ⟨fun j hj => ?_, fun k hk => ?_, ?_⟩, Nat.pow_pos (by decide)⟩
    · rw [show (SF (coT T n)).mk 0 = 0 from rfl, b_0] at hj; cases hj
    · rw [ldT_i hj, ldT_o (by decide), ldT_o (by decide), ldT_o (by decide), ldT_o (by decide)]
      exact ⟨e j hj, rfl, rfl, rfl, rfl⟩
    · rw [ldT_o (by decide), ldT_o (by decide), ldT_o (by decide), ldT_o (by decide), ldT_o (by decide)]
      exact ⟨rfl, rfl, rfl, rfl, rfl⟩
    · rw [ldT_o (by decide)]
      exact ⟨rfl, rfl, rfl⟩
theorem vrun_EX {T : TT} {n m : Nat} {these : Int32} (hn : n ≤ 8) (hm : m ≤ 10) : ∀ (f s : Nat) {x : XS}, EX T n m these x.1.2 → EX T n m these (vrun T n m these f s x).1.2
  | 0, _, _, h => h
  | f + 1, s, x, h => by
    simp only [vrun]
    split
    · next q => exact vrun_EX hn hm f (s + 1) (lvs_EX hn hm (h.2.2 s q.1) h (Nat.le_refl m))
    · exact h
theorem vis_EX {T : TT} {n m : Nat} {these : Int32} (hn : n ≤ 8) (hm : m ≤ 10) (hO : OKS T n m) (h8 : ∀ i, i < n → 0 ≤ (T 0 i).toInt) : EX T n m these (vis T n m these).1.2 := vrun_EX hn hm _ _ (SF_EX hO h8)
theorem vrun_ag {T T' : TT} {n m : Nat} {these : Int32} (hn : n ≤ 8) (hm : m ≤ 10) (h : agV T T' n m) : ∀ (f s : Nat) {x : XS}, EX T n m these x.1.2 → vrun T' n m these f s x = vrun T n m these f s x
  | 0, _, _, _ => rfl
  | f + 1, s, x, hx => by
    simp only [vrun]
    split
    · next q =>
      have hP := hx.2.2 s q.1
      rw [lvs_ag (T := ldT T n (x.1.2.co s)) (T' := ldT T' n (x.1.2.co s)) (ldT_ag h fun _ _ => rfl) hP.2.2.1 hn (Nat.le_refl m)]
      exact vrun_ag hn hm h f (s + 1) (lvs_EX hn hm hP hx (Nat.le_refl m))
    · rfl
theorem coT_ag {T T' : TT} {n m : Nat} (h : agV T T' n m) : coT T' n = coT T n := by
  funext i
  simp only [coT, cap]
  split
  · next q => rw [(h.1 i q).1]
  · rfl
theorem vis_ag {T T' : TT} {n m : Nat} {these : Int32} (hn : n ≤ 8) (hm : m ≤ 10) (h : agV T T' n m) (hO : OKS T n m) (h8 : ∀ i, i < n → 0 ≤ (T 0 i).toInt) : vis T' n m these = vis T n m these := by
  unfold vis
  rw [coT_ag h]
  exact vrun_ag hn hm h _ _ (SF_EX hO h8)
