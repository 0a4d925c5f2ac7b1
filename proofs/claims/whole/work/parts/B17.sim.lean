/-! WHAT TIES THE CLASS AND THE MODEL -/
/-- what is LENT, in both -/
def lenT (T T' : TT) (n : Nat) : Prop := ∃ c, c ≤ 6 ∧ T 17 0 = nI c ∧ T' 17 0 = nI c ∧ ∀ j, j < c → (∃ a b : Nat, a < n ∧ b < n ∧ a ≠ b ∧ T 13 (3 * j) = nI a ∧ T 13 (3 * j + 1) = nI b ∧ 1 ≤ T 13 (3 * j + 2)) ∧ T' 13 (3 * j) = T 13 (3 * j) ∧ T' 13 (3 * j + 1) = T 13 (3 * j + 1) ∧ T' 13 (3 * j + 2) = T 13 (3 * j + 2)
/-- a town by itself -/
def twS (T : TT) (n m dx : Nat) : Prop := okD T n m ∧ AOK T n ∧ isum (fun i => (T 0 i).toInt) n ≤ 999 * n ∧ sortOK (T 14 0) ∧ (∀ k, k < m → T 10 k = 0 → T 11 k = -1) ∧ ∃ d, d ≤ dx ∧ T 18 0 = nI d
/-- a town in both: class T, model T' -/
def twP (T T' : TT) (n m dx : Nat) : Prop := twS T n m dx ∧ agD T T' n m ∧ (∀ j, j < 64 → T' 12 j = T 12 j) ∧ T' 19 0 = T 19 0 ∧ lenT T T' n
/-- the PAYMENTS that may be undone: u of them, of the DEBTS K -/
def UOK (K : Nat → Int32) (n m dx : Nat) : Nat → TT → Prop
  | 0, _ => True
  | u + 1, T => ∃ T' i k, i < n ∧ k < m ∧ K u = nI k ∧ twS T' n m dx ∧ (T' 10 k = 0 ∧ ¬ nI i = T' 7 k) ∧ alk (mkT T' i k) T ∧ UOK K n m dx u T'
theorem UOK_alk {K : Nat → Int32} {n m dx : Nat} {T U : TT} (h : alk T U) : ∀ {u : Nat}, UOK K n m dx u T → UOK K n m dx u U
  | 0, _ => trivial
  | _ + 1, ⟨T', i, k, a1, a2, a3, a4, a5, a7, a8⟩ => ⟨T', i, k, a1, a2, a3, a4, a5, a7.trans h, a8⟩
theorem UOK_cg {K K' : Nat → Int32} {n m dx : Nat} : ∀ {u : Nat} {T : TT}, (∀ j, j < u → K' j = K j) → UOK K n m dx u T → UOK K' n m dx u T
  | 0, _, _, _ => trivial
  | u + 1, _, hk, ⟨T', i, k, a1, a2, a3, a4, a5, a7, a8⟩ => ⟨T', i, k, a1, a2, (hk u (by omega)).trans a3, a4, a5, a7, UOK_cg (fun j hj => hk j (by omega)) a8⟩
def simX (M : Mem) : Prop := ∃ t, t ≤ 80 ∧ M.1 2 1 = nI t ∧ M.1 140 18 = nI t ∧ sgR (M.1 3) (M.1 154) t
def simR (M : Mem) : Prop := ∃ z L, z ≤ 40 ∧ M.1 7 2 = nI z ∧ M.1 140 28 = nI L ∧ ruleR (M.1 8) z (M.1 156) L
def simW (M : Mem) : Prop := ∃ s, s ≤ 10 ∧ M.1 4 1 = nI s ∧ M.1 140 20 = nI s ∧ ∀ j, j < s → M.2.1 155 j = M.2.1 5 j
def simU (M : Mem) (n m dx : Nat) : Prop := ∃ u, u ≤ 10 ∧ M.1 0 14 = nI u ∧ M.1 140 32 = nI u ∧ (∀ j, j < u → M.1 157 j = M.1 1 j) ∧ UOK (M.1 1) n m dx u (view M 28)
/-- a kept town: the class's t with its flag f, the model's s -/
def simK (M : Mem) (n m dx tn s t f : Nat) : Prop := (M.1 0 f = 0 ∧ M.1 174 s = 0) ∨ (M.1 0 f = 1 ∧ M.1 174 s = 1 ∧ ∃ n1 m1 t1, n1 ≤ n ∧ m1 ≤ m ∧ M.1 175 s = nI t1 ∧ ((t1 = tn ∧ n1 = n ∧ m1 = m) ∨ (t1 < tn ∧ n1 + m1 < n + m)) ∧ twP (view M t) (mv (agM M (133 * s) 133)) n1 m1 dx)
def Sim (M : Mem) (n m dx tn : Nat) : Prop := TW M 28 n m ∧ MW M n m ∧ twP (view M 28) (mv M) n m dx ∧ (M.1 140 55 = nI tn ∧ tn ≤ n + m) ∧ simX M ∧ simR M ∧ simW M ∧ simU M n m dx ∧ simK M n m dx tn 0 60 15 ∧ simK M n m dx tn 1 76 16 ∧ SV M n m
/-! quiet calls -/
def inR (c j : Nat) : Prop := (c ≤ 4 → j < 8) ∧ (6 ≤ c → c ≤ 11 → j < 10) ∧ (c = 12 → j < 64)
def qT (T U : TT) : Prop := ∀ c j, inR c j → U c j = T c j
theorem qT_D {T U : TT} {n m : Nat} (h : qT T U) (hn : n ≤ 8) (hm : m ≤ 10) : agD T U n m :=
  ⟨⟨fun j hj => ⟨h 0 j (by unfold inR; omega), h 1 j (by unfold inR; omega), h 2 j (by unfold inR; omega), h 3 j (by unfold inR; omega), h 4 j (by unfold inR; omega)⟩, fun k hk => ⟨h 6 k (by unfold inR; omega), h 7 k (by unfold inR; omega), h 8 k (by unfold inR; omega), h 9 k (by unfold inR; omega), h 10 k (by unfold inR; omega)⟩, h 14 0 (by unfold inR; omega), h 14 1 (by unfold inR; omega), h 14 2 (by unfold inR; omega)⟩,
    fun k hk => h 11 k (by unfold inR; omega), fun i j hi hj => h 12 _ (by unfold inR; omega), h 14 3 (by unfold inR; omega), h 18 0 (by unfold inR; omega)⟩
theorem lenT_q {T T' U : TT} {n : Nat} (h : lenT T T' n) (q : qT T' U) : lenT T U n := by
  obtain ⟨c, a1, a2, a3, a4⟩ := h
  refine ⟨c, a1, a2, (q 17 0 (by unfold inR; omega)).trans a3, fun j hj => ?_⟩
  obtain ⟨b1, b2, b3, b4⟩ := a4 j hj
  exact ⟨b1, (q 13 _ (by unfold inR; omega)).trans b2, (q 13 _ (by unfold inR; omega)).trans b3, (q 13 _ (by unfold inR; omega)).trans b4⟩
theorem lenT_alk {T T' U : TT} {n : Nat} (h : lenT T T' n) (q : alk T U) : lenT U T' n := by
  unfold lenT
  rw [q 17 (by omega) (by omega), q 13 (by omega) (by omega)]
  exact h
theorem twS_alk {T U : TT} {n m dx : Nat} (h : twS T n m dx) (q : alk T U) : twS U n m dx := by
  obtain ⟨a1, a2, a3, a4, a5, a6⟩ := h
  refine ⟨a1.alk q, ?_, ?_, ?_, ?_, ?_⟩
  · unfold AOK; rw [q 1 (by omega) (by omega), q 2 (by omega) (by omega)]; exact a2
  · rw [q 0 (by omega) (by omega)]; exact a3
  · rw [q 14 (by omega) (by omega)]; exact a4
  · rw [q 10 (by omega) (by omega), q 11 (by omega) (by omega)]; exact a5
  · rw [q 18 (by omega) (by omega)]; exact a6
theorem twP_alk {T T' U : TT} {n m dx : Nat} (h : twP T T' n m dx) (q : alk T U) : twP U T' n m dx := by
  obtain ⟨a1, a2, a3, a4, a5⟩ := h
  refine ⟨twS_alk a1 q, (alk_D q).symm.trans a2, ?_, ?_, lenT_alk a5 q⟩
  · rw [q 12 (by omega) (by omega)]; exact a3
  · rw [q 19 (by omega) (by omega)]; exact a4
theorem twP_q {T T' U : TT} {n m dx : Nat} (h : twP T T' n m dx) (q : qT T' U) (hn : n ≤ 8) (hm : m ≤ 10) : twP T U n m dx := by
  obtain ⟨a1, a2, a3, a4, a5⟩ := h
  exact ⟨a1, a2.trans (qT_D q hn hm), fun j hj => (q 12 j (by unfold inR; omega)).trans (a3 j hj), (q 19 0 (by unfold inR; omega)).trans a4, lenT_q a5 q⟩
/-- the model's quiet calls -/
theorem frB_in {M N : Mem} (h : frB M N) {a j : Nat} (ha : ¬ (159 ≤ a ∧ a ≤ 172)) (hj : ¬ (a = 140 ∧ (j = 20 ∨ j = 21 ∨ (23 ≤ j ∧ j ≤ 26) ∨ j = 29 ∨ j = 30 ∨ j = 44 ∨ j = 46 ∨ (50 ≤ j ∧ j ≤ 53)))) (hr : (a = 141 ∨ a = 145 → j < 8) ∧ (a = 146 → j < 64) ∧ (a = 151 ∨ a = 152 → j < 10)) : N.1 a j = M.1 a j := by
  refine h.1 a j ha hj fun z => ?_
  obtain ⟨z1, z2⟩ := z
  unfold psL at z2
  rcases z1 with z | z | z | z | z
  · rw [if_pos ⟨z, hr.1 (Or.inl z)⟩] at z2; have := hr.1 (Or.inl z); omega
  · rw [if_neg (by omega), if_pos ⟨z, hr.1 (Or.inr z)⟩] at z2; have := hr.1 (Or.inr z); omega
  · rw [if_neg (by omega), if_neg (by omega), if_pos ⟨z, hr.2.1 z⟩] at z2; have := hr.2.1 z; omega
  · rw [if_neg (by omega), if_neg (by omega), if_neg (by omega), if_pos ⟨z, hr.2.2 (Or.inl z)⟩] at z2; have := hr.2.2 (Or.inl z); omega
  · rw [if_neg (by omega), if_neg (by omega), if_neg (by omega), if_neg (by omega), if_pos ⟨z, hr.2.2 (Or.inr z)⟩] at z2; have := hr.2.2 (Or.inr z); omega
/-- where the model keeps its town -/
def mo (c : Nat) : Nat := if c ≤ 4 then 141 + c else if 6 ≤ c ∧ c ≤ 11 then 141 + c else if c = 12 then 146 else if c = 13 then 158 else if c = 14 then 153 else 140
def mj (c j : Nat) : Nat := if c = 15 then 0 else if c = 16 then 7 else if c = 17 then 34 else if c = 18 then 15 else if c = 19 then 16 else j
theorem mv_mo {M : Mem} {c j : Nat} (h : c ≠ 5 ∧ c < 20) : mv M c j = M.1 (mo c) (mj c j) := by
  have hc : c = 0 ∨ c = 1 ∨ c = 2 ∨ c = 3 ∨ c = 4 ∨ c = 6 ∨ c = 7 ∨ c = 8 ∨ c = 9 ∨ c = 10 ∨ c = 11 ∨ c = 12 ∨ c = 13 ∨ c = 14 ∨ c = 15 ∨ c = 16 ∨ c = 17 ∨ c = 18 ∨ c = 19 := by omega
  rcases hc with rfl | rfl | rfl | rfl | rfl | rfl | rfl | rfl | rfl | rfl | rfl | rfl | rfl | rfl | rfl | rfl | rfl | rfl | rfl <;> rfl
theorem mv_no {M : Mem} {c j : Nat} (h : ¬ (c ≠ 5 ∧ c < 20)) : mv M c j = 0 := by
  unfold mv
  split <;> first | rfl | (exfalso; omega)
theorem mo_in {c j : Nat} (h : c ≠ 5 ∧ c < 20) (hi : inR c j) : ¬ (159 ≤ mo c ∧ mo c ≤ 172) ∧ ¬ (mo c = 140 ∧ (mj c j = 20 ∨ mj c j = 21 ∨ (23 ≤ mj c j ∧ mj c j ≤ 26) ∨ mj c j = 29 ∨ mj c j = 30 ∨ mj c j = 44 ∨ mj c j = 46 ∨ (50 ≤ mj c j ∧ mj c j ≤ 53))) ∧ ((mo c = 141 ∨ mo c = 145 → mj c j < 8) ∧ (mo c = 146 → mj c j < 64) ∧ (mo c = 151 ∨ mo c = 152 → mj c j < 10)) := by
  unfold inR at hi
  have hc : c = 0 ∨ c = 1 ∨ c = 2 ∨ c = 3 ∨ c = 4 ∨ c = 6 ∨ c = 7 ∨ c = 8 ∨ c = 9 ∨ c = 10 ∨ c = 11 ∨ c = 12 ∨ c = 13 ∨ c = 14 ∨ c = 15 ∨ c = 16 ∨ c = 17 ∨ c = 18 ∨ c = 19 := by omega
  rcases hc with rfl | rfl | rfl | rfl | rfl | rfl | rfl | rfl | rfl | rfl | rfl | rfl | rfl | rfl | rfl | rfl | rfl | rfl | rfl <;> simp [mo, mj] at hi ⊢ <;> omega
theorem frB_q {M N : Mem} (h : frB M N) : qT (mv M) (mv N) := fun c j hi => by
  by_cases hc : c ≠ 5 ∧ c < 20
  · rw [mv_mo hc, mv_mo hc]
    obtain ⟨a, b, d⟩ := mo_in hc hi
    exact frB_in h a b d
  · rw [mv_no hc, mv_no hc]
theorem frB_ag {M N : Mem} {k0 : Nat} (h : frB M N) : qT (mv (agM M k0 133)) (mv (agM N k0 133)) := fun c j hi => by
  by_cases hc : c ≠ 5 ∧ c < 20
  · rw [mv_mo hc, mv_mo hc]
    show (if psK (mo c) (mj c j) < 133 then N.1 173 (k0 + psK (mo c) (mj c j)) else N.1 (mo c) (mj c j)) = (if psK (mo c) (mj c j) < 133 then M.1 173 (k0 + psK (mo c) (mj c j)) else M.1 (mo c) (mj c j))
    obtain ⟨a, b, d⟩ := mo_in hc hi
    split
    · exact frB_in h (by omega) (by omega) (by omega)
    · exact frB_in h a b d
  · rw [mv_no hc, mv_no hc]
