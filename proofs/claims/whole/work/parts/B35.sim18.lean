theorem rnS_len {S : Nat → Int32} {lim L : Nat} : ∀ (f n m p : Nat) (its : List It), (rnS S lim L f n m p its).1 = true → its.length < (rnS S lim L f n m p its).2.2.length
  | 0, _, _, _, _, h => by cases h
  | f + 1, n, m, p, its, h => by
    simp only [rnS] at h ⊢
    by_cases c1 : (rlS S lim n m p).1 = true
    · rw [if_pos c1] at h ⊢
      by_cases c2 : kc S lim (rlS S lim n m p).2.1 = 59
      · rw [if_pos c2] at h ⊢
        have z := rnS_len f _ _ _ _ h
        rw [List.length_append, List.length_singleton] at z
        omega
      · rw [if_neg c2]
        rw [List.length_append, List.length_singleton]
        omega
    · rw [if_neg c1] at h; cases h
/-- what stays where neither text's nor town's numbers are looked at -/
def frX (M K : Mem) (n m : Nat) : Prop := (∀ a b, ¬ (6 ≤ a ∧ a ≤ 18) → ¬ (a = 2 ∧ b = 1) → ¬ (a = 0 ∧ b = 14) → ¬ (29 ≤ a ∧ a ≤ 33 ∧ n ≤ b) → ¬ (35 ≤ a ∧ a ≤ 40 ∧ m ≤ b) → ¬ (a = 28 ∧ (b = 15 ∨ b = 16)) → ¬ (141 ≤ a ∧ a ≤ 145 ∧ n ≤ b) → ¬ (147 ≤ a ∧ a ≤ 152 ∧ m ≤ b) → ¬ (159 ≤ a ∧ a ≤ 172) → ¬ (a = 140 ∧ (b = 0 ∨ b = 7 ∨ b = 18 ∨ b = 21 ∨ (23 ≤ b ∧ b ≤ 26) ∨ b = 29 ∨ b = 30 ∨ b = 32 ∨ b = 55)) → K.1 a b = M.1 a b) ∧ ∀ a, a ≠ 166 → K.2.1 a = M.2.1 a
theorem mo_j {c j : Nat} (h : c ≠ 5 ∧ c < 20) : (c ≤ 4 → mo c = 141 + c ∧ mj c j = j) ∧ (6 ≤ c ∧ c ≤ 11 → mo c = 141 + c ∧ mj c j = j) ∧ (c = 12 → mo c = 146) ∧ (c = 13 → mo c = 158) ∧ (c = 14 → mo c = 153) ∧ (15 ≤ c → mo c = 140) ∧ (c = 17 → mj c j = 34) ∧ (c = 18 → mj c j = 15) ∧ (c = 19 → mj c j = 16) := by
  have hc : c = 0 ∨ c = 1 ∨ c = 2 ∨ c = 3 ∨ c = 4 ∨ c = 6 ∨ c = 7 ∨ c = 8 ∨ c = 9 ∨ c = 10 ∨ c = 11 ∨ c = 12 ∨ c = 13 ∨ c = 14 ∨ c = 15 ∨ c = 16 ∨ c = 17 ∨ c = 18 ∨ c = 19 := by omega
  rcases hc with rfl | rfl | rfl | rfl | rfl | rfl | rfl | rfl | rfl | rfl | rfl | rfl | rfl | rfl | rfl | rfl | rfl | rfl | rfl <;> simp [mo, mj]
theorem frX_c {M K : Mem} {n m c j : Nat} (f : frX M K n m) (h : c ≠ 5 ∧ c < 20) (h15 : c ≠ 15) (h16 : c ≠ 16) (h1 : c ≤ 4 → j < n) (h2 : 6 ≤ c → c ≤ 11 → j < m) : K.1 (mo c) (mj c j) = M.1 (mo c) (mj c j) := by
  obtain ⟨m1, m2, m3, m4, m5, m6, m7, m8, m9⟩ := mo_j (j := j) h
  by_cases c4 : c ≤ 4
  · rw [(m1 c4).1, (m1 c4).2]
    have := h1 c4
    exact f.1 _ _ (by omega) (by omega) (by omega) (by omega) (by omega) (by omega) (by omega) (by omega) (by omega) (by omega)
  · by_cases c11 : c ≤ 11
    · rw [(m2 (by omega)).1, (m2 (by omega)).2]
      have := h2 (by omega) c11
      exact f.1 _ _ (by omega) (by omega) (by omega) (by omega) (by omega) (by omega) (by omega) (by omega) (by omega) (by omega)
    · by_cases c15 : c ≤ 14
      · exact f.1 _ _ (by omega) (by omega) (by omega) (by omega) (by omega) (by omega) (by omega) (by omega) (by omega) (by omega)
      · rw [m6 (by omega)]
        exact f.1 _ _ (by omega) (by omega) (by omega) (by omega) (by omega) (by omega) (by omega) (by omega) (by omega) (by omega)
theorem frX_q {M K : Mem} {n m : Nat} (f : frX M K n m) : qN (mv M) (mv K) n m := fun c j h15 h16 h1 h2 h5 h20 => by
  rw [mv_mo ⟨h5, h20⟩, mv_mo ⟨h5, h20⟩]
  exact frX_c f ⟨h5, h20⟩ h15 h16 h1 h2
theorem frX_v {M K : Mem} {n m : Nat} (f : frX M K n m) : qN (view M 28) (view K 28) n m := fun c j h15 h16 h1 h2 h5 h20 => by
  unfold view
  by_cases hc : c < 15
  · rw [if_pos hc, if_pos hc]; exact f.1 _ _ (by omega) (by omega) (by omega) (by omega) (by omega) (by omega) (by omega) (by omega) (by omega) (by omega)
  · rw [if_neg hc, if_neg hc]; exact f.1 _ _ (by omega) (by omega) (by omega) (by omega) (by omega) (by omega) (by omega) (by omega) (by omega) (by omega)
theorem simK_x {M K : Mem} {n m n1 m1 dx tn tn1 s t fl : Nat} (h : simK M n m dx tn s t fl) (f : frX M K n m) (ht : t = 60 ∨ t = 76) (hf : fl = 15 ∨ fl = 16) (hn : n ≤ n1) (hm : m ≤ m1) (htn : (tn1 = tn ∧ n1 = n ∧ m1 = m) ∨ (tn < tn1 ∧ n + m < n1 + m1)) : simK K n1 m1 dx tn1 s t fl := by
  unfold simK at h ⊢
  have ek : ∀ a b, ¬ (6 ≤ a ∧ a ≤ 18) → ¬ (a = 2 ∧ b = 1) → ¬ (a = 0 ∧ b = 14) → ¬ (28 ≤ a ∧ a ≤ 40) → ¬ (140 ≤ a ∧ a ≤ 172) → K.1 a b = M.1 a b := fun a b h1 h2 h3 h4 h5 => f.1 a b h1 h2 h3 (by omega) (by omega) (by omega) (by omega) (by omega) (by omega) (by omega)
  have ev : view K t = view M t := by
    funext c j
    unfold view
    split
    · exact ek _ _ (by omega) (by omega) (by omega) (by omega) (by omega)
    · exact ek _ _ (by omega) (by omega) (by omega) (by omega) (by omega)
  rw [ek 0 fl (by omega) (by omega) (by omega) (by omega) (by omega), ek 174 s (by omega) (by omega) (by omega) (by omega) (by omega), ek 175 s (by omega) (by omega) (by omega) (by omega) (by omega), ev]
  refine h.imp id fun ⟨a1, a2, n', m', t1, a3, a4, a5, a6, a7⟩ => ⟨a1, a2, n', m', t1, by omega, by omega, a5, by omega, twP_qq a7 qN.refl rfl rfl fun c j h15 h16 h1 h2 h5 h20 => ?_⟩
  rw [mv_mo ⟨h5, h20⟩, mv_mo ⟨h5, h20⟩]
  show (if psK (mo c) (mj c j) < 133 then K.1 173 (133 * s + psK (mo c) (mj c j)) else K.1 (mo c) (mj c j)) = (if psK (mo c) (mj c j) < 133 then M.1 173 (133 * s + psK (mo c) (mj c j)) else M.1 (mo c) (mj c j))
  rw [ek 173 _ (by omega) (by omega) (by omega) (by omega) (by omega), frX_c f ⟨h5, h20⟩ h15 h16 (fun z => by have := h1 z; omega) (fun z y => by have := h2 z y; omega)]
theorem SV_x {M K : Mem} {n m : Nat} (h : SV M n m) (f : frX M K n m) : SV K n m := by
  have ek : ∀ a b, (19 ≤ a ∧ a ≤ 27) ∨ (108 ≤ a ∧ a ≤ 123) → K.1 a b = M.1 a b := fun a b h => f.1 a b (by omega) (by omega) (by omega) (by omega) (by omega) (by omega) (by omega) (by omega) (by omega) (by omega)
  exact SV_cg h (fun a j _ _ => ek _ _ (by omega)) (fun a _ _ => f.2 a (by omega)) (fun a j _ _ => ek _ _ (by omega)) ⟨fun j _ => ⟨f.1 _ _ (by omega) (by omega) (by omega) (by omega) (by omega) (by omega) (by omega) (by omega) (by omega) (by omega), f.1 _ _ (by omega) (by omega) (by omega) (by omega) (by omega) (by omega) (by omega) (by omega) (by omega) (by omega)⟩, fun k _ => ⟨f.1 _ _ (by omega) (by omega) (by omega) (by omega) (by omega) (by omega) (by omega) (by omega) (by omega) (by omega), f.1 _ _ (by omega) (by omega) (by omega) (by omega) (by omega) (by omega) (by omega) (by omega) (by omega) (by omega), f.1 _ _ (by omega) (by omega) (by omega) (by omega) (by omega) (by omega) (by omega) (by omega) (by omega) (by omega), f.1 _ _ (by omega) (by omega) (by omega) (by omega) (by omega) (by omega) (by omega) (by omega) (by omega) (by omega)⟩⟩
/-- a text read, that told nothing, or nothing well -/
theorem sim_fail {M K : Mem} {n m dx tn : Nat} (h : Sim M n m dx tn) (f : frX M K n m) (h7 : K.1 7 2 = M.1 7 2 ∧ ∀ j, K.1 8 j = M.1 8 j) (h15 : K.1 28 15 = M.1 28 15) (h16 : K.1 28 16 = M.1 28 16) (h14 : K.1 0 14 = M.1 0 14) (hm0 : K.1 140 0 = M.1 140 0) (hm7 : K.1 140 7 = M.1 140 7) (h32 : K.1 140 32 = M.1 140 32) (h55 : K.1 140 55 = M.1 140 55) (e21 : K.1 2 1 = 0) (e18 : K.1 140 18 = 0) : Sim K n m dx tn := by
  have n8 := h.q.n8
  have fa : ∀ {a b : Nat}, ¬ (6 ≤ a ∧ a ≤ 18) → ¬ (a = 2 ∧ b = 1) → ¬ (a = 0 ∧ b = 14) → ¬ (29 ≤ a ∧ a ≤ 33 ∧ n ≤ b) → ¬ (35 ≤ a ∧ a ≤ 40 ∧ m ≤ b) → ¬ (a = 28 ∧ (b = 15 ∨ b = 16)) → ¬ (141 ≤ a ∧ a ≤ 145 ∧ n ≤ b) → ¬ (147 ≤ a ∧ a ≤ 152 ∧ m ≤ b) → ¬ (159 ≤ a ∧ a ≤ 172) → ¬ (a = 140 ∧ (b = 0 ∨ b = 7 ∨ b = 18 ∨ b = 21 ∨ (23 ≤ b ∧ b ≤ 26) ∨ b = 29 ∨ b = 30 ∨ b = 32 ∨ b = 55)) → K.1 a b = M.1 a b := fun {a b} => f.1 a b
  obtain ⟨a1, a2, a3, a4, a5, a6, a7, ⟨u, u1, u2, u3, u4, u5⟩, a9, a10, a11⟩ := h
  refine ⟨a1.keep h15 h16 (fun _ _ => fa (by omega) (by omega) (by omega) (by omega) (by omega) (by omega) (by omega) (by omega) (by omega) (by omega)) (fun _ _ => fa (by omega) (by omega) (by omega) (by omega) (by omega) (by omega) (by omega) (by omega) (by omega) (by omega)), a2.keep hm0 hm7 (fun _ _ => fa (by omega) (by omega) (by omega) (by omega) (by omega) (by omega) (by omega) (by omega) (by omega) (by omega)) (fun _ _ => fa (by omega) (by omega) (by omega) (by omega) (by omega) (by omega) (by omega) (by omega) (by omega) (by omega)),
    twP_qq a3 (frX_v f) h15 h16 (frX_q f), ⟨h55.trans a4.1, a4.2⟩, ⟨0, by omega, e21, e18, fun j hj => absurd hj (Nat.not_lt_zero _)⟩, simR_k a6 h7.1 (fa (by omega) (by omega) (by omega) (by omega) (by omega) (by omega) (by omega) (by omega) (by omega) (by omega)) h7.2 (fun j => fa (by omega) (by omega) (by omega) (by omega) (by omega) (by omega) (by omega) (by omega) (by omega) (by omega)), simW_kk a7 (fa (by omega) (by omega) (by omega) (by omega) (by omega) (by omega) (by omega) (by omega) (by omega) (by omega)) (fa (by omega) (by omega) (by omega) (by omega) (by omega) (by omega) (by omega) (by omega) (by omega) (by omega)) (f.2 5 (by omega)) (f.2 155 (by omega)),
    ⟨u, u1, h14.trans u2, h32.trans u3, fun b hb => ?_, ?_⟩, simK_x a9 f (Or.inl rfl) (Or.inl rfl) (Nat.le_refl _) (Nat.le_refl _) (Or.inl ⟨rfl, rfl, rfl⟩), simK_x a10 f (Or.inr rfl) (Or.inr rfl) (Nat.le_refl _) (Nat.le_refl _) (Or.inl ⟨rfl, rfl, rfl⟩), SV_x a11 f⟩
  · rw [fa (a := 1) (b := b) (by omega) (by omega) (by omega) (by omega) (by omega) (by omega) (by omega) (by omega) (by omega) (by omega), fa (a := 157) (b := b) (by omega) (by omega) (by omega) (by omega) (by omega) (by omega) (by omega) (by omega) (by omega) (by omega)]; exact u4 b hb
  · rw [show K.1 1 = M.1 1 from funext fun b => fa (by omega) (by omega) (by omega) (by omega) (by omega) (by omega) (by omega) (by omega) (by omega) (by omega)]
    exact UOK_q n8 u5 (frX_v f) (fun _ => h15) (fun _ => h16)
/-- a text read that told new people, new debts -/
theorem sim_grown {M K : Mem} {n m n1 m1 dx tn : Nat} (h : Sim M n m dx tn) (f : frX M K n m) (G : grown (view M 28) (mv M) (view K 28) (mv K) n m n1 m1) (hn : n ≤ n1) (hn8 : n1 ≤ 8) (hm : m ≤ m1) (hm10 : m1 ≤ 10) (hnm : n + m < n1 + m1) (h7 : K.1 7 2 = M.1 7 2 ∧ ∀ j, K.1 8 j = M.1 8 j) (h14 : K.1 0 14 = 0) (hm0 : K.1 140 0 = nI n1) (hm7 : K.1 140 7 = nI m1) (h32 : K.1 140 32 = 0) (h55 : K.1 140 55 = nI (tn + 1)) (e21 : K.1 2 1 = 0) (e18 : K.1 140 18 = 0) : Sim K n1 m1 dx (tn + 1) := by
  have fa : ∀ {a b : Nat}, ¬ (6 ≤ a ∧ a ≤ 18) → ¬ (a = 2 ∧ b = 1) → ¬ (a = 0 ∧ b = 14) → ¬ (29 ≤ a ∧ a ≤ 33 ∧ n ≤ b) → ¬ (35 ≤ a ∧ a ≤ 40 ∧ m ≤ b) → ¬ (a = 28 ∧ (b = 15 ∨ b = 16)) → ¬ (141 ≤ a ∧ a ≤ 145 ∧ n ≤ b) → ¬ (147 ≤ a ∧ a ≤ 152 ∧ m ≤ b) → ¬ (159 ≤ a ∧ a ≤ 172) → ¬ (a = 140 ∧ (b = 0 ∨ b = 7 ∨ b = 18 ∨ b = 21 ∨ (23 ≤ b ∧ b ≤ 26) ∨ b = 29 ∨ b = 30 ∨ b = 32 ∨ b = 55)) → K.1 a b = M.1 a b := fun {a b} => f.1 a b
  obtain ⟨a1, a2, a3, a4, a5, a6, a7, a8, a9, a10, a11⟩ := h
  have p := grown_P G hn hn8 hm a3
  have oC := p.1.1
  have oM := oC.1.ag p.2.1.1
  have v := SV_x a11 f
  refine ⟨TW_w oC.2.1 oC.2.2 hn8 hm10 oC.1, MW.of (M := K) hm0 hm7 hn8 hm10 oM, p, ⟨h55, by omega⟩, ⟨0, by omega, e21, e18, fun j hj => absurd hj (Nat.not_lt_zero _)⟩, simR_k a6 h7.1 (fa (by omega) (by omega) (by omega) (by omega) (by omega) (by omega) (by omega) (by omega) (by omega) (by omega)) h7.2 (fun j => fa (by omega) (by omega) (by omega) (by omega) (by omega) (by omega) (by omega) (by omega) (by omega) (by omega)), simW_kk a7 (fa (by omega) (by omega) (by omega) (by omega) (by omega) (by omega) (by omega) (by omega) (by omega) (by omega)) (fa (by omega) (by omega) (by omega) (by omega) (by omega) (by omega) (by omega) (by omega) (by omega) (by omega)) (f.2 5 (by omega)) (f.2 155 (by omega)),
    simU_0 h14 h32, simK_x a9 f (Or.inl rfl) (Or.inl rfl) hn hm (Or.inr ⟨by omega, hnm⟩), simK_x a10 f (Or.inr rfl) (Or.inr rfl) hn hm (Or.inr ⟨by omega, hnm⟩), v.1, fun z1 z2 => ?_, ?_⟩
  · obtain ⟨a, b, y1, y2, y3, y4⟩ := v.2.2
    have e1 := eq_nI (by omega) (by omega) (y1.symm.trans z1)
    have e2 := eq_nI (by omega) (by omega) (y2.symm.trans z2)
    omega
  · obtain ⟨a, b, y1, y2, y3, y4⟩ := v.2.2
    exact ⟨a, b, y1, y2, by omega, by omega⟩
theorem pos_nI {k : Nat} (h : 0 < k) (h2 : k < 2 ^ 31) : (0 : Int32) < nI k := by
  rw [Int32.lt_iff_toInt_lt, nI_toInt h2, i_0]; omega
theorem neg_nI {k : Nat} (h2 : k < 2 ^ 31) : ¬ (0 : Int32) < -1 - nI k := by
  rw [Int32.lt_iff_toInt_lt, i_sub (by rw [nI_toInt h2, show (-1 : Int32).toInt = -1 from rfl]; omega) (by rw [nI_toInt h2, show (-1 : Int32).toInt = -1 from rfl]; omega), nI_toInt h2, i_0, show (-1 : Int32).toInt = -1 from rfl]; omega
set_option maxHeartbeats 4000000 in
theorem s_town {M : Mem} {n m dx tn : Nat} (h : Sim M n m dx tn)  : Two yX10_town cX10_town 2 (some .int) 6 yX11_town cX11_town 6 4 [] M n m dx tn := by
  have q := h.q
  have ag := q.ag
  have hO := q.okC
  have n8 := q.n8
  have m10 := q.m10
  obtain ⟨t, t80, c1, c2, c3⟩ := h.2.2.2.2.1
  obtain ⟨y1, y2, y3⟩ := sgR_by c3
  by_cases t0' : t = 0
  · subst t0'
    have hC := c_X10_town_0 (M := M) c1
    have w1 : MW (setI M 2 1 0) n m := q.2.1.keep (sI_na (by omega)) (sI_na (by omega)) (fun _ _ => sI_na (by omega)) (fun _ _ => sI_na (by omega))
    have hM := c_X11_town w1 (L := 0) ((sI_na (by omega)).trans c2) (by omega)
    refine ⟨_, hC, fun v N hv => by rw [hv.1]; exact tyI _, fun v N hv => ?_⟩
    obtain ⟨rfl, rfl⟩ := hv
    refine Con.mono hM fun v' K hk => ?_
    rw [if_pos rfl] at hk
    obtain ⟨rfl, hf⟩ := hk
    have ek : ∀ a b, ¬ (a = 2 ∧ b = 1) → ¬ (159 ≤ a ∧ a ≤ 172) → ¬ (a = 140 ∧ (b = 18 ∨ b = 21 ∨ (23 ≤ b ∧ b ≤ 26) ∨ b = 29 ∨ b = 30)) → K.1 a b = M.1 a b := fun a b h1 h2 h3 => by
      rw [frP_far hf h2 (by omega), sI_ne (by omega), sI_ne h1]
    refine ⟨rfl, n, m, tn, (sim_fail h ⟨fun a b _ q2 _ _ _ _ _ _ q9 q10 => ek a b q2 q9 (by omega), fun a ha => frP_2 hf ha⟩ ⟨ek _ _ (by omega) (by omega) (by omega), fun j => ek _ _ (by omega) (by omega) (by omega)⟩ (ek _ _ (by omega) (by omega) (by omega)) (ek _ _ (by omega) (by omega) (by omega)) (ek _ _ (by omega) (by omega) (by omega)) (ek _ _ (by omega) (by omega) (by omega)) (ek _ _ (by omega) (by omega) (by omega)) (ek _ _ (by omega) (by omega) (by omega)) (ek _ _ (by omega) (by omega) (by omega)) ?_ ?_).dx (by omega)⟩
    · rw [frP_far hf (by omega) (by omega), sI_na (by omega)]; exact sI_eq
    · rw [frP_far hf (by omega) (by omega)]; exact sI_eq
  · have hC := c_X10_town q.1 c1 (by omega) t80 y3
    have hs := town_same (M := M) (B := M.1 154) (L := t) c3 n8 m10
    have hlen := rnS_len (S := M.1 3) (lim := if 76 < t then 76 else t) (L := t) 100 n m 0 []
    obtain ⟨a, ea⟩ : ∃ a, a = tnR M t n m := ⟨_, rfl⟩
    rw [show rnS (M.1 3) (if 76 < t then 76 else t) t 100 n m 0 [] = a from ea.symm] at hlen
    obtain ⟨R, eR⟩ : ∃ R, R = mtn (M.1 154) (min t 76) 81 n m 0 [] (0, none) := ⟨_, rfl⟩
    have hB := mtn_b (S := M.1 154) (lim := min t 76) (by omega) 81 n m 0 [] (0, none) n8 m10 ⟨Nat.zero_le _, fun _ e => by cases e⟩
    rw [← eR] at hB
    rw [← ea, ← eR] at hs
    rw [← ea] at hC
    have wk : ∀ K1 : Mem, (∀ a b, 140 ≤ a → K1.1 a b = M.1 a b) → MW K1 n m := fun K1 k1 => q.2.1.keep (k1 _ _ (by omega)) (k1 _ _ (by omega)) (fun _ _ => k1 _ _ (by omega)) (fun _ _ => k1 _ _ (by omega))
    have hTB : ∀ a b, a ≠ 6 → (tnB M t).1 a b = M.1 a b := fun a b h1 => sI_na h1
    by_cases ok : a.1 = true
    · obtain ⟨r1, r2, l, r3, r4, r5, r6⟩ := hs.1 ok
      rw [List.nil_append] at r3
      have hl0 := hlen ok
      rw [r3] at hl0
      have hl0 : 0 < l.length := hl0
      obtain ⟨d1, d2, d3, d4, d5⟩ := ctI_b l n m r5 n8 m10
      rw [if_pos ok, r3] at hC
      rw [if_pos (pos_nI hl0 (by omega))] at hC
      have eT : tnM M t n m = pl (itM l (tnB M t, n, m)).1 a.2.1 := by
        unfold tnM
        simp only [← ea]
        rw [if_pos ok, r3]
      rw [eT] at hC
      obtain ⟨i1, i2⟩ := itM_lo l (tnB M t) n m
      obtain ⟨X, eX⟩ : ∃ X, X = (itM l (tnB M t, n, m)).1 := ⟨_, rfl⟩
      rw [← eX] at i1 i2 hC
      obtain ⟨K1, eK1⟩ : ∃ K1, K1 = setI (setI (pl X a.2.1) 2 1 0) 0 14 0 := ⟨_, rfl⟩
      rw [← eK1] at hC
      have kX : ∀ a b, a ≠ 6 → ¬ (a = 2 ∧ b = 1) → ¬ (a = 0 ∧ b = 14) → K1.1 a b = X.1 a b := fun a b h1 h2 h3 => by
        rw [eK1, sI_ne h3, sI_ne h2, pl_o h1]
      have k21 : K1.1 2 1 = 0 := by rw [eK1, sI_na (by omega)]; exact sI_eq
      have k14 : K1.1 0 14 = 0 := by rw [eK1]; exact sI_eq
      have k2 : K1.2 = M.2 := by rw [eK1]; exact i2
      have k140 : ∀ a b, 140 ≤ a → K1.1 a b = M.1 a b := fun a b h140 => by
        rw [kX a b (by omega) (by omega) (by omega), i1 a b (by omega) (by omega) (by omega), hTB a b (by omega)]
      have e154 : K1.1 154 = M.1 154 := funext fun b => k140 154 b (by omega)
      have hM := c_X11_town (wk K1 k140) ((k140 140 18 (by omega)).trans c2) t80
      rw [e154, ← eR] at hM
      refine ⟨_, hC, fun v N hv => by rw [hv.1]; exact tyI _, fun v K1 hv => ?_⟩
      obtain ⟨rfl, rfl⟩ := hv
      refine Con.mono hM fun v' K hk => ?_
      have eE : (tnE t R.2.2.2.2).2 = none := by
        rw [r1]; unfold tnE; rw [if_neg (Nat.lt_irrefl _)]
      rw [if_neg t0', eE] at hk
      obtain ⟨hv, hf⟩ := hk
      have eR1 : R.1 = (ctI l n m).1 := congrArg Prod.fst r6
      have eR2 : R.2.1 = (ctI l n m).2 := congrArg Prod.snd r6
      rw [r2, r3, eR1, eR2] at hf
      rw [r4] at hv
      obtain ⟨n1, en1⟩ : ∃ n1, n1 = (ctI l n m).1 := ⟨_, rfl⟩
      obtain ⟨m1, em1⟩ : ∃ m1, m1 = (ctI l n m).2 := ⟨_, rfl⟩
      have NR := newR_all l (tnB M t) (setI K1 140 18 0) n m n m ⟨fun j z1 z2 => absurd z2 (by omega), fun j z1 z2 => absurd z2 (by omega), (hTB 28 15 (by omega)).trans q.1.1, (hTB 28 16 (by omega)).trans q.1.2.2.1⟩ r5
      rw [← eX, ← en1, ← em1] at NR
      rw [← en1, ← em1] at hf
      rw [← en1] at d1 d2 d5
      rw [← em1] at d3 d4 d5
      obtain ⟨j1, j2⟩ := mitM_lo l (setI K1 140 18 0) n m
      obtain ⟨Y, eY⟩ : ∃ Y, Y = (mitM l (setI K1 140 18 0, n, m)).1 := ⟨_, rfl⟩
      rw [← eY] at NR hf j1 j2
      obtain ⟨NR1, NR2, NR3, NR4⟩ := NR
      have F0 : ∀ a b, ¬ (a = 144 ∨ a = 145 ∨ a = 151 ∨ a = 152) → ¬ (a = 140 ∧ (b = 0 ∨ b = 7 ∨ b = 55 ∨ b = 32)) → (fnM Y n m n1 m1).1 a b = Y.1 a b := fun a b h1 h2 => by
        unfold fnM
        rw [sI_ne (by omega), sI_ne (by omega), sI_ne (by omega), sI_ne (by omega), oo_o (by omega) (by omega), nn_o (by omega) (by omega)]
      have F1 : ∀ b, (fnM Y n m n1 m1).1 144 b = if n ≤ b ∧ b < n1 then 0 else Y.1 144 b := fun b => by
        unfold fnM
        rw [sI_na (by omega), sI_na (by omega), sI_na (by omega), sI_na (by omega), oo_o (by omega) (by omega)]
        simp [nnA]
      have F2 : ∀ b, (fnM Y n m n1 m1).1 145 b = if n ≤ b ∧ b < n1 then Y.1 141 b else Y.1 145 b := fun b => by
        unfold fnM
        rw [sI_na (by omega), sI_na (by omega), sI_na (by omega), sI_na (by omega), oo_o (by omega) (by omega)]
        simp [nnA]
      have F3 : ∀ b, (fnM Y n m n1 m1).1 151 b = if m ≤ b ∧ b < m1 then 0 else Y.1 151 b := fun b => by
        unfold fnM
        rw [sI_na (by omega), sI_na (by omega), sI_na (by omega), sI_na (by omega)]
        simp [ooA, nnA]
      have F4 : ∀ b, (fnM Y n m n1 m1).1 152 b = if m ≤ b ∧ b < m1 then -1 else Y.1 152 b := fun b => by
        unfold fnM
        rw [sI_na (by omega), sI_na (by omega), sI_na (by omega), sI_na (by omega)]
        simp [ooA, nnA]
      have kF : ∀ a b, ¬ (159 ≤ a ∧ a ≤ 172) → ¬ (a = 140 ∧ (b = 21 ∨ (23 ≤ b ∧ b ≤ 26) ∨ b = 29 ∨ b = 30)) → K.1 a b = (fnM Y n m n1 m1).1 a b := fun a b h1 h2 => frP_far hf h1 h2
      have yK : ∀ a b, ¬ (141 ≤ a ∧ a ≤ 143 ∧ n ≤ b) → ¬ (147 ≤ a ∧ a ≤ 150 ∧ m ≤ b) → ¬ (a = 140 ∧ b = 18) → Y.1 a b = K1.1 a b := fun a b h1 h2 h3 => (j1 a b h1 h2).trans (sI_ne h3)
      have kK : ∀ a b, ¬ (159 ≤ a ∧ a ≤ 172) → ¬ (a = 140 ∧ (b = 0 ∨ b = 7 ∨ b = 18 ∨ b = 21 ∨ (23 ≤ b ∧ b ≤ 26) ∨ b = 29 ∨ b = 30 ∨ b = 32 ∨ b = 55)) → ¬ (141 ≤ a ∧ a ≤ 145 ∧ n ≤ b) → ¬ (147 ≤ a ∧ a ≤ 152 ∧ m ≤ b) → K.1 a b = K1.1 a b := fun a b h1 h2 h3 h4 => by
        rw [kF a b h1 (by omega), ← yK a b (by omega) (by omega) (by omega)]
        by_cases z1 : a = 144
        · rw [z1, F1, if_neg (by omega)]
        · by_cases z2 : a = 145
          · rw [z2, F2, if_neg (by omega)]
          · by_cases z3 : a = 151
            · rw [z3, F3, if_neg (by omega)]
            · by_cases z4 : a = 152
              · rw [z4, F4, if_neg (by omega)]
              · exact F0 a b (by omega) (by omega)
      have fX : frX M K n m := ⟨fun a b q1 q2 q3 q4 q5 q6 q7 q8 q9 q10 => by
        rw [kK a b q9 q10 q7 q8, kX a b (by omega) q2 q3, i1 a b q4 q5 q6, hTB a b (by omega)], fun a ha => by
        rw [frP_2 hf ha]
        show Y.2.1 a = _
        rw [j2]
        show K1.2.1 a = _
        rw [k2]⟩
      have kXc : ∀ a b, 28 ≤ a → a ≤ 43 → K.1 a b = X.1 a b := fun a b h1 h2 => by
        rw [kK a b (by omega) (by omega) (by omega) (by omega), kX a b (by omega) (by omega) (by omega)]
      have G : grown (view M 28) (mv M) (view K 28) (mv K) n m n1 m1 := by
        refine ⟨fun c j hc hj => ⟨frX_v fX c j (by omega) (by omega) (fun _ => hj) (by omega) (by omega) (by omega), frX_q fX c j (by omega) (by omega) (fun _ => hj) (by omega) (by omega) (by omega)⟩, fun c j hc hc2 hj => ⟨frX_v fX c j (by omega) (by omega) (by omega) (fun _ _ => hj) (by omega) (by omega), frX_q fX c j (by omega) (by omega) (by omega) (fun _ _ => hj) (by omega) (by omega)⟩, fun c j hc => ⟨frX_v fX c j (by omega) (by omega) (by omega) (by omega) (by omega) (by omega), frX_q fX c j (by omega) (by omega) (by omega) (by omega) (by omega) (by omega)⟩, ⟨(kXc 28 15 (by omega) (by omega)).trans NR3, (kXc 28 16 (by omega) (by omega)).trans NR4⟩, fun j hj hj1 => ?_, fun k hk hk1 => ?_⟩
        · obtain ⟨c, b, k, b0, ⟨b1, b2, b3, b4, b5⟩, b6, b7, b8⟩ := NR1 j hj hj1
          refine ⟨c, b, k, b0, ⟨(kXc 29 j (by omega) (by omega)).trans b1, (kXc 30 j (by omega) (by omega)).trans b2, (kXc 31 j (by omega) (by omega)).trans b3, (kXc 32 j (by omega) (by omega)).trans b4, (kXc 33 j (by omega) (by omega)).trans b5⟩, (kF 141 j (by omega) (by omega)).trans ((F0 141 j (by omega) (by omega)).trans b6), (kF 142 j (by omega) (by omega)).trans ((F0 142 j (by omega) (by omega)).trans b7), (kF 143 j (by omega) (by omega)).trans ((F0 143 j (by omega) (by omega)).trans b8), (kF 144 j (by omega) (by omega)).trans ((F1 j).trans (if_pos ⟨hj, hj1⟩)), (kF 145 j (by omega) (by omega)).trans ((F2 j).trans ((if_pos ⟨hj, hj1⟩).trans b6))⟩
        · obtain ⟨o, g, s, u, b0, ⟨b1, b2, b3, b4, b5, b6⟩, b7, b8, b9, b10⟩ := NR2 k hk hk1
          refine ⟨o, g, s, u, b0, ⟨(kXc 35 k (by omega) (by omega)).trans b1, (kXc 36 k (by omega) (by omega)).trans b2, (kXc 37 k (by omega) (by omega)).trans b3, (kXc 38 k (by omega) (by omega)).trans b4, (kXc 39 k (by omega) (by omega)).trans b5, (kXc 40 k (by omega) (by omega)).trans b6⟩, (kF 147 k (by omega) (by omega)).trans ((F0 147 k (by omega) (by omega)).trans b7), (kF 148 k (by omega) (by omega)).trans ((F0 148 k (by omega) (by omega)).trans b8), (kF 149 k (by omega) (by omega)).trans ((F0 149 k (by omega) (by omega)).trans b9), (kF 150 k (by omega) (by omega)).trans ((F0 150 k (by omega) (by omega)).trans b10), (kF 151 k (by omega) (by omega)).trans ((F3 k).trans (if_pos ⟨hk, hk1⟩)), (kF 152 k (by omega) (by omega)).trans ((F4 k).trans (if_pos ⟨hk, hk1⟩))⟩
      refine ⟨by rw [hv, Nat.zero_add], n1, m1, tn + 1, (sim_grown h fX G d1 d2 d3 d4 (by omega) ⟨?_, fun j => ?_⟩ ?_ ?_ ?_ ?_ ?_ ?_ ?_).dx (by omega)⟩
      · rw [kK _ _ (by omega) (by omega) (by omega) (by omega), kX _ _ (by omega) (by omega) (by omega), i1 _ _ (by omega) (by omega) (by omega), hTB _ _ (by omega)]
      · rw [kK _ _ (by omega) (by omega) (by omega) (by omega), kX _ _ (by omega) (by omega) (by omega), i1 _ _ (by omega) (by omega) (by omega), hTB _ _ (by omega)]
      · rw [kK _ _ (by omega) (by omega) (by omega) (by omega)]; exact k14
      · rw [kF _ _ (by omega) (by omega)]
        unfold fnM
        rw [sI_ne (by omega), sI_ne (by omega), sI_ne (by omega)]; exact sI_eq
      · rw [kF _ _ (by omega) (by omega)]
        unfold fnM
        rw [sI_ne (by omega), sI_ne (by omega)]; exact sI_eq
      · rw [kF _ _ (by omega) (by omega)]
        exact sI_eq
      · rw [kF _ _ (by omega) (by omega)]
        have e : Y.1 140 55 = nI tn := by rw [yK _ _ (by omega) (by omega) (by omega), k140 _ _ (by omega)]; exact q.2.2.2.1.1
        unfold fnM
        rw [sI_ne (by omega), sI_eq, e, show (1 : Int32) = nI 1 from rfl, nI_add]
      · rw [kK _ _ (by omega) (by omega) (by omega) (by omega)]; exact k21
      · rw [kF _ _ (by omega) (by omega), F0 _ _ (by omega) (by omega), j1 _ _ (by omega) (by omega)]; exact sI_eq
    · have okf : a.1 = false := by cases e : a.1 with
        | true => exact absurd e ok
        | false => rfl
      have hE := hs.2 okf
      have hq : a.2.1 < 2 ^ 31 := by
        have pk := hB.2.2.2.2
        have : pOK (min t 76) (tnE t R.2.2.2.2) := by
          unfold tnE
          split
          · exact fault_ok (by have := pk.1; omega) pk
          · exact pk
        exact this.2 _ hE
      rw [if_neg ok, if_neg (neg_nI hq)] at hC
      have eT : tnM M t n m = setI (setI (pl (itM a.2.2 (tnB M t, n, m)).1 a.2.1) 28 15 (nI n)) 28 16 (nI m) := by
        unfold tnM
        simp only [← ea]
        rw [if_neg ok]
      rw [eT] at hC
      obtain ⟨i1, i2⟩ := itM_lo a.2.2 (tnB M t) n m
      obtain ⟨X, eX⟩ : ∃ X, X = (itM a.2.2 (tnB M t, n, m)).1 := ⟨_, rfl⟩
      rw [← eX] at i1 i2 hC
      obtain ⟨K1, eK1⟩ : ∃ K1, K1 = setI (setI (setI (pl X a.2.1) 28 15 (nI n)) 28 16 (nI m)) 2 1 0 := ⟨_, rfl⟩
      rw [← eK1] at hC
      have kX : ∀ a b, a ≠ 6 → ¬ (a = 2 ∧ b = 1) → ¬ (a = 28 ∧ (b = 15 ∨ b = 16)) → K1.1 a b = X.1 a b := fun a b h1 h2 h3 => by
        rw [eK1, sI_ne h2, sI_ne (by omega), sI_ne (by omega), pl_o h1]
      have k21 : K1.1 2 1 = 0 := by rw [eK1]; exact sI_eq
      have k15 : K1.1 28 15 = nI n := by rw [eK1, sI_na (by omega), sI_ne (by omega)]; exact sI_eq
      have k16 : K1.1 28 16 = nI m := by rw [eK1, sI_na (by omega)]; exact sI_eq
      have k2 : K1.2 = M.2 := by rw [eK1]; exact i2
      have k140 : ∀ a b, 140 ≤ a → K1.1 a b = M.1 a b := fun a b h140 => by
        rw [kX a b (by omega) (by omega) (by omega), i1 a b (by omega) (by omega) (by omega), hTB a b (by omega)]
      have e154 : K1.1 154 = M.1 154 := funext fun b => k140 154 b (by omega)
      have hM := c_X11_town (wk K1 k140) ((k140 140 18 (by omega)).trans c2) t80
      rw [e154, ← eR] at hM
      refine ⟨_, hC, fun v N hv => by rw [hv.1]; exact tyI _, fun v K1 hv => ?_⟩
      obtain ⟨rfl, rfl⟩ := hv
      refine Con.mono hM fun v' K hk => ?_
      rw [if_neg t0', hE] at hk
      obtain ⟨rfl, hf⟩ := hk
      obtain ⟨j1, j2⟩ := mitM_lo R.2.2.2.1 (setI K1 140 18 0) n m
      obtain ⟨Y, eY⟩ : ∃ Y, Y = (mitM R.2.2.2.1 (setI K1 140 18 0, n, m)).1 := ⟨_, rfl⟩
      rw [← eY] at hf j1 j2
      have kK : ∀ a b, ¬ (159 ≤ a ∧ a ≤ 172) → ¬ (a = 140 ∧ (b = 18 ∨ b = 21 ∨ (23 ≤ b ∧ b ≤ 26) ∨ b = 29 ∨ b = 30)) → ¬ (141 ≤ a ∧ a ≤ 145 ∧ n ≤ b) → ¬ (147 ≤ a ∧ a ≤ 152 ∧ m ≤ b) → K.1 a b = K1.1 a b := fun a b h1 h2 h3 h4 => by
        rw [frP_far hf h1 (by omega), j1 a b (by omega) (by omega), sI_ne (by omega)]
      have kM : ∀ a b, ¬ (159 ≤ a ∧ a ≤ 172) → ¬ (a = 140 ∧ (b = 18 ∨ b = 21 ∨ (23 ≤ b ∧ b ≤ 26) ∨ b = 29 ∨ b = 30)) → ¬ (141 ≤ a ∧ a ≤ 145 ∧ n ≤ b) → ¬ (147 ≤ a ∧ a ≤ 152 ∧ m ≤ b) → a ≠ 6 → ¬ (a = 2 ∧ b = 1) → ¬ (29 ≤ a ∧ a ≤ 33 ∧ n ≤ b) → ¬ (35 ≤ a ∧ a ≤ 40 ∧ m ≤ b) → ¬ (a = 28 ∧ (b = 15 ∨ b = 16)) → K.1 a b = M.1 a b := fun a b h1 h2 h3 h4 h5 h6 h7 h8 h9 => by
        rw [kK a b h1 h2 h3 h4, kX a b h5 h6 h9, i1 a b h7 h8 h9, hTB a b h5]
      refine ⟨rfl, n, m, tn, (sim_fail h ⟨fun a b q1 q2 q3 q4 q5 q6 q7 q8 q9 q10 => kM a b q9 (by omega) q7 q8 (by omega) q2 q4 q5 q6, fun a ha => ?_⟩ ⟨kM _ _ (by omega) (by omega) (by omega) (by omega) (by omega) (by omega) (by omega) (by omega) (by omega), fun j => kM _ _ (by omega) (by omega) (by omega) (by omega) (by omega) (by omega) (by omega) (by omega) (by omega)⟩ ?_ ?_ (kM _ _ (by omega) (by omega) (by omega) (by omega) (by omega) (by omega) (by omega) (by omega) (by omega)) (kM _ _ (by omega) (by omega) (by omega) (by omega) (by omega) (by omega) (by omega) (by omega) (by omega)) (kM _ _ (by omega) (by omega) (by omega) (by omega) (by omega) (by omega) (by omega) (by omega) (by omega)) (kM _ _ (by omega) (by omega) (by omega) (by omega) (by omega) (by omega) (by omega) (by omega) (by omega)) (kM _ _ (by omega) (by omega) (by omega) (by omega) (by omega) (by omega) (by omega) (by omega) (by omega)) ?_ ?_).dx (by omega)⟩
      · rw [frP_2 hf ha, j2]
        show K1.2.1 a = _
        rw [k2]
      · rw [kK _ _ (by omega) (by omega) (by omega) (by omega), k15]; exact q.1.1.symm
      · rw [kK _ _ (by omega) (by omega) (by omega) (by omega), k16]; exact q.1.2.2.1.symm
      · rw [kK _ _ (by omega) (by omega) (by omega) (by omega)]; exact k21
      · rw [frP_far hf (by omega) (by omega), j1 _ _ (by omega) (by omega)]; exact sI_eq
