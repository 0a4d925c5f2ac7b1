/-! a town told: only what is new changes -/
theorem ln_lo {X : Mem} {n m a j : Nat} {x : It} (h1 : ¬ (29 ≤ a ∧ a ≤ 33 ∧ n ≤ j)) (h2 : ¬ (35 ≤ a ∧ a ≤ 40 ∧ m ≤ j)) (h3 : ¬ (a = 28 ∧ (j = 15 ∨ j = 16))) : (lnM X n m x).1 a j = X.1 a j := by
  unfold lnM
  split
  · unfold adM; rw [sI_ne (by omega), sI_ne (by omega), sI_ne (by omega), sI_ne (by omega), sI_ne (by omega), sI_ne (by omega), sI_ne (by omega)]
  · unfold apM; rw [sI_ne (by omega), sI_ne (by omega), sI_ne (by omega), sI_ne (by omega), sI_ne (by omega), sI_ne (by omega)]
theorem ml_lo {X : Mem} {n m a j : Nat} {x : It} (h1 : ¬ (141 ≤ a ∧ a ≤ 143 ∧ n ≤ j)) (h2 : ¬ (147 ≤ a ∧ a ≤ 150 ∧ m ≤ j)) : (mlM X n m x).1 a j = X.1 a j := by
  unfold mlM
  split
  · rw [sI_ne (by omega), sI_ne (by omega), sI_ne (by omega), sI_ne (by omega)]
  · rw [sI_ne (by omega), sI_ne (by omega), sI_ne (by omega)]
theorem ln_2 {X : Mem} {n m : Nat} {x : It} : (lnM X n m x).2 = X.2 := by
  unfold lnM; split <;> rfl
theorem ml_2 {X : Mem} {n m : Nat} {x : It} : (mlM X n m x).2 = X.2 := by
  unfold mlM; split <;> rfl
theorem itM_lo : ∀ (l : List It) (X : Mem) (n m : Nat), (∀ a j, ¬ (29 ≤ a ∧ a ≤ 33 ∧ n ≤ j) → ¬ (35 ≤ a ∧ a ≤ 40 ∧ m ≤ j) → ¬ (a = 28 ∧ (j = 15 ∨ j = 16)) → (itM l (X, n, m)).1.1 a j = X.1 a j) ∧ (itM l (X, n, m)).1.2 = X.2
  | [], _, _, _ => ⟨fun _ _ _ _ _ => rfl, rfl⟩
  | x :: l, X, n, m => by
    obtain ⟨h1, h2⟩ := itM_lo l (lnM X n m x) (if x.1 = true then n else n + 1) (if x.1 = true then m + 1 else m)
    have hn : n ≤ (if x.1 = true then n else n + 1) := by split <;> omega
    have hm : m ≤ (if x.1 = true then m + 1 else m) := by split <;> omega
    exact ⟨fun a j q1 q2 q3 => (h1 a j (by omega) (by omega) q3).trans (ln_lo q1 q2 q3), h2.trans ln_2⟩
theorem mitM_lo : ∀ (l : List It) (X : Mem) (n m : Nat), (∀ a j, ¬ (141 ≤ a ∧ a ≤ 143 ∧ n ≤ j) → ¬ (147 ≤ a ∧ a ≤ 150 ∧ m ≤ j) → (mitM l (X, n, m)).1.1 a j = X.1 a j) ∧ (mitM l (X, n, m)).1.2 = X.2
  | [], _, _, _ => ⟨fun _ _ _ _ => rfl, rfl⟩
  | x :: l, X, n, m => by
    obtain ⟨h1, h2⟩ := mitM_lo l (mlM X n m x) (if x.1 = true then n else n + 1) (if x.1 = true then m + 1 else m)
    have hn : n ≤ (if x.1 = true then n else n + 1) := by split <;> omega
    have hm : m ≤ (if x.1 = true then m + 1 else m) := by split <;> omega
    exact ⟨fun a j q1 q2 => (h1 a j (by omega) (by omega)).trans (ml_lo q1 q2), h2.trans ml_2⟩
theorem ctI_b : ∀ (l : List It) (n m : Nat), itsOK l n m → n ≤ 8 → m ≤ 10 → n ≤ (ctI l n m).1 ∧ (ctI l n m).1 ≤ 8 ∧ m ≤ (ctI l n m).2 ∧ (ctI l n m).2 ≤ 10 ∧ (ctI l n m).1 + (ctI l n m).2 = n + m + l.length
  | [], n, m, _, hn, hm => ⟨Nat.le_refl _, hn, Nat.le_refl _, hm, rfl⟩
  | x :: l, n, m, h, hn, hm => by
    obtain ⟨-, h2, h3⟩ := h
    by_cases hb : x.1 = true
    · simp only [hb, if_true] at h2 h3
      have z := ctI_b l n (m + 1) h3 hn (by omega)
      simp only [ctI, hb, if_true, List.length_cons]
      omega
    · simp only [if_neg hb] at h2 h3
      have z := ctI_b l (n + 1) m h3 (by omega) hm
      simp only [ctI, if_neg hb, List.length_cons]
      omega
/-- what the class X and the model Y hold of the new -/
def newR (X Y : Mem) (n0 m0 n m : Nat) : Prop :=
  (∀ j, n0 ≤ j → j < n → ∃ c a k : Nat, (c ≤ 999 ∧ a ≤ 99 ∧ k ≤ 1) ∧ (X.1 29 j = nI c ∧ X.1 30 j = nI a ∧ X.1 31 j = nI k ∧ X.1 32 j = 0 ∧ X.1 33 j = nI c) ∧ Y.1 141 j = nI c ∧ Y.1 142 j = nI a ∧ Y.1 143 j = nI k) ∧
  (∀ k, m0 ≤ k → k < m → ∃ o g s u : Nat, (o < n ∧ g < n ∧ o ≠ g ∧ 1 ≤ s ∧ s ≤ 99 ∧ u ≤ 99) ∧ (X.1 35 k = nI o ∧ X.1 36 k = nI g ∧ X.1 37 k = nI s ∧ X.1 38 k = nI u ∧ X.1 39 k = 0 ∧ X.1 40 k = -1) ∧ Y.1 147 k = nI o ∧ Y.1 148 k = nI g ∧ Y.1 149 k = nI s ∧ Y.1 150 k = nI u) ∧ X.1 28 15 = nI n ∧ X.1 28 16 = nI m
theorem newR_s {X Y : Mem} {n0 m0 n m : Nat} {x : It} (h : newR X Y n0 m0 n m) (hx : gdI n x) : newR (lnM X n m x) (mlM Y n m x) n0 m0 (if x.1 = true then n else n + 1) (if x.1 = true then m + 1 else m) := by
  obtain ⟨h1, h2, h3, h4⟩ := h
  rcases hx with ⟨o, g, s, u, rfl, p1, p2, p3, p4, p5, p6⟩ | ⟨c, a, k, rfl, p1, p2, p3⟩
  · simp only [if_true]
    refine ⟨fun j q1 q2 => ?_, fun j q1 q2 => ?_, ?_, ?_⟩
    · obtain ⟨c, a, k, b0, ⟨b1, b2, b3, b4, b5⟩, b6, b7, b8⟩ := h1 j q1 q2
      exact ⟨c, a, k, b0, ⟨(sI_na (by omega)).trans ((sI_na (by omega)).trans ((sI_na (by omega)).trans ((sI_na (by omega)).trans ((sI_na (by omega)).trans ((sI_na (by omega)).trans ((sI_na (by omega)).trans b1)))))), (sI_na (by omega)).trans ((sI_na (by omega)).trans ((sI_na (by omega)).trans ((sI_na (by omega)).trans ((sI_na (by omega)).trans ((sI_na (by omega)).trans ((sI_na (by omega)).trans b2)))))), (sI_na (by omega)).trans ((sI_na (by omega)).trans ((sI_na (by omega)).trans ((sI_na (by omega)).trans ((sI_na (by omega)).trans ((sI_na (by omega)).trans ((sI_na (by omega)).trans b3)))))), (sI_na (by omega)).trans ((sI_na (by omega)).trans ((sI_na (by omega)).trans ((sI_na (by omega)).trans ((sI_na (by omega)).trans ((sI_na (by omega)).trans ((sI_na (by omega)).trans b4)))))), (sI_na (by omega)).trans ((sI_na (by omega)).trans ((sI_na (by omega)).trans ((sI_na (by omega)).trans ((sI_na (by omega)).trans ((sI_na (by omega)).trans ((sI_na (by omega)).trans b5))))))⟩, (ml_lo (by omega) (by omega)).trans b6, (ml_lo (by omega) (by omega)).trans b7, (ml_lo (by omega) (by omega)).trans b8⟩
    · by_cases e : j = m
      · subst e
        refine ⟨o, g, s, u, ⟨p1, p2, p3, p4, p5, p6⟩, ⟨?_, ?_, ?_, ?_, ?_, ?_⟩, ?_, ?_, ?_, ?_⟩
        · exact (sI_na (by omega)).trans ((sI_na (by omega)).trans ((sI_na (by omega)).trans ((sI_na (by omega)).trans ((sI_na (by omega)).trans ((sI_na (by omega)).trans sI_eq)))))
        · exact (sI_na (by omega)).trans ((sI_na (by omega)).trans ((sI_na (by omega)).trans ((sI_na (by omega)).trans ((sI_na (by omega)).trans sI_eq))))
        · exact (sI_na (by omega)).trans ((sI_na (by omega)).trans ((sI_na (by omega)).trans ((sI_na (by omega)).trans sI_eq)))
        · exact (sI_na (by omega)).trans ((sI_na (by omega)).trans ((sI_na (by omega)).trans sI_eq))
        · exact (sI_na (by omega)).trans ((sI_na (by omega)).trans sI_eq)
        · exact (sI_na (by omega)).trans sI_eq
        · exact (sI_na (by omega)).trans ((sI_na (by omega)).trans ((sI_na (by omega)).trans sI_eq))
        · exact (sI_na (by omega)).trans ((sI_na (by omega)).trans sI_eq)
        · exact (sI_na (by omega)).trans sI_eq
        · exact sI_eq
      · obtain ⟨o', g', s', u', b0, ⟨b1, b2, b3, b4, b5, b6⟩, b7, b8, b9, b10⟩ := h2 j q1 (by omega)
        exact ⟨o', g', s', u', b0, ⟨(ln_lo (by omega) (by omega) (by omega)).trans b1, (ln_lo (by omega) (by omega) (by omega)).trans b2, (ln_lo (by omega) (by omega) (by omega)).trans b3, (ln_lo (by omega) (by omega) (by omega)).trans b4, (ln_lo (by omega) (by omega) (by omega)).trans b5, (ln_lo (by omega) (by omega) (by omega)).trans b6⟩, (ml_lo (by omega) (by omega)).trans b7, (ml_lo (by omega) (by omega)).trans b8, (ml_lo (by omega) (by omega)).trans b9, (ml_lo (by omega) (by omega)).trans b10⟩
    · exact (sI_ne (by omega)).trans ((sI_na (by omega)).trans ((sI_na (by omega)).trans ((sI_na (by omega)).trans ((sI_na (by omega)).trans ((sI_na (by omega)).trans ((sI_na (by omega)).trans h3))))))
    · exact sI_eq
  · simp only [Bool.false_eq_true, if_false]
    refine ⟨fun j q1 q2 => ?_, fun j q1 q2 => ?_, ?_, ?_⟩
    · by_cases e : j = n
      · subst e
        have ek : (if nI k = 0 then (0 : Int32) else 1) = nI k := by
          rcases (show k = 0 ∨ k = 1 by omega) with rfl | rfl
          · rfl
          · rfl
        refine ⟨c, a, k, ⟨p1, p2, p3⟩, ⟨?_, ?_, ?_, ?_, ?_⟩, ?_, ?_, ?_⟩
        · exact (sI_na (by omega)).trans ((sI_na (by omega)).trans ((sI_na (by omega)).trans ((sI_na (by omega)).trans ((sI_na (by omega)).trans sI_eq))))
        · exact (sI_na (by omega)).trans ((sI_na (by omega)).trans ((sI_na (by omega)).trans ((sI_na (by omega)).trans sI_eq)))
        · exact (sI_na (by omega)).trans ((sI_na (by omega)).trans ((sI_na (by omega)).trans (sI_eq.trans ek)))
        · exact (sI_na (by omega)).trans ((sI_na (by omega)).trans sI_eq)
        · exact (sI_na (by omega)).trans sI_eq
        · exact (sI_na (by omega)).trans ((sI_na (by omega)).trans sI_eq)
        · exact (sI_na (by omega)).trans sI_eq
        · exact sI_eq
      · obtain ⟨c', a', k', b0, ⟨b1, b2, b3, b4, b5⟩, b6, b7, b8⟩ := h1 j q1 (by omega)
        exact ⟨c', a', k', b0, ⟨(ln_lo (by omega) (by omega) (by omega)).trans b1, (ln_lo (by omega) (by omega) (by omega)).trans b2, (ln_lo (by omega) (by omega) (by omega)).trans b3, (ln_lo (by omega) (by omega) (by omega)).trans b4, (ln_lo (by omega) (by omega) (by omega)).trans b5⟩, (ml_lo (by omega) (by omega)).trans b6, (ml_lo (by omega) (by omega)).trans b7, (ml_lo (by omega) (by omega)).trans b8⟩
    · obtain ⟨o', g', s', u', b0, ⟨b1, b2, b3, b4, b5, b6⟩, b7, b8, b9, b10⟩ := h2 j q1 (by omega)
      exact ⟨o', g', s', u', by omega, ⟨(ln_lo (by omega) (by omega) (by omega)).trans b1, (ln_lo (by omega) (by omega) (by omega)).trans b2, (ln_lo (by omega) (by omega) (by omega)).trans b3, (ln_lo (by omega) (by omega) (by omega)).trans b4, (ln_lo (by omega) (by omega) (by omega)).trans b5, (ln_lo (by omega) (by omega) (by omega)).trans b6⟩, (ml_lo (by omega) (by omega)).trans b7, (ml_lo (by omega) (by omega)).trans b8, (ml_lo (by omega) (by omega)).trans b9, (ml_lo (by omega) (by omega)).trans b10⟩
    · exact sI_eq
    · exact (sI_ne (by omega)).trans ((sI_na (by omega)).trans ((sI_na (by omega)).trans ((sI_na (by omega)).trans ((sI_na (by omega)).trans ((sI_na (by omega)).trans h4)))))
theorem newR_all : ∀ (l : List It) (X Y : Mem) (n0 m0 n m : Nat), newR X Y n0 m0 n m → itsOK l n m → newR (itM l (X, n, m)).1 (mitM l (Y, n, m)).1 n0 m0 (ctI l n m).1 (ctI l n m).2
  | [], _, _, _, _, _, _, h, _ => h
  | x :: l, X, Y, n0, m0, n, m, h, ho => newR_all l _ _ n0 m0 _ _ (newR_s h ho.1) ho.2.2
/-- towns: new people, new debts -/
def grown (T T' U U' : TT) (n m n1 m1 : Nat) : Prop :=
  (∀ c j, c ≤ 4 → j < n → U c j = T c j ∧ U' c j = T' c j) ∧ (∀ c k, 6 ≤ c → c ≤ 11 → k < m → U c k = T c k ∧ U' c k = T' c k) ∧ (∀ c j, (12 ≤ c ∧ c ≤ 14) ∨ (17 ≤ c ∧ c ≤ 19) → U c j = T c j ∧ U' c j = T' c j) ∧ (U 15 0 = nI n1 ∧ U 16 0 = nI m1) ∧
  (∀ j, n ≤ j → j < n1 → ∃ c a k : Nat, (c ≤ 999 ∧ a ≤ 99 ∧ k ≤ 1) ∧ (U 0 j = nI c ∧ U 1 j = nI a ∧ U 2 j = nI k ∧ U 3 j = 0 ∧ U 4 j = nI c) ∧ U' 0 j = nI c ∧ U' 1 j = nI a ∧ U' 2 j = nI k ∧ U' 3 j = 0 ∧ U' 4 j = nI c) ∧
  (∀ k, m ≤ k → k < m1 → ∃ o g s u : Nat, (o < n1 ∧ g < n1 ∧ o ≠ g ∧ 1 ≤ s ∧ s ≤ 99 ∧ u ≤ 99) ∧ (U 6 k = nI o ∧ U 7 k = nI g ∧ U 8 k = nI s ∧ U 9 k = nI u ∧ U 10 k = 0 ∧ U 11 k = -1) ∧ U' 6 k = nI o ∧ U' 7 k = nI g ∧ U' 8 k = nI s ∧ U' 9 k = nI u ∧ U' 10 k = 0 ∧ U' 11 k = -1)
theorem isum_ext {f g : Nat → Int} {n : Nat} (h1 : ∀ k, k < n → g k = f k) : ∀ {n1 : Nat}, n ≤ n1 → (∀ k, n ≤ k → k < n1 → g k ≤ 999) → isum g n1 ≤ isum f n + 999 * ((n1 : Int) - n)
  | 0, hn, _ => by
    have e : n = 0 := by omega
    subst e
    simp [isum]
  | k + 1, hn, h => by
    by_cases e : n = k + 1
    · subst e
      rw [isum_congr h1]; omega
    · have z := isum_ext h1 (n1 := k) (by omega) (fun j a b => h j a (by omega))
      have y := h k (by omega) (by omega)
      simp only [isum]
      have : ((k + 1 : Nat) : Int) = k + 1 := by simp
      rw [this]
      omega
theorem grown_P {T T' U U' : TT} {n m n1 m1 dx : Nat} (G : grown T T' U U' n m n1 m1) (hn : n ≤ n1) (hn8 : n1 ≤ 8) (hm : m ≤ m1) (h : twP T T' n m dx) : twP U U' n1 m1 dx := by
  obtain ⟨g1, g2, g3, ⟨g4, g5⟩, g6, g7⟩ := G
  obtain ⟨⟨⟨⟨b1, b2, b3, b4⟩, b5, b6⟩, a2, a3, a4, a5, d, d1, d2⟩, p2, p3, p4, ⟨c, l1, l2, l3, l4⟩⟩ := h
  have sum : isum (fun i => (U 0 i).toInt) n1 ≤ isum (fun i => (T 0 i).toInt) n + 999 * ((n1 : Int) - n) := isum_ext (fun k hk => by rw [(g1 0 k (by omega) hk).1]) hn (fun k q1 q2 => by
    obtain ⟨c, a, k', e0, ⟨e1, -⟩, -⟩ := g6 k q1 q2
    rw [e1, nI_toInt (by omega)]; omega)
  have hsum : isum (fun i => (U 0 i).toInt) n1 ≤ 999 * n1 := by omega
  refine ⟨⟨⟨⟨fun j hj => ?_, by omega, ?_, fun k hk => ?_⟩, g4, g5⟩, fun j hj => ?_, hsum, ?_, fun k hk => ?_, d, d1, ?_⟩, ⟨⟨fun j hj => ?_, fun k hk => ?_, ?_, ?_, ?_⟩, fun k hk => ?_, fun i j hi hj => ?_, ?_, ?_⟩, fun j hj => ?_, ?_, ⟨c, l1, ?_, ?_, fun j hj => ?_⟩⟩
  · rcases Nat.lt_or_ge j n with q | q
    · rw [(g1 3 j (by omega) q).1, (g1 0 j (by omega) q).1, (g1 4 j (by omega) q).1]; exact b1 j q
    · obtain ⟨c, a, k', e0, ⟨e1, e2, e3, e4, e5⟩, -⟩ := g6 j q hj
      rw [e4, e1, e5, nI_toInt (by omega), i_0]; omega
  · rw [(g3 14 1 (by omega)).1]; exact b3
  · rcases Nat.lt_or_ge k m with q | q
    · rw [(g2 8 k (by omega) (by omega) q).1, (g2 9 k (by omega) (by omega) q).1, (g2 6 k (by omega) (by omega) q).1, (g2 7 k (by omega) (by omega) q).1]
      obtain ⟨z1, z2, o, g, y1, y2, y3⟩ := b4 k q
      exact ⟨z1, z2, o, g, by omega, by omega, y3⟩
    · obtain ⟨o, g, s, u, e0, ⟨e1, e2, e3, e4, e5, e6⟩, -⟩ := g7 k q hk
      rw [e3, nI_toInt (by omega)]
      exact ⟨by omega, ⟨u, e4, e0.2.2.2.2.2⟩, o, g, e0.1, e0.2.1, e0.2.2.1, e1, e2⟩
  · rcases Nat.lt_or_ge j n with q | q
    · rw [(g1 1 j (by omega) q).1, (g1 2 j (by omega) q).1]; exact a2 j q
    · obtain ⟨c, a, k', e0, ⟨e1, e2, e3, e4, e5⟩, -⟩ := g6 j q hj
      rw [e2, e3, nI_toInt (by omega)]
      refine ⟨by omega, ?_⟩
      rcases (show k' = 0 ∨ k' = 1 by omega) with rfl | rfl
      · exact Or.inl rfl
      · exact Or.inr rfl
  · rw [(g3 14 0 (by omega)).1]; exact a4
  · rcases Nat.lt_or_ge k m with q | q
    · rw [(g2 10 k (by omega) (by omega) q).1, (g2 11 k (by omega) (by omega) q).1]; exact a5 k q
    · obtain ⟨o, g, s, u, e0, ⟨e1, e2, e3, e4, e5, e6⟩, -⟩ := g7 k q hk
      exact fun _ => e6
  · rw [(g3 18 0 (by omega)).1]; exact d2
  · rcases Nat.lt_or_ge j n with q | q
    · rw [(g1 0 j (by omega) q).1, (g1 1 j (by omega) q).1, (g1 2 j (by omega) q).1, (g1 3 j (by omega) q).1, (g1 4 j (by omega) q).1, (g1 0 j (by omega) q).2, (g1 1 j (by omega) q).2, (g1 2 j (by omega) q).2, (g1 3 j (by omega) q).2, (g1 4 j (by omega) q).2]
      exact p2.1.1 j q
    · obtain ⟨c, a, k', e0, ⟨e1, e2, e3, e4, e5⟩, f1, f2, f3, f4, f5⟩ := g6 j q hj
      exact ⟨f1.trans e1.symm, f2.trans e2.symm, f3.trans e3.symm, f4.trans e4.symm, f5.trans e5.symm⟩
  · rcases Nat.lt_or_ge k m with q | q
    · rw [(g2 6 k (by omega) (by omega) q).1, (g2 7 k (by omega) (by omega) q).1, (g2 8 k (by omega) (by omega) q).1, (g2 9 k (by omega) (by omega) q).1, (g2 10 k (by omega) (by omega) q).1, (g2 6 k (by omega) (by omega) q).2, (g2 7 k (by omega) (by omega) q).2, (g2 8 k (by omega) (by omega) q).2, (g2 9 k (by omega) (by omega) q).2, (g2 10 k (by omega) (by omega) q).2]
      exact p2.1.2.1 k q
    · obtain ⟨o, g, s, u, e0, ⟨e1, e2, e3, e4, e5, e6⟩, f1, f2, f3, f4, f5, f6⟩ := g7 k q hk
      exact ⟨f1.trans e1.symm, f2.trans e2.symm, f3.trans e3.symm, f4.trans e4.symm, f5.trans e5.symm⟩
  · rw [(g3 14 0 (by omega)).1, (g3 14 0 (by omega)).2]; exact p2.1.2.2.1
  · rw [(g3 14 1 (by omega)).1, (g3 14 1 (by omega)).2]; exact p2.1.2.2.2.1
  · rw [(g3 14 2 (by omega)).1, (g3 14 2 (by omega)).2]; exact p2.1.2.2.2.2
  · rcases Nat.lt_or_ge k m with q | q
    · rw [(g2 11 k (by omega) (by omega) q).1, (g2 11 k (by omega) (by omega) q).2]; exact p2.2.1 k q
    · obtain ⟨o, g, s, u, e0, ⟨e1, e2, e3, e4, e5, e6⟩, f1, f2, f3, f4, f5, f6⟩ := g7 k q hk
      exact f6.trans e6.symm
  · rw [(g3 12 _ (by omega)).1, (g3 12 _ (by omega)).2]; exact p3 _ (by omega)
  · rw [(g3 14 3 (by omega)).1, (g3 14 3 (by omega)).2]; exact p2.2.2.2.1
  · rw [(g3 18 0 (by omega)).1, (g3 18 0 (by omega)).2]; exact p2.2.2.2.2
  · rw [(g3 12 j (by omega)).1, (g3 12 j (by omega)).2]; exact p3 j hj
  · rw [(g3 19 0 (by omega)).1, (g3 19 0 (by omega)).2]; exact p4
  · rw [(g3 17 0 (by omega)).1]; exact l2
  · rw [(g3 17 0 (by omega)).2]; exact l3
  · rw [(g3 13 _ (by omega)).1, (g3 13 _ (by omega)).1, (g3 13 _ (by omega)).1, (g3 13 _ (by omega)).2, (g3 13 _ (by omega)).2, (g3 13 _ (by omega)).2]
    obtain ⟨⟨a, b, y1, y2, y3⟩, y4⟩ := l4 j hj
    exact ⟨⟨a, b, by omega, by omega, y3⟩, y4⟩
/-- towns alike in all people and debts that are -/
def qN (T U : TT) (n m : Nat) : Prop := ∀ c j, c ≠ 15 → c ≠ 16 → (c ≤ 4 → j < n) → (6 ≤ c → c ≤ 11 → j < m) → c ≠ 5 → c < 20 → U c j = T c j
theorem qN.refl {T : TT} {n m : Nat} : qN T T n m := fun _ _ _ _ _ _ _ _ => rfl
theorem qN_D {T U : TT} {n m : Nat} (q : qN T U n m) : agD T U n m :=
  ⟨⟨fun j hj => ⟨q 0 j (by omega) (by omega) (by omega) (by omega) (by omega) (by omega), q 1 j (by omega) (by omega) (by omega) (by omega) (by omega) (by omega), q 2 j (by omega) (by omega) (by omega) (by omega) (by omega) (by omega), q 3 j (by omega) (by omega) (by omega) (by omega) (by omega) (by omega), q 4 j (by omega) (by omega) (by omega) (by omega) (by omega) (by omega)⟩, fun k hk => ⟨q 6 k (by omega) (by omega) (by omega) (by omega) (by omega) (by omega), q 7 k (by omega) (by omega) (by omega) (by omega) (by omega) (by omega), q 8 k (by omega) (by omega) (by omega) (by omega) (by omega) (by omega), q 9 k (by omega) (by omega) (by omega) (by omega) (by omega) (by omega), q 10 k (by omega) (by omega) (by omega) (by omega) (by omega) (by omega)⟩, q 14 0 (by omega) (by omega) (by omega) (by omega) (by omega) (by omega), q 14 1 (by omega) (by omega) (by omega) (by omega) (by omega) (by omega), q 14 2 (by omega) (by omega) (by omega) (by omega) (by omega) (by omega)⟩,
    fun k hk => q 11 k (by omega) (by omega) (by omega) (by omega) (by omega) (by omega), fun i j _ _ => q 12 _ (by omega) (by omega) (by omega) (by omega) (by omega) (by omega), q 14 3 (by omega) (by omega) (by omega) (by omega) (by omega) (by omega), q 18 0 (by omega) (by omega) (by omega) (by omega) (by omega) (by omega)⟩
theorem twS_q {T U : TT} {n m dx : Nat} (h : twS T n m dx) (q : qN T U n m) (e15 : U 15 0 = T 15 0) (e16 : U 16 0 = T 16 0) : twS U n m dx := by
  obtain ⟨⟨b1, b2, b3⟩, a2, a3, a4, a5, d, d1, d2⟩ := h
  have D := qN_D q
  refine ⟨⟨b1.ag D.1, e15.trans b2, e16.trans b3⟩, AOK_ag D.1 a2, ?_, ?_, fun k hk z => ?_, d, d1, D.2.2.2.2.trans d2⟩
  · rw [isum_congr (g := fun i => (T 0 i).toInt) (fun i hi => by rw [(D.1.1 i hi).1])]; exact a3
  · rw [D.1.2.2.1]; exact a4
  · rw [D.2.1 k hk]; exact a5 k hk ((D.1.2.1 k hk).2.2.2.2.symm.trans z)
theorem twP_qq {T T' U U' : TT} {n m dx : Nat} (h : twP T T' n m dx) (q : qN T U n m) (e15 : U 15 0 = T 15 0) (e16 : U 16 0 = T 16 0) (q' : qN T' U' n m) : twP U U' n m dx := by
  obtain ⟨p1, p2, p3, p4, p5⟩ := h
  refine ⟨twS_q p1 q e15 e16, ((qN_D q).symm.trans p2).trans (qN_D q'), fun j hj => ?_, ?_, ?_⟩
  · rw [q 12 j (by omega) (by omega) (by omega) (by omega) (by omega) (by omega), q' 12 j (by omega) (by omega) (by omega) (by omega) (by omega) (by omega)]; exact p3 j hj
  · rw [q 19 0 (by omega) (by omega) (by omega) (by omega) (by omega) (by omega), q' 19 0 (by omega) (by omega) (by omega) (by omega) (by omega) (by omega)]; exact p4
  · unfold lenT
    rw [show U 13 = T 13 from funext fun j => q 13 j (by omega) (by omega) (by omega) (by omega) (by omega) (by omega), show U' 13 = T' 13 from funext fun j => q' 13 j (by omega) (by omega) (by omega) (by omega) (by omega) (by omega), q 17 0 (by omega) (by omega) (by omega) (by omega) (by omega) (by omega), q' 17 0 (by omega) (by omega) (by omega) (by omega) (by omega) (by omega)]
    exact p5
/-- the PAYMENTS of a town that differs only in people and debts that are not -/
theorem UOK_q {K : Nat → Int32} {n m dx : Nat} (hn : n ≤ 8) : ∀ {u : Nat} {T U : TT}, UOK K n m dx u T → qN T U n m → (∀ j, U 15 j = T 15 j) → (∀ j, U 16 j = T 16 j) → UOK K n m dx u U
  | 0, _, _, _, _, _, _ => trivial
  | u + 1, T, U, ⟨T', i, k, a1, a2, a3, a4, a5, a7, a8⟩, q, e15, e16 => by
    obtain ⟨V, eV⟩ : ∃ V : TT, V = fun c j => if (c ≤ 4 ∧ n ≤ j) ∨ (6 ≤ c ∧ c ≤ 11 ∧ m ≤ j) then U c j else T' c j := ⟨_, rfl⟩
    have vi : ∀ c j, (c ≤ 4 ∧ n ≤ j) ∨ (6 ≤ c ∧ c ≤ 11 ∧ m ≤ j) → V c j = U c j := fun c j z => by rw [eV]; exact if_pos z
    have vo : ∀ c j, ¬ ((c ≤ 4 ∧ n ≤ j) ∨ (6 ≤ c ∧ c ≤ 11 ∧ m ≤ j)) → V c j = T' c j := fun c j z => by rw [eV]; exact if_neg z
    obtain ⟨-, -, o, g, ho, hg, hog, eo, eg⟩ := a4.1.1.2.2.2 k a2
    have qV : qN T' V n m := fun c j h1 h2 h3 h4 h5 h6 => vo c j (by omega)
    have e6 : V 6 k = T' 6 k := vo 6 k (by omega)
    have e7 : V 7 k = T' 7 k := vo 7 k (by omega)
    have e8 : V 8 k = T' 8 k := vo 8 k (by omega)
    have cg : (T' 7 k).toNatClampNeg = g := by rw [eg, nI_clamp (by omega)]
    refine ⟨V, i, k, a1, a2, a3, twS_q a4 qV (vo 15 0 (by omega)) (vo 16 0 (by omega)), ⟨(vo 10 k (by omega)).trans a5.1, by rw [e7]; exact a5.2⟩, fun c h5 h20 => ?_, UOK_q hn a8 qV (fun j => vo 15 j (by omega)) (fun j => vo 16 j (by omega))⟩
    funext j
    have hT : T c j = mkT T' i k c j := congrFun (a7 c h5 h20) j
    by_cases z : (c ≤ 4 ∧ n ≤ j) ∨ (6 ≤ c ∧ c ≤ 11 ∧ m ≤ j)
    · rw [← vi c j z]
      unfold mkT
      by_cases c0 : c = 0
      · subst c0
        rw [if_pos rfl, e7, cg]
        simp only [shT, if_true, upd]
        rw [if_neg (by omega), if_neg (by omega)]
      · rw [if_neg c0, if_neg (by omega), if_neg (by omega), if_neg (by omega)]
    · have eU : U c j = T c j := by
        by_cases h15 : c = 15
        · rw [h15]; exact e15 j
        · by_cases h16 : c = 16
          · rw [h16]; exact e16 j
          · exact q c j h15 h16 (by omega) (by omega) h5 h20
      rw [eU, hT]
      have epr : prT V i k = prT T' i k := by unfold prT; rw [vo 2 i (by omega), e8, vo 1 i (by omega)]
      unfold mkT
      by_cases c0 : c = 0
      · subst c0
        rw [if_pos rfl, if_pos rfl, e7, e8, cg]
        simp only [shT, if_true, upd]
        rw [vo 0 i (by omega), vo 0 g (by omega), vo 0 j (by omega)]
      · rw [if_neg c0, if_neg c0, e6, epr, vo c j z, vo 12 j (by omega)]
