/-! only the signs that are read tell a rule -/
section
variable {X Y : Nat → Int32} {lim : Nat}
theorem kc_fn (h : ∀ j, j < lim → Y j = X j) : kc Y lim = kc X lim := by
  funext p
  unfold kc
  split
  · next q => rw [h p q]
  · rfl
theorem numM_cg (h : kc Y lim = kc X lim) : ∀ (d : Nat) (v : Int32) (p : Nat), numM Y lim d v p = numM X lim d v p
  | 0, _, _ => rfl
  | d + 1, v, p => by simp only [numM, h, numM_cg h d]
theorem numP_cg (h : kc Y lim = kc X lim) {d : Nat} {lo hi : Int32} {s : PF} : numP Y lim d lo hi s = numP X lim d lo hi s := by
  unfold numP
  simp only [numM_cg h]
theorem needP_cg (h : kc Y lim = kc X lim) {c : Int32} {s : PF} : needP Y lim c s = needP X lim c s := by
  unfold needP
  rw [h]
theorem prL_cg (h : kc Y lim = kc X lim) {th : PF → PR} : ∀ (g : Nat) (r : PR), prL Y lim th g r = prL X lim th g r
  | 0, _ => rfl
  | g + 1, r => by simp only [prL, h, prL_cg h g]
theorem suL_cg (h : kc Y lim = kc X lim) {th : PF → PR} : ∀ (g : Nat) (r : PR), suL Y lim th g r = suL X lim th g r
  | 0, _ => rfl
  | g + 1, r => by simp only [suL, h, suL_cg h g]
theorem prP_cg (h : kc Y lim = kc X lim) {th : PF → PR} : prP Y lim th = prP X lim th := by
  funext s; unfold prP; exact prL_cg h _ _
theorem suP_cg (h : kc Y lim = kc X lim) {th : PF → PR} : suP Y lim th = suP X lim th := by
  funext s; unfold suP; exact suL_cg h _ _
theorem heP_cg (h : kc Y lim = kc X lim) {th : PF → PR} : heP Y lim th = heP X lim th := by
  funext s; unfold heP; rw [h]
theorem thP_cg (h : kc Y lim = kc X lim) : ∀ (f deep : Nat), thP Y lim f deep = thP X lim f deep
  | 0, _ => rfl
  | f + 1, deep => by
    funext s
    simp only [thP, h, thP_cg h f, prP_cg h, suP_cg h, heP_cg h, numP_cg h, needP_cg h]
theorem heF_cg (h : kc Y lim = kc X lim) {f deep : Nat} : heF Y lim f deep = heF X lim f deep := by
  unfold heF suF
  rw [thP_cg h, prP_cg h, suP_cg h, heP_cg h]
end
theorem ruleR_cg {S X Y : Nat → Int32} {z L : Nat} (h : ruleR S z X L) (e : ∀ j, j < L → Y j = X j) : ruleR S z Y L := by
  unfold ruleR at h ⊢
  rw [heF_cg (kc_fn (lim := min L 40) (X := X) (Y := Y) fun j hj => e j (by omega))]
  exact h
theorem neg1_nI {q : Nat} (hq : q < 2 ^ 31) : ¬ (-1 - nI q : Int32) = 0 := fun z => by
  have e := congrArg Int32.toInt z
  rw [i_sub (by rw [nI_toInt hq, show (-1 : Int32).toInt = -1 from rfl]; omega) (by rw [nI_toInt hq, show (-1 : Int32).toInt = -1 from rfl]; omega), nI_toInt hq, i_0, show (-1 : Int32).toInt = -1 from rfl] at e
  omega
theorem cprM_no {M : Mem} {c a j : Nat} (h : a ≠ 156) : (cprM M c).1 a j = M.1 a j := if_neg fun z => h z.1
theorem frP_far {M K : Mem} (h : frP M K) {a j : Nat} (h1 : ¬ (159 ≤ a ∧ a ≤ 172)) (h2 : ¬ (a = 140 ∧ (j = 21 ∨ (23 ≤ j ∧ j ≤ 26) ∨ j = 29 ∨ j = 30))) : K.1 a j = M.1 a j := h.1 a j h1 h2
theorem frP_2 {M K : Mem} (h : frP M K) {a : Nat} (h1 : a ≠ 166) : K.2.1 a = M.2.1 a := h.2 a h1 h1
theorem s_rule {M : Mem} {n m dx tn : Nat} (h : Sim M n m dx tn)  : Two yX10_rule cX10_rule 2 (some .int) 9 yX11_rule cX11_rule 3 172 [] M n m dx tn := by
  have q := h.q
  have ag := q.ag
  have hO := q.okC
  have n8 := q.n8
  have m10 := q.m10
  obtain ⟨t, t80, c1, c2, c3⟩ := h.2.2.2.2.1
  obtain ⟨y1, y2, y3⟩ := sgR_by c3
  have hC := c_X10_rule c1 t80 y2
  have hs := rule_same (M := M) (A := M.1 3) (B := M.1 154) (L := t) c3
  have hq := (ruE_ok (X := M.1 154) (L := t)).2
  obtain ⟨S, eS⟩ : ∃ S, S = rrS (rrn (M.1 3) (min t 40) 0 (rS0 M)) t (min t 40) := ⟨_, rfl⟩
  have eX : ∀ a b, ¬ (10 ≤ a ∧ a ≤ 13) → ¬ (a = 2 ∧ b = 1) → (setI (rMs M S) 2 1 0).1 a b = M.1 a b := fun a b h1 h2 => by rw [sI_ne h2, rMs_o (by omega)]
  obtain ⟨N1, eN1⟩ : ∃ N1, N1 = setI (rMs M S) 2 1 0 := ⟨_, rfl⟩
  rw [← eN1] at eX
  have e21 : N1.1 2 1 = 0 := by rw [eN1]; exact sI_eq
  have e11 : N1.1 11 = S.1 := by rw [eN1]; rfl
  have e103 : N1.1 10 3 = nI S.2.1 := by rw [eN1]; rfl
  have el : N1.2.1 = M.2.1 := by rw [eN1]; rfl
  rw [← eS, ← eN1] at hC
  -- what stays, whichever way the reading ends
  have key : ∀ (K1 K : Mem), (∀ a b, ¬ (10 ≤ a ∧ a ≤ 13) → ¬ (a = 2 ∧ b = 1) → ¬ (a = 7 ∧ b = 2) → a ≠ 8 → K1.1 a b = M.1 a b) → K1.2.1 = M.2.1 → K1.1 2 1 = 0 → (∀ a b, ¬ (159 ≤ a ∧ a ≤ 172) → ¬ (a = 140 ∧ (b = 18 ∨ b = 28 ∨ b = 21 ∨ (23 ≤ b ∧ b ≤ 26) ∨ b = 29 ∨ b = 30)) → a ≠ 156 → K.1 a b = K1.1 a b) → (∀ a, a ≠ 166 → K.2.1 a = K1.2.1 a) → K.1 140 18 = 0 → simR K → ∃ n' m' tn', Sim K n' m' (dx + 60) tn' := fun K1 K k1 k2 k3 k4 k5 k6 k7 => by
    have ek : ∀ a b, ¬ (10 ≤ a ∧ a ≤ 13) → ¬ (a = 2 ∧ b = 1) → ¬ (a = 7 ∧ b = 2) → a ≠ 8 → ¬ (159 ≤ a ∧ a ≤ 172) → ¬ (a = 140 ∧ (b = 18 ∨ b = 28 ∨ b = 21 ∨ (23 ≤ b ∧ b ≤ 26) ∨ b = 29 ∨ b = 30)) → a ≠ 156 → K.1 a b = M.1 a b := fun a b h1 h2 h3 h4 h5 h6 h7 => (k4 a b h5 h6 h7).trans (k1 a b h1 h2 h3 h4)
    have em : mv K = mv M := by
      funext c j
      by_cases hc : c ≠ 5 ∧ c < 20
      · rw [mv_mo hc, mv_mo hc]
        have hm : 140 ≤ mo c ∧ mo c ≤ 158 ∧ mo c ≠ 156 ∧ (mo c = 140 → mj c j = 0 ∨ mj c j = 7 ∨ mj c j = 34 ∨ mj c j = 15 ∨ mj c j = 16) := by
          have hc2 : c = 0 ∨ c = 1 ∨ c = 2 ∨ c = 3 ∨ c = 4 ∨ c = 6 ∨ c = 7 ∨ c = 8 ∨ c = 9 ∨ c = 10 ∨ c = 11 ∨ c = 12 ∨ c = 13 ∨ c = 14 ∨ c = 15 ∨ c = 16 ∨ c = 17 ∨ c = 18 ∨ c = 19 := by omega
          rcases hc2 with rfl | rfl | rfl | rfl | rfl | rfl | rfl | rfl | rfl | rfl | rfl | rfl | rfl | rfl | rfl | rfl | rfl | rfl | rfl <;> simp [mo, mj]
        exact ek _ _ (by omega) (by omega) (by omega) (by omega) (by omega) (by omega) (by omega)
      · rw [mv_no hc, mv_no hc]
    have ev : view K 28 = view M 28 := by
      funext c j
      unfold view
      by_cases hc : c < 15
      · rw [if_pos hc, if_pos hc]; exact ek _ _ (by omega) (by omega) (by omega) (by omega) (by omega) (by omega) (by omega)
      · rw [if_neg hc, if_neg hc]; exact ek _ _ (by omega) (by omega) (by omega) (by omega) (by omega) (by omega) (by omega)
    refine ⟨n, m, tn, (sim_gen h ⟨fun a j q1 q2 q3 q4 => ek a j (by omega) (by omega) (by omega) (by omega) (by omega) (by omega) (by omega), fun a _ _ q => by rw [k5 a q, k2]⟩ (by rw [ev, em]; exact h.2.2.1) ?_ ⟨0, by omega, ?_, k6, fun j hj => absurd hj (Nat.not_lt_zero _)⟩ k7 (simW_kk h.w (ek _ _ (by omega) (by omega) (by omega) (by omega) (by omega) (by omega) (by omega)) (ek _ _ (by omega) (by omega) (by omega) (by omega) (by omega) (by omega) (by omega)) (by rw [k5 5 (by omega), k2]) (by rw [k5 155 (by omega), k2]))).dx (by omega)⟩
    · obtain ⟨u, b1, b2, b3, b4, b5⟩ := h.q.2.2.2.2.2.2.1
      refine ⟨u, b1, (ek _ _ (by omega) (by omega) (by omega) (by omega) (by omega) (by omega) (by omega)).trans b2, (ek _ _ (by omega) (by omega) (by omega) (by omega) (by omega) (by omega) (by omega)).trans b3, fun b hb => ?_, ?_⟩
      · rw [ek 1 b (by omega) (by omega) (by omega) (by omega) (by omega) (by omega) (by omega), ek 157 b (by omega) (by omega) (by omega) (by omega) (by omega) (by omega) (by omega)]; exact b4 b hb
      · rw [ev, show K.1 1 = M.1 1 from funext fun b => ek 1 b (by omega) (by omega) (by omega) (by omega) (by omega) (by omega) (by omega)]
        exact b5
    · rw [k4 2 1 (by omega) (by omega) (by omega)]; exact k3
  have mwk : ∀ K1 : Mem, (∀ a b, ¬ (10 ≤ a ∧ a ≤ 13) → ¬ (a = 2 ∧ b = 1) → ¬ (a = 7 ∧ b = 2) → a ≠ 8 → K1.1 a b = M.1 a b) → MW K1 n m := fun K1 k1 => q.2.1.keep (k1 _ _ (by omega) (by omega) (by omega) (by omega)) (k1 _ _ (by omega) (by omega) (by omega) (by omega)) (fun _ _ => k1 _ _ (by omega) (by omega) (by omega) (by omega)) (fun _ _ => k1 _ _ (by omega) (by omega) (by omega) (by omega))
  cases hr : (ruE (M.1 154) t).2 with
  | none =>
    rw [hr] at hs
    obtain ⟨e1, e2⟩ := hs
    rw [← eS] at e2
    rw [if_pos e1, e1] at hC
    obtain ⟨K1, eK1⟩ : ∃ K1, K1 = setI (setA N1 8 (N1.1 11)) 7 2 (N1.1 10 3) := ⟨_, rfl⟩
    rw [← eK1] at hC
    have k1 : ∀ a b, ¬ (10 ≤ a ∧ a ≤ 13) → ¬ (a = 2 ∧ b = 1) → ¬ (a = 7 ∧ b = 2) → a ≠ 8 → K1.1 a b = M.1 a b := fun a b h1 h2 h3 h4 => by
      rw [eK1, sI_ne h3, setA_oo h4]; exact eX a b h1 h2
    have k3 : K1.1 2 1 = 0 := by rw [eK1, sI_na (by omega), setA_oo (by omega)]; exact e21
    have k8 : K1.1 8 = S.1 := by
      rw [eK1, ← e11]
      funext b
      rw [sI_na (by omega)]; exact setA_ee
    have k72 : K1.1 7 2 = nI S.2.1 := by rw [eK1, ← e103]; exact sI_eq
    have k2 : K1.2.1 = M.2.1 := by rw [eK1]; exact el
    have e154 : K1.1 154 = M.1 154 := funext fun b => k1 154 b (by omega) (by omega) (by omega) (by omega)
    have hM := c_X11_rule (mwk K1 k1) ((k1 140 18 (by omega) (by omega) (by omega) (by omega)).trans c2) t80 (by rw [e154]; exact y1)
    rw [e154, hr] at hM
    refine ⟨_, hC, fun v N hv => by rw [hv.1]; exact tyI _, fun v N hv => ?_⟩
    obtain ⟨rfl, rfl⟩ := hv
    refine Con.mono hM fun v' K hk => ?_
    obtain ⟨rfl, hf⟩ := hk
    refine ⟨rfl, key _ K k1 k2 k3 (fun a b h1 h2 h3 => ?_) (fun a ha => frP_2 hf ha) ?_ ?_⟩
    · rw [frP_far hf h1 (by omega), sI_ne (by omega), sI_ne (by omega)]; exact cprM_no h3
    · rw [frP_far hf (by omega) (by omega), sI_ne (by omega)]; exact sI_eq
    · refine ⟨S.2.1, t, e2.2.1, ?_, ?_, ?_⟩
      · rw [frP_far hf (by omega) (by omega), sI_na (by omega), sI_na (by omega)]
        exact (cprM_no (by omega)).trans k72
      · rw [frP_far hf (by omega) (by omega)]; exact sI_eq
      · have e8 : K.1 8 = S.1 := by
          rw [← k8]
          funext b
          rw [frP_far hf (by omega) (by omega), sI_na (by omega), sI_na (by omega)]
          exact cprM_no (by omega)
        rw [e8]
        refine ruleR_cg e2 fun b hb => ?_
        rw [frP_far hf (by omega) (by omega), sI_na (by omega), sI_na (by omega), ← e154]
        exact if_pos ⟨rfl, hb⟩
  | some p =>
    rw [hr] at hs
    have hs' : rrV (rrn (M.1 3) (min t 40) 0 (rS0 M)) t (min t 40) = -1 - nI p := hs
    have hne := neg1_nI (hq p hr)
    rw [hs', if_neg hne] at hC
    have k1 : ∀ a b, ¬ (10 ≤ a ∧ a ≤ 13) → ¬ (a = 2 ∧ b = 1) → ¬ (a = 7 ∧ b = 2) → a ≠ 8 → N1.1 a b = M.1 a b := fun a b h1 h2 h3 h4 => eX a b h1 h2
    have e154 : N1.1 154 = M.1 154 := funext fun b => eX 154 b (by omega) (by omega)
    have hM := c_X11_rule (mwk N1 k1) ((eX 140 18 (by omega) (by omega)).trans c2) t80 (by rw [e154]; exact y1)
    rw [e154, hr] at hM
    refine ⟨_, hC, fun v N hv => by rw [hv.1]; exact tyI _, fun v N hv => ?_⟩
    obtain ⟨rfl, rfl⟩ := hv
    refine Con.mono hM fun v' K hk => ?_
    obtain ⟨rfl, hf⟩ := hk
    refine ⟨rfl, key _ K k1 el e21 (fun a b h1 h2 h3 => ?_) (fun a ha => frP_2 hf ha) ?_ ?_⟩
    · rw [frP_far hf h1 (by omega), sI_ne (by omega)]
    · rw [frP_far hf (by omega) (by omega)]; exact sI_eq
    · refine simR_k h.2.2.2.2.2.1 ?_ ?_ (fun b => ?_) (fun b => ?_)
      · rw [frP_far hf (by omega) (by omega), sI_na (by omega), eX _ _ (by omega) (by omega)]
      · rw [frP_far hf (by omega) (by omega), sI_ne (by omega), eX _ _ (by omega) (by omega)]
      · rw [frP_far hf (by omega) (by omega), sI_na (by omega), eX _ _ (by omega) (by omega)]
      · rw [frP_far hf (by omega) (by omega), sI_na (by omega), eX _ _ (by omega) (by omega)]
