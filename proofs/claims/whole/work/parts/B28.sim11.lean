theorem pK_lt {c i : Nat} (hc : (((c = 141 ∨ c = 144 ∨ c = 145) ∧ i < 8) ∨ (c = 146 ∧ i < 64) ∨ ((c = 151 ∨ c = 152) ∧ i < 10) ∨ (c = 158 ∧ i < 18) ∨ (c = 153 ∧ i < 4) ∨ (c = 140 ∧ (i = 15 ∨ i = 16 ∨ i = 34)))) : psK c i < 1000 := by
  rcases hc with ⟨rfl | rfl | rfl, h⟩ | ⟨rfl, h⟩ | ⟨rfl | rfl, h⟩ | ⟨rfl, h⟩ | ⟨rfl, h⟩ | ⟨rfl, rfl | rfl | rfl⟩
  all_goals first | decide | (simp [psK, psL, h]; done) | (simp [psK, psL, h]; omega)
theorem pK_no {a j c i : Nat} (h : psK a j = 1000) (hc : (((c = 141 ∨ c = 144 ∨ c = 145) ∧ i < 8) ∨ (c = 146 ∧ i < 64) ∨ ((c = 151 ∨ c = 152) ∧ i < 10) ∨ (c = 158 ∧ i < 18) ∨ (c = 153 ∧ i < 4) ∨ (c = 140 ∧ (i = 15 ∨ i = 16 ∨ i = 34)))) : ¬ (a = c ∧ j = i) := fun z => by
  have e := pK_lt hc
  rw [← z.1, ← z.2] at e
  omega
theorem shX_ne {M : Mem} {a b i j : Nat} {x : Int32} (h1 : ¬ (a = 141 ∧ b = i)) (h2 : ¬ (a = 141 ∧ b = j)) : (shX M i j x).1 a b = M.1 a b := (sI_ne h2).trans (sI_ne h1)
theorem shX_na {M : Mem} {a b i j : Nat} {x : Int32} (h : a ≠ 141) : (shX M i j x).1 a b = M.1 a b := shX_ne (fun z => h z.1) (fun z => h z.1)
theorem shM_na {M : Mem} {a b i j : Nat} {x : Int32} (h : a ≠ 29) : (shM M 28 i j x).1 a b = M.1 a b := shM_o h
theorem mv_34 {M : Mem} {x : Int32} : mv (setI M 140 34 x) = setS (mv M) 17 x := by
  funext c j
  simp only [setS]
  match c with
  | 17 => rw [if_pos rfl]; exact sI_eq
  | 0 | 1 | 2 | 3 | 4 | 6 | 7 | 8 | 9 | 10 | 11 | 12 | 13 | 14 | 15 | 16 | 18 | 19 => rw [if_neg (by omega)]; exact sI_ne (by omega)
  | 5 => rw [if_neg (by omega)]; rfl
  | c + 20 => rw [if_neg (by omega)]; rfl
theorem mv_16 {M : Mem} {x : Int32} : mv (setI M 140 16 x) = setS (mv M) 19 x := by
  funext c j
  simp only [setS]
  match c with
  | 19 => rw [if_pos rfl]; exact sI_eq
  | 0 | 1 | 2 | 3 | 4 | 6 | 7 | 8 | 9 | 10 | 11 | 12 | 13 | 14 | 15 | 16 | 17 | 18 => rw [if_neg (by omega)]; exact sI_ne (by omega)
  | 5 => rw [if_neg (by omega)]; rfl
  | c + 20 => rw [if_neg (by omega)]; rfl
theorem shT_o {T : TT} {i j c : Nat} {x : Int32} (h : c ≠ 0) : shT T i j x c = T c := by funext a; exact if_neg h
theorem setT_o {T : TT} {c j c' : Nat} {x : Int32} (h : c' ≠ c) : setT T c j x c' = T c' := by funext a; exact if_neg fun z => h z.1
theorem setS_o {T : TT} {c c' : Nat} {x : Int32} (h : c' ≠ c) : setS T c x c' = T c' := by funext a; exact if_neg h
theorem shT_al {T U : TT} {i j : Nat} {x : Int32} (h : alk T U) : alk (shT T i j x) (shT U i j x) := fun c h5 h20 => by
  by_cases z : c = 0
  · subst z
    funext a
    simp only [shT, if_true]
    rw [h 0 (by omega) (by omega)]
  · rw [shT_o z, shT_o z, h c h5 h20]
/-- the coin of all is the same where coin has moved -/
theorem sum_sh {T T' : TT} {n m i g : Nat} {x : Int32} (h : OKS T n m) (hi : i < n) (hg : g < n) (hig : i ≠ g) (hx0 : 0 ≤ x.toInt) (hx : x ≤ T 0 i - T 3 i) (e0 : T' 0 = shT T i g x 0) : isum (fun j => (T' 0 j).toInt) n = isum (fun j => (T 0 j).toInt) n := by
  rw [i_le, h.T.cnt hi] at hx
  have hgi : ¬ g = i := fun q => hig q.symm
  have b1 := h.1 i hi; have b2 := h.1 g hg; have b3 := h.le hi; have b4 := h.le hg
  have ei : (T' 0 i).toInt = (T 0 i).toInt - x.toInt := by
    rw [e0]; simp only [shT, if_true, upd, if_neg hig]
    exact i_sub (by omega) (by omega)
  have eg : (T' 0 g).toInt = (T 0 g).toInt + x.toInt := by
    rw [e0]; simp only [shT, if_true, upd, if_neg hgi]
    exact i_add (by omega) (by omega)
  have ek : ∀ j, j ≠ i → j ≠ g → T' 0 j = T 0 j := fun j h1 h2 => by rw [e0]; simp only [shT, if_true, upd, if_neg h1, if_neg h2]
  have h1 := isum_put (f := fun j => (T 0 j).toInt) (g := fun j => if j = i then (T' 0 i).toInt else (T 0 j).toInt) (n := n) hi (fun k hk => if_neg hk)
  have h2 := isum_put (f := fun j => if j = i then (T' 0 i).toInt else (T 0 j).toInt) (g := fun j => (T' 0 j).toInt) (n := n) hg (fun k hk => by
    by_cases k1 : k = i
    · subst k1; simp
    · simp [k1, ek k k1 hk])
  simp only [if_true, if_neg hgi] at h1 h2
  omega
/-- a town by itself, coin moved -/
theorem twS_sh {T T' : TT} {n m dx i g : Nat} {x : Int32} (h : twS T n m dx) (hi : i < n) (hg : g < n) (hig : i ≠ g) (hx0 : 0 ≤ x.toInt) (hx : x ≤ T 0 i - T 3 i) (e0 : T' 0 = shT T i g x 0) (e : ∀ c, c = 1 ∨ c = 2 ∨ c = 3 ∨ c = 4 ∨ (6 ≤ c ∧ c ≤ 9) ∨ (14 ≤ c ∧ c ≤ 16) ∨ c = 18 → T' c = T c) (e1 : ∀ k, k < m → T' 10 k = 0 → T' 11 k = -1) : twS T' n m dx := by
  obtain ⟨⟨b1, b2, b3⟩, a2, a3, a4, a5, a6⟩ := h
  refine ⟨⟨b1.sh hi hg hig hx0 hx e0 (fun c hc => e c (by omega)), ?_, ?_⟩, ?_, ?_, ?_, e1, ?_⟩
  · rw [e 15 (by omega)]; exact b2
  · rw [e 16 (by omega)]; exact b3
  · unfold AOK; rw [e 1 (by omega), e 2 (by omega)]; exact a2
  · have z := sum_sh b1 hi hg hig hx0 hx e0
    show isum (fun j => (T' 0 j).toInt) n ≤ _
    rw [z]; exact a3
  · rw [e 14 (by omega)]; exact a4
  · rw [e 18 (by omega)]; exact a6
theorem sh_D {T T' : TT} {n m i j : Nat} {x : Int32} (h : agD T T' n m) (hi : i < n) (hj : j < n) : agD (shT T i j x) (shT T' i j x) n m := by
  refine ⟨shT_ag h.1 hi hj, ?_, ?_, ?_, ?_⟩
  · rw [shT_o (by omega), shT_o (by omega)]; exact h.2.1
  · rw [shT_o (by omega), shT_o (by omega)]; exact h.2.2.1
  · rw [shT_o (by omega), shT_o (by omega)]; exact h.2.2.2.1
  · rw [shT_o (by omega), shT_o (by omega)]; exact h.2.2.2.2
theorem one_z {z : Int32} (h : 1 ≤ z) : 1 ≤ z.toInt := by rw [i_le] at h; exact h
/-- what a loan's refusal says, alike -/
theorem cnt_pass {M : Mem} {n m dx tn : Nat} (q : SimQ M n m dx tn) {x y z : Int32} (h : (0 ≤ x ∧ x < nI n) ∧ (0 ≤ y ∧ y < nI n) ∧ ¬ x = y ∧ 1 ≤ z ∧ z ≤ M.1 141 x.toNatClampNeg - M.1 144 x.toNatClampNeg) : (0 ≤ x ∧ x < nI n) ∧ (0 ≤ y ∧ y < nI n) ∧ ¬ x = y ∧ 1 ≤ z ∧ z ≤ M.1 29 x.toNatClampNeg - M.1 32 x.toNatClampNeg := by
  have n8 := q.n8
  obtain ⟨a, b, c, d, e⟩ := h
  obtain ⟨i, hi, rfl⟩ := rngI a (by omega)
  rw [nI_clamp (by omega)] at e ⊢
  rw [show M.1 141 i = M.1 29 i from (q.ag.1.1 i hi).1, show M.1 144 i = M.1 32 i from (q.ag.1.1 i hi).2.2.2.1] at e
  exact ⟨a, b, c, d, e⟩
theorem s_give {M : Mem} {n m dx tn : Nat} (h : Sim M n m dx tn) (x y z : Int32) : Two yX10_give cX10_give 4 (some .boolean) 2 yX11_give cX11_give 4 3 [.int x, .int y, .int z] M n m dx tn := by
  have q := h.q
  have ag := q.ag
  have hO := q.okC
  have n8 := q.n8
  have m10 := q.m10
  by_cases hx : (0 ≤ x ∧ x < nI n) ∧ (0 ≤ y ∧ y < nI n) ∧ ¬ x = y ∧ 1 ≤ z ∧ z ≤ M.1 29 x.toNatClampNeg - M.1 32 x.toNatClampNeg
  · obtain ⟨ha, hb, hc, hz1, hz2⟩ := hx
    obtain ⟨i, hi, rfl⟩ := rngI ha (by omega)
    obtain ⟨j, hj, rfl⟩ := rngI hb (by omega)
    rw [nI_clamp (by omega)] at hz2
    have hij : i ≠ j := fun e => hc (by rw [e])
    have ek : ∀ a b, 140 ≤ a → (setI (shM M 28 i j z) 0 14 0).1 a b = M.1 a b := fun a b h140 => (sI_na (by omega)).trans (shM_na (by omega))
    have w1 : MW (setI (shM M 28 i j z) 0 14 0) n m := q.2.1.keep (ek _ _ (by omega)) (ek _ _ (by omega)) (fun _ _ => ek _ _ (by omega)) (fun _ _ => ek _ _ (by omega))
    have hC := c_X10_give q.1 hi hj hij hz1 hz2
    have hM := c_X11_give w1 hi hj hij hz1 (by
      rw [ek 141 i (by omega), ek 144 i (by omega), show M.1 141 i = M.1 29 i from (ag.1.1 i hi).1, show M.1 144 i = M.1 32 i from (ag.1.1 i hi).2.2.2.1]; exact hz2)
    have v1 : alk (shT (view M 28) i j z) (view (setI (shX (t0 (setI (shM M 28 i j z) 0 14 0)) i j z) 140 32 0) 28) := fun c h5 h20 => by
      unfold t0 shX
      rw [view_I (by omega), view_I (by omega), view_I (by omega), view_I (by omega), view_I (by omega)]
      exact view_sh c h20
    have v2 : mv (setI (shX (t0 (setI (shM M 28 i j z) 0 14 0)) i j z) 140 32 0) = shT (mv M) i j z := by
      rw [mv_I (by omega), mv_shX, t0_mv, mv_eq ek]
    refine two_t h hC hM ⟨fun a b q1 q2 q3 q4 => ?_, rfl⟩ ?_ ?_ sI_eq
    · rw [sI_ne (by omega), shX_ne (pK_no q3 (by omega)) (pK_no q3 (by omega)), t0_o (by omega), sI_ne (by omega), shM_na (by omega)]
    · rw [v2]
      refine twP_alk (twP_of q.2.2.1 (twS_sh q.2.2.1.1 hi hj hij (by have := one_z hz1; omega) hz2 rfl (fun c hc => shT_o (by omega)) ?_) (sh_D ag hi hj) (fun c hc => shT_o (by omega)) (fun c hc => shT_o (by omega))) v1
      rw [shT_o (by omega), shT_o (by omega)]; exact q.2.2.1.1.2.2.2.2.1
    · rw [sI_na (by omega), shX_na (by omega), t0_o (by omega)]; exact sI_eq
  · exact two_0 h (c_X10_give_no q.1 hx) (c_X11_give_no q.2.1 fun z => hx (cnt_pass q z))
/-- a town in which coin was lent -/
def lndT (T : TT) (c i j : Nat) (z : Int32) : TT := setS (setT (setT (setT (shT T i j z) 13 (3 * c) (nI i)) 13 (3 * c + 1) (nI j)) 13 (3 * c + 2) z) 17 (nI (c + 1))
theorem sh_setT {T : TT} {c a i j : Nat} {x z : Int32} (hc : c ≠ 0) : shT (setT T c a x) i j z = setT (shT T i j z) c a x := by
  have e : setT T c a x 0 = T 0 := setT_o (by omega)
  funext b q
  by_cases h0 : b = 0
  · subst h0
    rw [setT_o (by omega)]
    simp only [shT, if_true]
    rw [e]
  · rw [shT_o h0]
    by_cases h1 : b = c ∧ q = a
    · unfold setT; rw [if_pos h1, if_pos h1]
    · unfold setT; rw [if_neg h1, if_neg h1, shT_o h0]
theorem sh_setS {T : TT} {c i j : Nat} {x z : Int32} (hc : c ≠ 0) : shT (setS T c x) i j z = setS (shT T i j z) c x := by
  have e : setS T c x 0 = T 0 := setS_o (by omega)
  funext b q
  by_cases h0 : b = 0
  · subst h0
    rw [setS_o (by omega)]
    simp only [shT, if_true]
    rw [e]
  · rw [shT_o h0]
    by_cases h1 : b = c
    · unfold setS; rw [if_pos h1, if_pos h1]
    · unfold setS; rw [if_neg h1, if_neg h1, shT_o h0]
theorem lnd_o {T : TT} {c i j a : Nat} {z : Int32} (h0 : a ≠ 0) (h13 : a ≠ 13) (h17 : a ≠ 17) : lndT T c i j z a = T a := by
  unfold lndT; rw [setS_o h17, setT_o h13, setT_o h13, setT_o h13, shT_o h0]
theorem lnd_0 {T : TT} {c i j : Nat} {z : Int32} : lndT T c i j z 0 = shT T i j z 0 := by
  unfold lndT; rw [setS_o (by omega), setT_o (by omega), setT_o (by omega), setT_o (by omega)]
theorem lnd_13 {T : TT} {c i j q : Nat} {z : Int32} : lndT T c i j z 13 q = if q = 3 * c + 2 then z else if q = 3 * c + 1 then nI j else if q = 3 * c then nI i else T 13 q := by
  unfold lndT; rw [setS_o (by omega)]
  simp [setT, shT_o]
theorem lnd_17 {T : TT} {c i j q : Nat} {z : Int32} : lndT T c i j z 17 q = nI (c + 1) := by
  unfold lndT setS; exact if_pos rfl
theorem lnd_D {T T' : TT} {n m c i j : Nat} {z : Int32} (h : agD T T' n m) (hi : i < n) (hj : j < n) : agD (lndT T c i j z) (lndT T' c i j z) n m := by
  have g := sh_D (x := z) h hi hj
  refine ⟨⟨?_, ?_, ?_⟩, ?_, ?_, ?_, ?_⟩
  · rw [lnd_0, lnd_0, lnd_o (by omega) (by omega) (by omega), lnd_o (by omega) (by omega) (by omega), lnd_o (by omega) (by omega) (by omega), lnd_o (by omega) (by omega) (by omega), lnd_o (by omega) (by omega) (by omega), lnd_o (by omega) (by omega) (by omega), lnd_o (by omega) (by omega) (by omega), lnd_o (by omega) (by omega) (by omega)]
    exact fun a ha => ⟨(g.1.1 a ha).1, (h.1.1 a ha).2⟩
  · rw [lnd_o (by omega) (by omega) (by omega), lnd_o (by omega) (by omega) (by omega), lnd_o (by omega) (by omega) (by omega), lnd_o (by omega) (by omega) (by omega), lnd_o (by omega) (by omega) (by omega), lnd_o (by omega) (by omega) (by omega), lnd_o (by omega) (by omega) (by omega), lnd_o (by omega) (by omega) (by omega), lnd_o (by omega) (by omega) (by omega), lnd_o (by omega) (by omega) (by omega)]
    exact h.1.2.1
  · rw [lnd_o (by omega) (by omega) (by omega), lnd_o (by omega) (by omega) (by omega)]
    exact h.1.2.2
  · rw [lnd_o (by omega) (by omega) (by omega), lnd_o (by omega) (by omega) (by omega)]
    exact h.2.1
  · rw [lnd_o (by omega) (by omega) (by omega), lnd_o (by omega) (by omega) (by omega)]
    exact h.2.2.1
  · rw [lnd_o (by omega) (by omega) (by omega), lnd_o (by omega) (by omega) (by omega)]
    exact h.2.2.2.1
  · rw [lnd_o (by omega) (by omega) (by omega), lnd_o (by omega) (by omega) (by omega)]
    exact h.2.2.2.2
theorem s_lend {M : Mem} {n m dx tn : Nat} (h : Sim M n m dx tn) (x y z : Int32) : Two yX10_lend cX10_lend 4 (some .int) 2 yX11_lend cX11_lend 4 3 [.int x, .int y, .int z] M n m dx tn := by
  have q := h.q
  have ag := q.ag
  have hO := q.okC
  have n8 := q.n8
  have m10 := q.m10
  obtain ⟨c, hc6, e17, e17', hl⟩ := q.2.2.1.2.2.2.2
  have e34 : M.1 140 34 = nI c := e17'
  by_cases hx : ((0 ≤ x ∧ x < nI n) ∧ (0 ≤ y ∧ y < nI n) ∧ ¬ x = y ∧ 1 ≤ z ∧ z ≤ M.1 29 x.toNatClampNeg - M.1 32 x.toNatClampNeg) ∧ c ≠ 6
  · obtain ⟨⟨ha, hb, hc, hz1, hz2⟩, hc6'⟩ := hx
    obtain ⟨i, hi, rfl⟩ := rngI ha (by omega)
    obtain ⟨j, hj, rfl⟩ := rngI hb (by omega)
    rw [nI_clamp (by omega)] at hz2
    have hij : i ≠ j := fun e => hc (by rw [e])
    have ek : ∀ a b, 140 ≤ a → (setI (shM (nlM M 28 c (nI i) (nI j) z) 28 i j z) 0 14 0).1 a b = M.1 a b := fun a b h140 => by
      rw [sI_na (by omega), shM_na (by omega)]
      unfold nlM
      rw [sI_na (by omega), sI_na (by omega), sI_na (by omega), sI_na (by omega)]
    have w1 : MW (setI (shM (nlM M 28 c (nI i) (nI j) z) 28 i j z) 0 14 0) n m := q.2.1.keep (ek _ _ (by omega)) (ek _ _ (by omega)) (fun _ _ => ek _ _ (by omega)) (fun _ _ => ek _ _ (by omega))
    have hC := c_X10_lend q.1 hi hj hij hz1 hz2 (c := c) e17 (by omega)
    have hM := c_X11_lend w1 hi hj hij hz1 (by
      rw [ek 141 i (by omega), ek 144 i (by omega), show M.1 141 i = M.1 29 i from (ag.1.1 i hi).1, show M.1 144 i = M.1 32 i from (ag.1.1 i hi).2.2.2.1]; exact hz2) (c := c) ((ek 140 34 (by omega)).trans e34) (by omega)
    have v1 : alk (lndT (view M 28) c i j z) (view (ldX (setI (shM (nlM M 28 c (nI i) (nI j) z) 28 i j z) 0 14 0) c i j z) 28) := fun a h5 h20 => by
      unfold ldX t0 shX
      rw [view_I (by omega), view_I (by omega), view_I (by omega), view_I (by omega), view_I (by omega), view_I (by omega), view_I (by omega), view_I (by omega), view_I (by omega)]
      refine (view_sh a h20).trans ?_
      have e : view (nlM M 28 c (nI i) (nI j) z) 28 = setS (setT (setT (setT (view M 28) 13 (3 * c) (nI i)) 13 (3 * c + 1) (nI j)) 13 (3 * c + 2) z) 17 (nI (c + 1)) := by
        unfold nlM
        rw [view_S (by omega)]
        have f : ∀ (M : Mem) (b : Nat) (u : Int32), view (setI M (28 + 14) b u) 28 = setT (view M 28) 13 b u := fun M b u => view_set (M := M) (t := 28) (c := 13) (j := b) (x := u) (by omega)
        rw [f, f, f]
      rw [e, sh_setS (by omega), sh_setT (by omega), sh_setT (by omega), sh_setT (by omega)]
      rfl
    have v2 : mv (ldX (setI (shM (nlM M 28 c (nI i) (nI j) z) 28 i j z) 0 14 0) c i j z) = lndT (mv M) c i j z := by
      have f : ∀ (M : Mem) (b : Nat) (u : Int32), mv (setI M 158 b u) = setT (mv M) 13 b u := fun M b u => mv_set (M := M) (c := 13) (j := b) (x := u) (by omega) (by omega)
      unfold ldX
      rw [mv_I (by omega), mv_34, f, f, f, mv_shX, t0_mv, mv_eq ek]
      rfl
    refine two_t h hC hM ⟨fun a b q1 q2 q3 q4 => ?_, rfl⟩ ?_ ?_ sI_eq
    · unfold ldX
      rw [sI_ne (by omega), sI_ne (pK_no q3 (by omega)), sI_ne (pK_no q3 (by omega)), sI_ne (pK_no q3 (by omega)), sI_ne (pK_no q3 (by omega)), shX_ne (pK_no q3 (by omega)) (pK_no q3 (by omega)), t0_o (by omega), sI_ne (by omega), shM_na (by omega)]
      unfold nlM
      rw [sI_ne (by omega), sI_na (by omega), sI_na (by omega), sI_na (by omega)]
    · rw [v2]
      refine twP_alk ⟨twS_sh q.2.2.1.1 hi hj hij (by have := one_z hz1; omega) hz2 lnd_0 (fun c hc => lnd_o (by omega) (by omega) (by omega)) ?_, lnd_D ag hi hj, ?_, ?_, ⟨c + 1, by omega, lnd_17, lnd_17, fun k hk => ?_⟩⟩ v1
      · rw [lnd_o (by omega) (by omega) (by omega), lnd_o (by omega) (by omega) (by omega)]; exact q.2.2.1.1.2.2.2.2.1
      · rw [lnd_o (by omega) (by omega) (by omega), lnd_o (by omega) (by omega) (by omega)]; exact q.2.2.1.2.2.1
      · rw [lnd_o (by omega) (by omega) (by omega), lnd_o (by omega) (by omega) (by omega)]; exact q.2.2.1.2.2.2.1
      · rw [lnd_13, lnd_13, lnd_13, lnd_13, lnd_13, lnd_13]
        by_cases k0 : k = c
        · subst k0
          rw [if_neg (by omega), if_neg (by omega), if_pos rfl, if_neg (by omega), if_pos rfl, if_pos rfl, if_neg (by omega), if_neg (by omega), if_pos rfl, if_neg (by omega), if_pos rfl, if_pos rfl]
          exact ⟨⟨i, j, hi, hj, hij, rfl, rfl, hz1⟩, rfl, rfl, rfl⟩
        · repeat rw [if_neg (by omega)]
          exact hl k (by omega)
    · unfold ldX
      rw [sI_na (by omega), sI_na (by omega), sI_na (by omega), sI_na (by omega), sI_na (by omega), shX_na (by omega), t0_o (by omega)]; exact sI_eq
  · refine two_0 h (c_X10_lend_no q.1 e17 hc6 ?_) (c_X11_lend_no q.2.1 ?_)
    · by_cases c6 : c = 6
      · exact Or.inr c6
      · exact Or.inl fun z => hx ⟨z, c6⟩
    · by_cases c6 : c = 6
      · refine Or.inr (e34.trans ?_); rw [c6]; rfl
      · exact Or.inl fun z => hx ⟨cnt_pass q z, c6⟩
/-- a town in which the last loan came back -/
def bckT (T : TT) (c a b : Nat) (z : Int32) : TT := setS (shT T b a z) 17 (nI c)
theorem bck_o {T : TT} {c i j a : Nat} {z : Int32} (h0 : a ≠ 0) (h17 : a ≠ 17) : bckT T c i j z a = T a := by
  unfold bckT; rw [setS_o h17, shT_o h0]
theorem bck_0 {T : TT} {c i j : Nat} {z : Int32} : bckT T c i j z 0 = shT T j i z 0 := setS_o (by omega)
theorem bck_17 {T : TT} {c i j q : Nat} {z : Int32} : bckT T c i j z 17 q = nI c := by
  unfold bckT setS; exact if_pos rfl
theorem bck_D {T T' : TT} {n m c i j : Nat} {z : Int32} (h : agD T T' n m) (hi : i < n) (hj : j < n) : agD (bckT T c i j z) (bckT T' c i j z) n m := by
  have g := sh_D (x := z) h hj hi
  refine ⟨⟨?_, ?_, ?_⟩, ?_, ?_, ?_, ?_⟩
  · rw [bck_0, bck_0, bck_o (by omega) (by omega), bck_o (by omega) (by omega), bck_o (by omega) (by omega), bck_o (by omega) (by omega), bck_o (by omega) (by omega), bck_o (by omega) (by omega), bck_o (by omega) (by omega), bck_o (by omega) (by omega)]
    exact fun a ha => ⟨(g.1.1 a ha).1, (h.1.1 a ha).2⟩
  · rw [bck_o (by omega) (by omega), bck_o (by omega) (by omega), bck_o (by omega) (by omega), bck_o (by omega) (by omega), bck_o (by omega) (by omega), bck_o (by omega) (by omega), bck_o (by omega) (by omega), bck_o (by omega) (by omega), bck_o (by omega) (by omega), bck_o (by omega) (by omega)]
    exact h.1.2.1
  · rw [bck_o (by omega) (by omega), bck_o (by omega) (by omega)]
    exact h.1.2.2
  · rw [bck_o (by omega) (by omega), bck_o (by omega) (by omega)]
    exact h.2.1
  · rw [bck_o (by omega) (by omega), bck_o (by omega) (by omega)]
    exact h.2.2.1
  · rw [bck_o (by omega) (by omega), bck_o (by omega) (by omega)]
    exact h.2.2.2.1
  · rw [bck_o (by omega) (by omega), bck_o (by omega) (by omega)]
    exact h.2.2.2.2
theorem s_back {M : Mem} {n m dx tn : Nat} (h : Sim M n m dx tn)  : Two yX10_back cX10_back 1 (some .int) 3 yX11_back cX11_back 2 1 [] M n m dx tn := by
  have q := h.q
  have ag := q.ag
  have hO := q.okC
  have n8 := q.n8
  have m10 := q.m10
  obtain ⟨c0, hc6, e17, e17', hl⟩ := q.2.2.1.2.2.2.2
  cases c0 with
  | zero => exact two_0 h (c_X10_back_no e17) (c_X11_back_no e17')
  | succ c =>
    obtain ⟨⟨a, b, ha, hb, hab, f0, f1, f2⟩, g0, g1, g2⟩ := hl c (by omega)
    have e34 : M.1 140 34 = nI (c + 1) := e17'
    have ea : ∀ j, j < n → M.1 141 j = M.1 29 j := fun j hj => (ag.1.1 j hj).1
    have eb : ∀ j, j < n → M.1 144 j = M.1 32 j := fun j hj => (ag.1.1 j hj).2.2.2.1
    by_cases hz : view M 28 13 (3 * c + 2) ≤ M.1 29 b - M.1 32 b
    · obtain ⟨z, ez⟩ : ∃ z, z = view M 28 13 (3 * c + 2) := ⟨_, rfl⟩
      rw [← ez] at hz f2 g2
      have hC := c_X10_back q.1 ha hb hab e17 (by omega) f0 f1 (show M.1 42 (3 * c + 2) = z from ez.symm) f2 hz
      have e1c : c + 1 - 1 = c := by omega
      have ek : ∀ a' b', 140 ≤ a' → (setI (gbM M 28 a b (c + 1) z) 0 14 0).1 a' b' = M.1 a' b' := fun a' b' h140 => by
        unfold gbM
        rw [sI_na (by omega), sI_na (by omega), shM_na (by omega)]
      have hM := c_X11_back (M := setI (gbM M 28 a b (c + 1) z) 0 14 0) (c := c) (a := a) (b := b) (z := z) ((ek 140 34 (by omega)).trans e34) (by omega) (by omega) (by omega) ((ek 158 _ (by omega)).trans (g0.trans f0)) ((ek 158 _ (by omega)).trans (g1.trans f1)) ((ek 158 _ (by omega)).trans g2) (by
        rw [ek 141 b (by omega), ek 144 b (by omega), ea b hb, eb b hb]; exact hz)
      have v1 : alk (bckT (view M 28) c a b z) (view (bkX (setI (gbM M 28 a b (c + 1) z) 0 14 0) c a b z) 28) := fun a' h5 h20 => by
        unfold bkX t0 shX gbM
        rw [view_I (by omega), view_I (by omega), view_I (by omega), view_I (by omega), view_I (by omega), view_I (by omega), view_S (by omega), e1c]
        unfold bckT
        by_cases z17 : a' = 17
        · funext j'; unfold setS; rw [if_pos z17, if_pos z17]
        · rw [setS_o z17, setS_o z17]; exact view_sh a' h20
      have v2 : mv (bkX (setI (gbM M 28 a b (c + 1) z) 0 14 0) c a b z) = bckT (mv M) c a b z := by
        unfold bkX
        rw [mv_I (by omega), mv_34, mv_shX, t0_mv, mv_eq ek]
        rfl
      refine two_t h hC hM ⟨fun a' b' q1 q2 q3 q4 => ?_, rfl⟩ ?_ ?_ sI_eq
      · unfold bkX gbM
        rw [sI_ne (by omega), sI_ne (pK_no q3 (by omega)), shX_ne (pK_no q3 (by omega)) (pK_no q3 (by omega)), t0_o (by omega), sI_ne (by omega), sI_ne (by omega), shM_na (by omega)]
      · rw [v2]
        refine twP_alk ⟨twS_sh q.2.2.1.1 hb ha (fun e => hab e.symm) (by have := one_z f2; omega) hz bck_0 (fun c hc => bck_o (by omega) (by omega)) ?_, bck_D ag ha hb, ?_, ?_, ⟨c, by omega, bck_17, bck_17, fun k hk => ?_⟩⟩ v1
        · rw [bck_o (by omega) (by omega), bck_o (by omega) (by omega)]; exact q.2.2.1.1.2.2.2.2.1
        · rw [bck_o (by omega) (by omega), bck_o (by omega) (by omega)]; exact q.2.2.1.2.2.1
        · rw [bck_o (by omega) (by omega), bck_o (by omega) (by omega)]; exact q.2.2.1.2.2.2.1
        · rw [bck_o (by omega) (by omega), bck_o (by omega) (by omega)]; exact hl k (by omega)
      · unfold bkX
        rw [sI_na (by omega), sI_na (by omega), shX_na (by omega), t0_o (by omega)]; exact sI_eq
    · refine two_0 h (c_X10_back_2 q.1 ha hb hab e17 (by omega) f0 f1 rfl hz) (c_X11_back_2 e34 (by omega) (by omega) (by omega) (g0.trans f0) (g1.trans f1) g2 ?_)
      rw [ea b hb, eb b hb]; exact hz
