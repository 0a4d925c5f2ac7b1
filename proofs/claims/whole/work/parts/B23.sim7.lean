/-! hide, noon, today's laws -/
theorem hide_S {T : TT} {n m dx i : Nat} {x : Int32} (h : twS T n m dx) (hx : 0 ≤ x ∧ x ≤ T 0 i) : twS (setT T 3 i x) n m dx :=
  ⟨h.1.hid hx, h.2.1, h.2.2.1, h.2.2.2.1, h.2.2.2.2.1, h.2.2.2.2.2⟩
theorem noon_S {T : TT} {n m dx : Nat} (h : twS T n m dx) : twS (noonT T n) n m dx := by
  have e : ∀ c, c ≠ 4 → noonT T n c = T c := fun c hc => by funext j; exact if_neg fun z => hc z.1
  obtain ⟨a1, a2, a3, a4, a5, a6⟩ := h
  refine ⟨a1.noon, ?_, ?_, ?_, ?_, ?_⟩
  · unfold AOK; rw [e 1 (by omega), e 2 (by omega)]; exact a2
  · rw [e 0 (by omega)]; exact a3
  · rw [e 14 (by omega)]; exact a4
  · rw [e 10 (by omega), e 11 (by omega)]; exact a5
  · rw [e 18 (by omega)]; exact a6
/-- the rest of a pair where neither favours, lent, random have changed -/
theorem twP_of {T T' U U' : TT} {n m dx dy : Nat} (h : twP T T' n m dx) (hS : twS U n m dy) (hA : agD U U' n m) (e : ∀ c, c = 12 ∨ c = 13 ∨ c = 17 ∨ c = 19 → U c = T c) (e' : ∀ c, c = 12 ∨ c = 13 ∨ c = 17 ∨ c = 19 → U' c = T' c) : twP U U' n m dy := by
  obtain ⟨a1, a2, a3, a4, a5⟩ := h
  refine ⟨hS, hA, ?_, ?_, ?_⟩
  · rw [e 12 (by omega), e' 12 (by omega)]; exact a3
  · rw [e 19 (by omega), e' 19 (by omega)]; exact a4
  · unfold lenT
    rw [e 13 (by omega), e' 13 (by omega), e 17 (by omega), e' 17 (by omega)]; exact a5
theorem s_hide {M : Mem} {n m dx tn : Nat} (h : Sim M n m dx tn) (y x : Int32) : Two yX10_hide cX10_hide 4 (some .int) 1 yX11_hide cX11_hide 4 2 [.int y, .int x] M n m dx tn := by
  have q := h.q
  have ag := q.ag
  have n8 := q.n8
  by_cases hx : (0 ≤ y ∧ y < nI n) ∧ 0 ≤ x ∧ x ≤ M.1 29 y.toNatClampNeg
  · obtain ⟨i, hi, rfl⟩ := rngI hx.1 (by omega)
    have hx2 := hx.2
    rw [nI_clamp (by omega)] at hx2
    have e0 : M.1 141 i = M.1 29 i := (ag.1.1 i hi).1
    have e3 : M.1 144 i = M.1 32 i := (ag.1.1 i hi).2.2.2.1
    have w1 : MW (setI (setI M 32 i x) 0 14 0) n m := q.2.1.keep rfl rfl (fun _ _ => rfl) (fun _ _ => rfl)
    have hC := c_X10_hide q.1.1 n8 hi hx2
    have hM := c_X11_hide w1 hi (x := x) (by show 0 ≤ x ∧ x ≤ M.1 141 i; rw [e0]; exact hx2)
    rw [show (setI (setI M 32 i x) 0 14 0).1 144 i = M.1 32 i from e3] at hM
    refine two_t h hC hM ⟨fun a j q1 q2 q3 q4 => ?_, rfl⟩ ?_ ?_ rfl
    · rw [sI_ne (by omega), sI_ne (fun z => by rw [z.1] at q3; unfold psK at q3; rw [if_pos ⟨rfl, by omega⟩] at q3; omega), t0_o (by omega), sI_ne (by omega), sI_ne (by omega)]
    · have v1 : view (setI (setI (t0 (setI (setI M 32 i x) 0 14 0)) 144 i x) 140 32 0) 28 = setT (view M 28) 3 i x := by
        have e := view_set (M := M) (t := 28) (c := 3) (j := i) (x := x) (by omega)
        rw [← e]
        unfold t0
        rw [view_I (by omega), view_I (by omega), view_I (by omega), view_I (by omega)]
      have v2 : mv (setI (setI (t0 (setI (setI M 32 i x) 0 14 0)) 144 i x) 140 32 0) = setT (mv M) 3 i x := by
        rw [mv_I (by omega), mv_144, t0_mv, mv_eq (M := M) (fun a j ha => by rw [sI_na (by omega), sI_na (by omega)])]
      rw [v1, v2]
      refine twP_of q.2.2.1 (hide_S q.2.2.1.1 hx2) ag.hid (fun c hc => ?_) (fun c hc => ?_)
      · funext j; exact if_neg (by omega)
      · funext j; exact if_neg (by omega)
    · rw [sI_na (by omega), sI_na (by omega), t0_o (by omega)]; exact sI_eq
  · refine two_0 h (c_X10_hide_no q.1.1 n8 hx) (c_X11_hide_no q.2.1 fun z => hx ⟨z.1, ?_⟩)
    obtain ⟨i, hi, e⟩ := rngI z.1 (by omega)
    have z2 := z.2
    rw [e, nI_clamp (by omega)] at z2 ⊢
    rw [← show M.1 141 i = M.1 29 i from (ag.1.1 i hi).1]
    exact z2
theorem tkM_far {M : Mem} {n a j : Nat} (h : a ≠ 145) : (tkM M n).1 a j = M.1 a j := if_neg fun z => h z.1
theorem s_noon {M : Mem} {n m dx tn : Nat} (h : Sim M n m dx tn) : Two yX10_noon cX10_noon 1 (some .int) 2 yX11_noon cX11_noon 3 2 [] M n m dx tn := by
  have q := h.q
  have ag := q.ag
  have w1 : MW (cnL (setI M 0 14 0) 28 n) n m := q.2.1.keep (cnL_o (by omega)) (cnL_o (by omega)) (fun _ _ => cnL_o (by omega)) (fun _ _ => cnL_o (by omega))
  have hC := c_X10_noon q.1
  have hM := c_X11_noon w1
  have ec : ∀ a j, 140 ≤ a → (cnL (setI M 0 14 0) 28 n).1 a j = M.1 a j := fun a j ha => (cnL_o (by omega)).trans (sI_na (by omega))
  have e1 : fsum (fun j => (cnL (setI M 0 14 0) 28 n).1 141 j - (cnL (setI M 0 14 0) 28 n).1 144 j) n = fsum (fun k => M.1 29 k - M.1 32 k) n := fsum_congr fun j hj => by
    rw [ec 141 j (by omega), ec 144 j (by omega), show M.1 141 j = M.1 29 j from (ag.1.1 j hj).1, show M.1 144 j = M.1 32 j from (ag.1.1 j hj).2.2.2.1]
  rw [e1] at hM
  refine two_t h hC hM ⟨fun a j q1 q2 q3 q4 => ?_, rfl⟩ ?_ ?_ sI_eq
  · have z : (nnM (cnL (setI M 0 14 0) 28 n) n).1 a j = (tkM (t0 (cnL (setI M 0 14 0) 28 n)) n).1 a j := sI_ne (by omega)
    rw [z]
    show (if a = 145 ∧ j < n then _ else (t0 (cnL (setI M 0 14 0) 28 n)).1 a j) = _
    have n8 := q.n8
    rw [if_neg (fun y => by rw [y.1] at q3; unfold psK psL at q3; rw [if_neg (by omega), if_neg (by omega), if_neg (by omega), if_neg (by omega), if_neg (by omega), if_neg (by omega), if_pos ⟨rfl, by omega⟩] at q3; omega), t0_o (by omega), cnL_o (by omega), sI_ne (by omega)]
  · have v1 : view (nnM (cnL (setI M 0 14 0) 28 n) n) 28 = noonT (view M 28) n := by
      funext c j
      unfold noonT view
      by_cases hc : c < 15
      · rw [if_pos hc, if_pos hc]
        have z : (nnM (cnL (setI M 0 14 0) 28 n) n).1 (28 + 1 + c) j = (tkM (t0 (cnL (setI M 0 14 0) 28 n)) n).1 (28 + 1 + c) j := sI_ne (by omega)
        rw [z]
        show (if 28 + 1 + c = 145 ∧ j < n then _ else (t0 (cnL (setI M 0 14 0) 28 n)).1 (28 + 1 + c) j) = _
        rw [if_neg (by omega), t0_o (by omega)]
        show (if 28 + 1 + c = 28 + 5 ∧ j < n then (setI M 0 14 0).1 (28 + 1) j - (setI M 0 14 0).1 (28 + 4) j else (setI M 0 14 0).1 (28 + 1 + c) j) = _
        by_cases h4 : c = 4 ∧ j < n
        · rw [if_pos ⟨by omega, h4.2⟩, if_pos h4, sI_na (by omega), sI_na (by omega)]
          rfl
        · rw [if_neg (fun y => h4 ⟨by omega, y.2⟩), if_neg h4, sI_na (by omega)]
      · rw [if_neg hc, if_neg hc, if_neg (by omega)]
        have z : (nnM (cnL (setI M 0 14 0) 28 n) n).1 28 c = (tkM (t0 (cnL (setI M 0 14 0) 28 n)) n).1 28 c := sI_ne (by omega)
        rw [z, tkM_far (by omega), t0_o (by omega), cnL_o (by omega), sI_na (by omega)]
    have v2 : mv (nnM (cnL (setI M 0 14 0) 28 n) n) = noonT (mv M) n := by
      have em : mv (cnL (setI M 0 14 0) 28 n) = mv M := mv_eq ec
      rw [← em]
      funext c j
      unfold noonT
      by_cases h4 : c = 4 ∧ j < n
      · rw [if_pos h4, h4.1]
        show (nnM (cnL (setI M 0 14 0) 28 n) n).1 145 j = _
        have z : (nnM (cnL (setI M 0 14 0) 28 n) n).1 145 j = (tkM (t0 (cnL (setI M 0 14 0) 28 n)) n).1 145 j := sI_ne (by omega)
        rw [z, tk_145 h4.2]
        rfl
      · rw [if_neg h4]
        by_cases hc : c ≠ 5 ∧ c < 20
        · rw [mv_mo hc, mv_mo hc]
          have hc2 : c = 0 ∨ c = 1 ∨ c = 2 ∨ c = 3 ∨ c = 4 ∨ c = 6 ∨ c = 7 ∨ c = 8 ∨ c = 9 ∨ c = 10 ∨ c = 11 ∨ c = 12 ∨ c = 13 ∨ c = 14 ∨ c = 15 ∨ c = 16 ∨ c = 17 ∨ c = 18 ∨ c = 19 := by omega
          have z : (nnM (cnL (setI M 0 14 0) 28 n) n).1 (mo c) (mj c j) = (tkM (t0 (cnL (setI M 0 14 0) 28 n)) n).1 (mo c) (mj c j) := sI_ne (by rcases hc2 with rfl | rfl | rfl | rfl | rfl | rfl | rfl | rfl | rfl | rfl | rfl | rfl | rfl | rfl | rfl | rfl | rfl | rfl | rfl <;> simp [mo, mj])
          rw [z]
          show (if mo c = 145 ∧ mj c j < n then _ else (t0 (cnL (setI M 0 14 0) 28 n)).1 (mo c) (mj c j)) = _
          rw [if_neg (by rcases hc2 with rfl | rfl | rfl | rfl | rfl | rfl | rfl | rfl | rfl | rfl | rfl | rfl | rfl | rfl | rfl | rfl | rfl | rfl | rfl <;> simp [mo, mj] at h4 ⊢ <;> omega)]
          exact t0_o (by rcases hc2 with rfl | rfl | rfl | rfl | rfl | rfl | rfl | rfl | rfl | rfl | rfl | rfl | rfl | rfl | rfl | rfl | rfl | rfl | rfl <;> simp [mo, mj])
        · rw [mv_no hc, mv_no hc]
    rw [v1, v2]
    refine twP_of q.2.2.1 (noon_S q.2.2.1.1) ag.noon (fun c hc => ?_) (fun c hc => ?_)
    · funext j; exact if_neg (by omega)
    · funext j; exact if_neg (by omega)
  · have z : (nnM (cnL (setI M 0 14 0) 28 n) n).1 0 14 = (tkM (t0 (cnL (setI M 0 14 0) 28 n)) n).1 0 14 := sI_na (by omega)
    rw [z, tkM_far (by omega), t0_o (by omega), cnL_o (by omega)]
    exact sI_eq
