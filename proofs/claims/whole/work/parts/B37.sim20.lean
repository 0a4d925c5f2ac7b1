theorem keV_ps {M : Mem} {a j : Nat} (h : psK a j < 133) : keV M (psK a j) = M.1 a j := by
  by_cases h1 : a = 144 ∧ j < 8
  · rw [show psK a j = 101 + j from if_pos h1]
    unfold keV
    rw [if_neg (by omega), if_pos (by omega), Nat.add_sub_cancel_left, h1.1]
  · by_cases h2 : a = 158 ∧ j < 18
    · rw [show psK a j = 109 + j from (if_neg h1).trans (if_pos h2)]
      unfold keV
      rw [if_neg (by omega), if_neg (by omega), if_pos (by omega), Nat.add_sub_cancel_left, h2.1]
    · by_cases h3 : a = 140 ∧ j = 34
      · rw [show psK a j = 127 from (if_neg h1).trans ((if_neg h2).trans (if_pos h3))]
        unfold keV
        rw [if_neg (by omega), if_neg (by omega), if_neg (by omega), if_pos rfl, h3.1, h3.2]
      · by_cases h4 : a = 153 ∧ j < 4
        · rw [show psK a j = 128 + j from (if_neg h1).trans ((if_neg h2).trans ((if_neg h3).trans (if_pos h4)))]
          unfold keV
          rw [if_neg (by omega), if_neg (by omega), if_neg (by omega), if_neg (by omega), if_pos (by omega), Nat.add_sub_cancel_left, h4.1]
        · by_cases h5 : a = 140 ∧ j = 16
          · rw [show psK a j = 132 from (if_neg h1).trans ((if_neg h2).trans ((if_neg h3).trans ((if_neg h4).trans (if_pos h5))))]
            unfold keV
            rw [if_neg (by omega), if_neg (by omega), if_neg (by omega), if_neg (by omega), if_neg (by omega), h5.1, h5.2]
          · have e : psK a j = psL a j := (if_neg h1).trans ((if_neg h2).trans ((if_neg h3).trans ((if_neg h4).trans (if_neg h5))))
            rw [e] at h ⊢
            have h6 : psL a j < 101 := ps_ge (by omega)
            unfold keV
            rw [if_pos h6]
            exact lyV_ps h6
theorem ag_at {M : Mem} {k0 a j : Nat} : (agM M k0 133).1 a j = if psK a j < 133 then M.1 173 (k0 + psK a j) else M.1 a j := rfl
theorem pK_133 {a j : Nat} (h : ¬ psK a j < 133) : psK a j = 1000 := by
  by_cases h1 : a = 144 ∧ j < 8
  · exact absurd (show psK a j < 133 by rw [show psK a j = 101 + j from if_pos h1]; omega) h
  · by_cases h2 : a = 158 ∧ j < 18
    · exact absurd (show psK a j < 133 by rw [show psK a j = 109 + j from (if_neg h1).trans (if_pos h2)]; omega) h
    · by_cases h3 : a = 140 ∧ j = 34
      · exact absurd (show psK a j < 133 by rw [show psK a j = 127 from (if_neg h1).trans ((if_neg h2).trans (if_pos h3))]; omega) h
      · by_cases h4 : a = 153 ∧ j < 4
        · exact absurd (show psK a j < 133 by rw [show psK a j = 128 + j from (if_neg h1).trans ((if_neg h2).trans ((if_neg h3).trans (if_pos h4)))]; omega) h
        · by_cases h5 : a = 140 ∧ j = 16
          · exact absurd (show psK a j < 133 by rw [show psK a j = 132 from (if_neg h1).trans ((if_neg h2).trans ((if_neg h3).trans ((if_neg h4).trans (if_pos h5))))]; omega) h
          · have e : psK a j = psL a j := (if_neg h1).trans ((if_neg h2).trans ((if_neg h3).trans ((if_neg h4).trans (if_neg h5))))
            rw [e] at h ⊢
            by_cases h6 : psL a j < 1000
            · exact absurd (Nat.lt_of_lt_of_le (ps_ge h6) (by omega)) h
            · have : psL a j ≤ 1000 := by
                unfold psL
                repeat' split
                all_goals omega
              omega
/-- a town is kept -/
theorem simK_new {M K : Mem} {n m dx tn s t f : Nat} (h : twP (view M 28) (mv M) n m dx) (e1 : K.1 0 f = 1) (e2 : K.1 174 s = 1) (e3 : K.1 175 s = nI tn) (al : alk (view M 28) (view K t)) (hk : ∀ q, q < 133 → K.1 173 (133 * s + q) = keV M q) (em : ∀ a b, 140 ≤ a → ¬ (173 ≤ a ∧ a ≤ 175) → ¬ (a = 140 ∧ b = 21) → K.1 a b = M.1 a b) : simK K n m dx tn s t f := by
  refine Or.inr ⟨e1, e2, n, m, tn, Nat.le_refl _, Nat.le_refl _, e3, Or.inl ⟨rfl, rfl, rfl⟩, ?_⟩
  have ev : mv (agM K (133 * s) 133) = mv M := by
    funext c j
    by_cases hc : c ≠ 5 ∧ c < 20
    · rw [mv_mo hc, mv_mo hc, ag_at]
      obtain ⟨m1, m2, m3, m4, m5, m6, m7, m8, m9⟩ := mo_j (j := j) hc
      split
      · next q => rw [hk _ q]; exact keV_ps q
      · refine em _ _ ?_ ?_ ?_
        · unfold mo; repeat' split
          all_goals omega
        · unfold mo; repeat' split
          all_goals omega
        · intro z
          have := (mo_0 (j := j) hc).2.2.2
          exact this ⟨z.1, Or.inl z.2⟩
    · rw [mv_no hc, mv_no hc]
  rw [ev]
  exact twP_alk h al
theorem simK_old {M K : Mem} {n m dx tn s t f : Nat} (h : simK M n m dx tn s t f) (e1 : K.1 0 f = M.1 0 f) (e2 : K.1 174 s = M.1 174 s) (e3 : K.1 175 s = M.1 175 s) (al : view K t = view M t) (hk : ∀ q, q < 133 → K.1 173 (133 * s + q) = M.1 173 (133 * s + q)) (em : ∀ a b, 140 ≤ a → psK a b = 1000 → ¬ (173 ≤ a ∧ a ≤ 175) → ¬ (a = 140 ∧ (b = 21 ∨ b = 32)) → K.1 a b = M.1 a b) : simK K n m dx tn s t f := by
  unfold simK at h ⊢
  have ev : mv (agM K (133 * s) 133) = mv (agM M (133 * s) 133) := by
    funext c j
    by_cases hc : c ≠ 5 ∧ c < 20
    · rw [mv_mo hc, mv_mo hc, ag_at, ag_at]
      split
      · next q => exact hk _ q
      · next q =>
        refine em _ _ ?_ (pK_133 q) ?_ ?_
        · unfold mo; repeat' split
          all_goals omega
        · unfold mo; repeat' split
          all_goals omega
        · intro z
          exact (mo_0 (j := j) hc).2.2.2 z
    · rw [mv_no hc, mv_no hc]
  rw [e1, e2, e3, al, ev]
  exact h
theorem sim_kk {M K : Mem} {n m dx tn : Nat} (h : Sim M n m dx tn) (ek : ∀ a b, ¬ (60 ≤ a ∧ a ≤ 91) → ¬ (a = 0 ∧ (b = 15 ∨ b = 16)) → ¬ (173 ≤ a ∧ a ≤ 175) → ¬ (a = 140 ∧ b = 21) → K.1 a b = M.1 a b) (e2 : K.2.1 = M.2.1) (k0 : simK K n m dx tn 0 60 15) (k1 : simK K n m dx tn 1 76 16) : Sim K n m dx tn := by
  have fa : ∀ {a b : Nat}, ¬ (60 ≤ a ∧ a ≤ 91) → ¬ (a = 0 ∧ (b = 15 ∨ b = 16)) → ¬ (173 ≤ a ∧ a ≤ 175) → ¬ (a = 140 ∧ b = 21) → K.1 a b = M.1 a b := fun {a b} => ek a b
  have em : mv K = mv M := by
    funext c j
    by_cases hc : c ≠ 5 ∧ c < 20
    · rw [mv_mo hc, mv_mo hc]
      have hb : 140 ≤ mo c ∧ mo c ≤ 158 := by
        unfold mo; repeat' split
        all_goals omega
      exact fa (by omega) (by omega) (by omega) (fun z => (mo_0 (j := j) hc).2.2.2 ⟨z.1, Or.inl z.2⟩)
    · rw [mv_no hc, mv_no hc]
  have ev : view K 28 = view M 28 := by
    funext c j
    unfold view
    by_cases hc : c < 15
    · rw [if_pos hc, if_pos hc]; exact fa (by omega) (by omega) (by omega) (by omega)
    · rw [if_neg hc, if_neg hc]; exact fa (by omega) (by omega) (by omega) (by omega)
  obtain ⟨a1, a2, a3, a4, a5, a6, a7, ⟨u, u1, u2, u3, u4, u5⟩, a9, a10, a11⟩ := h
  refine ⟨a1.keep (fa (by omega) (by omega) (by omega) (by omega)) (fa (by omega) (by omega) (by omega) (by omega)) (fun _ _ => fa (by omega) (by omega) (by omega) (by omega)) (fun _ _ => fa (by omega) (by omega) (by omega) (by omega)), a2.keep (fa (by omega) (by omega) (by omega) (by omega)) (fa (by omega) (by omega) (by omega) (by omega)) (fun _ _ => fa (by omega) (by omega) (by omega) (by omega)) (fun _ _ => fa (by omega) (by omega) (by omega) (by omega)), by rw [ev, em]; exact a3, ⟨(fa (by omega) (by omega) (by omega) (by omega)).trans a4.1, a4.2⟩,
    simX_k a5 (fa (by omega) (by omega) (by omega) (by omega)) (fa (by omega) (by omega) (by omega) (by omega)) (fun _ => fa (by omega) (by omega) (by omega) (by omega)) (fun _ => fa (by omega) (by omega) (by omega) (by omega)), simR_k a6 (fa (by omega) (by omega) (by omega) (by omega)) (fa (by omega) (by omega) (by omega) (by omega)) (fun _ => fa (by omega) (by omega) (by omega) (by omega)) (fun _ => fa (by omega) (by omega) (by omega) (by omega)), simW_kk a7 (fa (by omega) (by omega) (by omega) (by omega)) (fa (by omega) (by omega) (by omega) (by omega)) (by rw [e2]) (by rw [e2]),
    ⟨u, u1, (fa (by omega) (by omega) (by omega) (by omega)).trans u2, (fa (by omega) (by omega) (by omega) (by omega)).trans u3, fun b hb => ?_, ?_⟩, k0, k1, SV_cg a11 (fun _ _ _ _ => fa (by omega) (by omega) (by omega) (by omega)) (fun _ _ _ => by rw [e2]) (fun _ _ _ _ => fa (by omega) (by omega) (by omega) (by omega)) ⟨fun _ _ => ⟨fa (by omega) (by omega) (by omega) (by omega), fa (by omega) (by omega) (by omega) (by omega)⟩, fun _ _ => ⟨fa (by omega) (by omega) (by omega) (by omega), fa (by omega) (by omega) (by omega) (by omega), fa (by omega) (by omega) (by omega) (by omega), fa (by omega) (by omega) (by omega) (by omega)⟩⟩⟩
  · rw [fa (a := 1) (b := b) (by omega) (by omega) (by omega) (by omega), fa (a := 157) (b := b) (by omega) (by omega) (by omega) (by omega)]; exact u4 b hb
  · rw [ev, show K.1 1 = M.1 1 from funext fun b => fa (by omega) (by omega) (by omega) (by omega)]; exact u5
theorem s_keep {M : Mem} {n m dx tn : Nat} (h : Sim M n m dx tn) (x : Int32) : Two yX10_keep cX10_keep 2 (some .boolean) 2 yX11_keep cX11_keep 4 1 [.int x] M n m dx tn := by
  have q := h.q
  have ag := q.ag
  have hO := q.okC
  have n8 := q.n8
  have m10 := q.m10
  by_cases hx : 0 ≤ x ∧ x ≤ 1
  · obtain ⟨i, hi, rfl⟩ := rngJ (n := 1) hx (by omega)
    rcases (show i = 0 ∨ i = 1 by omega) with rfl | rfl
    · skip
      have hC : Fun yX10_keep cX10_keep 2 (some .boolean) 2 [.ref 0, .int (nI 0)] M (some (.int 1)) (setI (cpM M 60 28) 0 15 1) := c_X10_keep0
      have hM := c_X11_keep (M := setI (cpM M 60 28) 0 15 1) (i := 0) (by omega)
      have ec : ∀ a b, ¬ (60 ≤ a ∧ a ≤ 60 + 15) → ¬ (a = 0 ∧ b = 15) → (setI (cpM M 60 28) 0 15 1).1 a b = M.1 a b := fun a b h1 h2 => by rw [sI_ne h2, cpM_o (by omega)]
      obtain ⟨N, eN⟩ : ∃ N, N = setI (cpM M 60 28) 0 15 1 := ⟨_, rfl⟩
      rw [← eN] at hC hM ec
      obtain ⟨N2, eN2⟩ : ∃ N2, N2 = setI (setI (t0 N) 174 0 1) 175 0 (N.1 140 55) := ⟨_, rfl⟩
      rw [← eN2] at hM
      have e0 : N.1 0 15 = 1 := by rw [eN]; exact sI_eq
      have el : N.2 = M.2 := by rw [eN]; rfl
      have ed : ∀ a b, ¬ (a = 174 ∧ b = 0) → ¬ (a = 175 ∧ b = 0) → ¬ (a = 140 ∧ b = 21) → N2.1 a b = N.1 a b := fun a b h1 h2 h3 => by rw [eN2, sI_ne h2, sI_ne h1, t0_o h3]
      have e174 : N2.1 174 0 = 1 := by rw [eN2, sI_na (by omega)]; exact sI_eq
      have e175 : N2.1 175 0 = nI tn := by rw [eN2]; exact sI_eq.trans ((ec 140 55 (by omega) (by omega)).trans q.2.2.2.1.1)
      have el2 : N2.2 = M.2 := by rw [eN2]; exact el
      have eke : ∀ a b, a ≠ 173 → (keM N2 (133 * 0) 133).1 a b = N2.1 a b := fun a b h1 => ke_o h1
      have ek : ∀ a b, ¬ (60 ≤ a ∧ a ≤ 60 + 15) → ¬ (a = 0 ∧ b = 15) → a ≠ 173 → ¬ (a = 174 ∧ b = 0) → ¬ (a = 175 ∧ b = 0) → ¬ (a = 140 ∧ b = 21) → (keM N2 (133 * 0) 133).1 a b = M.1 a b := fun a b h1 h2 h3 h4 h5 h6 => by rw [eke a b h3, ed a b h4 h5 h6, ec a b h1 h2]
      have ekV : ∀ x, keV N2 x = keV M x := fun x => by
        have em : ∀ a b, 140 ≤ a → a ≤ 158 → ¬ (a = 140 ∧ b = 21) → N2.1 a b = M.1 a b := fun a b h1 h2 h3 => by rw [ed a b (by omega) (by omega) h3, ec a b (by omega) (by omega)]
        unfold keV
        rw [lyV_o (fun a b hh => em a b (by omega) (by omega) (by omega)), em 144 _ (by omega) (by omega) (by omega), em 158 _ (by omega) (by omega) (by omega), em 140 34 (by omega) (by omega) (by omega), em 153 _ (by omega) (by omega) (by omega), em 140 16 (by omega) (by omega) (by omega)]
      have hnew : simK (keM N2 (133 * 0) 133) n m dx tn 0 60 15 := by
        refine simK_new q.2.2.1 ((eke 0 15 (by omega)).trans ((ed 0 15 (by omega) (by omega) (by omega)).trans e0)) ((eke 174 0 (by omega)).trans e174) ((eke 175 0 (by omega)).trans e175) (fun c h5 h20 => ?_) (fun x hx => ?_) (fun a b h1 h2 h3 => ek a b (by omega) (by omega) (by omega) (by omega) (by omega) h3)
        · have y : view (keM N2 (133 * 0) 133) 60 c = view (cpM M 60 28) 60 c := by
            funext j
            unfold view
            split
            · rw [eke _ _ (by omega), ed _ _ (by omega) (by omega) (by omega), eN, sI_na (by omega)]
            · rw [eke _ _ (by omega), ed _ _ (by omega) (by omega) (by omega), eN, sI_na (by omega)]
          rw [y]; exact view_cp c h5 h20
        · rw [show (keM N2 (133 * 0) 133).1 173 (133 * 0 + x) = keV N2 (133 * 0 + x - 133 * 0) from if_pos ⟨rfl, by omega, by omega⟩, Nat.add_sub_cancel_left, ekV]
      have hold : simK (keM N2 (133 * 0) 133) n m dx tn 1 76 16 := by
        refine simK_old h.2.2.2.2.2.2.2.2.2.1 (ek _ _ (by omega) (by omega) (by omega) (by omega) (by omega) (by omega)) (ek _ _ (by omega) (by omega) (by omega) (by omega) (by omega) (by omega)) (ek _ _ (by omega) (by omega) (by omega) (by omega) (by omega) (by omega)) ?_ (fun x hx => ?_) (fun a b h1 h0 h2 h3 => ek a b (by omega) (by omega) (by omega) (by omega) (by omega) (by omega))
        · funext c j
          unfold view
          by_cases hc : c < 15
          · rw [if_pos hc, if_pos hc]; exact ek _ _ (by omega) (by omega) (by omega) (by omega) (by omega) (by omega)
          · rw [if_neg hc, if_neg hc]; exact ek _ _ (by omega) (by omega) (by omega) (by omega) (by omega) (by omega)
        · have y : (keM N2 (133 * 0) 133).1 173 (133 * 1 + x) = N2.1 173 (133 * 1 + x) := if_neg (by omega)
          rw [y, ed _ _ (by omega) (by omega) (by omega), ec _ _ (by omega) (by omega)]
      exact two_f hC hM ⟨n, m, tn, (sim_kk h (fun a b h1 h2 h3 h4 => ek a b (by omega) (by omega) (by omega) (by omega) (by omega) h4) (congrArg Prod.fst el2) hnew hold).dx (by omega)⟩
    · skip
      have hC : Fun yX10_keep cX10_keep 2 (some .boolean) 2 [.ref 0, .int (nI 1)] M (some (.int 1)) (setI (cpM M 76 28) 0 16 1) := c_X10_keep1
      have hM := c_X11_keep (M := setI (cpM M 76 28) 0 16 1) (i := 1) (by omega)
      have ec : ∀ a b, ¬ (76 ≤ a ∧ a ≤ 76 + 15) → ¬ (a = 0 ∧ b = 16) → (setI (cpM M 76 28) 0 16 1).1 a b = M.1 a b := fun a b h1 h2 => by rw [sI_ne h2, cpM_o (by omega)]
      obtain ⟨N, eN⟩ : ∃ N, N = setI (cpM M 76 28) 0 16 1 := ⟨_, rfl⟩
      rw [← eN] at hC hM ec
      obtain ⟨N2, eN2⟩ : ∃ N2, N2 = setI (setI (t0 N) 174 1 1) 175 1 (N.1 140 55) := ⟨_, rfl⟩
      rw [← eN2] at hM
      have e0 : N.1 0 16 = 1 := by rw [eN]; exact sI_eq
      have el : N.2 = M.2 := by rw [eN]; rfl
      have ed : ∀ a b, ¬ (a = 174 ∧ b = 1) → ¬ (a = 175 ∧ b = 1) → ¬ (a = 140 ∧ b = 21) → N2.1 a b = N.1 a b := fun a b h1 h2 h3 => by rw [eN2, sI_ne h2, sI_ne h1, t0_o h3]
      have e174 : N2.1 174 1 = 1 := by rw [eN2, sI_na (by omega)]; exact sI_eq
      have e175 : N2.1 175 1 = nI tn := by rw [eN2]; exact sI_eq.trans ((ec 140 55 (by omega) (by omega)).trans q.2.2.2.1.1)
      have el2 : N2.2 = M.2 := by rw [eN2]; exact el
      have eke : ∀ a b, a ≠ 173 → (keM N2 (133 * 1) 133).1 a b = N2.1 a b := fun a b h1 => ke_o h1
      have ek : ∀ a b, ¬ (76 ≤ a ∧ a ≤ 76 + 15) → ¬ (a = 0 ∧ b = 16) → a ≠ 173 → ¬ (a = 174 ∧ b = 1) → ¬ (a = 175 ∧ b = 1) → ¬ (a = 140 ∧ b = 21) → (keM N2 (133 * 1) 133).1 a b = M.1 a b := fun a b h1 h2 h3 h4 h5 h6 => by rw [eke a b h3, ed a b h4 h5 h6, ec a b h1 h2]
      have ekV : ∀ x, keV N2 x = keV M x := fun x => by
        have em : ∀ a b, 140 ≤ a → a ≤ 158 → ¬ (a = 140 ∧ b = 21) → N2.1 a b = M.1 a b := fun a b h1 h2 h3 => by rw [ed a b (by omega) (by omega) h3, ec a b (by omega) (by omega)]
        unfold keV
        rw [lyV_o (fun a b hh => em a b (by omega) (by omega) (by omega)), em 144 _ (by omega) (by omega) (by omega), em 158 _ (by omega) (by omega) (by omega), em 140 34 (by omega) (by omega) (by omega), em 153 _ (by omega) (by omega) (by omega), em 140 16 (by omega) (by omega) (by omega)]
      have hnew : simK (keM N2 (133 * 1) 133) n m dx tn 1 76 16 := by
        refine simK_new q.2.2.1 ((eke 0 16 (by omega)).trans ((ed 0 16 (by omega) (by omega) (by omega)).trans e0)) ((eke 174 1 (by omega)).trans e174) ((eke 175 1 (by omega)).trans e175) (fun c h5 h20 => ?_) (fun x hx => ?_) (fun a b h1 h2 h3 => ek a b (by omega) (by omega) (by omega) (by omega) (by omega) h3)
        · have y : view (keM N2 (133 * 1) 133) 76 c = view (cpM M 76 28) 76 c := by
            funext j
            unfold view
            split
            · rw [eke _ _ (by omega), ed _ _ (by omega) (by omega) (by omega), eN, sI_na (by omega)]
            · rw [eke _ _ (by omega), ed _ _ (by omega) (by omega) (by omega), eN, sI_na (by omega)]
          rw [y]; exact view_cp c h5 h20
        · rw [show (keM N2 (133 * 1) 133).1 173 (133 * 1 + x) = keV N2 (133 * 1 + x - 133 * 1) from if_pos ⟨rfl, by omega, by omega⟩, Nat.add_sub_cancel_left, ekV]
      have hold : simK (keM N2 (133 * 1) 133) n m dx tn 0 60 15 := by
        refine simK_old h.2.2.2.2.2.2.2.2.1 (ek _ _ (by omega) (by omega) (by omega) (by omega) (by omega) (by omega)) (ek _ _ (by omega) (by omega) (by omega) (by omega) (by omega) (by omega)) (ek _ _ (by omega) (by omega) (by omega) (by omega) (by omega) (by omega)) ?_ (fun x hx => ?_) (fun a b h1 h0 h2 h3 => ek a b (by omega) (by omega) (by omega) (by omega) (by omega) (by omega))
        · funext c j
          unfold view
          by_cases hc : c < 15
          · rw [if_pos hc, if_pos hc]; exact ek _ _ (by omega) (by omega) (by omega) (by omega) (by omega) (by omega)
          · rw [if_neg hc, if_neg hc]; exact ek _ _ (by omega) (by omega) (by omega) (by omega) (by omega) (by omega)
        · have y : (keM N2 (133 * 1) 133).1 173 (133 * 0 + x) = N2.1 173 (133 * 0 + x) := if_neg (by omega)
          rw [y, ed _ _ (by omega) (by omega) (by omega), ec _ _ (by omega) (by omega)]
      exact two_f hC hM ⟨n, m, tn, (sim_kk h (fun a b h1 h2 h3 h4 => ek a b (by omega) (by omega) (by omega) (by omega) (by omega) h4) (congrArg Prod.fst el2) hold hnew).dx (by omega)⟩
  · exact two_0 h (c_X10_keep_no (fun z => hx (by rw [z]; decide)) (fun z => hx (by rw [z]; decide))) (c_X11_keep_no hx)
/-- a kept town is brought back -/
theorem sim_again {M K : Mem} {n m dx tn s t : Nat} (h : Sim M n m dx tn) (hp : twP (view M t) (mv (agM M (133 * s) 133)) n m dx) (ec : ∀ a b, a < 140 → ¬ (28 ≤ a ∧ a ≤ 43) → ¬ (a = 0 ∧ b = 14) → K.1 a b = M.1 a b) (al : alk (view M t) (view K 28)) (mk : mv K = mv (agM M (133 * s) 133)) (em : ∀ a b, 140 ≤ a → psK a b = 1000 → ¬ (a = 140 ∧ (b = 21 ∨ b = 32)) → K.1 a b = M.1 a b) (e14 : K.1 0 14 = 0) (e32 : K.1 140 32 = 0) (e2 : K.2.1 = M.2.1) : Sim K n m dx tn := by
  have p : twP (view K 28) (mv K) n m dx := by rw [mk]; exact twP_alk hp al
  have n8 := h.q.n8
  have m10 := h.q.m10
  have ag := h.q.ag
  have st : ∀ c j, (c = 1 ∨ c = 2) → j < n → view K 28 c j = view M 28 c j := fun c j hc hj => by
    have y1 : view K 28 c j = view M t c j := congrFun (al c (by omega) (by omega)) j
    have y3 : mv (agM M (133 * s) 133) c j = mv M c j := by
      rw [mv_mo (by omega), mv_mo (by omega), ag_at]
      obtain ⟨m1, m2, m3, m4, m5, m6, m7, m8, m9⟩ := mo_j (c := c) (j := j) (by omega)
      rw [if_neg]
      rw [(m1 (by omega)).1, (m1 (by omega)).2, pK_far (by omega) (by omega)]
      omega
    rw [y1]
    rcases hc with rfl | rfl
    · exact (hp.2.1.1.1 j hj).2.1.symm.trans (y3.trans (ag.1.1 j hj).2.1)
    · exact (hp.2.1.1.1 j hj).2.2.1.symm.trans (y3.trans (ag.1.1 j hj).2.2.1)
  have sd : ∀ c j, (6 ≤ c ∧ c ≤ 9) → j < m → view K 28 c j = view M 28 c j := fun c j hc hj => by
    have y1 : view K 28 c j = view M t c j := congrFun (al c (by omega) (by omega)) j
    have y3 : mv (agM M (133 * s) 133) c j = mv M c j := by
      rw [mv_mo (by omega), mv_mo (by omega), ag_at]
      obtain ⟨m1, m2, m3, m4, m5, m6, m7, m8, m9⟩ := mo_j (c := c) (j := j) (by omega)
      rw [if_neg]
      rw [(m2 (by omega)).1, (m2 (by omega)).2, pK_far (by omega) (by omega)]
      omega
    rw [y1]
    rcases (show c = 6 ∨ c = 7 ∨ c = 8 ∨ c = 9 by omega) with rfl | rfl | rfl | rfl
    · exact (hp.2.1.1.2.1 j hj).1.symm.trans (y3.trans (ag.1.2.1 j hj).1)
    · exact (hp.2.1.1.2.1 j hj).2.1.symm.trans (y3.trans (ag.1.2.1 j hj).2.1)
    · exact (hp.2.1.1.2.1 j hj).2.2.1.symm.trans (y3.trans (ag.1.2.1 j hj).2.2.1)
    · exact (hp.2.1.1.2.1 j hj).2.2.2.1.symm.trans (y3.trans (ag.1.2.1 j hj).2.2.2.1)
  have fm : ∀ {a b : Nat}, 140 ≤ a → ¬ (a = 140 ∧ (b = 15 ∨ b = 16 ∨ b = 34)) → ¬ (a = 141 ∨ a = 144 ∨ a = 145 ∨ a = 146 ∨ a = 151 ∨ a = 152 ∨ a = 153 ∨ a = 158) → ¬ (a = 140 ∧ (b = 21 ∨ b = 32)) → K.1 a b = M.1 a b := fun {a b} h1 h2 h3 h4 => em a b h1 (pK_far h2 h3) h4
  have fc : ∀ {a b : Nat}, a < 140 → ¬ (28 ≤ a ∧ a ≤ 43) → ¬ (a = 0 ∧ b = 14) → K.1 a b = M.1 a b := fun {a b} => ec a b
  have ev : ∀ t, t = 60 ∨ t = 76 → view K t = view M t := fun t ht => by
    funext c j
    unfold view
    by_cases hc : c < 15
    · rw [if_pos hc, if_pos hc]; exact fc (by omega) (by omega) (by omega)
    · rw [if_neg hc, if_neg hc]; exact fc (by omega) (by omega) (by omega)
  obtain ⟨a1, a2, a3, a4, a5, a6, a7, a8, a9, a10, a11⟩ := h
  refine ⟨TW_w p.1.1.2.1 p.1.1.2.2 n8 m10 p.1.1.1, a2.keep (fm (by omega) (by omega) (by omega) (by omega)) (fm (by omega) (by omega) (by omega) (by omega)) (fun _ _ => fm (by omega) (by omega) (by omega) (by omega)) (fun _ _ => fm (by omega) (by omega) (by omega) (by omega)), p, ⟨(fm (by omega) (by omega) (by omega) (by omega)).trans a4.1, a4.2⟩,
    simX_k a5 (fc (by omega) (by omega) (by omega)) (fm (by omega) (by omega) (by omega) (by omega)) (fun _ => fc (by omega) (by omega) (by omega)) (fun _ => fm (by omega) (by omega) (by omega) (by omega)), simR_k a6 (fc (by omega) (by omega) (by omega)) (fm (by omega) (by omega) (by omega) (by omega)) (fun _ => fc (by omega) (by omega) (by omega)) (fun _ => fm (by omega) (by omega) (by omega) (by omega)), simW_kk a7 (fc (by omega) (by omega) (by omega)) (fm (by omega) (by omega) (by omega) (by omega)) (by rw [e2]) (by rw [e2]),
    simU_0 e14 e32, simK_old a9 (fc (by omega) (by omega) (by omega)) (fm (by omega) (by omega) (by omega) (by omega)) (fm (by omega) (by omega) (by omega) (by omega)) (ev 60 (by omega)) (fun _ _ => fm (by omega) (by omega) (by omega) (by omega)) (fun a b h1 h2 _ h4 => em a b h1 h2 h4), simK_old a10 (fc (by omega) (by omega) (by omega)) (fm (by omega) (by omega) (by omega) (by omega)) (fm (by omega) (by omega) (by omega) (by omega)) (ev 76 (by omega)) (fun _ _ => fm (by omega) (by omega) (by omega) (by omega)) (fun a b h1 h2 _ h4 => em a b h1 h2 h4),
    SV_cg a11 (fun _ _ _ _ => fc (by omega) (by omega) (by omega)) (fun _ _ _ => by rw [e2]) (fun _ _ _ _ => fc (by omega) (by omega) (by omega)) ⟨fun j hj => ⟨st 1 j (by omega) hj, st 2 j (by omega) hj⟩, fun j hj => ⟨sd 6 j (by omega) hj, sd 7 j (by omega) hj, sd 8 j (by omega) hj, sd 9 j (by omega) hj⟩⟩⟩
theorem s_again {M : Mem} {n m dx tn : Nat} (h : Sim M n m dx tn) (x : Int32) : Two yX10_again cX10_again 2 (some .boolean) 3 yX11_again cX11_again 4 1 [.int x] M n m dx tn := by
  have q := h.q
  have ag := q.ag
  have hO := q.okC
  have n8 := q.n8
  have m10 := q.m10
  by_cases hx : 0 ≤ x ∧ x ≤ 1
  · obtain ⟨i, hi, rfl⟩ := rngJ (n := 1) hx (by omega)
    rcases (show i = 0 ∨ i = 1 by omega) with rfl | rfl
    · skip
      have hk := h.2.2.2.2.2.2.2.2.1
      rcases hk with ⟨k1, k2⟩ | ⟨k1, k2, n1, m1, t1, k3, k4, k5, k6, k7⟩
      · have hC : Fun yX10_again cX10_again 2 (some .boolean) 3 [.ref 0, .int (nI 0)] M (some (.int 0)) M := c_X10_again0_no (fun z => z.1 k1)
        exact two_0 h hC (c_X11_again_no fun z => z.2.1 (by rw [nI_clamp (by omega)]; exact k2))
      · have c15 : M.1 60 15 = nI n1 := k7.1.1.2.1
        have c16 : M.1 60 16 = nI m1 := k7.1.1.2.2
        rcases k6 with ⟨rfl, rfl, rfl⟩ | ⟨z1, z2⟩
        · have hC : Fun yX10_again cX10_again 2 (some .boolean) 3 [.ref 0, .int (nI 0)] M (some (.int 1)) (setI (cpM M 28 60) 0 14 0) := c_X10_again0 (by rw [k1]; decide) (c15.trans q.1.1.symm) (c16.trans q.1.2.2.1.symm)
          have e140 : ∀ a b, 140 ≤ a → (setI (cpM M 28 60) 0 14 0).1 a b = M.1 a b := fun a b h1 => by rw [sI_na (by omega), cpM_o (by omega)]
          have hM := c_X11_again (M := setI (cpM M 28 60) 0 14 0) (i := 0) (by omega) (by rw [e140 174 _ (by omega), k2]; decide) (by rw [e140 175 _ (by omega), e140 140 55 (by omega), k5]; exact q.2.2.2.1.1.symm)
          have em : ∀ a b, 140 ≤ a → ¬ (a = 140 ∧ (b = 21 ∨ b = 32)) → (setI (agM (t0 (setI (cpM M 28 60) 0 14 0)) (133 * 0) 133) 140 32 0).1 a b = (agM M (133 * 0) 133).1 a b := fun a b h1 h2 => by
            rw [sI_ne (by omega), ag_at, ag_at, t0_o (by omega), t0_o (by omega), e140 _ _ h1, e140 173 _ (by omega)]
          have ec : ∀ a b, a < 140 → (setI (agM (t0 (setI (cpM M 28 60) 0 14 0)) (133 * 0) 133) 140 32 0).1 a b = (setI (cpM M 28 60) 0 14 0).1 a b := fun a b h1 => by
            rw [sI_na (by omega), ag_at, pK_far (by omega) (by omega), if_neg (by omega), t0_o (by omega)]
          refine two_f hC hM ⟨n1, m1, t1, (sim_again (K := setI (agM (t0 (setI (cpM M 28 60) 0 14 0)) (133 * 0) 133) 140 32 0) (t := 60) (s := 0) h k7 (fun a b h1 h2 h3 => ?_) (fun c h5 h20 => ?_) ?_ (fun a b h1 h2 h3 => ?_) ?_ sI_eq rfl).dx (by omega)⟩
          · rw [ec a b h1, sI_ne h3, cpM_o (by omega)]
          · have y : view (setI (agM (t0 (setI (cpM M 28 60) 0 14 0)) (133 * 0) 133) 140 32 0) 28 c = view (cpM M 28 60) 28 c := by
              funext j
              unfold view
              by_cases hc : c < 15
              · rw [if_pos hc, if_pos hc, ec _ _ (by omega), sI_na (by omega)]
              · rw [if_neg hc, if_neg hc, ec _ _ (by omega), sI_na (by omega)]
            rw [y]; exact view_cp c h5 h20
          · funext c j
            by_cases hc : c ≠ 5 ∧ c < 20
            · rw [mv_mo hc, mv_mo hc]
              refine em _ _ ?_ (mo_0 (j := j) hc).2.2.2
              unfold mo; repeat' split
              all_goals omega
            · rw [mv_no hc, mv_no hc]
          · rw [em a b h1 h3, ag_at, h2, if_neg (by omega)]
          · rw [ec _ _ (by omega)]; exact sI_eq
        · have hC : Fun yX10_again cX10_again 2 (some .boolean) 3 [.ref 0, .int (nI 0)] M (some (.int 0)) M := c_X10_again0_no (fun z => by
            have y1 := eq_nI (by omega) (by omega) (c15.symm.trans (z.2.1.trans q.1.1))
            have y2 := eq_nI (by omega) (by omega) (c16.symm.trans (z.2.2.trans q.1.2.2.1))
            omega)
          refine two_0 h hC (c_X11_again_no fun z => ?_)
          have y := z.2.2
          rw [nI_clamp (by omega), k5, q.2.2.2.1.1] at y
          have y2 := q.2.2.2.1.2
          have y3 := eq_nI (by omega) (by omega) y
          omega
    · skip
      have hk := h.2.2.2.2.2.2.2.2.2.1
      rcases hk with ⟨k1, k2⟩ | ⟨k1, k2, n1, m1, t1, k3, k4, k5, k6, k7⟩
      · have hC : Fun yX10_again cX10_again 2 (some .boolean) 3 [.ref 0, .int (nI 1)] M (some (.int 0)) M := c_X10_again1_no (fun z => z.1 k1)
        exact two_0 h hC (c_X11_again_no fun z => z.2.1 (by rw [nI_clamp (by omega)]; exact k2))
      · have c15 : M.1 76 15 = nI n1 := k7.1.1.2.1
        have c16 : M.1 76 16 = nI m1 := k7.1.1.2.2
        rcases k6 with ⟨rfl, rfl, rfl⟩ | ⟨z1, z2⟩
        · have hC : Fun yX10_again cX10_again 2 (some .boolean) 3 [.ref 0, .int (nI 1)] M (some (.int 1)) (setI (cpM M 28 76) 0 14 0) := c_X10_again1 (by rw [k1]; decide) (c15.trans q.1.1.symm) (c16.trans q.1.2.2.1.symm)
          have e140 : ∀ a b, 140 ≤ a → (setI (cpM M 28 76) 0 14 0).1 a b = M.1 a b := fun a b h1 => by rw [sI_na (by omega), cpM_o (by omega)]
          have hM := c_X11_again (M := setI (cpM M 28 76) 0 14 0) (i := 1) (by omega) (by rw [e140 174 _ (by omega), k2]; decide) (by rw [e140 175 _ (by omega), e140 140 55 (by omega), k5]; exact q.2.2.2.1.1.symm)
          have em : ∀ a b, 140 ≤ a → ¬ (a = 140 ∧ (b = 21 ∨ b = 32)) → (setI (agM (t0 (setI (cpM M 28 76) 0 14 0)) (133 * 1) 133) 140 32 0).1 a b = (agM M (133 * 1) 133).1 a b := fun a b h1 h2 => by
            rw [sI_ne (by omega), ag_at, ag_at, t0_o (by omega), t0_o (by omega), e140 _ _ h1, e140 173 _ (by omega)]
          have ec : ∀ a b, a < 140 → (setI (agM (t0 (setI (cpM M 28 76) 0 14 0)) (133 * 1) 133) 140 32 0).1 a b = (setI (cpM M 28 76) 0 14 0).1 a b := fun a b h1 => by
            rw [sI_na (by omega), ag_at, pK_far (by omega) (by omega), if_neg (by omega), t0_o (by omega)]
          refine two_f hC hM ⟨n1, m1, t1, (sim_again (K := setI (agM (t0 (setI (cpM M 28 76) 0 14 0)) (133 * 1) 133) 140 32 0) (t := 76) (s := 1) h k7 (fun a b h1 h2 h3 => ?_) (fun c h5 h20 => ?_) ?_ (fun a b h1 h2 h3 => ?_) ?_ sI_eq rfl).dx (by omega)⟩
          · rw [ec a b h1, sI_ne h3, cpM_o (by omega)]
          · have y : view (setI (agM (t0 (setI (cpM M 28 76) 0 14 0)) (133 * 1) 133) 140 32 0) 28 c = view (cpM M 28 76) 28 c := by
              funext j
              unfold view
              by_cases hc : c < 15
              · rw [if_pos hc, if_pos hc, ec _ _ (by omega), sI_na (by omega)]
              · rw [if_neg hc, if_neg hc, ec _ _ (by omega), sI_na (by omega)]
            rw [y]; exact view_cp c h5 h20
          · funext c j
            by_cases hc : c ≠ 5 ∧ c < 20
            · rw [mv_mo hc, mv_mo hc]
              refine em _ _ ?_ (mo_0 (j := j) hc).2.2.2
              unfold mo; repeat' split
              all_goals omega
            · rw [mv_no hc, mv_no hc]
          · rw [em a b h1 h3, ag_at, h2, if_neg (by omega)]
          · rw [ec _ _ (by omega)]; exact sI_eq
        · have hC : Fun yX10_again cX10_again 2 (some .boolean) 3 [.ref 0, .int (nI 1)] M (some (.int 0)) M := c_X10_again1_no (fun z => by
            have y1 := eq_nI (by omega) (by omega) (c15.symm.trans (z.2.1.trans q.1.1))
            have y2 := eq_nI (by omega) (by omega) (c16.symm.trans (z.2.2.trans q.1.2.2.1))
            omega)
          refine two_0 h hC (c_X11_again_no fun z => ?_)
          have y := z.2.2
          rw [nI_clamp (by omega), k5, q.2.2.2.1.1] at y
          have y2 := q.2.2.2.1.2
          have y3 := eq_nI (by omega) (by omega) y
          omega
  · exact two_0 h (c_X10_again_no (fun z => hx (by rw [z]; decide)) (fun z => hx (by rw [z]; decide))) (c_X11_again_no fun z => hx z.1)
