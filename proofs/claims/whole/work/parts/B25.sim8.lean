/-! a sheet -/
theorem shE_rng {x y f st : Int32} {i : Nat} : 0 ≤ (shE x y f st i).toInt ∧ (shE x y f st i).toInt ≤ 999 := by
  unfold shE
  split
  · rw [i_0]; omega
  · have e0 : (0 : Int32).toInt = 0 := rfl
    have e9 : (999 : Int32).toInt = 999 := rfl
    generalize cutF x (f + nI i * st) = v
    unfold maxF minF
    repeat' split
    all_goals (simp only [Int32.lt_iff_toInt_lt] at *; omega)
/-- the town behind a sheet -/
def shtT (T : TT) (x y f st : Int32) (n : Nat) : TT := fun c j => if c = 0 ∧ j < n then shE x y f st j else if c = 3 ∧ j < n then 0 else T c j
theorem isum_b {f : Nat → Int} {C : Int} : ∀ {n : Nat}, (∀ k, k < n → f k ≤ C) → isum f n ≤ C * n
  | 0, _ => by show (0 : Int) ≤ _; simp
  | n + 1, h => by
    have h1 := isum_b (n := n) (fun k hk => h k (by omega))
    have h2 := h n (by omega)
    simp only [isum]
    rw [show ((n + 1 : Nat) : Int) = n + 1 from by simp, Int.mul_add, Int.mul_one]
    omega
theorem sht_S {T : TT} {n m dx : Nat} {x y f st : Int32} (h : twS T n m dx) (hn : n ≤ 8) : twS (shtT T x y f st n) n m dx := by
  have e : ∀ c, c ≠ 0 → c ≠ 3 → shtT T x y f st n c = T c := fun c h0 h3 => by
    funext j
    unfold shtT
    rw [if_neg (fun z => h0 z.1), if_neg (fun z => h3 z.1)]
  have ec : ∀ i, i < n → shtT T x y f st n 0 i = shE x y f st i := fun i hi => if_pos ⟨rfl, hi⟩
  have eh : ∀ i, i < n → shtT T x y f st n 3 i = 0 := fun i hi => by
    unfold shtT
    rw [if_neg (by omega), if_pos ⟨rfl, hi⟩]
  have hsum : isum (fun i => (shtT T x y f st n 0 i).toInt) n ≤ 999 * n := isum_b fun k hk => by
    show (shtT T x y f st n 0 k).toInt ≤ 999
    rw [ec k hk]; exact shE_rng.2
  obtain ⟨⟨⟨b1, b2, b3, b4⟩, b5, b6⟩, a2, a3, a4, a5, a6⟩ := h
  refine ⟨⟨⟨fun i hi => ?_, by omega, ?_, ?_⟩, ?_, ?_⟩, ?_, hsum, ?_, ?_, ?_⟩
  · rw [eh i hi, ec i hi, e 4 (by omega) (by omega), i_0]
    have := b1 i hi
    have := shE_rng (x := x) (y := y) (f := f) (st := st) (i := i)
    omega
  · rw [e 14 (by omega) (by omega)]; exact b3
  · rw [e 8 (by omega) (by omega), e 9 (by omega) (by omega), e 6 (by omega) (by omega), e 7 (by omega) (by omega)]; exact b4
  · rw [e 15 (by omega) (by omega)]; exact b5
  · rw [e 16 (by omega) (by omega)]; exact b6
  · unfold AOK; rw [e 1 (by omega) (by omega), e 2 (by omega) (by omega)]; exact a2
  · rw [e 14 (by omega) (by omega)]; exact a4
  · rw [e 10 (by omega) (by omega), e 11 (by omega) (by omega)]; exact a5
  · rw [e 18 (by omega) (by omega)]; exact a6
theorem sht_D {T T' : TT} {n m : Nat} {x y f st : Int32} (h : agD T T' n m) : agD (shtT T x y f st n) (shtT T' x y f st n) n m := by
  have e : ∀ (U : TT) c, c ≠ 0 → c ≠ 3 → shtT U x y f st n c = U c := fun U c h0 h3 => by
    funext j
    unfold shtT
    rw [if_neg (fun z => h0 z.1), if_neg (fun z => h3 z.1)]
  have ec : ∀ (U : TT) i, i < n → shtT U x y f st n 0 i = shE x y f st i := fun U i hi => if_pos ⟨rfl, hi⟩
  have eh : ∀ (U : TT) i, i < n → shtT U x y f st n 3 i = 0 := fun U i hi => by
    unfold shtT
    rw [if_neg (by omega), if_pos ⟨rfl, hi⟩]
  obtain ⟨⟨a1, a2, a3, a4, a5⟩, b1, b2, b3, b4⟩ := h
  refine ⟨⟨fun j hj => ?_, fun k hk => ?_, ?_, ?_, ?_⟩, fun k hk => ?_, fun i j hi hj => ?_, ?_, ?_⟩
  · rw [ec _ j hj, ec _ j hj, eh _ j hj, eh _ j hj, e _ 1 (by omega) (by omega), e _ 1 (by omega) (by omega), e _ 2 (by omega) (by omega), e _ 2 (by omega) (by omega), e _ 4 (by omega) (by omega), e _ 4 (by omega) (by omega)]
    exact ⟨rfl, (a1 j hj).2.1, (a1 j hj).2.2.1, rfl, (a1 j hj).2.2.2.2⟩
  · rw [e _ 6 (by omega) (by omega), e _ 6 (by omega) (by omega), e _ 7 (by omega) (by omega), e _ 7 (by omega) (by omega), e _ 8 (by omega) (by omega), e _ 8 (by omega) (by omega), e _ 9 (by omega) (by omega), e _ 9 (by omega) (by omega), e _ 10 (by omega) (by omega), e _ 10 (by omega) (by omega)]
    exact a2 k hk
  · rw [e _ 14 (by omega) (by omega), e _ 14 (by omega) (by omega)]; exact a3
  · rw [e _ 14 (by omega) (by omega), e _ 14 (by omega) (by omega)]; exact a4
  · rw [e _ 14 (by omega) (by omega), e _ 14 (by omega) (by omega)]; exact a5
  · rw [e _ 11 (by omega) (by omega), e _ 11 (by omega) (by omega)]; exact b1 k hk
  · rw [e _ 12 (by omega) (by omega), e _ 12 (by omega) (by omega)]; exact b2 i j hi hj
  · rw [e _ 14 (by omega) (by omega), e _ 14 (by omega) (by omega)]; exact b3
  · rw [e _ 18 (by omega) (by omega), e _ 18 (by omega) (by omega)]; exact b4
theorem sht_far {M : Mem} {x y f st : Int32} {n a j : Nat} (h : a ≠ 141) (h2 : a ≠ 144) : (shtM M x y f st n).1 a j = M.1 a j := by
  show (if a = 141 ∧ j < n then shE x y f st j else if a = 144 ∧ j < n then 0 else M.1 a j) = _
  rw [if_neg (fun z => h z.1), if_neg (fun z => h2 z.1)]
theorem shc_far {M : Mem} {x y f st : Int32} {n a j : Nat} (h : a ≠ 29) (h2 : a ≠ 32) : (shcM M x y f st n).1 a j = M.1 a j := by
  show (if a = 29 ∧ j < n then shE x y f st j else if a = 32 ∧ j < n then 0 else M.1 a j) = _
  rw [if_neg (fun z => h z.1), if_neg (fun z => h2 z.1)]
theorem mo_0 {c j : Nat} (h : c ≠ 5 ∧ c < 20) : (mo c = 141 ↔ c = 0) ∧ (mo c = 144 ↔ c = 3) ∧ (mo c = 141 ∨ mo c = 144 → mj c j = j) ∧ ¬ (mo c = 140 ∧ (mj c j = 21 ∨ mj c j = 32)) := by
  have hc2 : c = 0 ∨ c = 1 ∨ c = 2 ∨ c = 3 ∨ c = 4 ∨ c = 6 ∨ c = 7 ∨ c = 8 ∨ c = 9 ∨ c = 10 ∨ c = 11 ∨ c = 12 ∨ c = 13 ∨ c = 14 ∨ c = 15 ∨ c = 16 ∨ c = 17 ∨ c = 18 ∨ c = 19 := by omega
  rcases hc2 with rfl | rfl | rfl | rfl | rfl | rfl | rfl | rfl | rfl | rfl | rfl | rfl | rfl | rfl | rfl | rfl | rfl | rfl | rfl <;> simp [mo, mj]
theorem s_sheet {M : Mem} {n m dx tn : Nat} (h : Sim M n m dx tn) (x y f st : Int32) : Two yX10_sheet cX10_sheet 9 (some .int) 2 yX11_sheet cX11_sheet 9 1 [.int x, .int y, .int f, .int st] M n m dx tn := by
  have q := h.q
  have ag := q.ag
  have n8 := q.n8
  by_cases hx : (0 ≤ x ∧ x ≤ 3) ∧ y ≤ 8
  · by_cases hz : x = 3 ∨ 0 ≤ y
    · have hC := c_X10_sheet (f := f) (st := st) q.1.1 n8 hx.1 hx.2 hz
      have hM := c_X11_sheet (M := setI (shcM M x y f st n) 0 14 0) (n := n) (f := f) (st := st) ((sI_na (by omega)).trans ((shc_far (by omega) (by omega)).trans q.2.1.1)) n8 hx.1 hx.2 hz
      refine two_t h hC hM ⟨fun a j q1 q2 q3 q4 => ?_, rfl⟩ ?_ ?_ sI_eq
      · rw [sI_ne (by omega)]
        have n1 : ¬ (a = 141 ∧ j < n) := fun z => by
          rw [z.1] at q3; unfold psK psL at q3
          rw [if_neg (by omega), if_neg (by omega), if_neg (by omega), if_neg (by omega), if_neg (by omega), if_pos ⟨rfl, by omega⟩] at q3
          omega
        have n2 : ¬ (a = 144 ∧ j < n) := fun z => by
          rw [z.1] at q3; unfold psK at q3
          rw [if_pos ⟨rfl, by omega⟩] at q3
          omega
        show (if a = 141 ∧ j < n then shE x y f st j else if a = 144 ∧ j < n then 0 else (t0 (setI (shcM M x y f st n) 0 14 0)).1 a j) = _
        rw [if_neg n1, if_neg n2, t0_o (by omega), sI_ne (by omega), shc_far (by omega) (by omega)]
      · have v1 : view (setI (shtM (t0 (setI (shcM M x y f st n) 0 14 0)) x y f st n) 140 32 0) 28 = shtT (view M 28) x y f st n := by
          funext c j
          unfold shtT view
          by_cases hc : c < 15
          · rw [if_pos hc, if_pos hc, sI_na (by omega), sht_far (by omega) (by omega), t0_o (by omega), sI_na (by omega)]
            show (if 28 + 1 + c = 29 ∧ j < n then shE x y f st j else if 28 + 1 + c = 32 ∧ j < n then 0 else M.1 (28 + 1 + c) j) = _
            by_cases z0 : c = 0 ∧ j < n
            · rw [if_pos z0, if_pos ⟨by omega, z0.2⟩]
            · rw [if_neg z0, if_neg (fun z => z0 ⟨by omega, z.2⟩)]
              by_cases z3 : c = 3 ∧ j < n
              · rw [if_pos z3, if_pos ⟨by omega, z3.2⟩]
              · rw [if_neg z3, if_neg (fun z => z3 ⟨by omega, z.2⟩)]
          · rw [if_neg hc, if_neg hc, if_neg (by omega), if_neg (by omega), sI_na (by omega), sht_far (by omega) (by omega), t0_o (by omega), sI_na (by omega), shc_far (by omega) (by omega)]
        have v2 : mv (setI (shtM (t0 (setI (shcM M x y f st n) 0 14 0)) x y f st n) 140 32 0) = shtT (mv M) x y f st n := by
          funext c j
          unfold shtT
          by_cases hc : c ≠ 5 ∧ c < 20
          · obtain ⟨m0, m3, mjj, m140⟩ := mo_0 (j := j) hc
            rw [mv_mo hc, mv_mo hc, sI_ne (fun z => m140 ⟨z.1, Or.inr z.2⟩)]
            show (if mo c = 141 ∧ mj c j < n then shE x y f st (mj c j) else if mo c = 144 ∧ mj c j < n then 0 else (t0 (setI (shcM M x y f st n) 0 14 0)).1 (mo c) (mj c j)) = _
            by_cases z0 : c = 0 ∧ j < n
            · have e1 := m0.mpr z0.1
              rw [if_pos z0, mjj (Or.inl e1), if_pos ⟨e1, z0.2⟩]
            · rw [if_neg z0, if_neg (fun z => z0 ⟨m0.mp z.1, by rw [← mjj (Or.inl z.1)]; exact z.2⟩)]
              by_cases z3 : c = 3 ∧ j < n
              · have e1 := m3.mpr z3.1
                rw [if_pos z3, mjj (Or.inr e1), if_pos ⟨e1, z3.2⟩]
              · rw [if_neg z3, if_neg (fun z => z3 ⟨m3.mp z.1, by rw [← mjj (Or.inr z.1)]; exact z.2⟩), t0_o (fun z => m140 ⟨z.1, Or.inl z.2⟩)]
                have hge : 140 ≤ mo c := by
                  unfold mo
                  repeat' split
                  all_goals omega
                rw [sI_na (by omega), shc_far (by omega) (by omega)]
          · rw [mv_no hc, mv_no hc, if_neg (fun z => hc (by omega)), if_neg (fun z => hc (by omega))]
        rw [v1, v2]
        refine twP_of q.2.2.1 (sht_S q.2.2.1.1 n8) (sht_D ag) (fun c hc => ?_) (fun c hc => ?_)
        · funext j; unfold shtT; rw [if_neg (by omega), if_neg (by omega)]
        · funext j; unfold shtT; rw [if_neg (by omega), if_neg (by omega)]
      · rw [sI_na (by omega), sht_far (by omega) (by omega), t0_o (by omega)]; exact sI_eq
    · have hx3 : 0 ≤ x ∧ x < 3 := ⟨hx.1.1, by
        rcases Int32.lt_or_le x 3 with z | z
        · exact z
        · exact absurd (Or.inl (Int32.le_antisymm hx.1.2 z)) hz⟩
      have hy : y < 0 := Int32.not_le.mp fun z => hz (Or.inr z)
      exact two_0 h (c_X10_sheet_not hx3 hy) (c_X11_sheet_not hx3 hy)
  · exact two_0 h (c_X10_sheet_no hx) (c_X11_sheet_no hx)
