theorem i8_255 (x : Int32) : (x &&& 255).toInt8 = x.toInt8 := by
  apply Int8.toBitVec_inj.mp
  show (x &&& 255).toBitVec.signExtend 8 = x.toBitVec.signExtend 8
  apply BitVec.eq_of_getLsbD_eq
  intro i hi
  rw [BitVec.getLsbD_signExtend, BitVec.getLsbD_signExtend, if_pos (show i < 32 by omega), if_pos (show i < 32 by omega)]
  have h := b_and x 255 i
  rw [b_255 i (by omega)] at h
  unfold bt at h
  rw [h]
  simp [hi]
theorem nar_Y : ∀ j, j < 256 → ((nI j).toInt8.toInt32).toInt8.toInt32 = sgY j ∧ (sgY j).toInt8.toInt32 = sgY j := by decide +kernel
theorem byt_sg {v : Int32} {q : Nat} (hq : q < 4) : ∃ k, k < 256 ∧ ush v (nI (8 * q)) &&& 255 = nI k ∧ byt v q = sgY k := by
  obtain ⟨j, hj, e⟩ := b255 (v >>> (nI (8 * q) &&& 31))
  refine ⟨j, hj, (ush_255 hq).trans e, ?_⟩
  show ((v >>> (nI (8 * q) &&& 31)).toInt8.toInt32).toInt8.toInt32 = sgY j
  rw [← i8_255 (v >>> (nI (8 * q) &&& 31)), e]
  exact (nar_Y j hj).1
theorem sg_p {v : Int32} {q : Nat} (hq : q < 4) : ∃ k, k < 256 ∧ sg v q = nI k ∧ byt v (3 - q) = sgY k := by
  obtain ⟨k, h1, h2, h3⟩ := byt_sg (v := v) (q := 3 - q) (by omega)
  refine ⟨k, h1, ?_, h3⟩
  unfold sg
  rw [show 24 - 8 * q = 8 * (3 - q) by omega]
  exact h2
theorem sgR_by {A B : Nat → Int32} {L : Nat} (h : sgR A B L) : (∀ j, j < L → vp_nar .byte (B j) = B j) ∧ (∀ j, j < L → 0 ≤ A j ∧ A j ≤ 255) ∧ ∀ j, j < L → 0 ≤ (A j).toInt ∧ (A j).toInt ≤ 255 := by
  refine ⟨fun j hj => ?_, fun j hj => ?_, fun j hj => ?_⟩
  · obtain ⟨k, h1, h2, h3⟩ := h j hj
    rw [h3]
    exact (nar_Y k h1).2
  · obtain ⟨k, h1, h2, h3⟩ := h j hj
    rw [h2, i_le, i_le, nI_toInt (by omega), i_0, show (255 : Int32).toInt = 255 from rfl]
    omega
  · obtain ⟨k, h1, h2, h3⟩ := h j hj
    rw [h2, nI_toInt (by omega)]
    omega
theorem sgR_le {A B : Nat → Int32} {L L' : Nat} (h : sgR A B L) (hl : L' ≤ L) : sgR A B L' := fun j hj => h j (by omega)
/-- a call that changes texts alone -/
theorem sim_text {M K : Mem} {n m dx tn : Nat} (h : Sim M n m dx tn) (ek : ∀ a j, a ≠ 3 → a ≠ 154 → ¬ (a = 2 ∧ j = 1) → ¬ (a = 140 ∧ (j = 18 ∨ j = 21)) → K.1 a j = M.1 a j) (e2 : K.2.1 = M.2.1) (hX : simX K) : Sim K n m dx tn := by
  have em : mv K = mv M := by
    funext c j
    by_cases hc : c ≠ 5 ∧ c < 20
    · rw [mv_mo hc, mv_mo hc]
      obtain ⟨m0, m3, mjj, m140⟩ := mo_0 (j := j) hc
      have h3 : mo c ≠ 3 ∧ mo c ≠ 154 ∧ mo c ≠ 2 := by
        unfold mo
        repeat' split
        all_goals omega
      refine ek _ _ h3.1 h3.2.1 (fun z => h3.2.2 z.1) fun z => ?_
      have z1 := z.1
      have z2 := z.2
      unfold mo at z1
      unfold mj at z2
      repeat' split at z1
      all_goals (repeat' split at z2)
      all_goals omega
    · rw [mv_no hc, mv_no hc]
  have ev : view K 28 = view M 28 := by
    funext c j
    unfold view
    split
    · exact ek _ _ (by omega) (by omega) (by omega) (by omega)
    · exact ek _ _ (by omega) (by omega) (by omega) (by omega)
  refine sim_gen h ⟨fun a j q1 q2 q3 q4 => ek a j (by omega) (by omega) (by omega) (by omega), fun _ _ _ _ => by rw [e2]⟩ (by rw [ev, em]; exact h.2.2.1) ?_ hX (simR_k h.2.2.2.2.2.1 (ek _ _ (by omega) (by omega) (by omega) (by omega)) (ek _ _ (by omega) (by omega) (by omega) (by omega)) (fun j => ek _ _ (by omega) (by omega) (by omega) (by omega)) (fun j => ek _ _ (by omega) (by omega) (by omega) (by omega))) (simW_kk h.w (ek _ _ (by omega) (by omega) (by omega) (by omega)) (ek _ _ (by omega) (by omega) (by omega) (by omega)) (by rw [e2]) (by rw [e2]))
  obtain ⟨u, b1, b2, b3, b4, b5⟩ := h.q.2.2.2.2.2.2.1
  refine ⟨u, b1, (ek _ _ (by omega) (by omega) (by omega) (by omega)).trans b2, (ek _ _ (by omega) (by omega) (by omega) (by omega)).trans b3, fun b hb => ?_, ?_⟩
  · rw [ek 1 b (by omega) (by omega) (by omega) (by omega), ek 157 b (by omega) (by omega) (by omega) (by omega)]; exact b4 b hb
  · rw [ev, show K.1 1 = M.1 1 from funext fun b => ek 1 b (by omega) (by omega) (by omega) (by omega)]
    exact b5
theorem s_sign {M : Mem} {n m dx tn : Nat} (h : Sim M n m dx tn) (v : Int32) : Two yX10_sign cX10_sign 2 (some .int) 1 yX11_sign cX11_sign 3 0 [.int v] M n m dx tn := by
  have q := h.q
  have ag := q.ag
  have hO := q.okC
  have n8 := q.n8
  have m10 := q.m10
  obtain ⟨t, t80, c1, c2, c3⟩ := h.2.2.2.2.1
  by_cases ht : t + 4 ≤ 80
  · have hC := c_X10_sign (v := v) c1 ht
    have ec : ∀ a b, a ≠ 3 → ¬ (a = 2 ∧ b = 1) → (t4M M t v).1 a b = M.1 a b := fun a b h1 h2 => by
      unfold t4M
      rw [sI_ne h2, sI_na h1, sI_na h1, sI_na h1, sI_na h1]
    have hM := c_X11_sign (M := t4M M t v) (v := v) ((ec 140 18 (by omega) (by omega)).trans c2) ht
    have ed : ∀ (N : Mem) a b, a ≠ 154 → ¬ (a = 140 ∧ (b = 18 ∨ b = 21)) → (s4X N t v).1 a b = N.1 a b := fun N a b h1 h2 => by
      unfold s4X
      rw [sI_na h1, sI_ne (by omega), sI_na h1, sI_ne (by omega), sI_na h1, sI_ne (by omega), sI_na h1, sI_ne (by omega), t0_o (by omega)]
    refine two_f hC hM ⟨n, m, tn, (sim_text h (fun a j q1 q2 q3 q4 => (ed _ a j q2 q4).trans (ec a j q1 q3)) rfl ⟨t + 4, ht, ?_, ?_, fun j hj => ?_⟩).dx (by omega)⟩
    · rw [ed _ _ _ (by omega) (by omega)]; exact sI_eq
    · unfold s4X
      rw [sI_na (by omega)]; exact sI_eq
    · have e3 : (s4X (t4M M t v) t v).1 3 j = if j = t + 3 then sg v 3 else if j = t + 2 then sg v 2 else if j = t + 1 then sg v 1 else if j = t then sg v 0 else M.1 3 j := by
        rw [ed _ _ _ (by omega) (by omega)]
        unfold t4M
        rw [sI_na (by omega)]
        simp only [setI, true_and]
      have e4 : (s4X (t4M M t v) t v).1 154 j = if j = t + 3 then byt v 0 else if j = t + 2 then byt v 1 else if j = t + 1 then byt v 2 else if j = t then byt v 3 else M.1 154 j := by
        have z : (t4M M t v).1 154 j = M.1 154 j := ec _ _ (by omega) (by omega)
        rw [← z]
        unfold s4X t0
        simp only [setI, true_and, false_and, if_false, show ¬ (154 = 140) by omega]
      rw [e3, e4]
      by_cases h3 : j = t + 3
      · rw [if_pos h3, if_pos h3]; exact sg_p (q := 3) (by omega)
      · rw [if_neg h3, if_neg h3]
        by_cases h2 : j = t + 2
        · rw [if_pos h2, if_pos h2]; exact sg_p (q := 2) (by omega)
        · rw [if_neg h2, if_neg h2]
          by_cases h1 : j = t + 1
          · rw [if_pos h1, if_pos h1]; exact sg_p (q := 1) (by omega)
          · rw [if_neg h1, if_neg h1]
            by_cases h0 : j = t
            · rw [if_pos h0, if_pos h0]; exact sg_p (q := 0) (by omega)
            · rw [if_neg h0, if_neg h0]; exact c3 j (by omega)
  · exact two_0 h (c_X10_sign_no c1 ht t80) (c_X11_sign_no c2 ht t80)
theorem s_end {M : Mem} {n m dx tn : Nat} (h : Sim M n m dx tn) (x : Int32) : Two yX10_end cX10_end 2 (some .boolean) 1 yX11_end cX11_end 2 1 [.int x] M n m dx tn := by
  have q := h.q
  have ag := q.ag
  have hO := q.okC
  have n8 := q.n8
  have m10 := q.m10
  obtain ⟨t, t80, c1, c2, c3⟩ := h.2.2.2.2.1
  have hC := c_X10_end (M := M) (x := x)
  by_cases hx : 0 ≤ x ∧ x ≤ M.1 2 1
  · rw [if_pos hx, if_pos hx] at hC
    have hM := c_X11_end (M := setI M 2 1 x) (x := x)
    rw [show (setI M 2 1 x).1 140 18 = M.1 2 1 from (sI_na (by omega)).trans (c2.trans c1.symm), if_pos hx, if_pos hx] at hM
    rw [c1] at hx
    obtain ⟨j, hj, rfl⟩ := rngJ hx (by omega)
    refine two_f hC hM ⟨n, m, tn, (sim_text (K := setI (t0 (setI M 2 1 (nI j))) 140 18 (nI j)) h (fun a b q1 q2 q3 q4 => by rw [sI_ne (by omega), t0_o (by omega), sI_ne (by omega)]) rfl ⟨j, by omega, ?_, ?_, fun b hb => ?_⟩).dx (by omega)⟩
    · rw [sI_na (by omega), t0_o (by omega)]; exact sI_eq
    · exact sI_eq
    · rw [sI_na (by omega), t0_o (by omega), sI_na (by omega), sI_na (by omega), t0_o (by omega), sI_na (by omega)]
      exact c3 b (by omega)
  · rw [if_neg hx, if_neg hx] at hC
    have hM := c_X11_end (M := M) (x := x)
    rw [c2.trans c1.symm, if_neg hx, if_neg hx] at hM
    exact two_0 h hC hM
