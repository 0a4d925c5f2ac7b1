/-- the coin of a state in the States' town -/
def ldM (M : Mem) (n : Nat) (c : Nat → Nat) : Mem := (fun a j => if a = 109 ∧ j < n then nI (c j) else M.1 a j, M.2)
theorem ld_0 {M : Mem} {c : Nat → Nat} : ldM M 0 c = M := by
  refine Prod.ext ?_ rfl
  funext a j
  exact if_neg (fun z => absurd z.2 (Nat.not_lt_zero _))
theorem ld_s {M : Mem} {i : Nat} {c : Nat → Nat} : setI (ldM M i c) 109 i (nI (c i)) = ldM M (i + 1) c := by
  refine Prod.ext ?_ rfl
  funext a j
  simp only [setI, ldM]
  by_cases ha : a = 109
  · subst ha
    by_cases q : j = i
    · subst q; simp
    · simp [q, show j < i + 1 ↔ j < i by omega]
  · simp [ha]
theorem ld_o {M : Mem} {n a j : Nat} {c : Nat → Nat} (h : a ≠ 109) : (ldM M n c).1 a j = M.1 a j := if_neg fun z => h z.1
theorem ld_i {M : Mem} {n j : Nat} {c : Nat → Nat} (h : j < n) : (ldM M n c).1 109 j = nI (c j) := if_pos ⟨rfl, h⟩
theorem ld_rep {M : Mem} {S : SS} {n : Nat} {c : Nat → Nat} (h : repC M S) : repC (ldM M n c) S := by
  obtain ⟨tb, h1, h2, h3, h4, h5⟩ := h
  exact ⟨tb, (ld_o (by decide)).trans h1, h2, fun s hs => ⟨(ld_o (by decide)).trans (h3 s hs).1, (h3 s hs).2.1, (h3 s hs).2.2.1, (h3 s hs).2.2.2.1, (ld_o (by decide)).trans (h3 s hs).2.2.2.2.1, (h3 s hs).2.2.2.2.2⟩, fun p hp => (ld_o (by decide)).trans (h4 p hp), h5⟩
set_option maxRecDepth 100000 in
set_option maxHeartbeats 4000000 in
theorem l_X5_load {M : Mem} {S : SS} (hR : repC M S) {s n : Nat} (hs : s < S.N) (hn : M.1 108 15 = nI n) (hn8 : n ≤ 8) : ∀ (N : Nat) (i : Nat), (i ≤ n) → n - i < N → Reach cX5_load RX5 3 1 (FQ cX5_load none none (ldM M n (S.co s))) 2 [some (.ref 19), some (.int (nI s)), some (.int (nI i))] [] (ldM M i (S.co s)) := by
  intro N
  induction N with
  | zero => intro i hi hm; exact absurd ‹_ < 0› (Nat.not_lt_zero _)
  | succ N ih =>
    intro i hi hm
    have ⟨tb, q1, q2, q3, q4, q5⟩ := hR
    have hE := q3 s hs
    refine rx_iload_n (i := 2) dX5_load_2 rfl rfl ?_
    refine rx_aload_n (i := 0) dX5_load_3 rfl rfl ?_
    refine rx_getR 108 (k := 0) fo_X5_12 kl_19 (by decide) ti_5_0 (by decide) rfl dX5_load_4 ?_
    refine rx_getI (k := 15) fo_X5_95 kl_108 (by decide) ti_8_15 dX5_load_7 ?_
    refine rx_top (nI n) ((ld_o (by decide)).trans hn) ?_
    refine rx_icmp_ge (tgt := 34) dX5_load_10 (by decide) (fun c10 => ?_) (fun c10 => ?_)
    · skip
      have f10 := Int32.not_lt.mpr c10
      have e10 : i = n := by have := (nI_leI (by omega) (by omega)).mp c10; omega
      subst e10
      exact rx_fiV dX5_load_34 rfl
    · skip
      have f10 := Int32.not_le.mp c10
      have e10 : i < n := Nat.lt_of_not_le fun q => c10 (nI_le q (by omega))
      refine rx_aload_n (i := 0) dX5_load_13 rfl rfl ?_
      refine rx_getR 108 (k := 0) fo_X5_12 kl_19 (by decide) ti_5_0 (by decide) rfl dX5_load_14 ?_
      refine rx_getR 109 (k := 0) fo_X5_98 kl_108 (by decide) ti_8_0 (by decide) rfl dX5_load_17 ?_
      refine rx_iload_n (i := 2) dX5_load_20 rfl rfl ?_
      refine rx_aload_n (i := 0) dX5_load_21 rfl rfl ?_
      refine rx_iload_n (i := 1) dX5_load_22 rfl rfl ?_
      refine rx_iload_n (i := 2) dX5_load_23 rfl rfl ?_
      refine rx_cvI (ci := 5) mo_X5_coinIn lk_X5_110 (c_X5_coinIn (by omega) (by omega) hE.2.2.2.2.2.2 hE.2.1 hE.2.2.1) (by decide) rfl rfl (Nat.le_of_ble_eq_true rfl) kl_19 rfl dX5_load_24 ?_
      refine rx_iastN kl_109 (by omega) (by first | decide | omega) dX5_load_27 ?_
      rw [ld_s]
      first | refine rx_iincN (i := 2) dX5_load_28 rfl (by decide) rfl rfl ?_ | refine rx_iinc (i := 2) dX5_load_28 rfl rfl (by decide) rfl rfl ?_
      refine rx_goto (tgt := 2) dX5_load_31 (by decide) ?_
      exact ih (i + 1) (by omega) (by omega)
set_option maxRecDepth 100000 in
set_option maxHeartbeats 4000000 in
theorem c_X5_load {M : Mem} {S : SS} (hR : repC M S) {s n : Nat} (hs : s < S.N) (hn : M.1 108 15 = nI n) (hn8 : n ≤ 8) : Fun yX5_load cX5_load 3 none 1 [.ref 19, .int (nI s)] M (none) (ldM M n (S.co s)) := by
  refine Fun.of (own := RX5) ([some (.ref 19), some (.int (nI s)), none]) rfl (by decide +kernel) (Nat.le_of_ble_eq_true rfl) rfl ?_
  refine rx_iconst (0) dX5_load_0 rfl ?_
  refine rx_istore_n (i := 2) dX5_load_1 rfl (by decide) rfl rfl ?_
  have h := l_X5_load hR hs hn hn8 (n + 1) 0 (Nat.zero_le _) (by omega)
  rw [ld_0] at h
  exact h
