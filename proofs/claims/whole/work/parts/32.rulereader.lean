/-- the memory with the rule's reader in a state: steps, how many, what waits, how many, compared, depth, digits, a thing is wanted -/
def rM (M : Mem) (St : Nat → Int32) (z : Nat) (Wt : Nat → Int32) (nw : Nat) (Cp : Nat → Int32) (dp dg : Nat) (wt : Int32) : Mem :=
  (fun a j => if a = 11 then St j else if a = 12 then Wt j else if a = 13 then Cp j else if a = 10 then (if j = 3 then nI z else if j = 4 then nI nw else if j = 5 then nI dp else if j = 6 then nI dg else if j = 7 then wt else M.1 10 j) else M.1 a j, M.2)
theorem rM_z {M : Mem} {St : Nat → Int32} {z : Nat} {Wt : Nat → Int32} {nw : Nat} {Cp : Nat → Int32} {dp dg : Nat} {wt : Int32} {x : Nat} : setI (rM M St z Wt nw Cp dp dg wt) 10 3 (nI x) = (rM M St x Wt nw Cp dp dg wt) := by
  refine Prod.ext ?_ rfl
  funext a j
  simp only [setI, rM]
  by_cases ha : a = 10
  · subst ha
    by_cases hj : j = 3
    · subst hj; simp
    · simp [hj]
  · simp [ha]
theorem rR_z {M : Mem} {St : Nat → Int32} {z : Nat} {Wt : Nat → Int32} {nw : Nat} {Cp : Nat → Int32} {dp dg : Nat} {wt : Int32} : (rM M St z Wt nw Cp dp dg wt).1 10 3 = nI z := by simp [rM]
theorem rM_nw {M : Mem} {St : Nat → Int32} {z : Nat} {Wt : Nat → Int32} {nw : Nat} {Cp : Nat → Int32} {dp dg : Nat} {wt : Int32} {x : Nat} : setI (rM M St z Wt nw Cp dp dg wt) 10 4 (nI x) = (rM M St z Wt x Cp dp dg wt) := by
  refine Prod.ext ?_ rfl
  funext a j
  simp only [setI, rM]
  by_cases ha : a = 10
  · subst ha
    by_cases hj : j = 4
    · subst hj; simp
    · simp [hj]
  · simp [ha]
theorem rR_nw {M : Mem} {St : Nat → Int32} {z : Nat} {Wt : Nat → Int32} {nw : Nat} {Cp : Nat → Int32} {dp dg : Nat} {wt : Int32} : (rM M St z Wt nw Cp dp dg wt).1 10 4 = nI nw := by simp [rM]
theorem rM_dp {M : Mem} {St : Nat → Int32} {z : Nat} {Wt : Nat → Int32} {nw : Nat} {Cp : Nat → Int32} {dp dg : Nat} {wt : Int32} {x : Nat} : setI (rM M St z Wt nw Cp dp dg wt) 10 5 (nI x) = (rM M St z Wt nw Cp x dg wt) := by
  refine Prod.ext ?_ rfl
  funext a j
  simp only [setI, rM]
  by_cases ha : a = 10
  · subst ha
    by_cases hj : j = 5
    · subst hj; simp
    · simp [hj]
  · simp [ha]
theorem rR_dp {M : Mem} {St : Nat → Int32} {z : Nat} {Wt : Nat → Int32} {nw : Nat} {Cp : Nat → Int32} {dp dg : Nat} {wt : Int32} : (rM M St z Wt nw Cp dp dg wt).1 10 5 = nI dp := by simp [rM]
theorem rM_dg {M : Mem} {St : Nat → Int32} {z : Nat} {Wt : Nat → Int32} {nw : Nat} {Cp : Nat → Int32} {dp dg : Nat} {wt : Int32} {x : Nat} : setI (rM M St z Wt nw Cp dp dg wt) 10 6 (nI x) = (rM M St z Wt nw Cp dp x wt) := by
  refine Prod.ext ?_ rfl
  funext a j
  simp only [setI, rM]
  by_cases ha : a = 10
  · subst ha
    by_cases hj : j = 6
    · subst hj; simp
    · simp [hj]
  · simp [ha]
theorem rR_dg {M : Mem} {St : Nat → Int32} {z : Nat} {Wt : Nat → Int32} {nw : Nat} {Cp : Nat → Int32} {dp dg : Nat} {wt : Int32} : (rM M St z Wt nw Cp dp dg wt).1 10 6 = nI dg := by simp [rM]
theorem rM_wt {M : Mem} {St : Nat → Int32} {z : Nat} {Wt : Nat → Int32} {nw : Nat} {Cp : Nat → Int32} {dp dg : Nat} {wt : Int32} {x : Int32} : setI (rM M St z Wt nw Cp dp dg wt) 10 7 (x) = (rM M St z Wt nw Cp dp dg x) := by
  refine Prod.ext ?_ rfl
  funext a j
  simp only [setI, rM]
  by_cases ha : a = 10
  · subst ha
    by_cases hj : j = 7
    · subst hj; simp
    · simp [hj]
  · simp [ha]
theorem rR_wt {M : Mem} {St : Nat → Int32} {z : Nat} {Wt : Nat → Int32} {nw : Nat} {Cp : Nat → Int32} {dp dg : Nat} {wt : Int32} : (rM M St z Wt nw Cp dp dg wt).1 10 7 = wt := by simp [rM]
theorem rM_St {M : Mem} {St : Nat → Int32} {z : Nat} {Wt : Nat → Int32} {nw : Nat} {Cp : Nat → Int32} {dp dg : Nat} {wt : Int32} {k : Nat} {x : Int32} : setI (rM M St z Wt nw Cp dp dg wt) 11 k x = (rM M (upd St k x) z Wt nw Cp dp dg wt) := by
  refine Prod.ext ?_ rfl
  funext a j
  simp only [setI, rM, upd]
  by_cases ha : a = 11
  · subst ha
    by_cases hj : j = k
    · subst hj; simp
    · simp [hj]
  · simp [ha]
theorem rR_St {M : Mem} {St : Nat → Int32} {z : Nat} {Wt : Nat → Int32} {nw : Nat} {Cp : Nat → Int32} {dp dg : Nat} {wt : Int32} {k : Nat} : (rM M St z Wt nw Cp dp dg wt).1 11 k = St k := by simp [rM]
theorem rM_Wt {M : Mem} {St : Nat → Int32} {z : Nat} {Wt : Nat → Int32} {nw : Nat} {Cp : Nat → Int32} {dp dg : Nat} {wt : Int32} {k : Nat} {x : Int32} : setI (rM M St z Wt nw Cp dp dg wt) 12 k x = (rM M St z (upd Wt k x) nw Cp dp dg wt) := by
  refine Prod.ext ?_ rfl
  funext a j
  simp only [setI, rM, upd]
  by_cases ha : a = 12
  · subst ha
    by_cases hj : j = k
    · subst hj; simp
    · simp [hj]
  · simp [ha]
theorem rR_Wt {M : Mem} {St : Nat → Int32} {z : Nat} {Wt : Nat → Int32} {nw : Nat} {Cp : Nat → Int32} {dp dg : Nat} {wt : Int32} {k : Nat} : (rM M St z Wt nw Cp dp dg wt).1 12 k = Wt k := by simp [rM]
theorem rM_Cp {M : Mem} {St : Nat → Int32} {z : Nat} {Wt : Nat → Int32} {nw : Nat} {Cp : Nat → Int32} {dp dg : Nat} {wt : Int32} {k : Nat} {x : Int32} : setI (rM M St z Wt nw Cp dp dg wt) 13 k x = (rM M St z Wt nw (upd Cp k x) dp dg wt) := by
  refine Prod.ext ?_ rfl
  funext a j
  simp only [setI, rM, upd]
  by_cases ha : a = 13
  · subst ha
    by_cases hj : j = k
    · subst hj; simp
    · simp [hj]
  · simp [ha]
theorem rR_Cp {M : Mem} {St : Nat → Int32} {z : Nat} {Wt : Nat → Int32} {nw : Nat} {Cp : Nat → Int32} {dp dg : Nat} {wt : Int32} {k : Nat} : (rM M St z Wt nw Cp dp dg wt).1 13 k = Cp k := by simp [rM]
theorem rR_o {M : Mem} {St : Nat → Int32} {z : Nat} {Wt : Nat → Int32} {nw : Nat} {Cp : Nat → Int32} {dp dg : Nat} {wt : Int32} {a k : Nat} (h : a < 10 ∨ 13 < a) : (rM M St z Wt nw Cp dp dg wt).1 a k = M.1 a k := by simp [rM, show a ≠ 10 by omega, show a ≠ 11 by omega, show a ≠ 12 by omega, show a ≠ 13 by omega]
theorem rM_self {M : Mem} {z nw dp dg : Nat} (h3 : M.1 10 3 = nI z) (h4 : M.1 10 4 = nI nw) (h5 : M.1 10 5 = nI dp) (h6 : M.1 10 6 = nI dg) : rM M (M.1 11) z (M.1 12) nw (M.1 13) dp dg (M.1 10 7) = M := by
  refine Prod.ext ?_ rfl
  funext a j
  simp only [rM]
  by_cases h11 : a = 11
  · rw [if_pos h11, h11]
  · rw [if_neg h11]
    by_cases h12 : a = 12
    · rw [if_pos h12, h12]
    · rw [if_neg h12]
      by_cases h13 : a = 13
      · rw [if_pos h13, h13]
      · rw [if_neg h13]
        by_cases h10 : a = 10
        · subst h10
          rw [if_pos rfl]
          by_cases j3 : j = 3
          · subst j3; rw [if_pos rfl, h3]
          · rw [if_neg j3]
            by_cases j4 : j = 4
            · subst j4; rw [if_pos rfl, h4]
            · rw [if_neg j4]
              by_cases j5 : j = 5
              · subst j5; rw [if_pos rfl, h5]
              · rw [if_neg j5]
                by_cases j6 : j = 6
                · subst j6; rw [if_pos rfl, h6]
                · rw [if_neg j6]
                  by_cases j7 : j = 7
                  · subst j7; rw [if_pos rfl]
                  · rw [if_neg j7]
        · rw [if_neg h10]
set_option maxRecDepth 100000 in
set_option maxHeartbeats 4000000 in
theorem c_X4_put {M : Mem} {St : Nat → Int32} {z : Nat} {Wt : Nat → Int32} {nw : Nat} {Cp : Nat → Int32} {dp dg : Nat} {wt : Int32} (h : z < 40) {x : Int32} : Fun yX4_put cX4_put 2 none 0 [.ref 10, .int x] (rM M St z Wt nw Cp dp dg wt) (none) (rM M (upd St z x) (z + 1) Wt nw Cp dp dg wt) := by
  refine Fun.of (own := RX4) ([some (.ref 10), some (.int x)]) rfl (by decide +kernel) (Nat.le_of_ble_eq_true rfl) rfl ?_
  refine rx_aload_n (i := 0) dX4_put_0 rfl rfl ?_
  refine rx_getI (k := 3) fo_X4_60 kl_10 (by decide) ti_4_3 dX4_put_1 ?_
  refine rx_top (nI z) rR_z ?_
  refine rx_bipush (40) dX4_put_4 rfl ?_
  refine rx_icmp_ge (tgt := 29) dX4_put_6 (by decide) (fun c6 => ?_) (fun c6 => ?_)
  · skip
    have f6 := Int32.not_lt.mpr c6
    exact absurd ((nI_leI (a := 40) (by omega) (by omega)).mp c6) (by omega)
  · skip
    have f6 := Int32.not_le.mp c6
    refine rx_aload_n (i := 0) dX4_put_9 rfl rfl ?_
    refine rx_getR 11 (k := 0) fo_X4_9 kl_10 (by decide) ti_4_0 (by decide) rfl dX4_put_10 ?_
    refine rx_aload_n (i := 0) dX4_put_13 rfl rfl ?_
    refine rx_getI (k := 3) fo_X4_60 kl_10 (by decide) ti_4_3 dX4_put_14 ?_
    refine rx_top (nI z) rR_z ?_
    refine rx_iload_n (i := 1) dX4_put_17 rfl rfl ?_
    refine rx_iastN kl_11 (by omega) (by first | decide | omega) dX4_put_18 ?_
    rw [rM_St]
    refine rx_aload_n (i := 0) dX4_put_19 rfl rfl ?_
    refine rx_dup dX4_put_20 rfl ?_
    refine rx_getI (k := 3) fo_X4_60 kl_10 (by decide) ti_4_3 dX4_put_21 ?_
    refine rx_top (nI z) rR_z ?_
    refine rx_iconst (1) dX4_put_24 rfl ?_
    refine rx_iadd dX4_put_25 ?_
    refine rx_top (nI (z + 1)) (nI_succ z).symm ?_
    refine rx_putI (k := 3) fo_X4_60 fn_4_3 kl_10 (by decide) ty_4_3 dX4_put_26 ?_
    rw [rM_z]
    exact rx_fiV dX4_put_29 rfl
set_option maxRecDepth 100000 in
set_option maxHeartbeats 4000000 in
theorem c_X4_await {M : Mem} {St : Nat → Int32} {z : Nat} {Wt : Nat → Int32} {nw : Nat} {Cp : Nat → Int32} {dp dg : Nat} {wt : Int32} (h : nw < 40) {x : Int32} : Fun yX4_await cX4_await 2 none 0 [.ref 10, .int x] (rM M St z Wt nw Cp dp dg wt) (none) (rM M St z (upd Wt nw x) (nw + 1) Cp dp dg wt) := by
  refine Fun.of (own := RX4) ([some (.ref 10), some (.int x)]) rfl (by decide +kernel) (Nat.le_of_ble_eq_true rfl) rfl ?_
  refine rx_aload_n (i := 0) dX4_await_0 rfl rfl ?_
  refine rx_getI (k := 4) fo_X4_63 kl_10 (by decide) ti_4_4 dX4_await_1 ?_
  refine rx_top (nI nw) rR_nw ?_
  refine rx_bipush (40) dX4_await_4 rfl ?_
  refine rx_icmp_ge (tgt := 29) dX4_await_6 (by decide) (fun c6 => ?_) (fun c6 => ?_)
  · skip
    have f6 := Int32.not_lt.mpr c6
    exact absurd ((nI_leI (a := 40) (by omega) (by omega)).mp c6) (by omega)
  · skip
    have f6 := Int32.not_le.mp c6
    refine rx_aload_n (i := 0) dX4_await_9 rfl rfl ?_
    refine rx_getR 12 (k := 1) fo_X4_15 kl_10 (by decide) ti_4_1 (by decide) rfl dX4_await_10 ?_
    refine rx_aload_n (i := 0) dX4_await_13 rfl rfl ?_
    refine rx_getI (k := 4) fo_X4_63 kl_10 (by decide) ti_4_4 dX4_await_14 ?_
    refine rx_top (nI nw) rR_nw ?_
    refine rx_iload_n (i := 1) dX4_await_17 rfl rfl ?_
    refine rx_iastN kl_12 (by omega) (by first | decide | omega) dX4_await_18 ?_
    rw [rM_Wt]
    refine rx_aload_n (i := 0) dX4_await_19 rfl rfl ?_
    refine rx_dup dX4_await_20 rfl ?_
    refine rx_getI (k := 4) fo_X4_63 kl_10 (by decide) ti_4_4 dX4_await_21 ?_
    refine rx_top (nI nw) rR_nw ?_
    refine rx_iconst (1) dX4_await_24 rfl ?_
    refine rx_iadd dX4_await_25 ?_
    refine rx_top (nI (nw + 1)) (nI_succ nw).symm ?_
    refine rx_putI (k := 4) fo_X4_63 fn_4_4 kl_10 (by decide) ty_4_4 dX4_await_26 ?_
    rw [rM_nw]
    exact rx_fiV dX4_await_29 rfl
def strg (x : Int32) : Int32 := if x = 2008 then 0 else if x = 2007 then 4 else if x - 2000 < 3 then 1 else if x - 2000 < 5 then 2 else 3
set_option maxRecDepth 100000 in
set_option maxHeartbeats 4000000 in
theorem c_X4_strength {M : Mem} {x : Int32} : Fun yX4_strength cX4_strength 2 (some .int) 0 [.int x] M (some (.int (strg x))) (M) := by
  refine Fun.of (own := RX4) ([some (.int x), none]) rfl (by decide +kernel) (Nat.le_of_ble_eq_true rfl) rfl ?_
  refine rx_iload_n (i := 0) dX4_strength_0 rfl rfl ?_
  refine rx_sipush (2008) dX4_strength_1 rfl ?_
  refine rx_icmp_ne (tgt := 9) dX4_strength_4 (by decide) (fun c4 => ?_) (fun c4 => ?_)
  · skip
    have g4 := c4
    refine rx_iload_n (i := 0) dX4_strength_9 rfl rfl ?_
    refine rx_sipush (2007) dX4_strength_10 rfl ?_
    refine rx_icmp_ne (tgt := 18) dX4_strength_13 (by decide) (fun c13 => ?_) (fun c13 => ?_)
    · skip
      refine rx_iload_n (i := 0) dX4_strength_18 rfl rfl ?_
      refine rx_sipush (2000) dX4_strength_19 rfl ?_
      refine rx_isub dX4_strength_22 ?_
      refine rx_istore_n (i := 1) dX4_strength_23 rfl (by decide) rfl rfl ?_
      refine rx_iload_n (i := 1) dX4_strength_24 rfl rfl ?_
      refine rx_iconst (3) dX4_strength_25 rfl ?_
      refine rx_icmp_ge (tgt := 31) dX4_strength_26 (by decide) (fun c26 => ?_) (fun c26 => ?_)
      · skip
        have f26 := Int32.not_lt.mpr c26
        refine rx_iload_n (i := 1) dX4_strength_31 rfl rfl ?_
        refine rx_iconst (5) dX4_strength_32 rfl ?_
        refine rx_icmp_ge (tgt := 40) dX4_strength_33 (by decide) (fun c33 => ?_) (fun c33 => ?_)
        · skip
          have f33 := Int32.not_lt.mpr c33
          refine rx_iconst (3) dX4_strength_40 rfl ?_
          exact rx_fiI dX4_strength_41 (by simp [strg, *]) rfl
        · skip
          have f33 := Int32.not_le.mp c33
          refine rx_iconst (2) dX4_strength_36 rfl ?_
          refine rx_goto (tgt := 41) dX4_strength_37 (by decide) ?_
          exact rx_fiI dX4_strength_41 (by simp [strg, *]) rfl
      · skip
        have f26 := Int32.not_le.mp c26
        refine rx_iconst (1) dX4_strength_29 rfl ?_
        exact rx_fiI dX4_strength_30 (by simp [strg, *]) rfl
    · skip
      refine rx_iconst (4) dX4_strength_16 rfl ?_
      exact rx_fiI dX4_strength_17 (by simp [strg, *]) rfl
  · skip
    refine rx_iconst (0) dX4_strength_7 rfl ?_
    exact rx_fiI dX4_strength_8 (by simp [strg, *]) rfl
/-- what waits and binds so strongly at least is put: (steps, how many, how many wait) -/
def stl (least : Int32) (Wt : Nat → Int32) : Nat → (Nat → Int32) → Nat → (Nat → Int32) × Nat × Nat
  | 0, St, z => (St, z, 0)
  | n + 1, St, z => if least ≤ strg (Wt n) then stl least Wt n (upd St z (Wt n)) (z + 1) else (St, z, n + 1)
theorem stl_le {least : Int32} {Wt : Nat → Int32} : ∀ {n : Nat} {St : Nat → Int32} {z : Nat}, (stl least Wt n St z).2.1 + (stl least Wt n St z).2.2 = z + n ∧ (stl least Wt n St z).2.2 ≤ n
  | 0, _, _ => ⟨rfl, Nat.le_refl _⟩
  | n + 1, St, z => by
    simp only [stl]
    split
    · have := stl_le (least := least) (Wt := Wt) (n := n) (St := upd St z (Wt n)) (z := z + 1); omega
    · exact ⟨rfl, Nat.le_refl _⟩
set_option maxRecDepth 100000 in
set_option maxHeartbeats 4000000 in
theorem l_X4_settle {M : Mem} {Wt : Nat → Int32} {Cp : Nat → Int32} {dp dg : Nat} {wt least : Int32} {res : (Nat → Int32) × Nat × Nat} : ∀ (N : Nat) (nw : Nat) (St : Nat → Int32) (z : Nat), (z + nw ≤ 40) → (stl least Wt nw St z = res) → nw < N → Reach cX4_settle RX4 2 1 (FQ cX4_settle none none (rM M res.1 res.2.1 Wt res.2.2 Cp dp dg wt)) 0 [some (.ref 10), some (.int least)] [] (rM M St z Wt nw Cp dp dg wt) := by
  intro N
  induction N with
  | zero => intro nw St z h he hm; exact absurd ‹_ < 0› (Nat.not_lt_zero _)
  | succ N ih =>
    intro nw St z h he hm
    refine rx_aload_n (i := 0) dX4_settle_0 rfl rfl ?_
    refine rx_getI (k := 4) fo_X4_63 kl_10 (by decide) ti_4_4 dX4_settle_1 ?_
    refine rx_top (nI nw) rR_nw ?_
    refine rx_if_le (tgt := 51) dX4_settle_4 (by decide) (fun c4 => ?_) (fun c4 => ?_)
    · skip
      have f4 := Int32.not_lt.mpr c4
      have e4 : nw = 0 := by
        have := (nI_leI (b := 0) (by omega) (by omega)).mp c4
        omega
      subst e4
      simp only [stl] at he
      subst he
      exact rx_fiV dX4_settle_51 rfl
    · skip
      have f4 := Int32.not_le.mp c4
      have e4 : 0 < nw := by
        rcases Nat.eq_zero_or_pos nw with q | q
        · subst q; exact absurd (by decide) c4
        · exact q
      obtain ⟨k, rfl⟩ : ∃ k, nw = k + 1 := ⟨nw - 1, by omega⟩
      simp only [stl] at he
      refine rx_aload_n (i := 0) dX4_settle_7 rfl rfl ?_
      refine rx_getR 12 (k := 1) fo_X4_15 kl_10 (by decide) ti_4_1 (by decide) rfl dX4_settle_8 ?_
      refine rx_aload_n (i := 0) dX4_settle_11 rfl rfl ?_
      refine rx_getI (k := 4) fo_X4_63 kl_10 (by decide) ti_4_4 dX4_settle_12 ?_
      refine rx_top (nI (k + 1)) rR_nw ?_
      refine rx_iconst (1) dX4_settle_15 rfl ?_
      refine rx_isub dX4_settle_16 ?_
      refine rx_top (nI k) (nI_m 1 _ rfl (by omega)) ?_
      refine rx_ialdN kl_12 (by omega) (by first | decide | omega) dX4_settle_17 ?_
      refine rx_top (Wt k) rR_Wt ?_
      refine rx_csI mo_X4_strength lk_X4_99 c_X4_strength (by decide) rfl rfl (Nat.le_of_ble_eq_true rfl) dX4_settle_18 ?_
      refine rx_iload_n (i := 1) dX4_settle_21 rfl rfl ?_
      refine rx_icmp_lt (tgt := 51) dX4_settle_22 (by decide) (fun c22 => ?_) (fun c22 => ?_)
      · skip
        have f22 := Int32.not_le.mpr c22
        rw [if_neg (Int32.not_le.mpr c22)] at he
        subst he
        exact rx_fiV dX4_settle_51 rfl
      · skip
        have f22 := Int32.not_lt.mp c22
        rw [if_pos f22] at he
        refine rx_aload_n (i := 0) dX4_settle_25 rfl rfl ?_
        refine rx_dup dX4_settle_26 rfl ?_
        refine rx_getI (k := 4) fo_X4_63 kl_10 (by decide) ti_4_4 dX4_settle_27 ?_
        refine rx_top (nI (k + 1)) rR_nw ?_
        refine rx_iconst (1) dX4_settle_30 rfl ?_
        refine rx_isub dX4_settle_31 ?_
        refine rx_top (nI k) (nI_m 1 _ rfl (by omega)) ?_
        refine rx_putI (k := 4) fo_X4_63 fn_4_4 kl_10 (by decide) ty_4_4 dX4_settle_32 ?_
        rw [rM_nw]
        refine rx_aload_n (i := 0) dX4_settle_35 rfl rfl ?_
        refine rx_aload_n (i := 0) dX4_settle_36 rfl rfl ?_
        refine rx_getR 12 (k := 1) fo_X4_15 kl_10 (by decide) ti_4_1 (by decide) rfl dX4_settle_37 ?_
        refine rx_aload_n (i := 0) dX4_settle_40 rfl rfl ?_
        refine rx_getI (k := 4) fo_X4_63 kl_10 (by decide) ti_4_4 dX4_settle_41 ?_
        refine rx_top (nI k) rR_nw ?_
        refine rx_ialdN kl_12 (by omega) (by first | decide | omega) dX4_settle_44 ?_
        refine rx_top (Wt k) rR_Wt ?_
        refine rx_cvN (ci := 4) mo_X4_put lk_X4_88 (c_X4_put (by omega)) (by decide) rfl rfl (Nat.le_of_ble_eq_true rfl) kl_10 rfl dX4_settle_45 ?_
        refine rx_goto (tgt := 0) dX4_settle_48 (by decide) ?_
        exact ih k _ _ (by omega) he (by omega)
set_option maxRecDepth 100000 in
set_option maxHeartbeats 4000000 in
theorem c_X4_settle {M : Mem} {St : Nat → Int32} {z : Nat} {Wt : Nat → Int32} {nw : Nat} {Cp : Nat → Int32} {dp dg : Nat} {wt : Int32} (h : z + nw ≤ 40) {least : Int32} : Fun yX4_settle cX4_settle 2 none 1 [.ref 10, .int least] (rM M St z Wt nw Cp dp dg wt) (none) (rM M (stl least Wt nw St z).1 (stl least Wt nw St z).2.1 Wt (stl least Wt nw St z).2.2 Cp dp dg wt) := by
  refine Fun.of (own := RX4) ([some (.ref 10), some (.int least)]) rfl (by decide +kernel) (Nat.le_of_ble_eq_true rfl) rfl ?_
  exact l_X4_settle (nw + 1) nw St z h rfl (by omega)
set_option maxRecDepth 100000 in
set_option maxHeartbeats 4000000 in
theorem c_X4_opens {M : Mem} {St : Nat → Int32} {z : Nat} {Wt : Nat → Int32} {nw : Nat} {Cp : Nat → Int32} {dp dg : Nat} {wt : Int32} (h : dp < 4) (hw : nw < 40) : Fun yX4_opens cX4_opens 1 (some .boolean) 1 [.ref 10] (rM M St z Wt nw Cp dp dg wt) (some (.int 1)) (rM M St z (upd Wt nw 2008) (nw + 1) (upd Cp (dp + 1) 0) (dp + 1) dg wt) := by
  refine Fun.of (own := RX4) ([some (.ref 10)]) rfl (by decide +kernel) (Nat.le_of_ble_eq_true rfl) rfl ?_
  refine rx_aload_n (i := 0) dX4_opens_0 rfl rfl ?_
  refine rx_getI (k := 5) fo_X4_52 kl_10 (by decide) ti_4_5 dX4_opens_1 ?_
  refine rx_top (nI dp) rR_dp ?_
  refine rx_iconst (4) dX4_opens_4 rfl ?_
  refine rx_icmp_lt (tgt := 10) dX4_opens_5 (by decide) (fun c5 => ?_) (fun c5 => ?_)
  · skip
    have f5 := Int32.not_le.mpr c5
    refine rx_aload_n (i := 0) dX4_opens_10 rfl rfl ?_
    refine rx_dup dX4_opens_11 rfl ?_
    refine rx_getI (k := 5) fo_X4_52 kl_10 (by decide) ti_4_5 dX4_opens_12 ?_
    refine rx_top (nI dp) rR_dp ?_
    refine rx_iconst (1) dX4_opens_15 rfl ?_
    refine rx_iadd dX4_opens_16 ?_
    refine rx_top (nI (dp + 1)) (nI_succ dp).symm ?_
    refine rx_putI (k := 5) fo_X4_52 fn_4_5 kl_10 (by decide) ty_4_5 dX4_opens_17 ?_
    rw [rM_dp]
    refine rx_aload_n (i := 0) dX4_opens_20 rfl rfl ?_
    refine rx_getR 13 (k := 2) fo_X4_18 kl_10 (by decide) ti_4_2 (by decide) rfl dX4_opens_21 ?_
    refine rx_aload_n (i := 0) dX4_opens_24 rfl rfl ?_
    refine rx_getI (k := 5) fo_X4_52 kl_10 (by decide) ti_4_5 dX4_opens_25 ?_
    refine rx_top (nI (dp + 1)) rR_dp ?_
    refine rx_iconst (0) dX4_opens_28 rfl ?_
    refine rx_zastN kl_13 (by omega) (by first | decide | omega) (by first | exact Or.inl rfl | exact Or.inr rfl) dX4_opens_29 ?_
    rw [rM_Cp]
    refine rx_aload_n (i := 0) dX4_opens_30 rfl rfl ?_
    refine rx_sipush (2008) dX4_opens_31 rfl ?_
    refine rx_cvN (ci := 4) mo_X4_await lk_X4_69 (c_X4_await hw) (by decide) rfl rfl (Nat.le_of_ble_eq_true rfl) kl_10 rfl dX4_opens_34 ?_
    refine rx_iconst (1) dX4_opens_37 rfl ?_
    exact rx_fiZ dX4_opens_38 (by first | exact Or.inl rfl | exact Or.inr rfl) rfl rfl
  · skip
    have f5 := Int32.not_lt.mp c5
    exact absurd (nI_lt (b := 4) h (by omega)) c5
set_option maxRecDepth 100000 in
set_option maxHeartbeats 4000000 in
theorem c_X4_opens_no {M : Mem} {St : Nat → Int32} {z : Nat} {Wt : Nat → Int32} {nw : Nat} {Cp : Nat → Int32} {dp dg : Nat} {wt : Int32} (h : dp = 4) : Fun yX4_opens cX4_opens 1 (some .boolean) 1 [.ref 10] (rM M St z Wt nw Cp dp dg wt) (some (.int 0)) (rM M St z Wt nw Cp dp dg wt) := by
  refine Fun.of (own := RX4) ([some (.ref 10)]) rfl (by decide +kernel) (Nat.le_of_ble_eq_true rfl) rfl ?_
  refine rx_aload_n (i := 0) dX4_opens_0 rfl rfl ?_
  refine rx_getI (k := 5) fo_X4_52 kl_10 (by decide) ti_4_5 dX4_opens_1 ?_
  refine rx_top (nI dp) rR_dp ?_
  refine rx_iconst (4) dX4_opens_4 rfl ?_
  refine rx_icmp_lt (tgt := 10) dX4_opens_5 (by decide) (fun c5 => ?_) (fun c5 => ?_)
  · skip
    have f5 := Int32.not_le.mpr c5
    exact absurd c5 (nI_nlt (b := 4) (by omega) (by omega))
  · skip
    have f5 := Int32.not_lt.mp c5
    refine rx_iconst (0) dX4_opens_8 rfl ?_
    exact rx_fiZ dX4_opens_9 (by first | exact Or.inl rfl | exact Or.inr rfl) rfl rfl
set_option maxRecDepth 100000 in
set_option maxHeartbeats 4000000 in
theorem c_X4_closes {M : Mem} {St : Nat → Int32} {z : Nat} {Wt : Nat → Int32} {nw : Nat} {Cp : Nat → Int32} {dp dg : Nat} {wt : Int32} (h : 1 ≤ dp) (h4 : dp ≤ 4) (hz : z + nw ≤ 40) : Fun yX4_closes cX4_closes 1 (some .boolean) 2 [.ref 10] (rM M St z Wt nw Cp dp dg wt) (some (.int 1)) (rM M (stl 1 Wt nw St z).1 (stl 1 Wt nw St z).2.1 Wt ((stl 1 Wt nw St z).2.2 - 1) Cp (dp - 1) dg wt) := by
  refine Fun.of (own := RX4) ([some (.ref 10)]) rfl (by decide +kernel) (Nat.le_of_ble_eq_true rfl) rfl ?_
  refine rx_aload_n (i := 0) dX4_closes_0 rfl rfl ?_
  refine rx_getI (k := 5) fo_X4_52 kl_10 (by decide) ti_4_5 dX4_closes_1 ?_
  refine rx_top (nI dp) rR_dp ?_
  refine rx_iconst (1) dX4_closes_4 rfl ?_
  refine rx_icmp_ge (tgt := 10) dX4_closes_5 (by decide) (fun c5 => ?_) (fun c5 => ?_)
  · skip
    have f5 := Int32.not_lt.mpr c5
    refine rx_aload_n (i := 0) dX4_closes_10 rfl rfl ?_
    refine rx_iconst (1) dX4_closes_11 rfl ?_
    refine rx_cvN (ci := 4) mo_X4_settle lk_X4_56 (c_X4_settle hz) (by decide) rfl rfl (Nat.le_of_ble_eq_true rfl) kl_10 rfl dX4_closes_12 ?_
    obtain ⟨res, hres⟩ : ∃ res, stl 1 Wt nw St z = res := ⟨_, rfl⟩
    have hr := (stl_le (least := 1) (Wt := Wt) (n := nw) (St := St) (z := z)).2
    rw [hres] at hr
    rw [hres]
    refine rx_aload_n (i := 0) dX4_closes_15 rfl rfl ?_
    refine rx_getI (k := 4) fo_X4_63 kl_10 (by decide) ti_4_4 dX4_closes_16 ?_
    refine rx_top (nI res.2.2) rR_nw ?_
    refine rx_if_le (tgt := 32) dX4_closes_19 (by decide) (fun c19 => ?_) (fun c19 => ?_)
    · skip
      have f19 := Int32.not_lt.mpr c19
      have e19 : res.2.2 = 0 := by
        have := (nI_leI (b := 0) (by omega) (by omega)).mp c19
        omega
      refine rx_aload_n (i := 0) dX4_closes_32 rfl rfl ?_
      refine rx_dup dX4_closes_33 rfl ?_
      refine rx_getI (k := 5) fo_X4_52 kl_10 (by decide) ti_4_5 dX4_closes_34 ?_
      refine rx_top (nI dp) rR_dp ?_
      refine rx_iconst (1) dX4_closes_37 rfl ?_
      refine rx_isub dX4_closes_38 ?_
      refine rx_top (nI (dp - 1)) (nI_m 1 _ rfl h) ?_
      refine rx_putI (k := 5) fo_X4_52 fn_4_5 kl_10 (by decide) ty_4_5 dX4_closes_39 ?_
      rw [rM_dp]
      refine rx_iconst (1) dX4_closes_42 rfl ?_
      exact rx_fiZ dX4_closes_43 (Or.inr rfl) rfl (by first | rfl | rw [e19])
    · skip
      have f19 := Int32.not_le.mp c19
      have e19 : 1 ≤ res.2.2 := by
        rcases Nat.eq_zero_or_pos res.2.2 with q | q
        · rw [q] at c19; exact absurd (by decide) c19
        · exact q
      refine rx_aload_n (i := 0) dX4_closes_22 rfl rfl ?_
      refine rx_dup dX4_closes_23 rfl ?_
      refine rx_getI (k := 4) fo_X4_63 kl_10 (by decide) ti_4_4 dX4_closes_24 ?_
      refine rx_top (nI res.2.2) rR_nw ?_
      refine rx_iconst (1) dX4_closes_27 rfl ?_
      refine rx_isub dX4_closes_28 ?_
      refine rx_top (nI (res.2.2 - 1)) (nI_m 1 _ rfl e19) ?_
      refine rx_putI (k := 4) fo_X4_63 fn_4_4 kl_10 (by decide) ty_4_4 dX4_closes_29 ?_
      rw [rM_nw]
      refine rx_aload_n (i := 0) dX4_closes_32 rfl rfl ?_
      refine rx_dup dX4_closes_33 rfl ?_
      refine rx_getI (k := 5) fo_X4_52 kl_10 (by decide) ti_4_5 dX4_closes_34 ?_
      refine rx_top (nI dp) rR_dp ?_
      refine rx_iconst (1) dX4_closes_37 rfl ?_
      refine rx_isub dX4_closes_38 ?_
      refine rx_top (nI (dp - 1)) (nI_m 1 _ rfl h) ?_
      refine rx_putI (k := 5) fo_X4_52 fn_4_5 kl_10 (by decide) ty_4_5 dX4_closes_39 ?_
      rw [rM_dp]
      refine rx_iconst (1) dX4_closes_42 rfl ?_
      exact rx_fiZ dX4_closes_43 (Or.inr rfl) rfl (by first | rfl | rw [e19])
  · skip
    have f5 := Int32.not_le.mp c5
    exact absurd (nI_le (a := 1) h (by omega)) c5
set_option maxRecDepth 100000 in
set_option maxHeartbeats 4000000 in
theorem c_X4_closes_no {M : Mem} {St : Nat → Int32} {z : Nat} {Wt : Nat → Int32} {nw : Nat} {Cp : Nat → Int32} {dp dg : Nat} {wt : Int32} (h : dp = 0) : Fun yX4_closes cX4_closes 1 (some .boolean) 2 [.ref 10] (rM M St z Wt nw Cp dp dg wt) (some (.int 0)) (rM M St z Wt nw Cp dp dg wt) := by
  refine Fun.of (own := RX4) ([some (.ref 10)]) rfl (by decide +kernel) (Nat.le_of_ble_eq_true rfl) rfl ?_
  refine rx_aload_n (i := 0) dX4_closes_0 rfl rfl ?_
  refine rx_getI (k := 5) fo_X4_52 kl_10 (by decide) ti_4_5 dX4_closes_1 ?_
  refine rx_top (nI dp) rR_dp ?_
  refine rx_iconst (1) dX4_closes_4 rfl ?_
  refine rx_icmp_ge (tgt := 10) dX4_closes_5 (by decide) (fun c5 => ?_) (fun c5 => ?_)
  · skip
    have f5 := Int32.not_lt.mpr c5
    exact absurd ((nI_leI (a := 1) (by omega) (by omega)).mp c5) (by omega)
  · skip
    have f5 := Int32.not_le.mp c5
    refine rx_iconst (0) dX4_closes_8 rfl ?_
    exact rx_fiZ dX4_closes_9 (by first | exact Or.inl rfl | exact Or.inr rfl) rfl rfl
set_option maxRecDepth 100000 in
set_option maxHeartbeats 4000000 in
theorem c_X4_lengthens {M : Mem} {St : Nat → Int32} {z : Nat} {Wt : Nat → Int32} {nw : Nat} {Cp : Nat → Int32} {dp dg : Nat} {wt : Int32} {x : Int32} (h : 1 ≤ dg ∧ dg ≤ 2) (hz : 1 ≤ z) (hz4 : z ≤ 40) : Fun yX4_lengthens cX4_lengthens 2 (some .boolean) 0 [.ref 10, .int x] (rM M St z Wt nw Cp dp dg wt) (some (.int 1)) (rM M (upd St (z - 1) (St (z - 1) * 10 + x)) z Wt nw Cp dp (dg + 1) wt) := by
  refine Fun.of (own := RX4) ([some (.ref 10), some (.int x)]) rfl (by decide +kernel) (Nat.le_of_ble_eq_true rfl) rfl ?_
  refine rx_aload_n (i := 0) dX4_lengthens_0 rfl rfl ?_
  refine rx_getI (k := 6) fo_X4_66 kl_10 (by decide) ti_4_6 dX4_lengthens_1 ?_
  refine rx_top (nI dg) rR_dg ?_
  refine rx_iconst (1) dX4_lengthens_4 rfl ?_
  refine rx_icmp_lt (tgt := 24) dX4_lengthens_5 (by decide) (fun c5 => ?_) (fun c5 => ?_)
  · skip
    have f5 := Int32.not_le.mpr c5
    exact absurd (nI_le (a := 1) h.1 (by omega)) f5
  · skip
    have f5 := Int32.not_lt.mp c5
    refine rx_aload_n (i := 0) dX4_lengthens_8 rfl rfl ?_
    refine rx_getI (k := 6) fo_X4_66 kl_10 (by decide) ti_4_6 dX4_lengthens_9 ?_
    refine rx_top (nI dg) rR_dg ?_
    refine rx_iconst (2) dX4_lengthens_12 rfl ?_
    refine rx_icmp_gt (tgt := 24) dX4_lengthens_13 (by decide) (fun c13 => ?_) (fun c13 => ?_)
    · skip
      have f13 := Int32.not_le.mpr c13
      exact absurd (nI_le (b := 2) h.2 (by omega)) f13
    · skip
      have f13 := Int32.not_lt.mp c13
      refine rx_aload_n (i := 0) dX4_lengthens_16 rfl rfl ?_
      refine rx_getI (k := 3) fo_X4_60 kl_10 (by decide) ti_4_3 dX4_lengthens_17 ?_
      refine rx_top (nI z) rR_z ?_
      refine rx_iconst (1) dX4_lengthens_20 rfl ?_
      refine rx_icmp_ge (tgt := 26) dX4_lengthens_21 (by decide) (fun c21 => ?_) (fun c21 => ?_)
      · skip
        have f21 := Int32.not_lt.mpr c21
        refine rx_aload_n (i := 0) dX4_lengthens_26 rfl rfl ?_
        refine rx_getR 11 (k := 0) fo_X4_9 kl_10 (by decide) ti_4_0 (by decide) rfl dX4_lengthens_27 ?_
        refine rx_aload_n (i := 0) dX4_lengthens_30 rfl rfl ?_
        refine rx_getI (k := 3) fo_X4_60 kl_10 (by decide) ti_4_3 dX4_lengthens_31 ?_
        refine rx_top (nI z) rR_z ?_
        refine rx_iconst (1) dX4_lengthens_34 rfl ?_
        refine rx_isub dX4_lengthens_35 ?_
        refine rx_top (nI (z - 1)) (nI_m 1 _ rfl hz) ?_
        refine rx_aload_n (i := 0) dX4_lengthens_36 rfl rfl ?_
        refine rx_getR 11 (k := 0) fo_X4_9 kl_10 (by decide) ti_4_0 (by decide) rfl dX4_lengthens_37 ?_
        refine rx_aload_n (i := 0) dX4_lengthens_40 rfl rfl ?_
        refine rx_getI (k := 3) fo_X4_60 kl_10 (by decide) ti_4_3 dX4_lengthens_41 ?_
        refine rx_top (nI z) rR_z ?_
        refine rx_iconst (1) dX4_lengthens_44 rfl ?_
        refine rx_isub dX4_lengthens_45 ?_
        refine rx_top (nI (z - 1)) (nI_m 1 _ rfl hz) ?_
        refine rx_ialdN kl_11 (by omega) (by first | decide | omega) dX4_lengthens_46 ?_
        refine rx_top (St (z - 1)) rR_St ?_
        refine rx_bipush (10) dX4_lengthens_47 rfl ?_
        refine rx_imul dX4_lengthens_49 ?_
        refine rx_iload_n (i := 1) dX4_lengthens_50 rfl rfl ?_
        refine rx_iadd dX4_lengthens_51 ?_
        refine rx_iastN kl_11 (by omega) (by first | decide | omega) dX4_lengthens_52 ?_
        rw [rM_St]
        refine rx_aload_n (i := 0) dX4_lengthens_53 rfl rfl ?_
        refine rx_dup dX4_lengthens_54 rfl ?_
        refine rx_getI (k := 6) fo_X4_66 kl_10 (by decide) ti_4_6 dX4_lengthens_55 ?_
        refine rx_top (nI dg) rR_dg ?_
        refine rx_iconst (1) dX4_lengthens_58 rfl ?_
        refine rx_iadd dX4_lengthens_59 ?_
        refine rx_top (nI (dg + 1)) (nI_succ dg).symm ?_
        refine rx_putI (k := 6) fo_X4_66 fn_4_6 kl_10 (by decide) ty_4_6 dX4_lengthens_60 ?_
        rw [rM_dg]
        refine rx_iconst (1) dX4_lengthens_63 rfl ?_
        exact rx_fiZ dX4_lengthens_64 (by first | exact Or.inl rfl | exact Or.inr rfl) rfl rfl
      · skip
        have f21 := Int32.not_le.mp c21
        exact absurd (nI_le (a := 1) hz (by omega)) c21
set_option maxRecDepth 100000 in
set_option maxHeartbeats 4000000 in
theorem c_X4_lengthens_no {M : Mem} {St : Nat → Int32} {z : Nat} {Wt : Nat → Int32} {nw : Nat} {Cp : Nat → Int32} {dp dg : Nat} {wt : Int32} {x : Int32} (h : dg = 0 ∨ dg = 3) : Fun yX4_lengthens cX4_lengthens 2 (some .boolean) 0 [.ref 10, .int x] (rM M St z Wt nw Cp dp dg wt) (some (.int 0)) (rM M St z Wt nw Cp dp dg wt) := by
  refine Fun.of (own := RX4) ([some (.ref 10), some (.int x)]) rfl (by decide +kernel) (Nat.le_of_ble_eq_true rfl) rfl ?_
  refine rx_aload_n (i := 0) dX4_lengthens_0 rfl rfl ?_
  refine rx_getI (k := 6) fo_X4_66 kl_10 (by decide) ti_4_6 dX4_lengthens_1 ?_
  refine rx_top (nI dg) rR_dg ?_
  refine rx_iconst (1) dX4_lengthens_4 rfl ?_
  refine rx_icmp_lt (tgt := 24) dX4_lengthens_5 (by decide) (fun c5 => ?_) (fun c5 => ?_)
  · skip
    have f5 := Int32.not_le.mpr c5
    refine rx_iconst (0) dX4_lengthens_24 rfl ?_
    exact rx_fiZ dX4_lengthens_25 (by first | exact Or.inl rfl | exact Or.inr rfl) rfl rfl
  · skip
    have f5 := Int32.not_lt.mp c5
    have e5 : dg = 3 := by
      have := (nI_leI (a := 1) (by omega) (by omega)).mp f5
      omega
    refine rx_aload_n (i := 0) dX4_lengthens_8 rfl rfl ?_
    refine rx_getI (k := 6) fo_X4_66 kl_10 (by decide) ti_4_6 dX4_lengthens_9 ?_
    refine rx_top (nI dg) rR_dg ?_
    refine rx_iconst (2) dX4_lengthens_12 rfl ?_
    refine rx_icmp_gt (tgt := 24) dX4_lengthens_13 (by decide) (fun c13 => ?_) (fun c13 => ?_)
    · skip
      have f13 := Int32.not_le.mpr c13
      refine rx_iconst (0) dX4_lengthens_24 rfl ?_
      exact rx_fiZ dX4_lengthens_25 (by first | exact Or.inl rfl | exact Or.inr rfl) rfl rfl
    · skip
      have f13 := Int32.not_lt.mp c13
      exact absurd (nI_lt (a := 2) (show 2 < dg by omega) (by omega)) c13
