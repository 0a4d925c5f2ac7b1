/-- the first c of a emptied; the first c of a as of b -/
def zeA (M : Mem) (a c : Nat) : Mem := (fun x j => if x = a ∧ j < c then 0 else M.1 x j, M.2)
def cpA (M : Mem) (a b c : Nat) : Mem := (fun x j => if x = a ∧ j < c then M.1 b j else M.1 x j, M.2)
theorem ze_0 {M : Mem} {a : Nat} : zeA M a 0 = M := by
  refine Prod.ext ?_ rfl
  funext x j; exact if_neg (by omega)
theorem ze_o {M : Mem} {a c x j : Nat} (h : x ≠ a) : (zeA M a c).1 x j = M.1 x j := if_neg fun q => h q.1
theorem ze_s {M : Mem} {a c : Nat} : setI (zeA M a c) a c 0 = zeA M a (c + 1) := by
  refine Prod.ext ?_ rfl
  funext x j
  simp only [setI, zeA]
  by_cases h : x = a ∧ j = c
  · rw [if_pos h, if_pos (by omega)]
  · rw [if_neg h]
    by_cases h2 : x = a ∧ j < c
    · rw [if_pos h2, if_pos (by omega)]
    · rw [if_neg h2, if_neg (by omega)]
theorem cpA_0 {M : Mem} {a b : Nat} : cpA M a b 0 = M := by
  refine Prod.ext ?_ rfl
  funext x j; exact if_neg (by omega)
theorem cpA_o {M : Mem} {a b c x j : Nat} (h : x ≠ a) : (cpA M a b c).1 x j = M.1 x j := if_neg fun q => h q.1
theorem cpA_s {M : Mem} {a b c : Nat} : setI (cpA M a b c) a c (M.1 b c) = cpA M a b (c + 1) := by
  refine Prod.ext ?_ rfl
  funext x j
  simp only [setI, cpA]
  by_cases h : x = a ∧ j = c
  · rw [if_pos h, if_pos (by omega), h.2]
  · rw [if_neg h]
    by_cases h2 : x = a ∧ j < c
    · rw [if_pos h2, if_pos (by omega)]
    · rw [if_neg h2, if_neg (by omega)]
set_option maxRecDepth 100000 in
set_option maxHeartbeats 4000000 in
theorem l_findTable {M : Mem} {day : Int32} {QQ : Nat → List (Option Value) → List Value → Mem → Prop} (K : Reach cX11_findStates RX11 9 4 QQ 22 [some (.ref 140), some (.int day), none, none, none, none, none, none, none] [] (zeA M 168 8192)) : ∀ (N : Nat) (i : Nat), (i ≤ 8192) → 8192 - i < N → Reach cX11_findStates RX11 9 4 (QQ) 2 [some (.ref 140), some (.int day), some (.int (nI i)), none, none, none, none, none, none] [] (zeA M 168 i) := by
  intro N
  induction N with
  | zero => intro i hi hm; exact absurd ‹_ < 0› (Nat.not_lt_zero _)
  | succ N ih =>
    intro i hi hm
    refine rx_iload_n (i := 2) dX11_findStates_2 rfl rfl ?_
    refine rx_sipush (8192) dX11_findStates_3 rfl ?_
    refine rx_icmp_ge (tgt := 22) dX11_findStates_6 (by decide) (fun c6 => ?_) (fun c6 => ?_)
    · skip
      have f6 := Int32.not_lt.mpr c6
      have e6 : i = 8192 := by have := (nI_leI (a := 8192) (by omega) (by omega)).mp c6; omega
      subst e6
      refine rx_drop 2 ?_
      exact K
    · skip
      have f6 := Int32.not_le.mp c6
      have e6 : i < 8192 := Nat.lt_of_not_le fun q => c6 (nI_le (a := 8192) q (by omega))
      refine rx_aload_n (i := 0) dX11_findStates_9 rfl rfl ?_
      refine rx_getR 168 (k := 45) fo_X11_102 kl_140 (by decide) ti_11_45 (by decide) rfl dX11_findStates_10 ?_
      refine rx_iload_n (i := 2) dX11_findStates_13 rfl rfl ?_
      refine rx_iconst (0) dX11_findStates_14 rfl ?_
      refine rx_iastN kl_168 (by omega) (by first | decide | omega) dX11_findStates_15 ?_
      rw [ze_s]
      first | refine rx_iincN (i := 2) dX11_findStates_16 rfl (by decide) rfl rfl ?_ | refine rx_iinc (i := 2) dX11_findStates_16 rfl rfl (by decide) rfl rfl ?_
      refine rx_goto (tgt := 2) dX11_findStates_19 (by decide) ?_
      exact ih (i + 1) (by omega) (by omega)
set_option maxRecDepth 100000 in
set_option maxHeartbeats 4000000 in
theorem l_findSave {M : Mem} {n : Nat} {day : Int32} (hn : M.1 140 0 = nI n) (hn8 : n ≤ 8) {QQ : Nat → List (Option Value) → List Value → Mem → Prop} (K : Reach cX11_findStates RX11 9 4 QQ 64 [some (.ref 140), some (.int day), none, none, none, none, none, none, none] [] (cpA M 169 141 n)) : ∀ (N : Nat) (i : Nat), (i ≤ n) → n - i < N → Reach cX11_findStates RX11 9 4 (QQ) 38 [some (.ref 140), some (.int day), some (.int (nI i)), none, none, none, none, none, none] [] (cpA M 169 141 i) := by
  intro N
  induction N with
  | zero => intro i hi hm; exact absurd ‹_ < 0› (Nat.not_lt_zero _)
  | succ N ih =>
    intro i hi hm
    refine rx_iload_n (i := 2) dX11_findStates_38 rfl rfl ?_
    refine rx_aload_n (i := 0) dX11_findStates_39 rfl rfl ?_
    refine rx_getI (k := 0) fo_X11_132 kl_140 (by decide) ti_11_0 dX11_findStates_40 ?_
    refine rx_top (nI n) ((cpA_o (by omega)).trans hn) ?_
    refine rx_icmp_ge (tgt := 64) dX11_findStates_43 (by decide) (fun c43 => ?_) (fun c43 => ?_)
    · skip
      have f43 := Int32.not_lt.mpr c43
      have e43 : i = n := by have := (nI_leI (a := n) (by omega) (by omega)).mp c43; omega
      subst e43
      refine rx_drop 2 ?_
      exact K
    · skip
      have f43 := Int32.not_le.mp c43
      have e43 : i < n := Nat.lt_of_not_le fun q => c43 (nI_le (a := n) q (by omega))
      refine rx_aload_n (i := 0) dX11_findStates_46 rfl rfl ?_
      refine rx_getR 169 (k := 47) fo_X11_105 kl_140 (by decide) ti_11_47 (by decide) rfl dX11_findStates_47 ?_
      refine rx_iload_n (i := 2) dX11_findStates_50 rfl rfl ?_
      refine rx_aload_n (i := 0) dX11_findStates_51 rfl rfl ?_
      refine rx_getR 141 (k := 1) fo_X11_9 kl_140 (by decide) ti_11_1 (by decide) rfl dX11_findStates_52 ?_
      refine rx_iload_n (i := 2) dX11_findStates_55 rfl rfl ?_
      refine rx_ialdN kl_141 (by omega) (by first | decide | omega) dX11_findStates_56 ?_
      refine rx_top (M.1 141 i) (cpA_o (by omega)) ?_
      refine rx_iastN kl_169 (by omega) (by first | decide | omega) dX11_findStates_57 ?_
      rw [cpA_s]
      first | refine rx_iincN (i := 2) dX11_findStates_58 rfl (by decide) rfl rfl ?_ | refine rx_iinc (i := 2) dX11_findStates_58 rfl rfl (by decide) rfl rfl ?_
      refine rx_goto (tgt := 38) dX11_findStates_61 (by decide) ?_
      exact ih (i + 1) (by omega) (by omega)
set_option maxRecDepth 100000 in
set_option maxHeartbeats 4000000 in
theorem l_findBack {M : Mem} {n : Nat} {day b : Int32} (hn : M.1 140 0 = nI n) (hn8 : n ≤ 8) {QQ : Nat → List (Option Value) → List Value → Mem → Prop} (K : Reach cX11_findStates RX11 9 4 QQ 405 [some (.ref 140), some (.int day), some (.int b), none, none, none, none, none, none] [] (cpA M 141 169 n)) : ∀ (N : Nat) (i : Nat), (i ≤ n) → n - i < N → Reach cX11_findStates RX11 9 4 (QQ) 379 [some (.ref 140), some (.int day), some (.int b), some (.int (nI i)), none, none, none, none, none] [] (cpA M 141 169 i) := by
  intro N
  induction N with
  | zero => intro i hi hm; exact absurd ‹_ < 0› (Nat.not_lt_zero _)
  | succ N ih =>
    intro i hi hm
    refine rx_iload_n (i := 3) dX11_findStates_379 rfl rfl ?_
    refine rx_aload_n (i := 0) dX11_findStates_380 rfl rfl ?_
    refine rx_getI (k := 0) fo_X11_132 kl_140 (by decide) ti_11_0 dX11_findStates_381 ?_
    refine rx_top (nI n) ((cpA_o (by omega)).trans hn) ?_
    refine rx_icmp_ge (tgt := 405) dX11_findStates_384 (by decide) (fun c384 => ?_) (fun c384 => ?_)
    · skip
      have f384 := Int32.not_lt.mpr c384
      have e384 : i = n := by have := (nI_leI (a := n) (by omega) (by omega)).mp c384; omega
      subst e384
      refine rx_drop 3 ?_
      exact K
    · skip
      have f384 := Int32.not_le.mp c384
      have e384 : i < n := Nat.lt_of_not_le fun q => c384 (nI_le (a := n) q (by omega))
      refine rx_aload_n (i := 0) dX11_findStates_387 rfl rfl ?_
      refine rx_getR 141 (k := 1) fo_X11_9 kl_140 (by decide) ti_11_1 (by decide) rfl dX11_findStates_388 ?_
      refine rx_iload_n (i := 3) dX11_findStates_391 rfl rfl ?_
      refine rx_aload_n (i := 0) dX11_findStates_392 rfl rfl ?_
      refine rx_getR 169 (k := 47) fo_X11_105 kl_140 (by decide) ti_11_47 (by decide) rfl dX11_findStates_393 ?_
      refine rx_iload_n (i := 3) dX11_findStates_396 rfl rfl ?_
      refine rx_ialdN kl_169 (by omega) (by first | decide | omega) dX11_findStates_397 ?_
      refine rx_top (M.1 169 i) (cpA_o (by omega)) ?_
      refine rx_iastN kl_141 (by omega) (by first | decide | omega) dX11_findStates_398 ?_
      rw [cpA_s]
      first | refine rx_iincN (i := 3) dX11_findStates_399 rfl (by decide) rfl rfl ?_ | refine rx_iinc (i := 3) dX11_findStates_399 rfl rfl (by decide) rfl rfl ?_
      refine rx_goto (tgt := 379) dX11_findStates_402 (by decide) ?_
      exact ih (i + 1) (by omega) (by omega)
