/-- a sheet in the class's town -/
def shcM (M : Mem) (x y f s : Int32) (c : Nat) : Mem := (fun a j => if a = 29 ∧ j < c then shE x y f s j else if a = 32 ∧ j < c then 0 else M.1 a j, M.2)
theorem shc_0 {M : Mem} {x y f s : Int32} : shcM M x y f s 0 = M := by
  refine Prod.ext ?_ rfl
  funext a j
  show (if _ then _ else _) = _
  rw [if_neg (by omega), if_neg (by omega)]
theorem shc_s {M : Mem} {x y f s : Int32} {c : Nat} : setI (setI (shcM M x y f s c) 29 c (shE x y f s c)) 32 c 0 = shcM M x y f s (c + 1) := by
  refine Prod.ext ?_ rfl
  funext a j
  simp only [setI, shcM]
  by_cases h1 : a = 32 ∧ j = c
  · rw [if_pos h1, if_neg (by omega), if_pos (by omega)]
  · rw [if_neg h1]
    by_cases h2 : a = 29 ∧ j = c
    · rw [if_pos h2, if_pos (by omega), h2.2]
    · rw [if_neg h2]
      by_cases h3 : a = 29 ∧ j < c
      · rw [if_pos h3, if_pos (by omega)]
      · by_cases h4 : a = 32 ∧ j < c
        · rw [if_neg h3, if_pos h4, if_neg (by omega), if_pos (by omega)]
        · rw [if_neg h3, if_neg h4, if_neg (by omega), if_neg (by omega)]
theorem shc_o {M : Mem} {x y f s : Int32} {c a j : Nat} (h : a ≠ 29) (h2 : a ≠ 32) : (shcM M x y f s c).1 a j = M.1 a j := by
  show (if _ then _ else _) = _
  rw [if_neg (by omega), if_neg (by omega)]
set_option maxRecDepth 100000 in
set_option maxHeartbeats 4000000 in
theorem l_X10_sheet {M : Mem} {n : Nat} {x y f st b en : Int32} (hn : M.1 28 15 = nI n) (hn8 : n ≤ 8) (hen : ∀ i, i < 8 → (en ≤ nI i ↔ x = 3 ∨ y ≤ nI i)) {QQ : Nat → List (Option Value) → List Value → Mem → Prop} (K : Reach cX10_sheet RX10 9 2 QQ 135 [some (.ref 0), some (.int x), some (.int y), some (.int f), some (.int st), some (.int b), some (.int en), some (.int (fsum (shE x y f st) n)), none] [] (shcM M x y f st n)) : ∀ (N : Nat) (i : Nat) (s : Int32), (i ≤ n) → (s = fsum (shE x y f st) i) → n - i < N → Reach cX10_sheet RX10 9 2 (QQ) 59 [some (.ref 0), some (.int x), some (.int y), some (.int f), some (.int st), some (.int b), some (.int en), some (.int s), some (.int (nI i))] [] (shcM M x y f st i) := by
  intro N
  induction N with
  | zero => intro i s hi hs hm; exact absurd ‹_ < 0› (Nat.not_lt_zero _)
  | succ N ih =>
    intro i s hi hs hm
    refine rx_iload (i := 8) dX10_sheet_59 rfl ?_
    refine rx_aload_n (i := 0) dX10_sheet_61 rfl rfl ?_
    refine rx_getR 28 (k := 2) fo_X10_26 kl_0 (by decide) ti_10_2 (by decide) rfl dX10_sheet_62 ?_
    refine rx_getI (k := 15) fo_X10_184 kl_28 (by decide) ti_8_15 dX10_sheet_65 ?_
    refine rx_top (nI n) ((shc_o (by omega) (by omega)).trans hn) ?_
    refine rx_icmp_ge (tgt := 135) dX10_sheet_68 (by decide) (fun c68 => ?_) (fun c68 => ?_)
    · skip
      have f68 := Int32.not_lt.mpr c68
      have e68 : i = n := by have := (nI_leI (by omega) (by omega)).mp c68; omega
      subst e68
      refine rx_drop 8 ?_
      subst hs
      exact K
    · skip
      have f68 := Int32.not_le.mp c68
      have e68 : i < n := Nat.lt_of_not_le fun q => c68 (nI_le q (by omega))
      refine rx_aload_n (i := 0) dX10_sheet_71 rfl rfl ?_
      refine rx_getR 28 (k := 2) fo_X10_26 kl_0 (by decide) ti_10_2 (by decide) rfl dX10_sheet_72 ?_
      refine rx_getR 29 (k := 0) fo_X10_126 kl_28 (by decide) ti_8_0 (by decide) rfl dX10_sheet_75 ?_
      refine rx_iload (i := 8) dX10_sheet_78 rfl ?_
      refine rx_iload (i := 8) dX10_sheet_80 rfl ?_
      refine rx_iload (i := 6) dX10_sheet_82 rfl ?_
      refine rx_icmp_ge (tgt := 101) dX10_sheet_84 (by decide) (fun c84 => ?_) (fun c84 => ?_)
      · skip
        have f84 := Int32.not_lt.mpr c84
        refine rx_iconst (0) dX10_sheet_101 rfl ?_
        refine rx_top ((shE x y f st) i) ((if_pos ((hen i (by omega)).mp c84)).symm) ?_
        refine rx_iastN kl_29 (by omega) (by first | decide | omega) dX10_sheet_102 ?_
        refine rx_aload_n (i := 0) dX10_sheet_103 rfl rfl ?_
        refine rx_getR 28 (k := 2) fo_X10_26 kl_0 (by decide) ti_10_2 (by decide) rfl dX10_sheet_104 ?_
        refine rx_getR 32 (k := 3) fo_X10_135 kl_28 (by decide) ti_8_3 (by decide) rfl dX10_sheet_107 ?_
        refine rx_iload (i := 8) dX10_sheet_110 rfl ?_
        refine rx_iconst (0) dX10_sheet_112 rfl ?_
        refine rx_iastN kl_32 (by omega) (by first | decide | omega) dX10_sheet_113 ?_
        rw [shc_s]
        refine rx_iload (i := 7) dX10_sheet_114 rfl ?_
        refine rx_aload_n (i := 0) dX10_sheet_116 rfl rfl ?_
        refine rx_getR 28 (k := 2) fo_X10_26 kl_0 (by decide) ti_10_2 (by decide) rfl dX10_sheet_117 ?_
        refine rx_getR 29 (k := 0) fo_X10_126 kl_28 (by decide) ti_8_0 (by decide) rfl dX10_sheet_120 ?_
        refine rx_iload (i := 8) dX10_sheet_123 rfl ?_
        refine rx_ialdN kl_29 (by omega) (by first | decide | omega) dX10_sheet_125 ?_
        refine rx_top ((shE x y f st) i) (if_pos ⟨rfl, Nat.lt_succ_self _⟩) ?_
        refine rx_iadd dX10_sheet_126 ?_
        refine rx_istore (i := 7) dX10_sheet_127 (by decide) rfl rfl ?_
        first | refine rx_iincN (i := 8) dX10_sheet_129 rfl (by decide) rfl rfl ?_ | refine rx_iinc (i := 8) dX10_sheet_129 rfl rfl (by decide) rfl rfl ?_
        refine rx_goto (tgt := 59) dX10_sheet_132 (by decide) ?_
        exact ih (i + 1) _ (by omega) (by rw [hs]; rfl) (by omega)
      · skip
        have f84 := Int32.not_le.mp c84
        refine rx_iload_n (i := 1) dX10_sheet_87 rfl rfl ?_
        refine rx_iload_n (i := 3) dX10_sheet_88 rfl rfl ?_
        refine rx_iload (i := 8) dX10_sheet_89 rfl ?_
        refine rx_iload (i := 4) dX10_sheet_91 rfl ?_
        refine rx_imul dX10_sheet_93 ?_
        refine rx_iadd dX10_sheet_94 ?_
        refine rx_csI mo_X10_entry lk_X10_188 c_X10_entry (by decide) rfl rfl (Nat.le_of_ble_eq_true rfl) dX10_sheet_95 ?_
        refine rx_top ((shE x y f st) i) ((if_neg (fun q => absurd ((hen i (by omega)).mpr q) c84)).symm) ?_
        refine rx_goto (tgt := 102) dX10_sheet_98 (by decide) ?_
        refine rx_iastN kl_29 (by omega) (by first | decide | omega) dX10_sheet_102 ?_
        refine rx_aload_n (i := 0) dX10_sheet_103 rfl rfl ?_
        refine rx_getR 28 (k := 2) fo_X10_26 kl_0 (by decide) ti_10_2 (by decide) rfl dX10_sheet_104 ?_
        refine rx_getR 32 (k := 3) fo_X10_135 kl_28 (by decide) ti_8_3 (by decide) rfl dX10_sheet_107 ?_
        refine rx_iload (i := 8) dX10_sheet_110 rfl ?_
        refine rx_iconst (0) dX10_sheet_112 rfl ?_
        refine rx_iastN kl_32 (by omega) (by first | decide | omega) dX10_sheet_113 ?_
        rw [shc_s]
        refine rx_iload (i := 7) dX10_sheet_114 rfl ?_
        refine rx_aload_n (i := 0) dX10_sheet_116 rfl rfl ?_
        refine rx_getR 28 (k := 2) fo_X10_26 kl_0 (by decide) ti_10_2 (by decide) rfl dX10_sheet_117 ?_
        refine rx_getR 29 (k := 0) fo_X10_126 kl_28 (by decide) ti_8_0 (by decide) rfl dX10_sheet_120 ?_
        refine rx_iload (i := 8) dX10_sheet_123 rfl ?_
        refine rx_ialdN kl_29 (by omega) (by first | decide | omega) dX10_sheet_125 ?_
        refine rx_top ((shE x y f st) i) (if_pos ⟨rfl, Nat.lt_succ_self _⟩) ?_
        refine rx_iadd dX10_sheet_126 ?_
        refine rx_istore (i := 7) dX10_sheet_127 (by decide) rfl rfl ?_
        first | refine rx_iincN (i := 8) dX10_sheet_129 rfl (by decide) rfl rfl ?_ | refine rx_iinc (i := 8) dX10_sheet_129 rfl rfl (by decide) rfl rfl ?_
        refine rx_goto (tgt := 59) dX10_sheet_132 (by decide) ?_
        exact ih (i + 1) _ (by omega) (by rw [hs]; rfl) (by omega)
