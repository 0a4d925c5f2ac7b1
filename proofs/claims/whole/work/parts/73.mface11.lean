/-- an entry of a sheet, cut -/
def cutF (x v : Int32) : Int32 := if x = 0 then v.toInt8.toInt32 else if x = 1 then v.toInt16.toInt32 else v
def minF (v : Int32) : Int32 := if v < 999 then v else 999
def maxF (v : Int32) : Int32 := if 0 < v then v else 0
def shE (x y f s : Int32) (i : Nat) : Int32 := if x = 3 ∨ y ≤ nI i then 0 else maxF (minF (cutF x (f + nI i * s)))
def shtM (M : Mem) (x y f s : Int32) (c : Nat) : Mem := (fun a j => if a = 141 ∧ j < c then shE x y f s j else if a = 144 ∧ j < c then 0 else M.1 a j, M.2)
theorem sht_0 {M : Mem} {x y f s : Int32} : shtM M x y f s 0 = M := by
  refine Prod.ext ?_ rfl
  funext a j
  show (if _ then _ else _) = _
  rw [if_neg (by omega), if_neg (by omega)]
theorem sht_s {M : Mem} {x y f s : Int32} {c : Nat} : setI (setI (shtM M x y f s c) 141 c (shE x y f s c)) 144 c 0 = shtM M x y f s (c + 1) := by
  refine Prod.ext ?_ rfl
  funext a j
  simp only [setI, shtM]
  by_cases h1 : a = 144 ∧ j = c
  · rw [if_pos h1, if_neg (by omega), if_pos (by omega)]
  · rw [if_neg h1]
    by_cases h2 : a = 141 ∧ j = c
    · rw [if_pos h2, if_pos (by omega), h2.2]
    · rw [if_neg h2]
      by_cases h3 : a = 141 ∧ j < c
      · rw [if_pos h3, if_pos (by omega)]
      · by_cases h4 : a = 144 ∧ j < c
        · rw [if_neg h3, if_pos h4, if_neg (by omega), if_pos (by omega)]
        · rw [if_neg h3, if_neg h4, if_neg (by omega), if_neg (by omega)]
theorem sht_o {M : Mem} {x y f s : Int32} {c a j : Nat} (h : a ≠ 141) (h2 : a ≠ 144) : (shtM M x y f s c).1 a j = M.1 a j := by
  show (if _ then _ else _) = _
  rw [if_neg (by omega), if_neg (by omega)]
theorem st_step {f s : Int32} {i : Nat} : f + nI i * s + s = f + nI (i + 1) * s := by
  have e : nI (i + 1) = nI i + 1 := by rw [← nI_add]; rfl
  rw [e, Int32.add_mul, Int32.one_mul, Int32.add_assoc]
set_option maxRecDepth 100000 in
set_option maxHeartbeats 4000000 in
theorem l_X11_sheet {M : Mem} {n : Nat} {x y f st : Int32} (hn : M.1 140 0 = nI n) (hn8 : n ≤ 8) : ∀ (N : Nat) (i : Nat) (s : Int32), (i ≤ n) → (s = fsum (shE x y f st) i) → n - i < N → Reach cX11_sheet RX11 9 1 (FQ cX11_sheet (some .int) (some (.int (if x = 3 then -3 else fsum (shE x y f st) n))) (setI (shtM M x y f st n) 140 32 0)) 46 [some (.ref 140), some (.int x), some (.int y), some (.int f), some (.int st), some (.int s), some (.int (f + nI i * st)), some (.int (nI i)), none] [] (shtM M x y f st i) := by
  intro N
  induction N with
  | zero => intro i s hi hs hm; exact absurd ‹_ < 0› (Nat.not_lt_zero _)
  | succ N ih =>
    intro i s hi hs hm
    refine rx_iload (i := 7) dX11_sheet_46 rfl ?_
    refine rx_aload_n (i := 0) dX11_sheet_48 rfl rfl ?_
    refine rx_getI (k := 0) fo_X11_132 kl_140 (by decide) ti_11_0 dX11_sheet_49 ?_
    refine rx_top (nI n) ((sht_o (by omega) (by omega)).trans hn) ?_
    refine rx_icmp_ge (tgt := 147) dX11_sheet_52 (by decide) (fun c52 => ?_) (fun c52 => ?_)
    · skip
      have f52 := Int32.not_lt.mpr c52
      have e52 : i = n := by have := (nI_leI (by omega) (by omega)).mp c52; omega
      subst e52
      refine rx_aload_n (i := 0) dX11_sheet_147 rfl rfl ?_
      refine rx_iconst (0) dX11_sheet_148 rfl ?_
      refine rx_putI (k := 32) fo_X11_198 fn_11_32 kl_140 (by decide) ty_11_32 dX11_sheet_149 ?_
      refine rx_iload_n (i := 1) dX11_sheet_152 rfl rfl ?_
      refine rx_iconst (3) dX11_sheet_153 rfl ?_
      refine rx_icmp_ne (tgt := 162) dX11_sheet_154 (by decide) (fun c154 => ?_) (fun c154 => ?_)
      · skip
        refine rx_iload (i := 5) dX11_sheet_162 rfl ?_
        exact rx_fiI dX11_sheet_164 (by first | exact (if_pos c154).symm | exact hs.trans (if_neg c154).symm) rfl
      · skip
        refine rx_bipush (-3) dX11_sheet_157 rfl ?_
        refine rx_goto (tgt := 164) dX11_sheet_159 (by decide) ?_
        exact rx_fiI dX11_sheet_164 (by first | exact (if_pos c154).symm | exact hs.trans (if_neg c154).symm) rfl
    · skip
      have f52 := Int32.not_le.mp c52
      have e52 : i < n := Nat.lt_of_not_le fun q => c52 (nI_le q (by omega))
      refine rx_iload_n (i := 1) dX11_sheet_55 rfl rfl ?_
      refine rx_if_ne (tgt := 65) dX11_sheet_56 (by decide) (fun c56 => ?_) (fun c56 => ?_)
      · skip
        refine rx_iload_n (i := 1) dX11_sheet_65 rfl rfl ?_
        refine rx_iconst (1) dX11_sheet_66 rfl ?_
        refine rx_icmp_ne (tgt := 76) dX11_sheet_67 (by decide) (fun c67 => ?_) (fun c67 => ?_)
        · skip
          refine rx_iload (i := 6) dX11_sheet_76 rfl ?_
          refine rx_top ((cutF x (f + nI i * st))) (((if_neg c56).trans (if_neg c67)).symm) ?_
          refine rx_istore (i := 8) dX11_sheet_78 (by decide) rfl rfl ?_
          refine rx_aload_n (i := 0) dX11_sheet_80 rfl rfl ?_
          refine rx_getR 141 (k := 1) fo_X11_9 kl_140 (by decide) ti_11_1 (by decide) rfl dX11_sheet_81 ?_
          refine rx_iload (i := 7) dX11_sheet_84 rfl ?_
          refine rx_iload_n (i := 1) dX11_sheet_86 rfl rfl ?_
          refine rx_iconst (3) dX11_sheet_87 rfl ?_
          refine rx_icmp_eq (tgt := 97) dX11_sheet_88 (by decide) (fun c88 => ?_) (fun c88 => ?_)
          · skip
            refine rx_iconst (0) dX11_sheet_97 rfl ?_
            refine rx_top ((shE x y f st) i) (by first | exact (if_pos (Or.inl c88)).symm | exact (if_pos (Or.inr (Int32.not_lt.mp c94))).symm) ?_
            refine rx_goto (tgt := 113) dX11_sheet_98 (by decide) ?_
            refine rx_iastN kl_141 (by omega) (by first | decide | omega) dX11_sheet_113 ?_
            refine rx_aload_n (i := 0) dX11_sheet_114 rfl rfl ?_
            refine rx_getR 144 (k := 4) fo_X11_20 kl_140 (by decide) ti_11_4 (by decide) rfl dX11_sheet_115 ?_
            refine rx_iload (i := 7) dX11_sheet_118 rfl ?_
            refine rx_iconst (0) dX11_sheet_120 rfl ?_
            refine rx_iastN kl_144 (by omega) (by first | decide | omega) dX11_sheet_121 ?_
            rw [sht_s]
            refine rx_iload (i := 5) dX11_sheet_122 rfl ?_
            refine rx_aload_n (i := 0) dX11_sheet_124 rfl rfl ?_
            refine rx_getR 141 (k := 1) fo_X11_9 kl_140 (by decide) ti_11_1 (by decide) rfl dX11_sheet_125 ?_
            refine rx_iload (i := 7) dX11_sheet_128 rfl ?_
            refine rx_ialdN kl_141 (by omega) (by first | decide | omega) dX11_sheet_130 ?_
            refine rx_top ((shE x y f st) i) (if_pos ⟨rfl, Nat.lt_succ_self _⟩) ?_
            refine rx_iadd dX11_sheet_131 ?_
            refine rx_istore (i := 5) dX11_sheet_132 (by decide) rfl rfl ?_
            refine rx_iload (i := 6) dX11_sheet_134 rfl ?_
            refine rx_iload (i := 4) dX11_sheet_136 rfl ?_
            refine rx_iadd dX11_sheet_138 ?_
            rw [st_step]
            refine rx_istore (i := 6) dX11_sheet_139 (by decide) rfl rfl ?_
            first | refine rx_iincN (i := 7) dX11_sheet_141 rfl (by decide) rfl rfl ?_ | refine rx_iinc (i := 7) dX11_sheet_141 rfl rfl (by decide) rfl rfl ?_
            refine rx_goto (tgt := 46) dX11_sheet_144 (by decide) ?_
            refine rx_drop 8 ?_
            exact ih (i + 1) _ (by omega) (by rw [hs]; rfl) (by omega)
          · skip
            refine rx_iload (i := 7) dX11_sheet_91 rfl ?_
            refine rx_iload_n (i := 2) dX11_sheet_93 rfl rfl ?_
            refine rx_icmp_lt (tgt := 101) dX11_sheet_94 (by decide) (fun c94 => ?_) (fun c94 => ?_)
            · skip
              have f94 := Int32.not_le.mpr c94
              refine rx_iconst (0) dX11_sheet_101 rfl ?_
              refine rx_sipush (999) dX11_sheet_102 rfl ?_
              refine rx_iload (i := 8) dX11_sheet_105 rfl ?_
              refine rx_mmin (List.mem_of_getElem? (i := 1714) (by decide +kernel)) (by decide) (Nat.le_of_ble_eq_true rfl) dX11_sheet_107 ?_
              refine rx_mmax (List.mem_of_getElem? (i := 1715) (by decide +kernel)) (by decide) (Nat.le_of_ble_eq_true rfl) dX11_sheet_110 ?_
              refine rx_top ((shE x y f st) i) ((if_neg (fun q => q.elim c88 (fun z => absurd c94 (Int32.not_lt.mpr z)))).symm) ?_
              refine rx_iastN kl_141 (by omega) (by first | decide | omega) dX11_sheet_113 ?_
              refine rx_aload_n (i := 0) dX11_sheet_114 rfl rfl ?_
              refine rx_getR 144 (k := 4) fo_X11_20 kl_140 (by decide) ti_11_4 (by decide) rfl dX11_sheet_115 ?_
              refine rx_iload (i := 7) dX11_sheet_118 rfl ?_
              refine rx_iconst (0) dX11_sheet_120 rfl ?_
              refine rx_iastN kl_144 (by omega) (by first | decide | omega) dX11_sheet_121 ?_
              rw [sht_s]
              refine rx_iload (i := 5) dX11_sheet_122 rfl ?_
              refine rx_aload_n (i := 0) dX11_sheet_124 rfl rfl ?_
              refine rx_getR 141 (k := 1) fo_X11_9 kl_140 (by decide) ti_11_1 (by decide) rfl dX11_sheet_125 ?_
              refine rx_iload (i := 7) dX11_sheet_128 rfl ?_
              refine rx_ialdN kl_141 (by omega) (by first | decide | omega) dX11_sheet_130 ?_
              refine rx_top ((shE x y f st) i) (if_pos ⟨rfl, Nat.lt_succ_self _⟩) ?_
              refine rx_iadd dX11_sheet_131 ?_
              refine rx_istore (i := 5) dX11_sheet_132 (by decide) rfl rfl ?_
              refine rx_iload (i := 6) dX11_sheet_134 rfl ?_
              refine rx_iload (i := 4) dX11_sheet_136 rfl ?_
              refine rx_iadd dX11_sheet_138 ?_
              rw [st_step]
              refine rx_istore (i := 6) dX11_sheet_139 (by decide) rfl rfl ?_
              first | refine rx_iincN (i := 7) dX11_sheet_141 rfl (by decide) rfl rfl ?_ | refine rx_iinc (i := 7) dX11_sheet_141 rfl rfl (by decide) rfl rfl ?_
              refine rx_goto (tgt := 46) dX11_sheet_144 (by decide) ?_
              refine rx_drop 8 ?_
              exact ih (i + 1) _ (by omega) (by rw [hs]; rfl) (by omega)
            · skip
              have f94 := Int32.not_lt.mp c94
              refine rx_iconst (0) dX11_sheet_97 rfl ?_
              refine rx_top ((shE x y f st) i) (by first | exact (if_pos (Or.inl c88)).symm | exact (if_pos (Or.inr (Int32.not_lt.mp c94))).symm) ?_
              refine rx_goto (tgt := 113) dX11_sheet_98 (by decide) ?_
              refine rx_iastN kl_141 (by omega) (by first | decide | omega) dX11_sheet_113 ?_
              refine rx_aload_n (i := 0) dX11_sheet_114 rfl rfl ?_
              refine rx_getR 144 (k := 4) fo_X11_20 kl_140 (by decide) ti_11_4 (by decide) rfl dX11_sheet_115 ?_
              refine rx_iload (i := 7) dX11_sheet_118 rfl ?_
              refine rx_iconst (0) dX11_sheet_120 rfl ?_
              refine rx_iastN kl_144 (by omega) (by first | decide | omega) dX11_sheet_121 ?_
              rw [sht_s]
              refine rx_iload (i := 5) dX11_sheet_122 rfl ?_
              refine rx_aload_n (i := 0) dX11_sheet_124 rfl rfl ?_
              refine rx_getR 141 (k := 1) fo_X11_9 kl_140 (by decide) ti_11_1 (by decide) rfl dX11_sheet_125 ?_
              refine rx_iload (i := 7) dX11_sheet_128 rfl ?_
              refine rx_ialdN kl_141 (by omega) (by first | decide | omega) dX11_sheet_130 ?_
              refine rx_top ((shE x y f st) i) (if_pos ⟨rfl, Nat.lt_succ_self _⟩) ?_
              refine rx_iadd dX11_sheet_131 ?_
              refine rx_istore (i := 5) dX11_sheet_132 (by decide) rfl rfl ?_
              refine rx_iload (i := 6) dX11_sheet_134 rfl ?_
              refine rx_iload (i := 4) dX11_sheet_136 rfl ?_
              refine rx_iadd dX11_sheet_138 ?_
              rw [st_step]
              refine rx_istore (i := 6) dX11_sheet_139 (by decide) rfl rfl ?_
              first | refine rx_iincN (i := 7) dX11_sheet_141 rfl (by decide) rfl rfl ?_ | refine rx_iinc (i := 7) dX11_sheet_141 rfl rfl (by decide) rfl rfl ?_
              refine rx_goto (tgt := 46) dX11_sheet_144 (by decide) ?_
              refine rx_drop 8 ?_
              exact ih (i + 1) _ (by omega) (by rw [hs]; rfl) (by omega)
        · skip
          refine rx_iload (i := 6) dX11_sheet_70 rfl ?_
          refine rx_i2s dX11_sheet_72 rfl ?_
          refine rx_top ((cutF x (f + nI i * st))) (((if_neg c56).trans (if_pos c67)).symm) ?_
          refine rx_goto (tgt := 78) dX11_sheet_73 (by decide) ?_
          refine rx_istore (i := 8) dX11_sheet_78 (by decide) rfl rfl ?_
          refine rx_aload_n (i := 0) dX11_sheet_80 rfl rfl ?_
          refine rx_getR 141 (k := 1) fo_X11_9 kl_140 (by decide) ti_11_1 (by decide) rfl dX11_sheet_81 ?_
          refine rx_iload (i := 7) dX11_sheet_84 rfl ?_
          refine rx_iload_n (i := 1) dX11_sheet_86 rfl rfl ?_
          refine rx_iconst (3) dX11_sheet_87 rfl ?_
          refine rx_icmp_eq (tgt := 97) dX11_sheet_88 (by decide) (fun c88 => ?_) (fun c88 => ?_)
          · skip
            refine rx_iconst (0) dX11_sheet_97 rfl ?_
            refine rx_top ((shE x y f st) i) (by first | exact (if_pos (Or.inl c88)).symm | exact (if_pos (Or.inr (Int32.not_lt.mp c94))).symm) ?_
            refine rx_goto (tgt := 113) dX11_sheet_98 (by decide) ?_
            refine rx_iastN kl_141 (by omega) (by first | decide | omega) dX11_sheet_113 ?_
            refine rx_aload_n (i := 0) dX11_sheet_114 rfl rfl ?_
            refine rx_getR 144 (k := 4) fo_X11_20 kl_140 (by decide) ti_11_4 (by decide) rfl dX11_sheet_115 ?_
            refine rx_iload (i := 7) dX11_sheet_118 rfl ?_
            refine rx_iconst (0) dX11_sheet_120 rfl ?_
            refine rx_iastN kl_144 (by omega) (by first | decide | omega) dX11_sheet_121 ?_
            rw [sht_s]
            refine rx_iload (i := 5) dX11_sheet_122 rfl ?_
            refine rx_aload_n (i := 0) dX11_sheet_124 rfl rfl ?_
            refine rx_getR 141 (k := 1) fo_X11_9 kl_140 (by decide) ti_11_1 (by decide) rfl dX11_sheet_125 ?_
            refine rx_iload (i := 7) dX11_sheet_128 rfl ?_
            refine rx_ialdN kl_141 (by omega) (by first | decide | omega) dX11_sheet_130 ?_
            refine rx_top ((shE x y f st) i) (if_pos ⟨rfl, Nat.lt_succ_self _⟩) ?_
            refine rx_iadd dX11_sheet_131 ?_
            refine rx_istore (i := 5) dX11_sheet_132 (by decide) rfl rfl ?_
            refine rx_iload (i := 6) dX11_sheet_134 rfl ?_
            refine rx_iload (i := 4) dX11_sheet_136 rfl ?_
            refine rx_iadd dX11_sheet_138 ?_
            rw [st_step]
            refine rx_istore (i := 6) dX11_sheet_139 (by decide) rfl rfl ?_
            first | refine rx_iincN (i := 7) dX11_sheet_141 rfl (by decide) rfl rfl ?_ | refine rx_iinc (i := 7) dX11_sheet_141 rfl rfl (by decide) rfl rfl ?_
            refine rx_goto (tgt := 46) dX11_sheet_144 (by decide) ?_
            refine rx_drop 8 ?_
            exact ih (i + 1) _ (by omega) (by rw [hs]; rfl) (by omega)
          · skip
            refine rx_iload (i := 7) dX11_sheet_91 rfl ?_
            refine rx_iload_n (i := 2) dX11_sheet_93 rfl rfl ?_
            refine rx_icmp_lt (tgt := 101) dX11_sheet_94 (by decide) (fun c94 => ?_) (fun c94 => ?_)
            · skip
              have f94 := Int32.not_le.mpr c94
              refine rx_iconst (0) dX11_sheet_101 rfl ?_
              refine rx_sipush (999) dX11_sheet_102 rfl ?_
              refine rx_iload (i := 8) dX11_sheet_105 rfl ?_
              refine rx_mmin (List.mem_of_getElem? (i := 1714) (by decide +kernel)) (by decide) (Nat.le_of_ble_eq_true rfl) dX11_sheet_107 ?_
              refine rx_mmax (List.mem_of_getElem? (i := 1715) (by decide +kernel)) (by decide) (Nat.le_of_ble_eq_true rfl) dX11_sheet_110 ?_
              refine rx_top ((shE x y f st) i) ((if_neg (fun q => q.elim c88 (fun z => absurd c94 (Int32.not_lt.mpr z)))).symm) ?_
              refine rx_iastN kl_141 (by omega) (by first | decide | omega) dX11_sheet_113 ?_
              refine rx_aload_n (i := 0) dX11_sheet_114 rfl rfl ?_
              refine rx_getR 144 (k := 4) fo_X11_20 kl_140 (by decide) ti_11_4 (by decide) rfl dX11_sheet_115 ?_
              refine rx_iload (i := 7) dX11_sheet_118 rfl ?_
              refine rx_iconst (0) dX11_sheet_120 rfl ?_
              refine rx_iastN kl_144 (by omega) (by first | decide | omega) dX11_sheet_121 ?_
              rw [sht_s]
              refine rx_iload (i := 5) dX11_sheet_122 rfl ?_
              refine rx_aload_n (i := 0) dX11_sheet_124 rfl rfl ?_
              refine rx_getR 141 (k := 1) fo_X11_9 kl_140 (by decide) ti_11_1 (by decide) rfl dX11_sheet_125 ?_
              refine rx_iload (i := 7) dX11_sheet_128 rfl ?_
              refine rx_ialdN kl_141 (by omega) (by first | decide | omega) dX11_sheet_130 ?_
              refine rx_top ((shE x y f st) i) (if_pos ⟨rfl, Nat.lt_succ_self _⟩) ?_
              refine rx_iadd dX11_sheet_131 ?_
              refine rx_istore (i := 5) dX11_sheet_132 (by decide) rfl rfl ?_
              refine rx_iload (i := 6) dX11_sheet_134 rfl ?_
              refine rx_iload (i := 4) dX11_sheet_136 rfl ?_
              refine rx_iadd dX11_sheet_138 ?_
              rw [st_step]
              refine rx_istore (i := 6) dX11_sheet_139 (by decide) rfl rfl ?_
              first | refine rx_iincN (i := 7) dX11_sheet_141 rfl (by decide) rfl rfl ?_ | refine rx_iinc (i := 7) dX11_sheet_141 rfl rfl (by decide) rfl rfl ?_
              refine rx_goto (tgt := 46) dX11_sheet_144 (by decide) ?_
              refine rx_drop 8 ?_
              exact ih (i + 1) _ (by omega) (by rw [hs]; rfl) (by omega)
            · skip
              have f94 := Int32.not_lt.mp c94
              refine rx_iconst (0) dX11_sheet_97 rfl ?_
              refine rx_top ((shE x y f st) i) (by first | exact (if_pos (Or.inl c88)).symm | exact (if_pos (Or.inr (Int32.not_lt.mp c94))).symm) ?_
              refine rx_goto (tgt := 113) dX11_sheet_98 (by decide) ?_
              refine rx_iastN kl_141 (by omega) (by first | decide | omega) dX11_sheet_113 ?_
              refine rx_aload_n (i := 0) dX11_sheet_114 rfl rfl ?_
              refine rx_getR 144 (k := 4) fo_X11_20 kl_140 (by decide) ti_11_4 (by decide) rfl dX11_sheet_115 ?_
              refine rx_iload (i := 7) dX11_sheet_118 rfl ?_
              refine rx_iconst (0) dX11_sheet_120 rfl ?_
              refine rx_iastN kl_144 (by omega) (by first | decide | omega) dX11_sheet_121 ?_
              rw [sht_s]
              refine rx_iload (i := 5) dX11_sheet_122 rfl ?_
              refine rx_aload_n (i := 0) dX11_sheet_124 rfl rfl ?_
              refine rx_getR 141 (k := 1) fo_X11_9 kl_140 (by decide) ti_11_1 (by decide) rfl dX11_sheet_125 ?_
              refine rx_iload (i := 7) dX11_sheet_128 rfl ?_
              refine rx_ialdN kl_141 (by omega) (by first | decide | omega) dX11_sheet_130 ?_
              refine rx_top ((shE x y f st) i) (if_pos ⟨rfl, Nat.lt_succ_self _⟩) ?_
              refine rx_iadd dX11_sheet_131 ?_
              refine rx_istore (i := 5) dX11_sheet_132 (by decide) rfl rfl ?_
              refine rx_iload (i := 6) dX11_sheet_134 rfl ?_
              refine rx_iload (i := 4) dX11_sheet_136 rfl ?_
              refine rx_iadd dX11_sheet_138 ?_
              rw [st_step]
              refine rx_istore (i := 6) dX11_sheet_139 (by decide) rfl rfl ?_
              first | refine rx_iincN (i := 7) dX11_sheet_141 rfl (by decide) rfl rfl ?_ | refine rx_iinc (i := 7) dX11_sheet_141 rfl rfl (by decide) rfl rfl ?_
              refine rx_goto (tgt := 46) dX11_sheet_144 (by decide) ?_
              refine rx_drop 8 ?_
              exact ih (i + 1) _ (by omega) (by rw [hs]; rfl) (by omega)
      · skip
        refine rx_iload (i := 6) dX11_sheet_59 rfl ?_
        refine rx_i2b dX11_sheet_61 rfl ?_
        refine rx_top ((cutF x (f + nI i * st))) ((if_pos c56).symm) ?_
        refine rx_goto (tgt := 78) dX11_sheet_62 (by decide) ?_
        refine rx_istore (i := 8) dX11_sheet_78 (by decide) rfl rfl ?_
        refine rx_aload_n (i := 0) dX11_sheet_80 rfl rfl ?_
        refine rx_getR 141 (k := 1) fo_X11_9 kl_140 (by decide) ti_11_1 (by decide) rfl dX11_sheet_81 ?_
        refine rx_iload (i := 7) dX11_sheet_84 rfl ?_
        refine rx_iload_n (i := 1) dX11_sheet_86 rfl rfl ?_
        refine rx_iconst (3) dX11_sheet_87 rfl ?_
        refine rx_icmp_eq (tgt := 97) dX11_sheet_88 (by decide) (fun c88 => ?_) (fun c88 => ?_)
        · skip
          refine rx_iconst (0) dX11_sheet_97 rfl ?_
          refine rx_top ((shE x y f st) i) (by first | exact (if_pos (Or.inl c88)).symm | exact (if_pos (Or.inr (Int32.not_lt.mp c94))).symm) ?_
          refine rx_goto (tgt := 113) dX11_sheet_98 (by decide) ?_
          refine rx_iastN kl_141 (by omega) (by first | decide | omega) dX11_sheet_113 ?_
          refine rx_aload_n (i := 0) dX11_sheet_114 rfl rfl ?_
          refine rx_getR 144 (k := 4) fo_X11_20 kl_140 (by decide) ti_11_4 (by decide) rfl dX11_sheet_115 ?_
          refine rx_iload (i := 7) dX11_sheet_118 rfl ?_
          refine rx_iconst (0) dX11_sheet_120 rfl ?_
          refine rx_iastN kl_144 (by omega) (by first | decide | omega) dX11_sheet_121 ?_
          rw [sht_s]
          refine rx_iload (i := 5) dX11_sheet_122 rfl ?_
          refine rx_aload_n (i := 0) dX11_sheet_124 rfl rfl ?_
          refine rx_getR 141 (k := 1) fo_X11_9 kl_140 (by decide) ti_11_1 (by decide) rfl dX11_sheet_125 ?_
          refine rx_iload (i := 7) dX11_sheet_128 rfl ?_
          refine rx_ialdN kl_141 (by omega) (by first | decide | omega) dX11_sheet_130 ?_
          refine rx_top ((shE x y f st) i) (if_pos ⟨rfl, Nat.lt_succ_self _⟩) ?_
          refine rx_iadd dX11_sheet_131 ?_
          refine rx_istore (i := 5) dX11_sheet_132 (by decide) rfl rfl ?_
          refine rx_iload (i := 6) dX11_sheet_134 rfl ?_
          refine rx_iload (i := 4) dX11_sheet_136 rfl ?_
          refine rx_iadd dX11_sheet_138 ?_
          rw [st_step]
          refine rx_istore (i := 6) dX11_sheet_139 (by decide) rfl rfl ?_
          first | refine rx_iincN (i := 7) dX11_sheet_141 rfl (by decide) rfl rfl ?_ | refine rx_iinc (i := 7) dX11_sheet_141 rfl rfl (by decide) rfl rfl ?_
          refine rx_goto (tgt := 46) dX11_sheet_144 (by decide) ?_
          refine rx_drop 8 ?_
          exact ih (i + 1) _ (by omega) (by rw [hs]; rfl) (by omega)
        · skip
          refine rx_iload (i := 7) dX11_sheet_91 rfl ?_
          refine rx_iload_n (i := 2) dX11_sheet_93 rfl rfl ?_
          refine rx_icmp_lt (tgt := 101) dX11_sheet_94 (by decide) (fun c94 => ?_) (fun c94 => ?_)
          · skip
            have f94 := Int32.not_le.mpr c94
            refine rx_iconst (0) dX11_sheet_101 rfl ?_
            refine rx_sipush (999) dX11_sheet_102 rfl ?_
            refine rx_iload (i := 8) dX11_sheet_105 rfl ?_
            refine rx_mmin (List.mem_of_getElem? (i := 1714) (by decide +kernel)) (by decide) (Nat.le_of_ble_eq_true rfl) dX11_sheet_107 ?_
            refine rx_mmax (List.mem_of_getElem? (i := 1715) (by decide +kernel)) (by decide) (Nat.le_of_ble_eq_true rfl) dX11_sheet_110 ?_
            refine rx_top ((shE x y f st) i) ((if_neg (fun q => q.elim c88 (fun z => absurd c94 (Int32.not_lt.mpr z)))).symm) ?_
            refine rx_iastN kl_141 (by omega) (by first | decide | omega) dX11_sheet_113 ?_
            refine rx_aload_n (i := 0) dX11_sheet_114 rfl rfl ?_
            refine rx_getR 144 (k := 4) fo_X11_20 kl_140 (by decide) ti_11_4 (by decide) rfl dX11_sheet_115 ?_
            refine rx_iload (i := 7) dX11_sheet_118 rfl ?_
            refine rx_iconst (0) dX11_sheet_120 rfl ?_
            refine rx_iastN kl_144 (by omega) (by first | decide | omega) dX11_sheet_121 ?_
            rw [sht_s]
            refine rx_iload (i := 5) dX11_sheet_122 rfl ?_
            refine rx_aload_n (i := 0) dX11_sheet_124 rfl rfl ?_
            refine rx_getR 141 (k := 1) fo_X11_9 kl_140 (by decide) ti_11_1 (by decide) rfl dX11_sheet_125 ?_
            refine rx_iload (i := 7) dX11_sheet_128 rfl ?_
            refine rx_ialdN kl_141 (by omega) (by first | decide | omega) dX11_sheet_130 ?_
            refine rx_top ((shE x y f st) i) (if_pos ⟨rfl, Nat.lt_succ_self _⟩) ?_
            refine rx_iadd dX11_sheet_131 ?_
            refine rx_istore (i := 5) dX11_sheet_132 (by decide) rfl rfl ?_
            refine rx_iload (i := 6) dX11_sheet_134 rfl ?_
            refine rx_iload (i := 4) dX11_sheet_136 rfl ?_
            refine rx_iadd dX11_sheet_138 ?_
            rw [st_step]
            refine rx_istore (i := 6) dX11_sheet_139 (by decide) rfl rfl ?_
            first | refine rx_iincN (i := 7) dX11_sheet_141 rfl (by decide) rfl rfl ?_ | refine rx_iinc (i := 7) dX11_sheet_141 rfl rfl (by decide) rfl rfl ?_
            refine rx_goto (tgt := 46) dX11_sheet_144 (by decide) ?_
            refine rx_drop 8 ?_
            exact ih (i + 1) _ (by omega) (by rw [hs]; rfl) (by omega)
          · skip
            have f94 := Int32.not_lt.mp c94
            refine rx_iconst (0) dX11_sheet_97 rfl ?_
            refine rx_top ((shE x y f st) i) (by first | exact (if_pos (Or.inl c88)).symm | exact (if_pos (Or.inr (Int32.not_lt.mp c94))).symm) ?_
            refine rx_goto (tgt := 113) dX11_sheet_98 (by decide) ?_
            refine rx_iastN kl_141 (by omega) (by first | decide | omega) dX11_sheet_113 ?_
            refine rx_aload_n (i := 0) dX11_sheet_114 rfl rfl ?_
            refine rx_getR 144 (k := 4) fo_X11_20 kl_140 (by decide) ti_11_4 (by decide) rfl dX11_sheet_115 ?_
            refine rx_iload (i := 7) dX11_sheet_118 rfl ?_
            refine rx_iconst (0) dX11_sheet_120 rfl ?_
            refine rx_iastN kl_144 (by omega) (by first | decide | omega) dX11_sheet_121 ?_
            rw [sht_s]
            refine rx_iload (i := 5) dX11_sheet_122 rfl ?_
            refine rx_aload_n (i := 0) dX11_sheet_124 rfl rfl ?_
            refine rx_getR 141 (k := 1) fo_X11_9 kl_140 (by decide) ti_11_1 (by decide) rfl dX11_sheet_125 ?_
            refine rx_iload (i := 7) dX11_sheet_128 rfl ?_
            refine rx_ialdN kl_141 (by omega) (by first | decide | omega) dX11_sheet_130 ?_
            refine rx_top ((shE x y f st) i) (if_pos ⟨rfl, Nat.lt_succ_self _⟩) ?_
            refine rx_iadd dX11_sheet_131 ?_
            refine rx_istore (i := 5) dX11_sheet_132 (by decide) rfl rfl ?_
            refine rx_iload (i := 6) dX11_sheet_134 rfl ?_
            refine rx_iload (i := 4) dX11_sheet_136 rfl ?_
            refine rx_iadd dX11_sheet_138 ?_
            rw [st_step]
            refine rx_istore (i := 6) dX11_sheet_139 (by decide) rfl rfl ?_
            first | refine rx_iincN (i := 7) dX11_sheet_141 rfl (by decide) rfl rfl ?_ | refine rx_iinc (i := 7) dX11_sheet_141 rfl rfl (by decide) rfl rfl ?_
            refine rx_goto (tgt := 46) dX11_sheet_144 (by decide) ?_
            refine rx_drop 8 ?_
            exact ih (i + 1) _ (by omega) (by rw [hs]; rfl) (by omega)
set_option maxRecDepth 100000 in
set_option maxHeartbeats 4000000 in
theorem c_X11_sheet {M : Mem} {n : Nat} {x y f st : Int32} (hn : M.1 140 0 = nI n) (hn8 : n ≤ 8) (hx : 0 ≤ x ∧ x ≤ 3) (hy : y ≤ 8) (hz : x = 3 ∨ 0 ≤ y) : Fun yX11_sheet cX11_sheet 9 (some .int) 1 [.ref 140, .int x, .int y, .int f, .int st] M (some (.int (if x = 3 then -3 else fsum (shE x y f st) n))) (setI (shtM (t0 M) x y f st n) 140 32 0) := by
  refine Fun.of (own := RX11) ([some (.ref 140), some (.int x), some (.int y), some (.int f), some (.int st), none, none, none, none]) rfl (by decide +kernel) (Nat.le_of_ble_eq_true rfl) rfl ?_
  refine rx_aload_n (i := 0) dX11_sheet_0 rfl rfl ?_
  refine rx_iconst (0) dX11_sheet_1 rfl ?_
  refine rx_putI (k := 21) fo_X11_126 fn_11_21 kl_140 (by decide) ty_11_21 dX11_sheet_2 ?_
  refine rx_iload_n (i := 1) dX11_sheet_5 rfl rfl ?_
  refine rx_i2l dX11_sheet_6 rfl ?_
  refine rx_lconst (0) dX11_sheet_7 rfl ?_
  refine rx_ldc2 (own := RX11) (v := (3)) (List.mem_of_getElem? (i := 1708) (by decide +kernel)) dX11_sheet_8 ?_
  refine rx_csI mo_X11_in lk_X11_135 (c_X11_in (a := x.toInt64) (b := 0) (c := 3)) (by decide) rfl rfl (Nat.le_of_ble_eq_true rfl) dX11_sheet_11 ?_
  refine rx_top (1) (if_pos ⟨l_0.mpr hx.1, l_3.mpr hx.2⟩) ?_
  refine rx_if_eq (tgt := 23) dX11_sheet_14 (by decide) (fun c14 => absurd c14 (by decide)) (fun c14 => ?_)
  refine rx_iload_n (i := 2) dX11_sheet_17 rfl rfl ?_
  refine rx_bipush (8) dX11_sheet_18 rfl ?_
  refine rx_icmp_le (tgt := 25) dX11_sheet_20 (by decide) (fun c20 => ?_) (fun c20 => ?_)
  · skip
    have f20 := Int32.not_lt.mpr c20
    refine rx_iload_n (i := 1) dX11_sheet_25 rfl rfl ?_
    refine rx_iconst (3) dX11_sheet_26 rfl ?_
    refine rx_icmp_ge (tgt := 37) dX11_sheet_27 (by decide) (fun c27 => ?_) (fun c27 => ?_)
    · skip
      have f27 := Int32.not_lt.mpr c27
      refine rx_iconst (0) dX11_sheet_37 rfl ?_
      refine rx_istore (i := 5) dX11_sheet_38 (by decide) rfl rfl ?_
      refine rx_iload_n (i := 3) dX11_sheet_40 rfl rfl ?_
      refine rx_istore (i := 6) dX11_sheet_41 (by decide) rfl rfl ?_
      refine rx_iconst (0) dX11_sheet_43 rfl ?_
      refine rx_istore (i := 7) dX11_sheet_44 (by decide) rfl rfl ?_
      have e0 : f = f + nI 0 * st := by rw [show nI 0 = (0 : Int32) from rfl, Int32.zero_mul, Int32.add_zero]
      have hL := l_X11_sheet (M := t0 M) (x := x) (y := y) (f := f) (st := st) (n := n) ((t0_o (by omega)).trans hn) hn8 (n + 1) 0 0 (Nat.zero_le _) rfl (by omega)
      rw [sht_0, ← e0] at hL
      exact hL
    · skip
      have f27 := Int32.not_le.mp c27
      have g27 : x < 3 := Int32.not_le.mp c27
      refine rx_iload_n (i := 2) dX11_sheet_30 rfl rfl ?_
      refine rx_if_ge (tgt := 37) dX11_sheet_31 (by decide) (fun c31 => ?_) (fun c31 => ?_)
      · skip
        have f31 := Int32.not_lt.mpr c31
        refine rx_iconst (0) dX11_sheet_37 rfl ?_
        refine rx_istore (i := 5) dX11_sheet_38 (by decide) rfl rfl ?_
        refine rx_iload_n (i := 3) dX11_sheet_40 rfl rfl ?_
        refine rx_istore (i := 6) dX11_sheet_41 (by decide) rfl rfl ?_
        refine rx_iconst (0) dX11_sheet_43 rfl ?_
        refine rx_istore (i := 7) dX11_sheet_44 (by decide) rfl rfl ?_
        have e0 : f = f + nI 0 * st := by rw [show nI 0 = (0 : Int32) from rfl, Int32.zero_mul, Int32.add_zero]
        have hL := l_X11_sheet (M := t0 M) (x := x) (y := y) (f := f) (st := st) (n := n) ((t0_o (by omega)).trans hn) hn8 (n + 1) 0 0 (Nat.zero_le _) rfl (by omega)
        rw [sht_0, ← e0] at hL
        exact hL
      · skip
        have f31 := Int32.not_le.mp c31
        exact absurd (hz.resolve_left (fun q => by subst q; exact absurd g27 (by decide))) c31
        skip
  · skip
    have f20 := Int32.not_le.mp c20
    exact absurd hy c20
    skip
set_option maxRecDepth 100000 in
set_option maxHeartbeats 4000000 in
theorem c_X11_sheet_no {M : Mem} {x y f st : Int32} (hx : ¬ ((0 ≤ x ∧ x ≤ 3) ∧ y ≤ 8)) : Fun yX11_sheet cX11_sheet 9 (some .int) 1 [.ref 140, .int x, .int y, .int f, .int st] M (some (.int (-1))) (t0 M) := by
  refine Fun.of (own := RX11) ([some (.ref 140), some (.int x), some (.int y), some (.int f), some (.int st), none, none, none, none]) rfl (by decide +kernel) (Nat.le_of_ble_eq_true rfl) rfl ?_
  refine rx_aload_n (i := 0) dX11_sheet_0 rfl rfl ?_
  refine rx_iconst (0) dX11_sheet_1 rfl ?_
  refine rx_putI (k := 21) fo_X11_126 fn_11_21 kl_140 (by decide) ty_11_21 dX11_sheet_2 ?_
  refine rx_iload_n (i := 1) dX11_sheet_5 rfl rfl ?_
  refine rx_i2l dX11_sheet_6 rfl ?_
  refine rx_lconst (0) dX11_sheet_7 rfl ?_
  refine rx_ldc2 (own := RX11) (v := (3)) (List.mem_of_getElem? (i := 1708) (by decide +kernel)) dX11_sheet_8 ?_
  refine rx_csI mo_X11_in lk_X11_135 (c_X11_in (a := x.toInt64) (b := 0) (c := 3)) (by decide) rfl rfl (Nat.le_of_ble_eq_true rfl) dX11_sheet_11 ?_
  refine rx_if_eq (tgt := 23) dX11_sheet_14 (by decide) (fun c14 => ?_) (fun c14 => ?_)
  · skip
    refine rx_iconst (-1) dX11_sheet_23 rfl ?_
    exact rx_fiI dX11_sheet_24 rfl rfl
  · skip
    have e14 := ite1n c14
    refine rx_iload_n (i := 2) dX11_sheet_17 rfl rfl ?_
    refine rx_bipush (8) dX11_sheet_18 rfl ?_
    refine rx_icmp_le (tgt := 25) dX11_sheet_20 (by decide) (fun c20 => ?_) (fun c20 => ?_)
    · skip
      have f20 := Int32.not_lt.mpr c20
      exact absurd ⟨⟨l_0.mp e14.1, l_3.mp e14.2⟩, c20⟩ hx
      skip
    · skip
      have f20 := Int32.not_le.mp c20
      refine rx_iconst (-1) dX11_sheet_23 rfl ?_
      exact rx_fiI dX11_sheet_24 rfl rfl
set_option maxRecDepth 100000 in
set_option maxHeartbeats 4000000 in
theorem c_X11_sheet_not {M : Mem} {x y f st : Int32} (hx : 0 ≤ x ∧ x < 3) (hy : y < 0) : Fun yX11_sheet cX11_sheet 9 (some .int) 1 [.ref 140, .int x, .int y, .int f, .int st] M (some (.int (-2))) (t0 M) := by
  refine Fun.of (own := RX11) ([some (.ref 140), some (.int x), some (.int y), some (.int f), some (.int st), none, none, none, none]) rfl (by decide +kernel) (Nat.le_of_ble_eq_true rfl) rfl ?_
  refine rx_aload_n (i := 0) dX11_sheet_0 rfl rfl ?_
  refine rx_iconst (0) dX11_sheet_1 rfl ?_
  refine rx_putI (k := 21) fo_X11_126 fn_11_21 kl_140 (by decide) ty_11_21 dX11_sheet_2 ?_
  refine rx_iload_n (i := 1) dX11_sheet_5 rfl rfl ?_
  refine rx_i2l dX11_sheet_6 rfl ?_
  refine rx_lconst (0) dX11_sheet_7 rfl ?_
  refine rx_ldc2 (own := RX11) (v := (3)) (List.mem_of_getElem? (i := 1708) (by decide +kernel)) dX11_sheet_8 ?_
  refine rx_csI mo_X11_in lk_X11_135 (c_X11_in (a := x.toInt64) (b := 0) (c := 3)) (by decide) rfl rfl (Nat.le_of_ble_eq_true rfl) dX11_sheet_11 ?_
  refine rx_top (1) (if_pos ⟨l_0.mpr hx.1, l_3.mpr (Int32.le_of_lt hx.2)⟩) ?_
  refine rx_if_eq (tgt := 23) dX11_sheet_14 (by decide) (fun c14 => absurd c14 (by decide)) (fun c14 => ?_)
  refine rx_iload_n (i := 2) dX11_sheet_17 rfl rfl ?_
  refine rx_bipush (8) dX11_sheet_18 rfl ?_
  refine rx_icmp_le (tgt := 25) dX11_sheet_20 (by decide) (fun c20 => ?_) (fun c20 => ?_)
  · skip
    have f20 := Int32.not_lt.mpr c20
    refine rx_iload_n (i := 1) dX11_sheet_25 rfl rfl ?_
    refine rx_iconst (3) dX11_sheet_26 rfl ?_
    refine rx_icmp_ge (tgt := 37) dX11_sheet_27 (by decide) (fun c27 => ?_) (fun c27 => ?_)
    · skip
      have f27 := Int32.not_lt.mpr c27
      exact absurd hx.2 (Int32.not_lt.mpr c27)
      skip
    · skip
      have f27 := Int32.not_le.mp c27
      refine rx_iload_n (i := 2) dX11_sheet_30 rfl rfl ?_
      refine rx_if_ge (tgt := 37) dX11_sheet_31 (by decide) (fun c31 => ?_) (fun c31 => ?_)
      · skip
        have f31 := Int32.not_lt.mpr c31
        exact absurd hy (Int32.not_lt.mpr c31)
        skip
      · skip
        have f31 := Int32.not_le.mp c31
        refine rx_bipush (-2) dX11_sheet_34 rfl ?_
        exact rx_fiI dX11_sheet_36 rfl rfl
  · skip
    have f20 := Int32.not_le.mp c20
    exact absurd (Int32.le_trans (Int32.le_of_lt hy) (by decide)) c20
    skip
