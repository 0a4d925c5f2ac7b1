set_option maxRecDepth 100000 in
set_option maxHeartbeats 4000000 in
theorem c_X11_pays_no {M : Mem} {n m : Nat} (w : MW M n m) {y v z : Int32} (hx : ¬ ((0 ≤ y ∧ y < nI n) ∧ (0 ≤ v ∧ v ≤ M.1 141 y.toNatClampNeg) ∧ 0 ≤ z ∧ z ≤ 60)) : Fun yX11_pays cX11_pays 7 (some .int) 177 [.ref 140, .int y, .int v, .int z] M (some (.int 0)) (setI (t0 M) 140 21 1) := by
  refine Fun.of (own := RX11) ([some (.ref 140), some (.int y), some (.int v), some (.int z), none, none, none]) rfl (by decide +kernel) (Nat.le_of_ble_eq_true rfl) rfl ?_
  have ⟨hn, hn8, hm, hm10, hd⟩ := w
  refine rx_aload_n (i := 0) dX11_pays_0 rfl rfl ?_
  refine rx_iconst (0) dX11_pays_1 rfl ?_
  refine rx_putI (k := 21) fo_X11_126 fn_11_21 kl_140 (by decide) ty_11_21 dX11_pays_2 ?_
  refine rx_aload_n (i := 0) dX11_pays_5 rfl rfl ?_
  refine rx_iload_n (i := 1) dX11_pays_6 rfl rfl ?_
  refine rx_cvI (ci := 11) mo_X11_isOne lk_X11_244 (c_X11_isOne (M := t0 M) (n := n) ((t0_o (by omega)).trans hn) (by omega)) (by decide) rfl rfl (Nat.le_of_ble_eq_true rfl) kl_140 rfl dX11_pays_7 ?_
  refine rx_if_eq (tgt := 41) dX11_pays_10 (by decide) (fun c10 => ?_) (fun c10 => ?_)
  · skip
    refine rx_aload_n (i := 0) dX11_pays_41 rfl rfl ?_
    refine rx_cvI (ci := 11) mo_X11_lost lk_X11_249 c_X11_lost (by decide) rfl rfl (Nat.le_of_ble_eq_true rfl) kl_140 rfl dX11_pays_42 ?_
    exact rx_fiI dX11_pays_45 rfl rfl
  · skip
    have e10 : 0 ≤ y ∧ y < nI n := ite1n c10
    obtain ⟨i, hi31, rfl⟩ := nI_of (Int32.not_lt.mpr e10.1)
    have hi : i < n := (nI_ltI hi31 (by omega)).mp e10.2
    rw [nI_clamp hi31] at hx
    refine rx_iload_n (i := 2) dX11_pays_13 rfl rfl ?_
    refine rx_i2l dX11_pays_14 rfl ?_
    refine rx_lconst (0) dX11_pays_15 rfl ?_
    refine rx_aload_n (i := 0) dX11_pays_16 rfl rfl ?_
    refine rx_getR 141 (k := 1) fo_X11_9 kl_140 (by decide) ti_11_1 (by decide) rfl dX11_pays_17 ?_
    refine rx_iload_n (i := 1) dX11_pays_20 rfl rfl ?_
    refine rx_ialdN kl_141 (by omega) (by first | decide | omega) dX11_pays_21 ?_
    refine rx_top (M.1 141 i) (t0_o (by omega)) ?_
    refine rx_i2l dX11_pays_22 rfl ?_
    refine rx_csI mo_X11_in lk_X11_135 c_X11_in (by decide) rfl rfl (Nat.le_of_ble_eq_true rfl) dX11_pays_23 ?_
    refine rx_if_eq (tgt := 41) dX11_pays_26 (by decide) (fun c26 => ?_) (fun c26 => ?_)
    · skip
      refine rx_aload_n (i := 0) dX11_pays_41 rfl rfl ?_
      refine rx_cvI (ci := 11) mo_X11_lost lk_X11_249 c_X11_lost (by decide) rfl rfl (Nat.le_of_ble_eq_true rfl) kl_140 rfl dX11_pays_42 ?_
      exact rx_fiI dX11_pays_45 rfl rfl
    · skip
      have e26 := ite1n c26
      refine rx_iload_n (i := 3) dX11_pays_29 rfl rfl ?_
      refine rx_i2l dX11_pays_30 rfl ?_
      refine rx_lconst (0) dX11_pays_31 rfl ?_
      refine rx_ldc2 (own := RX11) (v := (60)) (List.mem_of_getElem? (i := 1945) (by decide +kernel)) dX11_pays_32 ?_
      refine rx_csI mo_X11_in lk_X11_135 (c_X11_in (a := z.toInt64) (b := 0) (c := 60)) (by decide) rfl rfl (Nat.le_of_ble_eq_true rfl) dX11_pays_35 ?_
      refine rx_if_ne (tgt := 46) dX11_pays_38 (by decide) (fun c38 => ?_) (fun c38 => ?_)
      · skip
        exact absurd ⟨e10, ⟨l_0.mp e26.1, Int32.toInt64_le.mp e26.2⟩, l_0.mp (ite1n c38).1, l_60.mp (ite1n c38).2⟩ hx
        skip
      · skip
        refine rx_aload_n (i := 0) dX11_pays_41 rfl rfl ?_
        refine rx_cvI (ci := 11) mo_X11_lost lk_X11_249 c_X11_lost (by decide) rfl rfl (Nat.le_of_ble_eq_true rfl) kl_140 rfl dX11_pays_42 ?_
        exact rx_fiI dX11_pays_45 rfl rfl
/-- what is kept at place q -/
def keV (M : Mem) (q : Nat) : Int32 := if q < 101 then lyV M q else if q < 109 then M.1 144 (q - 101) else if q < 127 then M.1 158 (q - 109) else if q = 127 then M.1 140 34 else if q < 132 then M.1 153 (q - 128) else M.1 140 16
/-- the first c places kept -/
def keM (M : Mem) (k0 c : Nat) : Mem := (fun b j => if b = 173 ∧ k0 ≤ j ∧ j < k0 + c then keV M (j - k0) else M.1 b j, M.2)
theorem ke_ly {M : Mem} {k0 : Nat} : lyM M 173 k0 101 = keM M k0 101 := by
  refine Prod.ext ?_ rfl
  funext b j
  simp only [lyM, keM]
  split
  · exact (if_pos (by omega)).symm
  · rfl
theorem ke_o {M : Mem} {k0 c b j : Nat} (h : b ≠ 173) : (keM M k0 c).1 b j = M.1 b j := if_neg fun q => h q.1
theorem ke_s {M : Mem} {k0 c : Nat} {x : Int32} (hx : x = keV M c) : setI (keM M k0 c) 173 (k0 + c) x = keM M k0 (c + 1) := by
  subst hx
  refine Prod.ext ?_ rfl
  funext b j
  simp only [setI, keM]
  by_cases h : b = 173 ∧ j = k0 + c
  · rw [if_pos h, if_pos (by omega), h.2, Nat.add_sub_cancel_left]
  · rw [if_neg h]
    by_cases h2 : b = 173 ∧ k0 ≤ j ∧ j < k0 + c
    · rw [if_pos h2, if_pos (by omega)]
    · rw [if_neg h2, if_neg (by omega)]
/-- the place of an element among what is kept -/
def psK (b j : Nat) : Nat := if b = 144 ∧ j < 8 then 101 + j else if b = 158 ∧ j < 18 then 109 + j else if b = 140 ∧ j = 34 then 127 else if b = 153 ∧ j < 4 then 128 + j else if b = 140 ∧ j = 16 then 132 else psL b j
def agM (M : Mem) (k0 c : Nat) : Mem := (fun b j => if psK b j < c then M.1 173 (k0 + psK b j) else M.1 b j, M.2)
theorem ps_ge {b j : Nat} (h : psL b j < 1000) : psL b j < 101 := ps_lt (by omega)
theorem pK_ge {b j c : Nat} (h : psK b j = c) (h1 : 101 ≤ c) (h2 : c < 1000) : (b, j) = if c < 109 then (144, c - 101) else if c < 127 then (158, c - 109) else if c = 127 then (140, 34) else if c < 132 then (153, c - 128) else (140, 16) := by
  subst h
  unfold psK at h1 h2 ⊢
  split
  · next q => rw [if_pos (by omega), q.1, Nat.add_sub_cancel_left]
  · next q1 =>
    rw [if_neg q1] at h1 h2
    split
    · next q => rw [if_neg (by omega), if_pos (by omega), q.1, Nat.add_sub_cancel_left]
    · next q2 =>
      rw [if_neg q2] at h1 h2
      split
      · next q => rw [if_neg (by omega), if_neg (by omega), if_pos rfl, q.1, q.2]
      · next q3 =>
        rw [if_neg q3] at h1 h2
        split
        · next q => rw [if_neg (by omega), if_neg (by omega), if_neg (by omega), if_pos (by omega), q.1, Nat.add_sub_cancel_left]
        · next q4 =>
          rw [if_neg q4] at h1 h2
          split
          · next q => rw [if_neg (by omega), if_neg (by omega), if_neg (by omega), if_neg (by omega), q.1, q.2]
          · next q5 =>
            rw [if_neg q5] at h1 h2
            have := ps_ge h2
            omega
theorem ag_br {M : Mem} {k0 : Nat} : brM M 173 k0 101 = agM M k0 101 := by
  refine Prod.ext ?_ rfl
  funext b j
  show (if psL b j < 101 then M.1 173 (k0 + psL b j) else M.1 b j) = (if psK b j < 101 then M.1 173 (k0 + psK b j) else M.1 b j)
  have e : psK b j < 101 → psK b j = psL b j := by
    unfold psK
    intro h
    split at h
    · omega
    · next q1 =>
      rw [if_neg q1]
      split at h
      · omega
      · next q2 =>
        rw [if_neg q2]
        split at h
        · omega
        · next q3 =>
          rw [if_neg q3]
          split at h
          · omega
          · next q4 =>
            rw [if_neg q4]
            split at h
            · omega
            · next q5 => rw [if_neg q5]
  have e2 : psL b j < 101 → psK b j = psL b j := by
    intro h
    unfold psL at h
    unfold psK
    split at h
    · rw [if_neg (by omega), if_neg (by omega), if_neg (by omega), if_neg (by omega), if_neg (by omega)]
    · split at h
      · rw [if_neg (by omega), if_neg (by omega), if_neg (by omega), if_neg (by omega), if_neg (by omega)]
      · split at h
        · rw [if_neg (by omega), if_neg (by omega), if_neg (by omega), if_neg (by omega), if_neg (by omega)]
        · split at h
          · rw [if_neg (by omega), if_neg (by omega), if_neg (by omega), if_neg (by omega), if_neg (by omega)]
          · split at h
            · rw [if_neg (by omega), if_neg (by omega), if_neg (by omega), if_neg (by omega), if_neg (by omega)]
            · split at h
              · rw [if_neg (by omega), if_neg (by omega), if_neg (by omega), if_neg (by omega), if_neg (by omega)]
              · omega
  by_cases h : psL b j < 101
  · rw [if_pos h, e2 h, if_pos h]
  · rw [if_neg h, if_neg (fun q => h (e q ▸ q))]
theorem ag_a {M : Mem} {k0 c j : Nat} (hc : c ≤ 1000) : (agM M k0 c).1 173 j = M.1 173 j := by
  refine if_neg ?_
  unfold psK psL
  rw [if_neg (by omega), if_neg (by omega), if_neg (by omega), if_neg (by omega), if_neg (by omega), if_neg (by omega), if_neg (by omega), if_neg (by omega), if_neg (by omega), if_neg (by omega), if_neg (by omega)]
  omega
theorem ag_s {M : Mem} {k0 c b j : Nat} {x : Int32} (hx : x = M.1 173 (k0 + c)) (hp : psK b j = c) (h1 : 101 ≤ c) (h2 : c < 1000) : setI (agM M k0 c) b j x = agM M k0 (c + 1) := by
  subst hx
  refine Prod.ext ?_ rfl
  funext b' j'
  simp only [setI, agM]
  by_cases h : b' = b ∧ j' = j
  · rw [if_pos h, h.1, h.2, hp, if_pos (by omega)]
  · rw [if_neg h]
    have hne : psK b' j' ≠ c := fun q => h (by
      have := (pK_ge q h1 h2).trans (pK_ge hp h1 h2).symm
      exact ⟨congrArg Prod.fst this, congrArg Prod.snd this⟩)
    by_cases h3 : psK b' j' < c
    · rw [if_pos h3, if_pos (by omega)]
    · rw [if_neg h3, if_neg (by omega)]
theorem pK_144 {i : Nat} (h : i < 8) : psK 144 i = 101 + i := if_pos ⟨rfl, h⟩
theorem pK_158 {i : Nat} (h : i < 18) : psK 158 i = 109 + i := by unfold psK; rw [if_neg (by omega), if_pos ⟨rfl, h⟩]
theorem pK_154 {i : Nat} (h : i < 4) : psK 153 i = 128 + i := by unfold psK; rw [if_neg (by omega), if_neg (by omega), if_neg (by omega), if_pos ⟨rfl, h⟩]
set_option maxRecDepth 100000 in
set_option maxHeartbeats 4000000 in
theorem l_keep1 {M : Mem} {k0 : Nat} {x1 : Int32} (hl : k0 + 133 ≤ 266) {QQ : Nat → List (Option Value) → List Value → Mem → Prop} (K : Reach cX11_keep RX11 4 1 QQ 80 [some (.ref 140), some (.int x1), some (.int (nI (k0 + 101))), none] [] (keM M k0 109)) : ∀ (N : Nat) (i : Nat), (i ≤ 8) → 8 - i < N → Reach cX11_keep RX11 4 1 (QQ) 54 [some (.ref 140), some (.int x1), some (.int (nI (k0 + 101))), some (.int (nI i))] [] (keM M k0 (101 + i)) := by
  intro N
  induction N with
  | zero => intro i hi hm; exact absurd ‹_ < 0› (Nat.not_lt_zero _)
  | succ N ih =>
    intro i hi hm
    refine rx_iload_n (i := 3) dX11_keep_54 rfl rfl ?_
    refine rx_bipush (8) dX11_keep_55 rfl ?_
    refine rx_icmp_ge (tgt := 80) dX11_keep_57 (by decide) (fun c57 => ?_) (fun c57 => ?_)
    · skip
      have f57 := Int32.not_lt.mpr c57
      have e57 : i = 8 := by have := (nI_leI (a := 8) (by omega) (by omega)).mp c57; omega
      subst e57
      refine rx_drop 3 ?_
      exact K
    · skip
      have f57 := Int32.not_le.mp c57
      have e57 : i < 8 := Nat.lt_of_not_le fun q => c57 (nI_le (a := 8) q (by omega))
      refine rx_aload_n (i := 0) dX11_keep_60 rfl rfl ?_
      refine rx_getR 173 (k := 56) fo_X11_117 kl_140 (by decide) ti_11_56 (by decide) rfl dX11_keep_61 ?_
      refine rx_iload_n (i := 2) dX11_keep_64 rfl rfl ?_
      refine rx_iload_n (i := 3) dX11_keep_65 rfl rfl ?_
      refine rx_iadd dX11_keep_66 ?_
      refine rx_top (nI (k0 + (101 + i))) (by rw [nI_add, Nat.add_assoc]) ?_
      refine rx_aload_n (i := 0) dX11_keep_67 rfl rfl ?_
      refine rx_getR 144 (k := 4) fo_X11_20 kl_140 (by decide) ti_11_4 (by decide) rfl dX11_keep_68 ?_
      refine rx_iload_n (i := 3) dX11_keep_71 rfl rfl ?_
      refine rx_ialdN kl_144 (by omega) (by first | decide | omega) dX11_keep_72 ?_
      refine rx_top (M.1 144 i) (ke_o (by omega)) ?_
      refine rx_iastN kl_173 (k := k0 + (101 + i)) (by omega) (by first | decide | omega) dX11_keep_73 ?_
      rw [ke_s (show M.1 144 i = keV M (101 + i) from by unfold keV; rw [if_neg (by omega), if_pos (by omega), Nat.add_sub_cancel_left])]
      first | refine rx_iincN (i := 3) dX11_keep_74 rfl (by decide) rfl rfl ?_ | refine rx_iinc (i := 3) dX11_keep_74 rfl rfl (by decide) rfl rfl ?_
      refine rx_goto (tgt := 54) dX11_keep_77 (by decide) ?_
      exact ih (i + 1) (by omega) (by omega)
set_option maxRecDepth 100000 in
set_option maxHeartbeats 4000000 in
theorem l_keep2 {M : Mem} {k0 : Nat} {x1 : Int32} (hl : k0 + 133 ≤ 266) {QQ : Nat → List (Option Value) → List Value → Mem → Prop} (K : Reach cX11_keep RX11 4 1 QQ 111 [some (.ref 140), some (.int x1), some (.int (nI (k0 + 109))), none] [] (keM M k0 127)) : ∀ (N : Nat) (i : Nat), (i ≤ 18) → 18 - i < N → Reach cX11_keep RX11 4 1 (QQ) 85 [some (.ref 140), some (.int x1), some (.int (nI (k0 + 109))), some (.int (nI i))] [] (keM M k0 (109 + i)) := by
  intro N
  induction N with
  | zero => intro i hi hm; exact absurd ‹_ < 0› (Nat.not_lt_zero _)
  | succ N ih =>
    intro i hi hm
    refine rx_iload_n (i := 3) dX11_keep_85 rfl rfl ?_
    refine rx_bipush (18) dX11_keep_86 rfl ?_
    refine rx_icmp_ge (tgt := 111) dX11_keep_88 (by decide) (fun c88 => ?_) (fun c88 => ?_)
    · skip
      have f88 := Int32.not_lt.mpr c88
      have e88 : i = 18 := by have := (nI_leI (a := 18) (by omega) (by omega)).mp c88; omega
      subst e88
      refine rx_drop 3 ?_
      exact K
    · skip
      have f88 := Int32.not_le.mp c88
      have e88 : i < 18 := Nat.lt_of_not_le fun q => c88 (nI_le (a := 18) q (by omega))
      refine rx_aload_n (i := 0) dX11_keep_91 rfl rfl ?_
      refine rx_getR 173 (k := 56) fo_X11_117 kl_140 (by decide) ti_11_56 (by decide) rfl dX11_keep_92 ?_
      refine rx_iload_n (i := 2) dX11_keep_95 rfl rfl ?_
      refine rx_iload_n (i := 3) dX11_keep_96 rfl rfl ?_
      refine rx_iadd dX11_keep_97 ?_
      refine rx_top (nI (k0 + (109 + i))) (by rw [nI_add, Nat.add_assoc]) ?_
      refine rx_aload_n (i := 0) dX11_keep_98 rfl rfl ?_
      refine rx_getR 158 (k := 33) fo_X11_71 kl_140 (by decide) ti_11_33 (by decide) rfl dX11_keep_99 ?_
      refine rx_iload_n (i := 3) dX11_keep_102 rfl rfl ?_
      refine rx_ialdN kl_158 (by omega) (by first | decide | omega) dX11_keep_103 ?_
      refine rx_top (M.1 158 i) (ke_o (by omega)) ?_
      refine rx_iastN kl_173 (k := k0 + (109 + i)) (by omega) (by first | decide | omega) dX11_keep_104 ?_
      rw [ke_s (show M.1 158 i = keV M (109 + i) from by unfold keV; rw [if_neg (by omega), if_neg (by omega), if_pos (by omega), Nat.add_sub_cancel_left])]
      first | refine rx_iincN (i := 3) dX11_keep_105 rfl (by decide) rfl rfl ?_ | refine rx_iinc (i := 3) dX11_keep_105 rfl rfl (by decide) rfl rfl ?_
      refine rx_goto (tgt := 85) dX11_keep_108 (by decide) ?_
      exact ih (i + 1) (by omega) (by omega)
set_option maxRecDepth 100000 in
set_option maxHeartbeats 4000000 in
theorem l_keep3 {M : Mem} {k0 : Nat} {x1 : Int32} (hl : k0 + 133 ≤ 266) {QQ : Nat → List (Option Value) → List Value → Mem → Prop} (K : Reach cX11_keep RX11 4 1 QQ 153 [some (.ref 140), some (.int x1), some (.int (nI (k0 + 127))), none] [] (keM M k0 132)) : ∀ (N : Nat) (i : Nat), (i ≤ 4) → 4 - i < N → Reach cX11_keep RX11 4 1 (QQ) 126 [some (.ref 140), some (.int x1), some (.int (nI (k0 + 127))), some (.int (nI i))] [] (keM M k0 (128 + i)) := by
  intro N
  induction N with
  | zero => intro i hi hm; exact absurd ‹_ < 0› (Nat.not_lt_zero _)
  | succ N ih =>
    intro i hi hm
    refine rx_iload_n (i := 3) dX11_keep_126 rfl rfl ?_
    refine rx_iconst (4) dX11_keep_127 rfl ?_
    refine rx_icmp_ge (tgt := 153) dX11_keep_128 (by decide) (fun c128 => ?_) (fun c128 => ?_)
    · skip
      have f128 := Int32.not_lt.mpr c128
      have e128 : i = 4 := by have := (nI_leI (a := 4) (by omega) (by omega)).mp c128; omega
      subst e128
      refine rx_drop 3 ?_
      exact K
    · skip
      have f128 := Int32.not_le.mp c128
      have e128 : i < 4 := Nat.lt_of_not_le fun q => c128 (nI_le (a := 4) q (by omega))
      refine rx_aload_n (i := 0) dX11_keep_131 rfl rfl ?_
      refine rx_getR 173 (k := 56) fo_X11_117 kl_140 (by decide) ti_11_56 (by decide) rfl dX11_keep_132 ?_
      refine rx_iload_n (i := 2) dX11_keep_135 rfl rfl ?_
      refine rx_iconst (1) dX11_keep_136 rfl ?_
      refine rx_iadd dX11_keep_137 ?_
      refine rx_top (nI (k0 + 128)) (by rw [show (1 : Int32) = nI 1 from rfl, nI_add, Nat.add_assoc]) ?_
      refine rx_iload_n (i := 3) dX11_keep_138 rfl rfl ?_
      refine rx_iadd dX11_keep_139 ?_
      refine rx_top (nI (k0 + (128 + i))) (by rw [nI_add, Nat.add_assoc]) ?_
      refine rx_aload_n (i := 0) dX11_keep_140 rfl rfl ?_
      refine rx_getR 153 (k := 14) fo_X11_47 kl_140 (by decide) ti_11_14 (by decide) rfl dX11_keep_141 ?_
      refine rx_iload_n (i := 3) dX11_keep_144 rfl rfl ?_
      refine rx_ialdN kl_153 (by omega) (by first | decide | omega) dX11_keep_145 ?_
      refine rx_top (M.1 153 i) (ke_o (by omega)) ?_
      refine rx_iastN kl_173 (k := k0 + (128 + i)) (by omega) (by first | decide | omega) dX11_keep_146 ?_
      rw [ke_s (show M.1 153 i = keV M (128 + i) from by unfold keV; rw [if_neg (by omega), if_neg (by omega), if_neg (by omega), if_neg (by omega), if_pos (by omega), Nat.add_sub_cancel_left])]
      first | refine rx_iincN (i := 3) dX11_keep_147 rfl (by decide) rfl rfl ?_ | refine rx_iinc (i := 3) dX11_keep_147 rfl rfl (by decide) rfl rfl ?_
      refine rx_goto (tgt := 126) dX11_keep_150 (by decide) ?_
      exact ih (i + 1) (by omega) (by omega)
set_option maxRecDepth 100000 in
set_option maxHeartbeats 4000000 in
theorem c_X11_keep {M : Mem} {i : Nat} (hi : i < 2) : Fun yX11_keep cX11_keep 4 (some .boolean) 1 [.ref 140, .int (nI i)] M (some (.int 1)) (keM (setI (setI (t0 M) 174 i 1) 175 i (M.1 140 55)) (133 * i) 133) := by
  refine Fun.of (own := RX11) ([some (.ref 140), some (.int (nI i)), none, none]) rfl (by decide +kernel) (Nat.le_of_ble_eq_true rfl) rfl ?_
  generalize hk0 : 133 * i = k0
  refine rx_aload_n (i := 0) dX11_keep_0 rfl rfl ?_
  refine rx_iconst (0) dX11_keep_1 rfl ?_
  refine rx_putI (k := 21) fo_X11_126 fn_11_21 kl_140 (by decide) ty_11_21 dX11_keep_2 ?_
  refine rx_iload_n (i := 1) dX11_keep_5 rfl rfl ?_
  refine rx_i2l dX11_keep_6 rfl ?_
  refine rx_lconst (0) dX11_keep_7 rfl ?_
  refine rx_lconst (1) dX11_keep_8 rfl ?_
  refine rx_csI mo_X11_in lk_X11_135 (c_X11_in (a := (nI i).toInt64) (b := 0) (c := 1)) (by decide) rfl rfl (Nat.le_of_ble_eq_true rfl) dX11_keep_9 ?_
  refine rx_top (1) (if_pos ⟨l_0.mpr (nI_pos' (by omega)), l_1.mpr (nI_le (b := 1) (by omega) (by omega))⟩) ?_
  refine rx_if_ne (tgt := 17) dX11_keep_12 (by decide) (fun c12 => ?_) (fun c12 => absurd c12 (by decide))
  refine rx_aload_n (i := 0) dX11_keep_17 rfl rfl ?_
  refine rx_getR 174 (k := 57) fo_X11_120 kl_140 (by decide) ti_11_57 (by decide) rfl dX11_keep_18 ?_
  refine rx_iload_n (i := 1) dX11_keep_21 rfl rfl ?_
  refine rx_iconst (1) dX11_keep_22 rfl ?_
  refine rx_zastN kl_174 (by omega) (by first | decide | omega) (by first | exact Or.inl rfl | exact Or.inr rfl) dX11_keep_23 ?_
  refine rx_aload_n (i := 0) dX11_keep_24 rfl rfl ?_
  refine rx_getR 175 (k := 58) fo_X11_123 kl_140 (by decide) ti_11_58 (by decide) rfl dX11_keep_25 ?_
  refine rx_iload_n (i := 1) dX11_keep_28 rfl rfl ?_
  refine rx_aload_n (i := 0) dX11_keep_29 rfl rfl ?_
  refine rx_getI (k := 55) fo_X11_195 kl_140 (by decide) ti_11_55 dX11_keep_30 ?_
  refine rx_top (M.1 140 55) ((sI_na (by omega)).trans (t0_o (by omega))) ?_
  refine rx_iastN kl_175 (by omega) (by first | decide | omega) dX11_keep_33 ?_
  refine rx_sipush (133) dX11_keep_34 rfl ?_
  refine rx_iload_n (i := 1) dX11_keep_37 rfl rfl ?_
  refine rx_imul dX11_keep_38 ?_
  refine rx_top (nI k0) (by rw [show (133 : Int32) = nI 133 from rfl, pk_mul, hk0]) ?_
  refine rx_istore_n (i := 2) dX11_keep_39 rfl (by decide) rfl rfl ?_
  refine rx_aload_n (i := 0) dX11_keep_40 rfl rfl ?_
  refine rx_aload_n (i := 0) dX11_keep_41 rfl rfl ?_
  refine rx_getR 173 (k := 56) fo_X11_117 kl_140 (by decide) ti_11_56 (by decide) rfl dX11_keep_42 ?_
  refine rx_iload_n (i := 2) dX11_keep_45 rfl rfl ?_
  refine rx_cvN (ci := 11) mo_X11_lay lk_X11_413 (c_X11_lay (a := 173) (k0 := k0) (len := 266) (Or.inr rfl) kl_173 (by omega) (by omega)) (by decide) rfl rfl (Nat.le_of_ble_eq_true rfl) kl_140 rfl dX11_keep_46 ?_
  skip
  refine rx_iinc (v := nI (k0 + 101)) (i := 2) dX11_keep_49 rfl (by rw [show Int32.ofInt 101 = nI 101 from rfl, nI_add]) (by decide) rfl rfl ?_
  refine rx_iconst (0) dX11_keep_52 rfl ?_
  refine rx_istore_n (i := 3) dX11_keep_53 rfl (by decide) rfl rfl ?_
  rw [ke_ly]
  refine l_keep1 (by omega) ?_ 9 0 (by omega) (by omega)
  refine rx_iinc (v := nI (k0 + 109)) (i := 2) dX11_keep_80 rfl (by rw [show Int32.ofInt 8 = nI 8 from rfl, nI_add, Nat.add_assoc]) (by decide) rfl rfl ?_
  refine rx_iconst (0) dX11_keep_83 rfl ?_
  refine rx_istore_n (i := 3) dX11_keep_84 rfl (by decide) rfl rfl ?_
  refine l_keep2 (by omega) ?_ 19 0 (by omega) (by omega)
  refine rx_iinc (v := nI (k0 + 127)) (i := 2) dX11_keep_111 rfl (by rw [show Int32.ofInt 18 = nI 18 from rfl, nI_add, Nat.add_assoc]) (by decide) rfl rfl ?_
  refine rx_aload_n (i := 0) dX11_keep_114 rfl rfl ?_
  refine rx_getR 173 (k := 56) fo_X11_117 kl_140 (by decide) ti_11_56 (by decide) rfl dX11_keep_115 ?_
  refine rx_iload_n (i := 2) dX11_keep_118 rfl rfl ?_
  refine rx_aload_n (i := 0) dX11_keep_119 rfl rfl ?_
  refine rx_getI (k := 34) fo_X11_319 kl_140 (by decide) ti_11_34 dX11_keep_120 ?_
  refine rx_top ((setI (setI (setI M 140 21 0) 174 i 1) 175 i (M.1 140 55)).1 140 34) (ke_o (by omega)) ?_
  refine rx_iastN kl_173 (k := k0 + 127) (by omega) (by first | decide | omega) dX11_keep_123 ?_
  rw [ke_s (show (setI (setI (setI M 140 21 0) 174 i 1) 175 i (M.1 140 55)).1 140 34 = keV (setI (setI (setI M 140 21 0) 174 i 1) 175 i (M.1 140 55)) 127 from rfl)]
  refine rx_iconst (0) dX11_keep_124 rfl ?_
  refine rx_istore_n (i := 3) dX11_keep_125 rfl (by decide) rfl rfl ?_
  refine l_keep3 (by omega) ?_ 5 0 (by omega) (by omega)
  refine rx_aload_n (i := 0) dX11_keep_153 rfl rfl ?_
  refine rx_getR 173 (k := 56) fo_X11_117 kl_140 (by decide) ti_11_56 (by decide) rfl dX11_keep_154 ?_
  refine rx_iload_n (i := 2) dX11_keep_157 rfl rfl ?_
  refine rx_iconst (5) dX11_keep_158 rfl ?_
  refine rx_iadd dX11_keep_159 ?_
  refine rx_top (nI (k0 + 132)) (by rw [show (5 : Int32) = nI 5 from rfl, nI_add, Nat.add_assoc]) ?_
  refine rx_aload_n (i := 0) dX11_keep_160 rfl rfl ?_
  refine rx_getI (k := 16) fo_X11_50 kl_140 (by decide) ti_11_16 dX11_keep_161 ?_
  refine rx_top ((setI (setI (setI M 140 21 0) 174 i 1) 175 i (M.1 140 55)).1 140 16) (ke_o (by omega)) ?_
  refine rx_iastN kl_173 (k := k0 + 132) (by omega) (by first | decide | omega) dX11_keep_164 ?_
  rw [ke_s (show (setI (setI (setI M 140 21 0) 174 i 1) 175 i (M.1 140 55)).1 140 16 = keV (setI (setI (setI M 140 21 0) 174 i 1) 175 i (M.1 140 55)) 132 from rfl)]
  refine rx_iconst (1) dX11_keep_165 rfl ?_
  exact rx_fiZ dX11_keep_166 (Or.inr rfl) rfl rfl
set_option maxRecDepth 100000 in
set_option maxHeartbeats 4000000 in
theorem c_X11_keep_no {M : Mem} {x : Int32} (hx : ¬ (0 ≤ x ∧ x ≤ 1)) : Fun yX11_keep cX11_keep 4 (some .boolean) 1 [.ref 140, .int x] M (some (.int 0)) (t0 M) := by
  refine Fun.of (own := RX11) ([some (.ref 140), some (.int x), none, none]) rfl (by decide +kernel) (Nat.le_of_ble_eq_true rfl) rfl ?_
  refine rx_aload_n (i := 0) dX11_keep_0 rfl rfl ?_
  refine rx_iconst (0) dX11_keep_1 rfl ?_
  refine rx_putI (k := 21) fo_X11_126 fn_11_21 kl_140 (by decide) ty_11_21 dX11_keep_2 ?_
  refine rx_iload_n (i := 1) dX11_keep_5 rfl rfl ?_
  refine rx_i2l dX11_keep_6 rfl ?_
  refine rx_lconst (0) dX11_keep_7 rfl ?_
  refine rx_lconst (1) dX11_keep_8 rfl ?_
  refine rx_csI mo_X11_in lk_X11_135 (c_X11_in (a := x.toInt64) (b := 0) (c := 1)) (by decide) rfl rfl (Nat.le_of_ble_eq_true rfl) dX11_keep_9 ?_
  refine rx_if_ne (tgt := 17) dX11_keep_12 (by decide) (fun c12 => ?_) (fun c12 => ?_)
  · skip
    exact absurd ⟨l_0.mp (ite1n c12).1, l_1.mp (ite1n c12).2⟩ hx
    skip
  · skip
    refine rx_iconst (0) dX11_keep_15 rfl ?_
    exact rx_fiZ dX11_keep_16 (Or.inl rfl) rfl rfl
set_option maxRecDepth 100000 in
set_option maxHeartbeats 4000000 in
theorem l_again1 {M : Mem} {k0 : Nat} {x1 : Int32} (hl : k0 + 133 ≤ 266) {QQ : Nat → List (Option Value) → List Value → Mem → Prop} (K : Reach cX11_again RX11 4 1 QQ 85 [some (.ref 140), some (.int x1), some (.int (nI (k0 + 101))), none] [] (agM M k0 109)) : ∀ (N : Nat) (i : Nat), (i ≤ 8) → 8 - i < N → Reach cX11_again RX11 4 1 (QQ) 59 [some (.ref 140), some (.int x1), some (.int (nI (k0 + 101))), some (.int (nI i))] [] (agM M k0 (101 + i)) := by
  intro N
  induction N with
  | zero => intro i hi hm; exact absurd ‹_ < 0› (Nat.not_lt_zero _)
  | succ N ih =>
    intro i hi hm
    refine rx_iload_n (i := 3) dX11_again_59 rfl rfl ?_
    refine rx_bipush (8) dX11_again_60 rfl ?_
    refine rx_icmp_ge (tgt := 85) dX11_again_62 (by decide) (fun c62 => ?_) (fun c62 => ?_)
    · skip
      have f62 := Int32.not_lt.mpr c62
      have e62 : i = 8 := by have := (nI_leI (a := 8) (by omega) (by omega)).mp c62; omega
      subst e62
      refine rx_drop 3 ?_
      exact K
    · skip
      have f62 := Int32.not_le.mp c62
      have e62 : i < 8 := Nat.lt_of_not_le fun q => c62 (nI_le (a := 8) q (by omega))
      refine rx_aload_n (i := 0) dX11_again_65 rfl rfl ?_
      refine rx_getR 144 (k := 4) fo_X11_20 kl_140 (by decide) ti_11_4 (by decide) rfl dX11_again_66 ?_
      refine rx_iload_n (i := 3) dX11_again_69 rfl rfl ?_
      refine rx_aload_n (i := 0) dX11_again_70 rfl rfl ?_
      refine rx_getR 173 (k := 56) fo_X11_117 kl_140 (by decide) ti_11_56 (by decide) rfl dX11_again_71 ?_
      refine rx_iload_n (i := 2) dX11_again_74 rfl rfl ?_
      refine rx_iload_n (i := 3) dX11_again_75 rfl rfl ?_
      refine rx_iadd dX11_again_76 ?_
      refine rx_top (nI (k0 + (101 + i))) (by rw [nI_add, Nat.add_assoc]) ?_
      refine rx_ialdN kl_173 (k := k0 + (101 + i)) (by omega) (by first | decide | omega) dX11_again_77 ?_
      refine rx_top (M.1 173 (k0 + (101 + i))) (ag_a (by omega)) ?_
      refine rx_iastN kl_144 (by omega) (by first | decide | omega) dX11_again_78 ?_
      rw [ag_s rfl (pK_144 (by omega)) (by omega) (by omega)]
      first | refine rx_iincN (i := 3) dX11_again_79 rfl (by decide) rfl rfl ?_ | refine rx_iinc (i := 3) dX11_again_79 rfl rfl (by decide) rfl rfl ?_
      refine rx_goto (tgt := 59) dX11_again_82 (by decide) ?_
      exact ih (i + 1) (by omega) (by omega)
set_option maxRecDepth 100000 in
set_option maxHeartbeats 4000000 in
theorem l_again2 {M : Mem} {k0 : Nat} {x1 : Int32} (hl : k0 + 133 ≤ 266) {QQ : Nat → List (Option Value) → List Value → Mem → Prop} (K : Reach cX11_again RX11 4 1 QQ 116 [some (.ref 140), some (.int x1), some (.int (nI (k0 + 109))), none] [] (agM M k0 127)) : ∀ (N : Nat) (i : Nat), (i ≤ 18) → 18 - i < N → Reach cX11_again RX11 4 1 (QQ) 90 [some (.ref 140), some (.int x1), some (.int (nI (k0 + 109))), some (.int (nI i))] [] (agM M k0 (109 + i)) := by
  intro N
  induction N with
  | zero => intro i hi hm; exact absurd ‹_ < 0› (Nat.not_lt_zero _)
  | succ N ih =>
    intro i hi hm
    refine rx_iload_n (i := 3) dX11_again_90 rfl rfl ?_
    refine rx_bipush (18) dX11_again_91 rfl ?_
    refine rx_icmp_ge (tgt := 116) dX11_again_93 (by decide) (fun c93 => ?_) (fun c93 => ?_)
    · skip
      have f93 := Int32.not_lt.mpr c93
      have e93 : i = 18 := by have := (nI_leI (a := 18) (by omega) (by omega)).mp c93; omega
      subst e93
      refine rx_drop 3 ?_
      exact K
    · skip
      have f93 := Int32.not_le.mp c93
      have e93 : i < 18 := Nat.lt_of_not_le fun q => c93 (nI_le (a := 18) q (by omega))
      refine rx_aload_n (i := 0) dX11_again_96 rfl rfl ?_
      refine rx_getR 158 (k := 33) fo_X11_71 kl_140 (by decide) ti_11_33 (by decide) rfl dX11_again_97 ?_
      refine rx_iload_n (i := 3) dX11_again_100 rfl rfl ?_
      refine rx_aload_n (i := 0) dX11_again_101 rfl rfl ?_
      refine rx_getR 173 (k := 56) fo_X11_117 kl_140 (by decide) ti_11_56 (by decide) rfl dX11_again_102 ?_
      refine rx_iload_n (i := 2) dX11_again_105 rfl rfl ?_
      refine rx_iload_n (i := 3) dX11_again_106 rfl rfl ?_
      refine rx_iadd dX11_again_107 ?_
      refine rx_top (nI (k0 + (109 + i))) (by rw [nI_add, Nat.add_assoc]) ?_
      refine rx_ialdN kl_173 (k := k0 + (109 + i)) (by omega) (by first | decide | omega) dX11_again_108 ?_
      refine rx_top (M.1 173 (k0 + (109 + i))) (ag_a (by omega)) ?_
      refine rx_iastN kl_158 (by omega) (by first | decide | omega) dX11_again_109 ?_
      rw [ag_s rfl (pK_158 (by omega)) (by omega) (by omega)]
      first | refine rx_iincN (i := 3) dX11_again_110 rfl (by decide) rfl rfl ?_ | refine rx_iinc (i := 3) dX11_again_110 rfl rfl (by decide) rfl rfl ?_
      refine rx_goto (tgt := 90) dX11_again_113 (by decide) ?_
      exact ih (i + 1) (by omega) (by omega)
set_option maxRecDepth 100000 in
set_option maxHeartbeats 4000000 in
theorem l_again3 {M : Mem} {k0 : Nat} {x1 : Int32} (hl : k0 + 133 ≤ 266) {QQ : Nat → List (Option Value) → List Value → Mem → Prop} (K : Reach cX11_again RX11 4 1 QQ 158 [some (.ref 140), some (.int x1), some (.int (nI (k0 + 127))), none] [] (agM M k0 132)) : ∀ (N : Nat) (i : Nat), (i ≤ 4) → 4 - i < N → Reach cX11_again RX11 4 1 (QQ) 131 [some (.ref 140), some (.int x1), some (.int (nI (k0 + 127))), some (.int (nI i))] [] (agM M k0 (128 + i)) := by
  intro N
  induction N with
  | zero => intro i hi hm; exact absurd ‹_ < 0› (Nat.not_lt_zero _)
  | succ N ih =>
    intro i hi hm
    refine rx_iload_n (i := 3) dX11_again_131 rfl rfl ?_
    refine rx_iconst (4) dX11_again_132 rfl ?_
    refine rx_icmp_ge (tgt := 158) dX11_again_133 (by decide) (fun c133 => ?_) (fun c133 => ?_)
    · skip
      have f133 := Int32.not_lt.mpr c133
      have e133 : i = 4 := by have := (nI_leI (a := 4) (by omega) (by omega)).mp c133; omega
      subst e133
      refine rx_drop 3 ?_
      exact K
    · skip
      have f133 := Int32.not_le.mp c133
      have e133 : i < 4 := Nat.lt_of_not_le fun q => c133 (nI_le (a := 4) q (by omega))
      refine rx_aload_n (i := 0) dX11_again_136 rfl rfl ?_
      refine rx_getR 153 (k := 14) fo_X11_47 kl_140 (by decide) ti_11_14 (by decide) rfl dX11_again_137 ?_
      refine rx_iload_n (i := 3) dX11_again_140 rfl rfl ?_
      refine rx_aload_n (i := 0) dX11_again_141 rfl rfl ?_
      refine rx_getR 173 (k := 56) fo_X11_117 kl_140 (by decide) ti_11_56 (by decide) rfl dX11_again_142 ?_
      refine rx_iload_n (i := 2) dX11_again_145 rfl rfl ?_
      refine rx_iconst (1) dX11_again_146 rfl ?_
      refine rx_iadd dX11_again_147 ?_
      refine rx_top (nI (k0 + 128)) (by rw [show (1 : Int32) = nI 1 from rfl, nI_add, Nat.add_assoc]) ?_
      refine rx_iload_n (i := 3) dX11_again_148 rfl rfl ?_
      refine rx_iadd dX11_again_149 ?_
      refine rx_top (nI (k0 + (128 + i))) (by rw [nI_add, Nat.add_assoc]) ?_
      refine rx_ialdN kl_173 (k := k0 + (128 + i)) (by omega) (by first | decide | omega) dX11_again_150 ?_
      refine rx_top (M.1 173 (k0 + (128 + i))) (ag_a (by omega)) ?_
      refine rx_iastN kl_153 (by omega) (by first | decide | omega) dX11_again_151 ?_
      rw [ag_s rfl (pK_154 (by omega)) (by omega) (by omega)]
      first | refine rx_iincN (i := 3) dX11_again_152 rfl (by decide) rfl rfl ?_ | refine rx_iinc (i := 3) dX11_again_152 rfl rfl (by decide) rfl rfl ?_
      refine rx_goto (tgt := 131) dX11_again_155 (by decide) ?_
      exact ih (i + 1) (by omega) (by omega)
set_option maxRecDepth 100000 in
set_option maxHeartbeats 4000000 in
theorem c_X11_again {M : Mem} {i : Nat} (hi : i < 2) (h1 : ¬ M.1 174 i = 0) (h2 : M.1 175 i = M.1 140 55) : Fun yX11_again cX11_again 4 (some .boolean) 1 [.ref 140, .int (nI i)] M (some (.int 1)) (setI (agM (t0 M) (133 * i) 133) 140 32 0) := by
  refine Fun.of (own := RX11) ([some (.ref 140), some (.int (nI i)), none, none]) rfl (by decide +kernel) (Nat.le_of_ble_eq_true rfl) rfl ?_
  generalize hk0 : 133 * i = k0
  refine rx_aload_n (i := 0) dX11_again_0 rfl rfl ?_
  refine rx_iconst (0) dX11_again_1 rfl ?_
  refine rx_putI (k := 21) fo_X11_126 fn_11_21 kl_140 (by decide) ty_11_21 dX11_again_2 ?_
  refine rx_iload_n (i := 1) dX11_again_5 rfl rfl ?_
  refine rx_i2l dX11_again_6 rfl ?_
  refine rx_lconst (0) dX11_again_7 rfl ?_
  refine rx_lconst (1) dX11_again_8 rfl ?_
  refine rx_csI mo_X11_in lk_X11_135 (c_X11_in (a := (nI i).toInt64) (b := 0) (c := 1)) (by decide) rfl rfl (Nat.le_of_ble_eq_true rfl) dX11_again_9 ?_
  refine rx_top (1) (if_pos ⟨l_0.mpr (nI_pos' (by omega)), l_1.mpr (nI_le (b := 1) (by omega) (by omega))⟩) ?_
  refine rx_if_eq (tgt := 37) dX11_again_12 (by decide) (fun c12 => absurd c12 (by decide)) (fun c12 => ?_)
  refine rx_aload_n (i := 0) dX11_again_15 rfl rfl ?_
  refine rx_getR 174 (k := 57) fo_X11_120 kl_140 (by decide) ti_11_57 (by decide) rfl dX11_again_16 ?_
  refine rx_iload_n (i := 1) dX11_again_19 rfl rfl ?_
  refine rx_zaldN kl_174 (by omega) (by first | decide | omega) dX11_again_20 ?_
  refine rx_top (M.1 174 i) (t0_o (by omega)) ?_
  refine rx_if_eq (tgt := 37) dX11_again_21 (by decide) (fun c21 => ?_) (fun c21 => ?_)
  · skip
    exact absurd c21 h1
    skip
  · skip
    refine rx_aload_n (i := 0) dX11_again_24 rfl rfl ?_
    refine rx_getR 175 (k := 58) fo_X11_123 kl_140 (by decide) ti_11_58 (by decide) rfl dX11_again_25 ?_
    refine rx_iload_n (i := 1) dX11_again_28 rfl rfl ?_
    refine rx_ialdN kl_175 (by omega) (by first | decide | omega) dX11_again_29 ?_
    refine rx_top (M.1 175 i) (t0_o (by omega)) ?_
    refine rx_aload_n (i := 0) dX11_again_30 rfl rfl ?_
    refine rx_getI (k := 55) fo_X11_195 kl_140 (by decide) ti_11_55 dX11_again_31 ?_
    refine rx_top (M.1 140 55) (t0_o (by omega)) ?_
    refine rx_icmp_eq (tgt := 39) dX11_again_34 (by decide) (fun c34 => ?_) (fun c34 => ?_)
    · skip
      refine rx_sipush (133) dX11_again_39 rfl ?_
      refine rx_iload_n (i := 1) dX11_again_42 rfl rfl ?_
      refine rx_imul dX11_again_43 ?_
      refine rx_top (nI k0) (by rw [show (133 : Int32) = nI 133 from rfl, pk_mul, hk0]) ?_
      refine rx_istore_n (i := 2) dX11_again_44 rfl (by decide) rfl rfl ?_
      refine rx_aload_n (i := 0) dX11_again_45 rfl rfl ?_
      refine rx_aload_n (i := 0) dX11_again_46 rfl rfl ?_
      refine rx_getR 173 (k := 56) fo_X11_117 kl_140 (by decide) ti_11_56 (by decide) rfl dX11_again_47 ?_
      refine rx_iload_n (i := 2) dX11_again_50 rfl rfl ?_
      refine rx_cvN (ci := 11) mo_X11_bring lk_X11_417 (c_X11_bring (a := 173) (k0 := k0) (len := 266) (Or.inr rfl) kl_173 (by omega) (by omega)) (by decide) rfl rfl (Nat.le_of_ble_eq_true rfl) kl_140 rfl dX11_again_51 ?_
      refine rx_iinc (v := nI (k0 + 101)) (i := 2) dX11_again_54 rfl (by rw [show Int32.ofInt 101 = nI 101 from rfl, nI_add]) (by decide) rfl rfl ?_
      refine rx_iconst (0) dX11_again_57 rfl ?_
      refine rx_istore_n (i := 3) dX11_again_58 rfl (by decide) rfl rfl ?_
      rw [ag_br]
      refine l_again1 (by omega) ?_ 9 0 (by omega) (by omega)
      refine rx_iinc (v := nI (k0 + 109)) (i := 2) dX11_again_85 rfl (by rw [show Int32.ofInt 8 = nI 8 from rfl, nI_add, Nat.add_assoc]) (by decide) rfl rfl ?_
      refine rx_iconst (0) dX11_again_88 rfl ?_
      refine rx_istore_n (i := 3) dX11_again_89 rfl (by decide) rfl rfl ?_
      refine l_again2 (by omega) ?_ 19 0 (by omega) (by omega)
      refine rx_iinc (v := nI (k0 + 127)) (i := 2) dX11_again_116 rfl (by rw [show Int32.ofInt 18 = nI 18 from rfl, nI_add, Nat.add_assoc]) (by decide) rfl rfl ?_
      refine rx_aload_n (i := 0) dX11_again_119 rfl rfl ?_
      refine rx_aload_n (i := 0) dX11_again_120 rfl rfl ?_
      refine rx_getR 173 (k := 56) fo_X11_117 kl_140 (by decide) ti_11_56 (by decide) rfl dX11_again_121 ?_
      refine rx_iload_n (i := 2) dX11_again_124 rfl rfl ?_
      refine rx_ialdN kl_173 (k := k0 + 127) (by omega) (by first | decide | omega) dX11_again_125 ?_
      refine rx_top ((setI M 140 21 0).1 173 (k0 + 127)) (ag_a (by omega)) ?_
      refine rx_putI (k := 34) fo_X11_319 fn_11_34 kl_140 (by decide) ty_11_34 dX11_again_126 ?_
      rw [ag_s rfl (show psK 140 34 = 127 from rfl) (by omega) (by omega)]
      refine rx_iconst (0) dX11_again_129 rfl ?_
      refine rx_istore_n (i := 3) dX11_again_130 rfl (by decide) rfl rfl ?_
      refine l_again3 (by omega) ?_ 5 0 (by omega) (by omega)
      refine rx_aload_n (i := 0) dX11_again_158 rfl rfl ?_
      refine rx_aload_n (i := 0) dX11_again_159 rfl rfl ?_
      refine rx_getR 173 (k := 56) fo_X11_117 kl_140 (by decide) ti_11_56 (by decide) rfl dX11_again_160 ?_
      refine rx_iload_n (i := 2) dX11_again_163 rfl rfl ?_
      refine rx_iconst (5) dX11_again_164 rfl ?_
      refine rx_iadd dX11_again_165 ?_
      refine rx_top (nI (k0 + 132)) (by rw [show (5 : Int32) = nI 5 from rfl, nI_add, Nat.add_assoc]) ?_
      refine rx_ialdN kl_173 (k := k0 + 132) (by omega) (by first | decide | omega) dX11_again_166 ?_
      refine rx_top ((setI M 140 21 0).1 173 (k0 + 132)) (ag_a (by omega)) ?_
      refine rx_putI (k := 16) fo_X11_50 fn_11_16 kl_140 (by decide) ty_11_16 dX11_again_167 ?_
      rw [ag_s rfl (show psK 140 16 = 132 from rfl) (by omega) (by omega)]
      refine rx_aload_n (i := 0) dX11_again_170 rfl rfl ?_
      refine rx_iconst (0) dX11_again_171 rfl ?_
      refine rx_putI (k := 32) fo_X11_198 fn_11_32 kl_140 (by decide) ty_11_32 dX11_again_172 ?_
      refine rx_iconst (1) dX11_again_175 rfl ?_
      exact rx_fiZ dX11_again_176 (Or.inr rfl) rfl rfl
    · skip
      exact absurd h2 c34
      skip
set_option maxRecDepth 100000 in
set_option maxHeartbeats 4000000 in
theorem c_X11_again_no {M : Mem} {x : Int32} (hx : ¬ ((0 ≤ x ∧ x ≤ 1) ∧ ¬ M.1 174 x.toNatClampNeg = 0 ∧ M.1 175 x.toNatClampNeg = M.1 140 55)) : Fun yX11_again cX11_again 4 (some .boolean) 1 [.ref 140, .int x] M (some (.int 0)) (t0 M) := by
  refine Fun.of (own := RX11) ([some (.ref 140), some (.int x), none, none]) rfl (by decide +kernel) (Nat.le_of_ble_eq_true rfl) rfl ?_
  refine rx_aload_n (i := 0) dX11_again_0 rfl rfl ?_
  refine rx_iconst (0) dX11_again_1 rfl ?_
  refine rx_putI (k := 21) fo_X11_126 fn_11_21 kl_140 (by decide) ty_11_21 dX11_again_2 ?_
  refine rx_iload_n (i := 1) dX11_again_5 rfl rfl ?_
  refine rx_i2l dX11_again_6 rfl ?_
  refine rx_lconst (0) dX11_again_7 rfl ?_
  refine rx_lconst (1) dX11_again_8 rfl ?_
  refine rx_csI mo_X11_in lk_X11_135 (c_X11_in (a := x.toInt64) (b := 0) (c := 1)) (by decide) rfl rfl (Nat.le_of_ble_eq_true rfl) dX11_again_9 ?_
  refine rx_if_eq (tgt := 37) dX11_again_12 (by decide) (fun c12 => ?_) (fun c12 => ?_)
  · skip
    refine rx_iconst (0) dX11_again_37 rfl ?_
    exact rx_fiZ dX11_again_38 (Or.inl rfl) rfl rfl
  · skip
    have e12 := ite1n c12
    have g12 : 0 ≤ x ∧ x ≤ 1 := ⟨l_0.mp e12.1, l_1.mp e12.2⟩
    obtain ⟨i, hi31, rfl⟩ := nI_of (Int32.not_lt.mpr g12.1)
    have hi : i < 2 := by have := (nI_leI (b := 1) hi31 (by omega)).mp g12.2; omega
    rw [nI_clamp hi31] at hx
    refine rx_aload_n (i := 0) dX11_again_15 rfl rfl ?_
    refine rx_getR 174 (k := 57) fo_X11_120 kl_140 (by decide) ti_11_57 (by decide) rfl dX11_again_16 ?_
    refine rx_iload_n (i := 1) dX11_again_19 rfl rfl ?_
    refine rx_zaldN kl_174 (by omega) (by first | decide | omega) dX11_again_20 ?_
    refine rx_top (M.1 174 i) (t0_o (by omega)) ?_
    refine rx_if_eq (tgt := 37) dX11_again_21 (by decide) (fun c21 => ?_) (fun c21 => ?_)
    · skip
      refine rx_iconst (0) dX11_again_37 rfl ?_
      exact rx_fiZ dX11_again_38 (Or.inl rfl) rfl rfl
    · skip
      refine rx_aload_n (i := 0) dX11_again_24 rfl rfl ?_
      refine rx_getR 175 (k := 58) fo_X11_123 kl_140 (by decide) ti_11_58 (by decide) rfl dX11_again_25 ?_
      refine rx_iload_n (i := 1) dX11_again_28 rfl rfl ?_
      refine rx_ialdN kl_175 (by omega) (by first | decide | omega) dX11_again_29 ?_
      refine rx_top (M.1 175 i) (t0_o (by omega)) ?_
      refine rx_aload_n (i := 0) dX11_again_30 rfl rfl ?_
      refine rx_getI (k := 55) fo_X11_195 kl_140 (by decide) ti_11_55 dX11_again_31 ?_
      refine rx_top (M.1 140 55) (t0_o (by omega)) ?_
      refine rx_icmp_eq (tgt := 39) dX11_again_34 (by decide) (fun c34 => ?_) (fun c34 => ?_)
      · skip
        exact absurd ⟨g12, c21, c34⟩ hx
        skip
      · skip
        refine rx_iconst (0) dX11_again_37 rfl ?_
        exact rx_fiZ dX11_again_38 (Or.inl rfl) rfl rfl
