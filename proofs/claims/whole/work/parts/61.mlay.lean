/-- what is laid at place q -/
def lyV (M : Mem) (q : Nat) : Int32 := if q < 16 then (if q % 2 = 0 then M.1 141 (q / 2) else M.1 145 (q / 2)) else if q < 80 then M.1 146 (q - 16) else if q < 100 then (if q % 2 = 0 then M.1 151 ((q - 80) / 2) else M.1 152 ((q - 80) / 2)) else M.1 140 15
/-- the first c places laid -/
def lyM (M : Mem) (a k0 c : Nat) : Mem := (fun b j => if b = a ∧ k0 ≤ j ∧ j < k0 + c then lyV M (j - k0) else M.1 b j, M.2)
theorem ly_0 {M : Mem} {a k0 : Nat} : lyM M a k0 0 = M := by
  refine Prod.ext ?_ rfl
  funext b j
  exact if_neg (by omega)
theorem ly_o {M : Mem} {a k0 c b j : Nat} (h : b ≠ a) : (lyM M a k0 c).1 b j = M.1 b j := if_neg fun q => h q.1
theorem ly_i {M : Mem} {a k0 c q : Nat} (h : q < c) : (lyM M a k0 c).1 a (k0 + q) = lyV M q := by
  show (if a = a ∧ k0 ≤ k0 + q ∧ k0 + q < k0 + c then lyV M (k0 + q - k0) else _) = _
  rw [if_pos (by omega), Nat.add_sub_cancel_left]
theorem ly_s {M : Mem} {a k0 c : Nat} {x : Int32} (hx : x = lyV M c) : setI (lyM M a k0 c) a (k0 + c) x = lyM M a k0 (c + 1) := by
  subst hx
  refine Prod.ext ?_ rfl
  funext b j
  simp only [setI, lyM]
  by_cases h : b = a ∧ j = k0 + c
  · rw [if_pos h, if_pos (by omega), h.2, Nat.add_sub_cancel_left]
  · rw [if_neg h]
    by_cases h2 : b = a ∧ k0 ≤ j ∧ j < k0 + c
    · rw [if_pos h2, if_pos (by omega)]
    · rw [if_neg h2, if_neg (by omega)]
/-- the place of an element among what is laid -/
def psL (b j : Nat) : Nat := if b = 141 ∧ j < 8 then 2 * j else if b = 145 ∧ j < 8 then 2 * j + 1 else if b = 146 ∧ j < 64 then 16 + j else if b = 151 ∧ j < 10 then 80 + 2 * j else if b = 152 ∧ j < 10 then 81 + 2 * j else if b = 140 ∧ j = 15 then 100 else 1000
theorem ps_inj {b j b' j' : Nat} (h : psL b j = psL b' j') (h2 : psL b j < 1000) : b = b' ∧ j = j' := by
  unfold psL at h h2
  split at h
  · split at h
    · omega
    · split at h
      · omega
      · split at h
        · omega
        · split at h
          · omega
          · split at h
            · omega
            · split at h <;> omega
  · split at h
    · split at h
      · omega
      · split at h
        · omega
        · split at h
          · omega
          · split at h
            · omega
            · split at h
              · omega
              · split at h <;> omega
    · split at h
      · split at h
        · omega
        · split at h
          · omega
          · split at h
            · omega
            · split at h
              · omega
              · split at h
                · omega
                · split at h <;> omega
      · split at h
        · split at h
          · omega
          · split at h
            · omega
            · split at h
              · omega
              · split at h
                · omega
                · split at h
                  · omega
                  · split at h <;> omega
        · split at h
          · split at h
            · omega
            · split at h
              · omega
              · split at h
                · omega
                · split at h
                  · omega
                  · split at h
                    · omega
                    · split at h <;> omega
          · split at h
            · split at h
              · omega
              · split at h
                · omega
                · split at h
                  · omega
                  · split at h
                    · omega
                    · split at h
                      · omega
                      · split at h <;> omega
            · exfalso
              rename_i q1 q2 q3 q4 q5 q6
              rw [if_neg q1, if_neg q2, if_neg q3, if_neg q4, if_neg q5, if_neg q6] at h2
              omega
/-- the first c places brought -/
def brM (M : Mem) (a k0 c : Nat) : Mem := (fun b j => if psL b j < c then M.1 a (k0 + psL b j) else M.1 b j, M.2)
theorem br_0 {M : Mem} {a k0 : Nat} : brM M a k0 0 = M := by
  refine Prod.ext ?_ rfl
  funext b j
  simp only [brM]
  rw [if_neg (Nat.not_lt_zero _)]
theorem ps_a {a j : Nat} (h : a = 172 ∨ a = 173) : psL a j = 1000 := by
  unfold psL
  rw [if_neg (by omega), if_neg (by omega), if_neg (by omega), if_neg (by omega), if_neg (by omega), if_neg (by omega)]
theorem br_o {M : Mem} {a k0 c b j : Nat} (h : psL b j = 1000) (hc : c ≤ 1000) : (brM M a k0 c).1 b j = M.1 b j := if_neg (by omega)
theorem br_s {M : Mem} {a k0 c b0 j0 : Nat} {x : Int32} (hx : x = M.1 a (k0 + c)) (hp : psL b0 j0 = c) (hc : c < 1000) : setI (brM M a k0 c) b0 j0 x = brM M a k0 (c + 1) := by
  subst hx
  refine Prod.ext ?_ rfl
  funext b j
  simp only [setI, brM]
  by_cases h : b = b0 ∧ j = j0
  · rw [if_pos h, h.1, h.2, hp, if_pos (Nat.lt_succ_self _)]
  · rw [if_neg h]
    have hne : psL b j ≠ c := fun q => h (ps_inj (q.trans hp.symm) (by omega))
    by_cases h2 : psL b j < c
    · rw [if_pos h2, if_pos (by omega)]
    · rw [if_neg h2, if_neg (by omega)]
set_option maxRecDepth 100000 in
set_option maxHeartbeats 4000000 in
theorem l_lay1 {M : Mem} {a k0 len : Nat} (ha : a = 172 ∨ a = 173) (hka : kd a = (0, len)) (hl : k0 + 101 ≤ len) (hl2 : len ≤ 266) {QQ : Nat → List (Option Value) → List Value → Mem → Prop} (K : Reach cX11_lay RX11 8 0 QQ 43 [some (.ref 140), some (.ref a), some (.int (nI k0)), some (.int (nI (k0 + 16))), none, none, none, none] [] (lyM M a k0 16)) : ∀ (N : Nat) (i : Nat) (M1 : Mem), (i ≤ 8) → (M1 = lyM M a k0 (2 * i)) → 8 - i < N → Reach cX11_lay RX11 8 0 (QQ) 5 [some (.ref 140), some (.ref a), some (.int (nI k0)), some (.int (nI (k0 + 2 * i))), some (.int (nI i)), none, none, none] [] (M1) := by
  intro N
  induction N with
  | zero => intro i M1 hi hm1 hm; exact absurd ‹_ < 0› (Nat.not_lt_zero _)
  | succ N ih =>
    intro i M1 hi hm1 hm
    subst hm1
    refine rx_iload (i := 4) dX11_lay_5 rfl ?_
    refine rx_bipush (8) dX11_lay_7 rfl ?_
    refine rx_icmp_ge (tgt := 43) dX11_lay_9 (by decide) (fun c9 => ?_) (fun c9 => ?_)
    · skip
      have f9 := Int32.not_lt.mpr c9
      have e9 : i = 8 := by have := (nI_leI (a := 8) (by omega) (by omega)).mp c9; omega
      subst e9
      refine rx_drop 4 ?_
      exact K
    · skip
      have f9 := Int32.not_le.mp c9
      have e9 : i < 8 := Nat.lt_of_not_le fun q => c9 (nI_le (a := 8) q (by omega))
      refine rx_aload_n (i := 1) dX11_lay_12 rfl rfl ?_
      refine rx_iload_n (i := 3) dX11_lay_13 rfl rfl ?_
      refine rx_aload_n (i := 0) dX11_lay_14 rfl rfl ?_
      refine rx_getR 141 (k := 1) fo_X11_9 kl_140 (by decide) ti_11_1 (by decide) rfl dX11_lay_15 ?_
      refine rx_iload (i := 4) dX11_lay_18 rfl ?_
      refine rx_ialdN kl_141 (by omega) (by first | decide | omega) dX11_lay_20 ?_
      refine rx_top (M.1 141 i) (ly_o (by omega)) ?_
      refine rx_iastN hka (k := k0 + 2 * i) (by omega) (by first | decide | omega) dX11_lay_21 ?_
      rw [ly_s (show M.1 141 i = lyV M (2 * i) from by unfold lyV; rw [if_pos (by omega), if_pos (by omega), show 2 * i / 2 = i by omega])]
      refine rx_aload_n (i := 1) dX11_lay_22 rfl rfl ?_
      refine rx_iload_n (i := 3) dX11_lay_23 rfl rfl ?_
      refine rx_iconst (1) dX11_lay_24 rfl ?_
      refine rx_iadd dX11_lay_25 ?_
      rw [nI_1]
      refine rx_aload_n (i := 0) dX11_lay_26 rfl rfl ?_
      refine rx_getR 145 (k := 5) fo_X11_23 kl_140 (by decide) ti_11_5 (by decide) rfl dX11_lay_27 ?_
      refine rx_iload (i := 4) dX11_lay_30 rfl ?_
      refine rx_ialdN kl_145 (by omega) (by first | decide | omega) dX11_lay_32 ?_
      refine rx_top (M.1 145 i) (ly_o (by omega)) ?_
      refine rx_iastN hka (k := k0 + 2 * i + 1) (by omega) (by first | decide | omega) dX11_lay_33 ?_
      rw [show k0 + 2 * i + 1 = k0 + (2 * i + 1) by omega, ly_s (show M.1 145 i = lyV M (2 * i + 1) from by unfold lyV; rw [if_pos (by omega), if_neg (by omega), show (2 * i + 1) / 2 = i by omega])]
      refine rx_iinc (v := nI (k0 + 2 * (i + 1))) (i := 3) dX11_lay_34 rfl (by rw [show Int32.ofInt 2 = nI 2 from rfl, nI_add]; congr 1) (by decide) rfl rfl ?_
      first | refine rx_iincN (i := 4) dX11_lay_37 rfl (by decide) rfl rfl ?_ | refine rx_iinc (i := 4) dX11_lay_37 rfl rfl (by decide) rfl rfl ?_
      refine rx_goto (tgt := 5) dX11_lay_40 (by decide) ?_
      exact ih (i + 1) _ (by omega) rfl (by omega)
set_option maxRecDepth 100000 in
set_option maxHeartbeats 4000000 in
theorem l_lay2 {M : Mem} {a k0 len : Nat} (ha : a = 172 ∨ a = 173) (hka : kd a = (0, len)) (hl : k0 + 101 ≤ len) (hl2 : len ≤ 266) {QQ : Nat → List (Option Value) → List Value → Mem → Prop} (K : Reach cX11_lay RX11 8 0 QQ 85 [some (.ref 140), some (.ref a), some (.int (nI k0)), some (.int (nI (k0 + 80))), none, none, none, none] [] (lyM M a k0 80)) : ∀ (N : Nat) (i : Nat), (i ≤ 64) → 64 - i < N → Reach cX11_lay RX11 8 0 (QQ) 57 [some (.ref 140), some (.ref a), some (.int (nI k0)), some (.int (nI (k0 + (16 + i)))), some (.ref 146), some (.int (nI 64)), some (.int (nI i)), none] [] (lyM M a k0 (16 + i)) := by
  intro N
  induction N with
  | zero => intro i hi hm; exact absurd ‹_ < 0› (Nat.not_lt_zero _)
  | succ N ih =>
    intro i hi hm
    refine rx_iload (i := 6) dX11_lay_57 rfl ?_
    refine rx_iload (i := 5) dX11_lay_59 rfl ?_
    refine rx_icmp_ge (tgt := 85) dX11_lay_61 (by decide) (fun c61 => ?_) (fun c61 => ?_)
    · skip
      have f61 := Int32.not_lt.mpr c61
      have e61 : i = 64 := by have := (nI_leI (a := 64) (by omega) (by omega)).mp c61; omega
      subst e61
      refine rx_drop 4 ?_
      refine rx_drop 5 ?_
      refine rx_drop 6 ?_
      exact K
    · skip
      have f61 := Int32.not_le.mp c61
      have e61 : i < 64 := Nat.lt_of_not_le fun q => c61 (nI_le (a := 64) q (by omega))
      refine rx_aload (i := 4) dX11_lay_64 rfl ?_
      refine rx_iload (i := 6) dX11_lay_66 rfl ?_
      refine rx_ialdN kl_146 (by omega) (by first | decide | omega) dX11_lay_68 ?_
      refine rx_top (M.1 146 i) (ly_o (by omega)) ?_
      refine rx_istore (i := 7) dX11_lay_69 (by decide) rfl rfl ?_
      refine rx_aload_n (i := 1) dX11_lay_71 rfl rfl ?_
      refine rx_iload_n (i := 3) dX11_lay_72 rfl rfl ?_
      first | refine rx_iincN (i := 3) dX11_lay_73 rfl (by decide) rfl rfl ?_ | refine rx_iinc (i := 3) dX11_lay_73 rfl rfl (by decide) rfl rfl ?_
      refine rx_iload (i := 7) dX11_lay_76 rfl ?_
      refine rx_iastN hka (k := k0 + (16 + i)) (by omega) (by first | decide | omega) dX11_lay_78 ?_
      rw [ly_s (show M.1 146 i = lyV M (16 + i) from by unfold lyV; rw [if_neg (by omega), if_pos (by omega), Nat.add_sub_cancel_left])]
      first | refine rx_iincN (i := 6) dX11_lay_79 rfl (by decide) rfl rfl ?_ | refine rx_iinc (i := 6) dX11_lay_79 rfl rfl (by decide) rfl rfl ?_
      refine rx_goto (tgt := 57) dX11_lay_82 (by decide) ?_
      refine rx_drop 7 ?_
      exact ih (i + 1) (by omega) (by omega)
set_option maxRecDepth 100000 in
set_option maxHeartbeats 4000000 in
theorem l_lay3 {M : Mem} {a k0 len : Nat} (ha : a = 172 ∨ a = 173) (hka : kd a = (0, len)) (hl : k0 + 101 ≤ len) (hl2 : len ≤ 266) {QQ : Nat → List (Option Value) → List Value → Mem → Prop} (K : Reach cX11_lay RX11 8 0 QQ 126 [some (.ref 140), some (.ref a), some (.int (nI k0)), some (.int (nI (k0 + 100))), none, none, none, none] [] (lyM M a k0 100)) : ∀ (N : Nat) (i : Nat), (i ≤ 10) → 10 - i < N → Reach cX11_lay RX11 8 0 (QQ) 88 [some (.ref 140), some (.ref a), some (.int (nI k0)), some (.int (nI (k0 + (80 + 2 * i)))), some (.int (nI i)), none, none, none] [] (lyM M a k0 (80 + 2 * i)) := by
  intro N
  induction N with
  | zero => intro i hi hm; exact absurd ‹_ < 0› (Nat.not_lt_zero _)
  | succ N ih =>
    intro i hi hm
    refine rx_iload (i := 4) dX11_lay_88 rfl ?_
    refine rx_bipush (10) dX11_lay_90 rfl ?_
    refine rx_icmp_ge (tgt := 126) dX11_lay_92 (by decide) (fun c92 => ?_) (fun c92 => ?_)
    · skip
      have f92 := Int32.not_lt.mpr c92
      have e92 : i = 10 := by have := (nI_leI (a := 10) (by omega) (by omega)).mp c92; omega
      subst e92
      refine rx_drop 4 ?_
      exact K
    · skip
      have f92 := Int32.not_le.mp c92
      have e92 : i < 10 := Nat.lt_of_not_le fun q => c92 (nI_le (a := 10) q (by omega))
      refine rx_aload_n (i := 1) dX11_lay_95 rfl rfl ?_
      refine rx_iload_n (i := 3) dX11_lay_96 rfl rfl ?_
      refine rx_aload_n (i := 0) dX11_lay_97 rfl rfl ?_
      refine rx_getR 151 (k := 12) fo_X11_41 kl_140 (by decide) ti_11_12 (by decide) rfl dX11_lay_98 ?_
      refine rx_iload (i := 4) dX11_lay_101 rfl ?_
      refine rx_ialdN kl_151 (by omega) (by first | decide | omega) dX11_lay_103 ?_
      refine rx_top (M.1 151 i) (ly_o (by omega)) ?_
      refine rx_iastN hka (k := k0 + (80 + 2 * i)) (by omega) (by first | decide | omega) dX11_lay_104 ?_
      rw [ly_s (show M.1 151 i = lyV M (80 + 2 * i) from by unfold lyV; rw [if_neg (by omega), if_neg (by omega), if_pos (by omega), if_pos (by omega), show (80 + 2 * i - 80) / 2 = i by omega])]
      refine rx_aload_n (i := 1) dX11_lay_105 rfl rfl ?_
      refine rx_iload_n (i := 3) dX11_lay_106 rfl rfl ?_
      refine rx_iconst (1) dX11_lay_107 rfl ?_
      refine rx_iadd dX11_lay_108 ?_
      rw [nI_1]
      refine rx_aload_n (i := 0) dX11_lay_109 rfl rfl ?_
      refine rx_getR 152 (k := 13) fo_X11_44 kl_140 (by decide) ti_11_13 (by decide) rfl dX11_lay_110 ?_
      refine rx_iload (i := 4) dX11_lay_113 rfl ?_
      refine rx_ialdN kl_152 (by omega) (by first | decide | omega) dX11_lay_115 ?_
      refine rx_top (M.1 152 i) (ly_o (by omega)) ?_
      refine rx_iastN hka (k := k0 + (80 + 2 * i) + 1) (by omega) (by first | decide | omega) dX11_lay_116 ?_
      rw [show k0 + (80 + 2 * i) + 1 = k0 + (80 + 2 * i + 1) by omega, ly_s (show M.1 152 i = lyV M (80 + 2 * i + 1) from by unfold lyV; rw [if_neg (by omega), if_neg (by omega), if_pos (by omega), if_neg (by omega), show (80 + 2 * i + 1 - 80) / 2 = i by omega])]
      refine rx_iinc (v := nI (k0 + (80 + 2 * (i + 1)))) (i := 3) dX11_lay_117 rfl (by rw [show Int32.ofInt 2 = nI 2 from rfl, nI_add]; congr 1) (by decide) rfl rfl ?_
      first | refine rx_iincN (i := 4) dX11_lay_120 rfl (by decide) rfl rfl ?_ | refine rx_iinc (i := 4) dX11_lay_120 rfl rfl (by decide) rfl rfl ?_
      refine rx_goto (tgt := 88) dX11_lay_123 (by decide) ?_
      exact ih (i + 1) (by omega) (by omega)
set_option maxRecDepth 100000 in
set_option maxHeartbeats 4000000 in
theorem c_X11_lay {M : Mem} {a k0 len : Nat} (ha : a = 172 ∨ a = 173) (hka : kd a = (0, len)) (hl : k0 + 101 ≤ len) (hl2 : len ≤ 266) : Fun yX11_lay cX11_lay 8 none 0 [.ref 140, .ref a, .int (nI k0)] M (none) (lyM M a k0 101) := by
  refine Fun.of (own := RX11) ([some (.ref 140), some (.ref a), some (.int (nI k0)), none, none, none, none, none]) rfl (by decide +kernel) (Nat.le_of_ble_eq_true rfl) rfl ?_
  refine rx_iload_n (i := 2) dX11_lay_0 rfl rfl ?_
  refine rx_istore_n (i := 3) dX11_lay_1 rfl (by decide) rfl rfl ?_
  refine rx_iconst (0) dX11_lay_2 rfl ?_
  refine rx_istore (i := 4) dX11_lay_3 (by decide) rfl rfl ?_
  refine l_lay1 ha hka hl hl2 ?_ 9 0 M (by omega) ly_0.symm (by omega)
  refine rx_aload_n (i := 0) dX11_lay_43 rfl rfl ?_
  refine rx_getR 146 (k := 6) fo_X11_26 kl_140 (by decide) ti_11_6 (by decide) rfl dX11_lay_44 ?_
  refine rx_astore (i := 4) dX11_lay_47 (by decide) rfl rfl ?_
  refine rx_aload (i := 4) dX11_lay_49 rfl ?_
  refine rx_alen (ty := .int) kl_146 (by decide) dX11_lay_51 ?_
  refine rx_istore (i := 5) dX11_lay_52 (by decide) rfl rfl ?_
  refine rx_iconst (0) dX11_lay_54 rfl ?_
  refine rx_istore (i := 6) dX11_lay_55 (by decide) rfl rfl ?_
  refine l_lay2 ha hka hl hl2 ?_ 65 0 (by omega) (by omega)
  refine rx_iconst (0) dX11_lay_85 rfl ?_
  refine rx_istore (i := 4) dX11_lay_86 (by decide) rfl rfl ?_
  refine l_lay3 ha hka hl hl2 ?_ 11 0 (by omega) (by omega)
  refine rx_aload_n (i := 1) dX11_lay_126 rfl rfl ?_
  refine rx_iload_n (i := 3) dX11_lay_127 rfl rfl ?_
  refine rx_aload_n (i := 0) dX11_lay_128 rfl rfl ?_
  refine rx_getI (k := 15) fo_X11_402 kl_140 (by decide) ti_11_15 dX11_lay_129 ?_
  refine rx_top (M.1 140 15) (ly_o (by omega)) ?_
  refine rx_iastN hka (k := k0 + 100) (by omega) (by first | decide | omega) dX11_lay_132 ?_
  rw [ly_s (show M.1 140 15 = lyV M 100 from rfl)]
  exact rx_fiV dX11_lay_133 rfl
set_option maxRecDepth 100000 in
set_option maxHeartbeats 4000000 in
theorem l_br1 {M : Mem} {a k0 len : Nat} (ha : a = 172 ∨ a = 173) (hka : kd a = (0, len)) (hl : k0 + 101 ≤ len) (hl2 : len ≤ 266) {QQ : Nat → List (Option Value) → List Value → Mem → Prop} (K : Reach cX11_bring RX11 5 0 QQ 43 [some (.ref 140), some (.ref a), some (.int (nI k0)), some (.int (nI (k0 + 16))), none] [] (brM M a k0 16)) : ∀ (N : Nat) (i : Nat) (M1 : Mem), (i ≤ 8) → (M1 = brM M a k0 (2 * i)) → 8 - i < N → Reach cX11_bring RX11 5 0 (QQ) 5 [some (.ref 140), some (.ref a), some (.int (nI k0)), some (.int (nI (k0 + 2 * i))), some (.int (nI i))] [] (M1) := by
  intro N
  induction N with
  | zero => intro i M1 hi hm1 hm; exact absurd ‹_ < 0› (Nat.not_lt_zero _)
  | succ N ih =>
    intro i M1 hi hm1 hm
    subst hm1
    refine rx_iload (i := 4) dX11_bring_5 rfl ?_
    refine rx_bipush (8) dX11_bring_7 rfl ?_
    refine rx_icmp_ge (tgt := 43) dX11_bring_9 (by decide) (fun c9 => ?_) (fun c9 => ?_)
    · skip
      have f9 := Int32.not_lt.mpr c9
      have e9 : i = 8 := by have := (nI_leI (a := 8) (by omega) (by omega)).mp c9; omega
      subst e9
      refine rx_drop 4 ?_
      exact K
    · skip
      have f9 := Int32.not_le.mp c9
      have e9 : i < 8 := Nat.lt_of_not_le fun q => c9 (nI_le (a := 8) q (by omega))
      refine rx_aload_n (i := 0) dX11_bring_12 rfl rfl ?_
      refine rx_getR 141 (k := 1) fo_X11_9 kl_140 (by decide) ti_11_1 (by decide) rfl dX11_bring_13 ?_
      refine rx_iload (i := 4) dX11_bring_16 rfl ?_
      refine rx_aload_n (i := 1) dX11_bring_18 rfl rfl ?_
      refine rx_iload_n (i := 3) dX11_bring_19 rfl rfl ?_
      refine rx_ialdN hka (k := k0 + 2 * i) (by omega) (by first | decide | omega) dX11_bring_20 ?_
      refine rx_top (M.1 a (k0 + 2 * i)) (br_o (ps_a ha) (by omega)) ?_
      refine rx_iastN kl_141 (by omega) (by first | decide | omega) dX11_bring_21 ?_
      rw [br_s (c := 2 * i) rfl (show psL 141 i = 2 * i from by unfold psL; rw [if_pos (by omega)]) (by omega)]
      refine rx_aload_n (i := 0) dX11_bring_22 rfl rfl ?_
      refine rx_getR 145 (k := 5) fo_X11_23 kl_140 (by decide) ti_11_5 (by decide) rfl dX11_bring_23 ?_
      refine rx_iload (i := 4) dX11_bring_26 rfl ?_
      refine rx_aload_n (i := 1) dX11_bring_28 rfl rfl ?_
      refine rx_iload_n (i := 3) dX11_bring_29 rfl rfl ?_
      refine rx_iconst (1) dX11_bring_30 rfl ?_
      refine rx_iadd dX11_bring_31 ?_
      rw [nI_1]
      refine rx_ialdN hka (k := k0 + 2 * i + 1) (by omega) (by first | decide | omega) dX11_bring_32 ?_
      refine rx_top (M.1 a (k0 + (2 * i + 1))) (br_o (ps_a ha) (by omega)) ?_
      refine rx_iastN kl_145 (by omega) (by first | decide | omega) dX11_bring_33 ?_
      rw [br_s (c := 2 * i + 1) rfl (show psL 145 i = 2 * i + 1 from by unfold psL; rw [if_neg (by omega), if_pos (by omega)]) (by omega)]
      refine rx_iinc (v := nI (k0 + 2 * (i + 1))) (i := 3) dX11_bring_34 rfl (by rw [show Int32.ofInt 2 = nI 2 from rfl, nI_add]; congr 1) (by decide) rfl rfl ?_
      first | refine rx_iincN (i := 4) dX11_bring_37 rfl (by decide) rfl rfl ?_ | refine rx_iinc (i := 4) dX11_bring_37 rfl rfl (by decide) rfl rfl ?_
      refine rx_goto (tgt := 5) dX11_bring_40 (by decide) ?_
      exact ih (i + 1) _ (by omega) rfl (by omega)
set_option maxRecDepth 100000 in
set_option maxHeartbeats 4000000 in
theorem l_br2 {M : Mem} {a k0 len : Nat} (ha : a = 172 ∨ a = 173) (hka : kd a = (0, len)) (hl : k0 + 101 ≤ len) (hl2 : len ≤ 266) {QQ : Nat → List (Option Value) → List Value → Mem → Prop} (K : Reach cX11_bring RX11 5 0 QQ 72 [some (.ref 140), some (.ref a), some (.int (nI k0)), some (.int (nI (k0 + 80))), none] [] (brM M a k0 80)) : ∀ (N : Nat) (i : Nat), (i ≤ 64) → 64 - i < N → Reach cX11_bring RX11 5 0 (QQ) 46 [some (.ref 140), some (.ref a), some (.int (nI k0)), some (.int (nI (k0 + (16 + i)))), some (.int (nI i))] [] (brM M a k0 (16 + i)) := by
  intro N
  induction N with
  | zero => intro i hi hm; exact absurd ‹_ < 0› (Nat.not_lt_zero _)
  | succ N ih =>
    intro i hi hm
    refine rx_iload (i := 4) dX11_bring_46 rfl ?_
    refine rx_bipush (64) dX11_bring_48 rfl ?_
    refine rx_icmp_ge (tgt := 72) dX11_bring_50 (by decide) (fun c50 => ?_) (fun c50 => ?_)
    · skip
      have f50 := Int32.not_lt.mpr c50
      have e50 : i = 64 := by have := (nI_leI (a := 64) (by omega) (by omega)).mp c50; omega
      subst e50
      refine rx_drop 4 ?_
      exact K
    · skip
      have f50 := Int32.not_le.mp c50
      have e50 : i < 64 := Nat.lt_of_not_le fun q => c50 (nI_le (a := 64) q (by omega))
      refine rx_aload_n (i := 0) dX11_bring_53 rfl rfl ?_
      refine rx_getR 146 (k := 6) fo_X11_26 kl_140 (by decide) ti_11_6 (by decide) rfl dX11_bring_54 ?_
      refine rx_iload (i := 4) dX11_bring_57 rfl ?_
      refine rx_aload_n (i := 1) dX11_bring_59 rfl rfl ?_
      refine rx_iload_n (i := 3) dX11_bring_60 rfl rfl ?_
      first | refine rx_iincN (i := 3) dX11_bring_61 rfl (by decide) rfl rfl ?_ | refine rx_iinc (i := 3) dX11_bring_61 rfl rfl (by decide) rfl rfl ?_
      refine rx_ialdN hka (k := k0 + (16 + i)) (by omega) (by first | decide | omega) dX11_bring_64 ?_
      refine rx_top (M.1 a (k0 + (16 + i))) (br_o (ps_a ha) (by omega)) ?_
      refine rx_iastN kl_146 (by omega) (by first | decide | omega) dX11_bring_65 ?_
      rw [br_s (c := 16 + i) rfl (show psL 146 i = 16 + i from by unfold psL; rw [if_neg (by omega), if_neg (by omega), if_pos (by omega)]) (by omega)]
      first | refine rx_iincN (i := 4) dX11_bring_66 rfl (by decide) rfl rfl ?_ | refine rx_iinc (i := 4) dX11_bring_66 rfl rfl (by decide) rfl rfl ?_
      refine rx_goto (tgt := 46) dX11_bring_69 (by decide) ?_
      exact ih (i + 1) (by omega) (by omega)
set_option maxRecDepth 100000 in
set_option maxHeartbeats 4000000 in
theorem l_br3 {M : Mem} {a k0 len : Nat} (ha : a = 172 ∨ a = 173) (hka : kd a = (0, len)) (hl : k0 + 101 ≤ len) (hl2 : len ≤ 266) {QQ : Nat → List (Option Value) → List Value → Mem → Prop} (K : Reach cX11_bring RX11 5 0 QQ 113 [some (.ref 140), some (.ref a), some (.int (nI k0)), some (.int (nI (k0 + 100))), none] [] (brM M a k0 100)) : ∀ (N : Nat) (i : Nat), (i ≤ 10) → 10 - i < N → Reach cX11_bring RX11 5 0 (QQ) 75 [some (.ref 140), some (.ref a), some (.int (nI k0)), some (.int (nI (k0 + (80 + 2 * i)))), some (.int (nI i))] [] (brM M a k0 (80 + 2 * i)) := by
  intro N
  induction N with
  | zero => intro i hi hm; exact absurd ‹_ < 0› (Nat.not_lt_zero _)
  | succ N ih =>
    intro i hi hm
    refine rx_iload (i := 4) dX11_bring_75 rfl ?_
    refine rx_bipush (10) dX11_bring_77 rfl ?_
    refine rx_icmp_ge (tgt := 113) dX11_bring_79 (by decide) (fun c79 => ?_) (fun c79 => ?_)
    · skip
      have f79 := Int32.not_lt.mpr c79
      have e79 : i = 10 := by have := (nI_leI (a := 10) (by omega) (by omega)).mp c79; omega
      subst e79
      refine rx_drop 4 ?_
      exact K
    · skip
      have f79 := Int32.not_le.mp c79
      have e79 : i < 10 := Nat.lt_of_not_le fun q => c79 (nI_le (a := 10) q (by omega))
      refine rx_aload_n (i := 0) dX11_bring_82 rfl rfl ?_
      refine rx_getR 151 (k := 12) fo_X11_41 kl_140 (by decide) ti_11_12 (by decide) rfl dX11_bring_83 ?_
      refine rx_iload (i := 4) dX11_bring_86 rfl ?_
      refine rx_aload_n (i := 1) dX11_bring_88 rfl rfl ?_
      refine rx_iload_n (i := 3) dX11_bring_89 rfl rfl ?_
      refine rx_ialdN hka (k := k0 + (80 + 2 * i)) (by omega) (by first | decide | omega) dX11_bring_90 ?_
      refine rx_top (M.1 a (k0 + (80 + 2 * i))) (br_o (ps_a ha) (by omega)) ?_
      refine rx_iastN kl_151 (by omega) (by first | decide | omega) dX11_bring_91 ?_
      rw [br_s (c := 80 + 2 * i) rfl (show psL 151 i = 80 + 2 * i from by unfold psL; rw [if_neg (by omega), if_neg (by omega), if_neg (by omega), if_pos (by omega)]) (by omega)]
      refine rx_aload_n (i := 0) dX11_bring_92 rfl rfl ?_
      refine rx_getR 152 (k := 13) fo_X11_44 kl_140 (by decide) ti_11_13 (by decide) rfl dX11_bring_93 ?_
      refine rx_iload (i := 4) dX11_bring_96 rfl ?_
      refine rx_aload_n (i := 1) dX11_bring_98 rfl rfl ?_
      refine rx_iload_n (i := 3) dX11_bring_99 rfl rfl ?_
      refine rx_iconst (1) dX11_bring_100 rfl ?_
      refine rx_iadd dX11_bring_101 ?_
      rw [nI_1]
      refine rx_ialdN hka (k := k0 + (80 + 2 * i) + 1) (by omega) (by first | decide | omega) dX11_bring_102 ?_
      refine rx_top (M.1 a (k0 + (80 + 2 * i + 1))) (br_o (ps_a ha) (by omega)) ?_
      refine rx_iastN kl_152 (by omega) (by first | decide | omega) dX11_bring_103 ?_
      rw [br_s (c := 80 + 2 * i + 1) rfl (show psL 152 i = 80 + 2 * i + 1 from by unfold psL; rw [if_neg (by omega), if_neg (by omega), if_neg (by omega), if_neg (by omega), if_pos (by omega)]; omega) (by omega)]
      refine rx_iinc (v := nI (k0 + (80 + 2 * (i + 1)))) (i := 3) dX11_bring_104 rfl (by rw [show Int32.ofInt 2 = nI 2 from rfl, nI_add]; congr 1) (by decide) rfl rfl ?_
      first | refine rx_iincN (i := 4) dX11_bring_107 rfl (by decide) rfl rfl ?_ | refine rx_iinc (i := 4) dX11_bring_107 rfl rfl (by decide) rfl rfl ?_
      refine rx_goto (tgt := 75) dX11_bring_110 (by decide) ?_
      exact ih (i + 1) (by omega) (by omega)
set_option maxRecDepth 100000 in
set_option maxHeartbeats 4000000 in
theorem c_X11_bring {M : Mem} {a k0 len : Nat} (ha : a = 172 ∨ a = 173) (hka : kd a = (0, len)) (hl : k0 + 101 ≤ len) (hl2 : len ≤ 266) : Fun yX11_bring cX11_bring 5 none 0 [.ref 140, .ref a, .int (nI k0)] M (none) (brM M a k0 101) := by
  refine Fun.of (own := RX11) ([some (.ref 140), some (.ref a), some (.int (nI k0)), none, none]) rfl (by decide +kernel) (Nat.le_of_ble_eq_true rfl) rfl ?_
  refine rx_iload_n (i := 2) dX11_bring_0 rfl rfl ?_
  refine rx_istore_n (i := 3) dX11_bring_1 rfl (by decide) rfl rfl ?_
  refine rx_iconst (0) dX11_bring_2 rfl ?_
  refine rx_istore (i := 4) dX11_bring_3 (by decide) rfl rfl ?_
  refine l_br1 ha hka hl hl2 ?_ 9 0 M (by omega) br_0.symm (by omega)
  refine rx_iconst (0) dX11_bring_43 rfl ?_
  refine rx_istore (i := 4) dX11_bring_44 (by decide) rfl rfl ?_
  refine l_br2 ha hka hl hl2 ?_ 65 0 (by omega) (by omega)
  refine rx_iconst (0) dX11_bring_72 rfl ?_
  refine rx_istore (i := 4) dX11_bring_73 (by decide) rfl rfl ?_
  refine l_br3 ha hka hl hl2 ?_ 11 0 (by omega) (by omega)
  refine rx_aload_n (i := 0) dX11_bring_113 rfl rfl ?_
  refine rx_aload_n (i := 1) dX11_bring_114 rfl rfl ?_
  refine rx_iload_n (i := 3) dX11_bring_115 rfl rfl ?_
  refine rx_ialdN hka (k := k0 + 100) (by omega) (by first | decide | omega) dX11_bring_116 ?_
  refine rx_top (M.1 a (k0 + 100)) (br_o (ps_a ha) (by omega)) ?_
  refine rx_putI (k := 15) fo_X11_402 fn_11_15 kl_140 (by decide) ty_11_15 dX11_bring_117 ?_
  rw [br_s (c := 100) rfl (show psL 140 15 = 100 from rfl) (by omega)]
  exact rx_fiV dX11_bring_120 rfl