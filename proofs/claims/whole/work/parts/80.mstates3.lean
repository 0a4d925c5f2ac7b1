set_option maxRecDepth 100000 in
set_option maxHeartbeats 4000000 in
theorem l_stateOf1 {M : Mem} {n : Nat} {mk : Int32} {c : Nat → Nat} (hn : M.1 140 0 = nI n) (hn8 : n ≤ 8) (h0 : ∀ i, i < n → M.1 141 i = nI (c i)) {QQ : Nat → List (Option Value) → List Value → Mem → Prop} (K : Reach cX11_stateOf RX11 5 1 QQ 30 [some (.ref 140), some (.int mk), some (.int (hmF mk c n)), none, none] [] M) : ∀ (N : Nat) (i : Nat), (i ≤ n) → n - i < N → Reach cX11_stateOf RX11 5 1 (QQ) 4 [some (.ref 140), some (.int mk), some (.int (hmF mk c i)), some (.int (nI i)), none] [] (M) := by
  intro N
  induction N with
  | zero => intro i hi hm; exact absurd ‹_ < 0› (Nat.not_lt_zero _)
  | succ N ih =>
    intro i hi hm
    refine rx_iload_n (i := 3) dX11_stateOf_4 rfl rfl ?_
    refine rx_aload_n (i := 0) dX11_stateOf_5 rfl rfl ?_
    refine rx_getI (k := 0) fo_X11_132 kl_140 (by decide) ti_11_0 dX11_stateOf_6 ?_
    refine rx_top (nI n) (hn) ?_
    refine rx_icmp_ge (tgt := 30) dX11_stateOf_9 (by decide) (fun c9 => ?_) (fun c9 => ?_)
    · skip
      have f9 := Int32.not_lt.mpr c9
      have e9 : i = n := by have := (nI_leI (by omega) (by omega)).mp c9; omega
      subst e9
      refine rx_drop 3 ?_
      exact K
    · skip
      have f9 := Int32.not_le.mp c9
      have e9 : i < n := Nat.lt_of_not_le fun q => c9 (nI_le q (by omega))
      refine rx_bipush (31) dX11_stateOf_12 rfl ?_
      refine rx_iload_n (i := 2) dX11_stateOf_14 rfl rfl ?_
      refine rx_imul dX11_stateOf_15 ?_
      refine rx_aload_n (i := 0) dX11_stateOf_16 rfl rfl ?_
      refine rx_getR 141 (k := 1) fo_X11_9 kl_140 (by decide) ti_11_1 (by decide) rfl dX11_stateOf_17 ?_
      refine rx_iload_n (i := 3) dX11_stateOf_20 rfl rfl ?_
      refine rx_ialdN kl_141 (by omega) (by first | decide | omega) dX11_stateOf_21 ?_
      refine rx_top (nI (c i)) (h0 i e9) ?_
      refine rx_iadd dX11_stateOf_22 ?_
      refine rx_top (hmF mk c (i + 1)) (rfl) ?_
      refine rx_istore_n (i := 2) dX11_stateOf_23 rfl (by decide) rfl rfl ?_
      first | refine rx_iincN (i := 3) dX11_stateOf_24 rfl (by decide) rfl rfl ?_ | refine rx_iinc (i := 3) dX11_stateOf_24 rfl rfl (by decide) rfl rfl ?_
      refine rx_goto (tgt := 4) dX11_stateOf_27 (by decide) ?_
      exact ih (i + 1) (by omega) (by omega)
set_option maxRecDepth 100000 in
set_option maxHeartbeats 4000000 in
theorem l_stateOf3 {M : Mem} {n W : Nat} {mk h : Int32} {pl : Nat} (hn : M.1 140 0 = nI n) (h44 : M.1 140 44 = nI W) (hn8 : n ≤ 8) (hN : W < 3000) {QQ : Nat → List (Option Value) → List Value → Mem → Prop} (K : Reach cX11_stateOf RX11 5 1 QQ 157 [some (.ref 140), some (.int mk), some (.int h), some (.int (nI pl)), none] [] (cyM M W n)) : ∀ (N : Nat) (i : Nat), (i ≤ n) → n - i < N → Reach cX11_stateOf RX11 5 1 (QQ) 120 [some (.ref 140), some (.int mk), some (.int h), some (.int (nI pl)), some (.int (nI i))] [] (cyM M W i) := by
  intro N
  induction N with
  | zero => intro i hi hm; exact absurd ‹_ < 0› (Nat.not_lt_zero _)
  | succ N ih =>
    intro i hi hm
    refine rx_iload (i := 4) dX11_stateOf_120 rfl ?_
    refine rx_aload_n (i := 0) dX11_stateOf_122 rfl rfl ?_
    refine rx_getI (k := 0) fo_X11_132 kl_140 (by decide) ti_11_0 dX11_stateOf_123 ?_
    refine rx_top (nI n) ((cy_o (by omega)).trans hn) ?_
    refine rx_icmp_ge (tgt := 157) dX11_stateOf_126 (by decide) (fun c126 => ?_) (fun c126 => ?_)
    · skip
      have f126 := Int32.not_lt.mpr c126
      have e126 : i = n := by have := (nI_leI (by omega) (by omega)).mp c126; omega
      subst e126
      refine rx_drop 4 ?_
      exact K
    · skip
      have f126 := Int32.not_le.mp c126
      have e126 : i < n := Nat.lt_of_not_le fun q => c126 (nI_le q (by omega))
      refine rx_aload_n (i := 0) dX11_stateOf_129 rfl rfl ?_
      refine rx_getR 160 (k := 36) fo_X11_77 kl_140 (by decide) ti_11_36 (by decide) rfl dX11_stateOf_130 ?_
      refine rx_bipush (8) dX11_stateOf_133 rfl ?_
      refine rx_aload_n (i := 0) dX11_stateOf_135 rfl rfl ?_
      refine rx_getI (k := 44) fo_X11_325 kl_140 (by decide) ti_11_44 dX11_stateOf_136 ?_
      refine rx_top (nI W) ((cy_o (by omega)).trans h44) ?_
      refine rx_imul dX11_stateOf_139 ?_
      refine rx_top (nI (8 * W)) (by rw [show (8 : Int32) = nI 8 from rfl, pk_mul]) ?_
      refine rx_iload (i := 4) dX11_stateOf_140 rfl ?_
      refine rx_iadd dX11_stateOf_142 ?_
      refine rx_top (nI (8 * W + i)) (by rw [nI_add]) ?_
      refine rx_aload_n (i := 0) dX11_stateOf_143 rfl rfl ?_
      refine rx_getR 141 (k := 1) fo_X11_9 kl_140 (by decide) ti_11_1 (by decide) rfl dX11_stateOf_144 ?_
      refine rx_iload (i := 4) dX11_stateOf_147 rfl ?_
      refine rx_ialdN kl_141 (by omega) (by first | decide | omega) dX11_stateOf_149 ?_
      refine rx_top (M.1 141 i) (cy_o (by omega)) ?_
      refine rx_iastN kl_160 (k := 8 * W + i) (by omega) (by first | decide | omega) dX11_stateOf_150 ?_
      rw [cy_s]
      first | refine rx_iincN (i := 4) dX11_stateOf_151 rfl (by decide) rfl rfl ?_ | refine rx_iinc (i := 4) dX11_stateOf_151 rfl rfl (by decide) rfl rfl ?_
      refine rx_goto (tgt := 120) dX11_stateOf_154 (by decide) ?_
      exact ih (i + 1) (by omega) (by omega)
