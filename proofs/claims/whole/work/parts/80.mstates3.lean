set_option maxRecDepth 100000 in
set_option maxHeartbeats 4000000 in
theorem l_stateOf1 {M : Mem} {n : Nat} {mk : Int32} {c : Nat → Nat} (hn : M.1 140 0 = nI n) (hn8 : n ≤ 8) (h0 : ∀ i, i < n → M.1 141 i = nI (c i)) {QQ : Nat → List (Option Value) → List Value → Mem → Prop} (K : Reach cX11_stateOf RX11 5 1 QQ 30 [some (.ref 140), some (.int mk), some (.int (hmF mk c n)), none, none] [] M) : ∀ (N : Nat) (i : Nat), (i ≤ n) → n - i < N → Reach cX11_stateOf RX11 5 1 (QQ) 4 [some (.ref 140), some (.int mk), some (.int (hmF mk c i)), some (.int (nI i)), none] [] (M) := by
  intro N
  induction N with
  | zero => intro i hi hm; exact absurd ‹_ < 0› (Nat.not_lt_zero _)
  | succ N ih =>
    intro i hi hm
    refine rx_iload_n (i := 3) dX11_stateOf_4 rfl rfl ?_
    refine rx_aload_n (i := 0) dX11_stateOf_5 rfl rfl ?_
    refine rx_getI (k := 0) fo_X11_132 kl_140 (by decide) ti_11_0 dX11_stateOf_6 ?_
    refine rx_top (nI n) (hn) ?_
    refine rx_icmp_ge (tgt := 30) dX11_stateOf_9 (by decide) (fun c9 => ?_) (fun c9 => ?_)
    · skip
      have f9 := Int32.not_lt.mpr c9
      have e9 : i = n := by have := (nI_leI (by omega) (by omega)).mp c9; omega
      subst e9
      refine rx_drop 3 ?_
      exact K
    · skip
      have f9 := Int32.not_le.mp c9
      have e9 : i < n := Nat.lt_of_not_le fun q => c9 (nI_le q (by omega))
      refine rx_bipush (31) dX11_stateOf_12 rfl ?_
      refine rx_iload_n (i := 2) dX11_stateOf_14 rfl rfl ?_
      refine rx_imul dX11_stateOf_15 ?_
      refine rx_aload_n (i := 0) dX11_stateOf_16 rfl rfl ?_
      refine rx_getR 141 (k := 1) fo_X11_9 kl_140 (by decide) ti_11_1 (by decide) rfl dX11_stateOf_17 ?_
      refine rx_iload_n (i := 3) dX11_stateOf_20 rfl rfl ?_
      refine rx_ialdN kl_141 (by omega) (by first | decide | omega) dX11_stateOf_21 ?_
      refine rx_top (nI (c i)) (h0 i e9) ?_
      refine rx_iadd dX11_stateOf_22 ?_
      refine rx_top (hmF mk c (i + 1)) (rfl) ?_
      refine rx_istore_n (i := 2) dX11_stateOf_23 rfl (by decide) rfl rfl ?_
      first | refine rx_iincN (i := 3) dX11_stateOf_24 rfl (by decide) rfl rfl ?_ | refine rx_iinc (i := 3) dX11_stateOf_24 rfl rfl (by decide) rfl rfl ?_
      refine rx_goto (tgt := 4) dX11_stateOf_27 (by decide) ?_
      exact ih (i + 1) (by omega) (by omega)
set_option maxRecDepth 100000 in
set_option maxHeartbeats 4000000 in
theorem l_stateOf3 {M : Mem} {n W : Nat} {mk h : Int32} {pl : Nat} (hn : M.1 140 0 = nI n) (h44 : M.1 140 44 = nI W) (hn8 : n ≤ 8) (hN : W < 3000) {QQ : Nat → List (Option Value) → List Value → Mem → Prop} (K : Reach cX11_stateOf RX11 5 1 QQ 157 [some (.ref 140), some (.int mk), some (.int h), some (.int (nI pl)), none] [] (cyM M W n)) : ∀ (N : Nat) (i : Nat), (i ≤ n) → n - i < N → Reach cX11_stateOf RX11 5 1 (QQ) 120 [some (.ref 140), some (.int mk), some (.int h), some (.int (nI pl)), some (.int (nI i))] [] (cyM M W i) := by
  intro N
  induction N with
  | zero => intro i hi hm; exact absurd ‹_ < 0› (Nat.not_lt_zero _)
  | succ N ih =>
    intro i hi hm
    refine rx_iload (i := 4) dX11_stateOf_120 rfl ?_
    refine rx_aload_n (i := 0) dX11_stateOf_122 rfl rfl ?_
    refine rx_getI (k := 0) fo_X11_132 kl_140 (by decide) ti_11_0 dX11_stateOf_123 ?_
    refine rx_top (nI n) ((cy_o (by omega)).trans hn) ?_
    refine rx_icmp_ge (tgt := 157) dX11_stateOf_126 (by decide) (fun c126 => ?_) (fun c126 => ?_)
    · skip
      have f126 := Int32.not_lt.mpr c126
      have e126 : i = n := by have := (nI_leI (by omega) (by omega)).mp c126; omega
      subst e126
      refine rx_drop 4 ?_
      exact K
    · skip
      have f126 := Int32.not_le.mp c126
      have e126 : i < n := Nat.lt_of_not_le fun q => c126 (nI_le q (by omega))
      refine rx_aload_n (i := 0) dX11_stateOf_129 rfl rfl ?_
      refine rx_getR 160 (k := 36) fo_X11_77 kl_140 (by decide) ti_11_36 (by decide) rfl dX11_stateOf_130 ?_
      refine rx_bipush (8) dX11_stateOf_133 rfl ?_
      refine rx_aload_n (i := 0) dX11_stateOf_135 rfl rfl ?_
      refine rx_getI (k := 44) fo_X11_325 kl_140 (by decide) ti_11_44 dX11_stateOf_136 ?_
      refine rx_top (nI W) ((cy_o (by omega)).trans h44) ?_
      refine rx_imul dX11_stateOf_139 ?_
      refine rx_top (nI (8 * W)) (by rw [show (8 : Int32) = nI 8 from rfl, pk_mul]) ?_
      refine rx_iload (i := 4) dX11_stateOf_140 rfl ?_
      refine rx_iadd dX11_stateOf_142 ?_
      refine rx_top (nI (8 * W + i)) (by rw [nI_add]) ?_
      refine rx_aload_n (i := 0) dX11_stateOf_143 rfl rfl ?_
      refine rx_getR 141 (k := 1) fo_X11_9 kl_140 (by decide) ti_11_1 (by decide) rfl dX11_stateOf_144 ?_
      refine rx_iload (i := 4) dX11_stateOf_147 rfl ?_
      refine rx_ialdN kl_141 (by omega) (by first | decide | omega) dX11_stateOf_149 ?_
      refine rx_top (M.1 141 i) (cy_o (by omega)) ?_
      refine rx_iastN kl_160 (k := 8 * W + i) (by omega) (by first | decide | omega) dX11_stateOf_150 ?_
      rw [cy_s]
      first | refine rx_iincN (i := 4) dX11_stateOf_151 rfl (by decide) rfl rfl ?_ | refine rx_iinc (i := 4) dX11_stateOf_151 rfl rfl (by decide) rfl rfl ?_
      refine rx_goto (tgt := 120) dX11_stateOf_154 (by decide) ?_
      exact ih (i + 1) (by omega) (by omega)
set_option maxRecDepth 100000 in
set_option maxHeartbeats 4000000 in
theorem l_stateOf2 {M : Mem} {S : SS} {n : Nat} {tb : Nat → Nat} (hR : repT2 M S n tb) (hn : M.1 140 0 = nI n) (hn8 : n ≤ 8) {mk : Int32} {c : Nat → Nat} (hC : curM M S n c) {h : Int32} : ∀ (N : Nat) (i : Nat), (i ≤ 8191) → (∀ e, e < i → tb ((hmN n mk c + e) % 8192) ≠ 0 ∧ ¬ S.is mk c (tb ((hmN n mk c + e) % 8192) - 1)) → 8192 - i < N → Reach cX11_stateOf RX11 5 1 (RetQ cX11_stateOf (some .int) (fdM M S n mk c)) 41 [some (.ref 140), some (.int mk), some (.int h), some (.int (nI ((hmN n mk c + i) % 8192))), none] [] (M) := by
  intro N
  induction N with
  | zero => intro i hi hb hm; exact absurd ‹_ < 0› (Nat.not_lt_zero _)
  | succ N ih =>
    intro i hi hb hm
    have ⟨h1, h2, h3, h4, h5⟩ := hR
    have hpp : ((hmN n mk c + i) % 8192) < 8192 := Nat.mod_lt _ (by decide)
    have htl := h5.1 ((hmN n mk c + i) % 8192) hpp
    have htT := h4 ((hmN n mk c + i) % 8192) hpp
    refine rx_aload_n (i := 0) dX11_stateOf_41 rfl rfl ?_
    refine rx_getR 168 (k := 45) fo_X11_102 kl_140 (by decide) ti_11_45 (by decide) rfl dX11_stateOf_42 ?_
    refine rx_iload_n (i := 3) dX11_stateOf_45 rfl rfl ?_
    refine rx_ialdN kl_168 (by omega) (by first | decide | omega) dX11_stateOf_46 ?_
    refine rx_top (nI (tb ((hmN n mk c + i) % 8192))) (htT) ?_
    refine rx_if_eq (tgt := 77) dX11_stateOf_47 (by decide) (fun c47 => ?_) (fun c47 => ?_)
    · skip
      refine rx_aload_n (i := 0) dX11_stateOf_77 rfl rfl ?_
      refine rx_getR 168 (k := 45) fo_X11_102 kl_140 (by decide) ti_11_45 (by decide) rfl dX11_stateOf_78 ?_
      refine rx_iload_n (i := 3) dX11_stateOf_81 rfl rfl ?_
      refine rx_ialdN kl_168 (by omega) (by first | decide | omega) dX11_stateOf_82 ?_
      refine rx_top (nI (tb ((hmN n mk c + i) % 8192))) (htT) ?_
      refine rx_if_eq (tgt := 95) dX11_stateOf_83 (by decide) (fun c83 => ?_) (fun c83 => ?_)
      · skip
        have z83 : (tb ((hmN n mk c + i) % 8192)) = 0 := nI_0' (by omega) c83
        have hno := h5.none (ok := fun s => S.is mk c s) (h := hmN n mk c) (i := i) (fun s _ h => hm_is hn8 h) z83 hb
        refine rx_aload_n (i := 0) dX11_stateOf_95 rfl rfl ?_
        refine rx_getI (k := 44) fo_X11_325 kl_140 (by decide) ti_11_44 dX11_stateOf_96 ?_
        refine rx_top (nI S.N) (h1) ?_
        refine rx_sipush (3000) dX11_stateOf_99 rfl ?_
        refine rx_icmp_ne (tgt := 107) dX11_stateOf_102 (by decide) (fun c102 => ?_) (fun c102 => ?_)
        · skip
          have e102 : S.N < 3000 := by
            rcases Nat.lt_or_eq_of_le h2 with q | q
            · exact q
            · exact absurd (by rw [q]; rfl) c102
          refine rx_aload_n (i := 0) dX11_stateOf_107 rfl rfl ?_
          refine rx_getR 159 (k := 35) fo_X11_74 kl_140 (by decide) ti_11_35 (by decide) rfl dX11_stateOf_108 ?_
          refine rx_aload_n (i := 0) dX11_stateOf_111 rfl rfl ?_
          refine rx_getI (k := 44) fo_X11_325 kl_140 (by decide) ti_11_44 dX11_stateOf_112 ?_
          refine rx_top (nI S.N) (h1) ?_
          refine rx_iload_n (i := 1) dX11_stateOf_115 rfl rfl ?_
          refine rx_iastN kl_159 (by omega) (by first | decide | omega) dX11_stateOf_116 ?_
          refine rx_iconst (0) dX11_stateOf_117 rfl ?_
          refine rx_istore (i := 4) dX11_stateOf_118 (by decide) rfl rfl ?_
          rw [show setI M 159 S.N mk = cyM (setI M 159 S.N mk) S.N 0 from cy_0.symm]
          refine l_stateOf3 (M := setI M 159 S.N mk) (W := S.N) ((sI_na (by omega)).trans hn) ((sI_na (by omega)).trans h1) hn8 e102 ?_ (n + 1) 0 (Nat.zero_le _) (by omega)
          refine rx_aload_n (i := 0) dX11_stateOf_157 rfl rfl ?_
          refine rx_getR 163 (k := 39) fo_X11_87 kl_140 (by decide) ti_11_39 (by decide) rfl dX11_stateOf_158 ?_
          refine rx_aload_n (i := 0) dX11_stateOf_161 rfl rfl ?_
          refine rx_getI (k := 44) fo_X11_325 kl_140 (by decide) ti_11_44 dX11_stateOf_162 ?_
          refine rx_top (nI S.N) ((cy_o (by omega)).trans ((sI_na (by omega)).trans h1)) ?_
          refine rx_iconst (-1) dX11_stateOf_165 rfl ?_
          refine rx_iastN kl_163 (by omega) (by first | decide | omega) dX11_stateOf_166 ?_
          refine rx_aload_n (i := 0) dX11_stateOf_167 rfl rfl ?_
          refine rx_getR 166 (k := 42) fo_X11_96 kl_140 (by decide) ti_11_42 (by decide) rfl dX11_stateOf_168 ?_
          refine rx_aload_n (i := 0) dX11_stateOf_171 rfl rfl ?_
          refine rx_getI (k := 44) fo_X11_325 kl_140 (by decide) ti_11_44 dX11_stateOf_172 ?_
          refine rx_top (nI S.N) ((sI_na (by omega)).trans ((cy_o (by omega)).trans ((sI_na (by omega)).trans h1))) ?_
          refine rx_lconst (0) dX11_stateOf_175 rfl ?_
          refine rx_lastN kl_166 (by omega) (by first | decide | omega) dX11_stateOf_176 ?_
          refine rx_aload_n (i := 0) dX11_stateOf_177 rfl rfl ?_
          refine rx_dup dX11_stateOf_178 rfl ?_
          refine rx_getI (k := 44) fo_X11_325 kl_140 (by decide) ti_11_44 dX11_stateOf_179 ?_
          refine rx_top (nI S.N) ((sI_na (M := (cyM (setI M 159 S.N mk) S.N n)) (i := 163) (k := S.N) (x := -1) (by omega)).trans ((cy_o (by omega)).trans ((sI_na (by omega)).trans h1))) ?_
          refine rx_iconst (1) dX11_stateOf_182 rfl ?_
          refine rx_iadd dX11_stateOf_183 ?_
          refine rx_top (nI (S.N + 1)) (by rw [show (1 : Int32) = nI 1 from rfl, nI_add]) ?_
          refine rx_putI (k := 44) fo_X11_325 fn_11_44 kl_140 (by decide) ty_11_44 dX11_stateOf_184 ?_
          refine rx_aload_n (i := 0) dX11_stateOf_187 rfl rfl ?_
          refine rx_getR 168 (k := 45) fo_X11_102 kl_140 (by decide) ti_11_45 (by decide) rfl dX11_stateOf_188 ?_
          refine rx_iload_n (i := 3) dX11_stateOf_191 rfl rfl ?_
          refine rx_aload_n (i := 0) dX11_stateOf_192 rfl rfl ?_
          refine rx_getI (k := 44) fo_X11_325 kl_140 (by decide) ti_11_44 dX11_stateOf_193 ?_
          refine rx_top (nI (S.N + 1)) (sI_eq) ?_
          refine rx_iastN kl_168 (by omega) (by first | decide | omega) dX11_stateOf_196 ?_
          refine rx_aload_n (i := 0) dX11_stateOf_197 rfl rfl ?_
          refine rx_getI (k := 44) fo_X11_325 kl_140 (by decide) ti_11_44 dX11_stateOf_198 ?_
          refine rx_top (nI (S.N + 1)) ((sI_na (by omega)).trans sI_eq) ?_
          refine rx_iconst (1) dX11_stateOf_201 rfl ?_
          refine rx_isub dX11_stateOf_202 ?_
          refine rx_top (nI S.N) (nI_m 1 1 rfl (by omega)) ?_
          exact rx_iret dX11_stateOf_203 (Or.inr ⟨hno, Or.inl ⟨e102, rfl, ns_new hn8 hR hC e102 (by omega) z83 (fun e he => (hb e he).1), _, rfl⟩⟩)
        · skip
          have e102 : S.N = 3000 := eq_nI (by omega) (by omega) (show nI S.N = nI 3000 from c102)
          refine rx_iconst (-1) dX11_stateOf_105 rfl ?_
          exact rx_iret dX11_stateOf_106 (Or.inr ⟨hno, Or.inr ⟨e102, rfl, rfl⟩⟩)
      · skip
        have n83 : ¬ (tb ((hmN n mk c + i) % 8192)) = 0 := fun q => c83 (by rw [q]; rfl)
        refine rx_aload_n (i := 0) dX11_stateOf_86 rfl rfl ?_
        refine rx_getR 168 (k := 45) fo_X11_102 kl_140 (by decide) ti_11_45 (by decide) rfl dX11_stateOf_87 ?_
        refine rx_iload_n (i := 3) dX11_stateOf_90 rfl rfl ?_
        refine rx_ialdN kl_168 (by omega) (by first | decide | omega) dX11_stateOf_91 ?_
        refine rx_top (nI (tb ((hmN n mk c + i) % 8192))) (htT) ?_
        refine rx_iconst (1) dX11_stateOf_92 rfl ?_
        refine rx_isub dX11_stateOf_93 ?_
        refine rx_top (nI ((tb ((hmN n mk c + i) % 8192)) - 1)) (nI_m 1 1 rfl (by omega)) ?_
        first | exact absurd c47 c83 | exact rx_iret dX11_stateOf_94 (Or.inl ⟨(tb ((hmN n mk c + i) % 8192)) - 1, by omega, e63, rfl, rfl⟩)
    · skip
      have n47 : ¬ (tb ((hmN n mk c + i) % 8192)) = 0 := fun q => c47 (by rw [q]; rfl)
      refine rx_aload_n (i := 0) dX11_stateOf_50 rfl rfl ?_
      refine rx_aload_n (i := 0) dX11_stateOf_51 rfl rfl ?_
      refine rx_getR 168 (k := 45) fo_X11_102 kl_140 (by decide) ti_11_45 (by decide) rfl dX11_stateOf_52 ?_
      refine rx_iload_n (i := 3) dX11_stateOf_55 rfl rfl ?_
      refine rx_ialdN kl_168 (by omega) (by first | decide | omega) dX11_stateOf_56 ?_
      refine rx_top (nI (tb ((hmN n mk c + i) % 8192))) (htT) ?_
      refine rx_iconst (1) dX11_stateOf_57 rfl ?_
      refine rx_isub dX11_stateOf_58 ?_
      refine rx_top (nI ((tb ((hmN n mk c + i) % 8192)) - 1)) (nI_m 1 1 rfl (by omega)) ?_
      refine rx_iload_n (i := 1) dX11_stateOf_59 rfl rfl ?_
      refine rx_cvI (ci := 11) mo_X11_isState lk_X11_322 (c_X11_isState hn hn8 (by omega)) (by decide) rfl rfl (Nat.le_of_ble_eq_true rfl) kl_140 rfl dX11_stateOf_60 ?_
      refine rx_if_ne (tgt := 77) dX11_stateOf_63 (by decide) (fun c63 => ?_) (fun c63 => ?_)
      · skip
        have e63 : S.is mk c ((tb ((hmN n mk c + i) % 8192)) - 1) := (st_is hn8 hR hC (by omega)).mp (zI_n c63)
        refine rx_aload_n (i := 0) dX11_stateOf_77 rfl rfl ?_
        refine rx_getR 168 (k := 45) fo_X11_102 kl_140 (by decide) ti_11_45 (by decide) rfl dX11_stateOf_78 ?_
        refine rx_iload_n (i := 3) dX11_stateOf_81 rfl rfl ?_
        refine rx_ialdN kl_168 (by omega) (by first | decide | omega) dX11_stateOf_82 ?_
        refine rx_top (nI (tb ((hmN n mk c + i) % 8192))) (htT) ?_
        refine rx_if_eq (tgt := 95) dX11_stateOf_83 (by decide) (fun c83 => ?_) (fun c83 => ?_)
        · skip
          have z83 : (tb ((hmN n mk c + i) % 8192)) = 0 := nI_0' (by omega) c83
          have hno := h5.none (ok := fun s => S.is mk c s) (h := hmN n mk c) (i := i) (fun s _ h => hm_is hn8 h) z83 hb
          refine rx_aload_n (i := 0) dX11_stateOf_95 rfl rfl ?_
          refine rx_getI (k := 44) fo_X11_325 kl_140 (by decide) ti_11_44 dX11_stateOf_96 ?_
          refine rx_top (nI S.N) (h1) ?_
          refine rx_sipush (3000) dX11_stateOf_99 rfl ?_
          refine rx_icmp_ne (tgt := 107) dX11_stateOf_102 (by decide) (fun c102 => ?_) (fun c102 => ?_)
          · skip
            have e102 : S.N < 3000 := by
              rcases Nat.lt_or_eq_of_le h2 with q | q
              · exact q
              · exact absurd (by rw [q]; rfl) c102
            refine rx_aload_n (i := 0) dX11_stateOf_107 rfl rfl ?_
            refine rx_getR 159 (k := 35) fo_X11_74 kl_140 (by decide) ti_11_35 (by decide) rfl dX11_stateOf_108 ?_
            refine rx_aload_n (i := 0) dX11_stateOf_111 rfl rfl ?_
            refine rx_getI (k := 44) fo_X11_325 kl_140 (by decide) ti_11_44 dX11_stateOf_112 ?_
            refine rx_top (nI S.N) (h1) ?_
            refine rx_iload_n (i := 1) dX11_stateOf_115 rfl rfl ?_
            refine rx_iastN kl_159 (by omega) (by first | decide | omega) dX11_stateOf_116 ?_
            refine rx_iconst (0) dX11_stateOf_117 rfl ?_
            refine rx_istore (i := 4) dX11_stateOf_118 (by decide) rfl rfl ?_
            rw [show setI M 159 S.N mk = cyM (setI M 159 S.N mk) S.N 0 from cy_0.symm]
            refine l_stateOf3 (M := setI M 159 S.N mk) (W := S.N) ((sI_na (by omega)).trans hn) ((sI_na (by omega)).trans h1) hn8 e102 ?_ (n + 1) 0 (Nat.zero_le _) (by omega)
            refine rx_aload_n (i := 0) dX11_stateOf_157 rfl rfl ?_
            refine rx_getR 163 (k := 39) fo_X11_87 kl_140 (by decide) ti_11_39 (by decide) rfl dX11_stateOf_158 ?_
            refine rx_aload_n (i := 0) dX11_stateOf_161 rfl rfl ?_
            refine rx_getI (k := 44) fo_X11_325 kl_140 (by decide) ti_11_44 dX11_stateOf_162 ?_
            refine rx_top (nI S.N) ((cy_o (by omega)).trans ((sI_na (by omega)).trans h1)) ?_
            refine rx_iconst (-1) dX11_stateOf_165 rfl ?_
            refine rx_iastN kl_163 (by omega) (by first | decide | omega) dX11_stateOf_166 ?_
            refine rx_aload_n (i := 0) dX11_stateOf_167 rfl rfl ?_
            refine rx_getR 166 (k := 42) fo_X11_96 kl_140 (by decide) ti_11_42 (by decide) rfl dX11_stateOf_168 ?_
            refine rx_aload_n (i := 0) dX11_stateOf_171 rfl rfl ?_
            refine rx_getI (k := 44) fo_X11_325 kl_140 (by decide) ti_11_44 dX11_stateOf_172 ?_
            refine rx_top (nI S.N) ((sI_na (by omega)).trans ((cy_o (by omega)).trans ((sI_na (by omega)).trans h1))) ?_
            refine rx_lconst (0) dX11_stateOf_175 rfl ?_
            refine rx_lastN kl_166 (by omega) (by first | decide | omega) dX11_stateOf_176 ?_
            refine rx_aload_n (i := 0) dX11_stateOf_177 rfl rfl ?_
            refine rx_dup dX11_stateOf_178 rfl ?_
            refine rx_getI (k := 44) fo_X11_325 kl_140 (by decide) ti_11_44 dX11_stateOf_179 ?_
            refine rx_top (nI S.N) ((sI_na (M := (cyM (setI M 159 S.N mk) S.N n)) (i := 163) (k := S.N) (x := -1) (by omega)).trans ((cy_o (by omega)).trans ((sI_na (by omega)).trans h1))) ?_
            refine rx_iconst (1) dX11_stateOf_182 rfl ?_
            refine rx_iadd dX11_stateOf_183 ?_
            refine rx_top (nI (S.N + 1)) (by rw [show (1 : Int32) = nI 1 from rfl, nI_add]) ?_
            refine rx_putI (k := 44) fo_X11_325 fn_11_44 kl_140 (by decide) ty_11_44 dX11_stateOf_184 ?_
            refine rx_aload_n (i := 0) dX11_stateOf_187 rfl rfl ?_
            refine rx_getR 168 (k := 45) fo_X11_102 kl_140 (by decide) ti_11_45 (by decide) rfl dX11_stateOf_188 ?_
            refine rx_iload_n (i := 3) dX11_stateOf_191 rfl rfl ?_
            refine rx_aload_n (i := 0) dX11_stateOf_192 rfl rfl ?_
            refine rx_getI (k := 44) fo_X11_325 kl_140 (by decide) ti_11_44 dX11_stateOf_193 ?_
            refine rx_top (nI (S.N + 1)) (sI_eq) ?_
            refine rx_iastN kl_168 (by omega) (by first | decide | omega) dX11_stateOf_196 ?_
            refine rx_aload_n (i := 0) dX11_stateOf_197 rfl rfl ?_
            refine rx_getI (k := 44) fo_X11_325 kl_140 (by decide) ti_11_44 dX11_stateOf_198 ?_
            refine rx_top (nI (S.N + 1)) ((sI_na (by omega)).trans sI_eq) ?_
            refine rx_iconst (1) dX11_stateOf_201 rfl ?_
            refine rx_isub dX11_stateOf_202 ?_
            refine rx_top (nI S.N) (nI_m 1 1 rfl (by omega)) ?_
            exact rx_iret dX11_stateOf_203 (Or.inr ⟨hno, Or.inl ⟨e102, rfl, ns_new hn8 hR hC e102 (by omega) z83 (fun e he => (hb e he).1), _, rfl⟩⟩)
          · skip
            have e102 : S.N = 3000 := eq_nI (by omega) (by omega) (show nI S.N = nI 3000 from c102)
            refine rx_iconst (-1) dX11_stateOf_105 rfl ?_
            exact rx_iret dX11_stateOf_106 (Or.inr ⟨hno, Or.inr ⟨e102, rfl, rfl⟩⟩)
        · skip
          have n83 : ¬ (tb ((hmN n mk c + i) % 8192)) = 0 := fun q => c83 (by rw [q]; rfl)
          refine rx_aload_n (i := 0) dX11_stateOf_86 rfl rfl ?_
          refine rx_getR 168 (k := 45) fo_X11_102 kl_140 (by decide) ti_11_45 (by decide) rfl dX11_stateOf_87 ?_
          refine rx_iload_n (i := 3) dX11_stateOf_90 rfl rfl ?_
          refine rx_ialdN kl_168 (by omega) (by first | decide | omega) dX11_stateOf_91 ?_
          refine rx_top (nI (tb ((hmN n mk c + i) % 8192))) (htT) ?_
          refine rx_iconst (1) dX11_stateOf_92 rfl ?_
          refine rx_isub dX11_stateOf_93 ?_
          refine rx_top (nI ((tb ((hmN n mk c + i) % 8192)) - 1)) (nI_m 1 1 rfl (by omega)) ?_
          first | exact absurd c47 c83 | exact rx_iret dX11_stateOf_94 (Or.inl ⟨(tb ((hmN n mk c + i) % 8192)) - 1, by omega, e63, rfl, rfl⟩)
      · skip
        have e63 : ¬ S.is mk c ((tb ((hmN n mk c + i) % 8192)) - 1) := fun q => absurd ((st_is hn8 hR hC (by omega)).mpr q) (by rw [zI_0.mp c63]; decide)
        have e64 : i < 8191 := Nat.lt_of_not_le fun q => h5.full (h := hmN n mk c) (by omega) (fun e he => by
          rcases Nat.lt_or_ge e i with z | z
          · exact (hb e z).1
          · rw [show e = i by omega]; exact n47)
        refine rx_iload_n (i := 3) dX11_stateOf_66 rfl rfl ?_
        refine rx_iconst (1) dX11_stateOf_67 rfl ?_
        refine rx_iadd dX11_stateOf_68 ?_
        refine rx_sipush (8191) dX11_stateOf_69 rfl ?_
        refine rx_iand dX11_stateOf_72 ?_
        refine rx_top (nI ((hmN n mk c + (i + 1)) % 8192)) (by rw [show (1 : Int32) = nI 1 from rfl, nI_add, and13, Nat.mod_add_mod, Nat.add_assoc]) ?_
        refine rx_istore_n (i := 3) dX11_stateOf_73 rfl (by decide) rfl rfl ?_
        refine rx_goto (tgt := 41) dX11_stateOf_74 (by decide) ?_
        refine ih (i + 1) (by omega) (fun e he => ?_) (by omega)
        rcases Nat.lt_or_ge e i with z | z
        · exact hb e z
        · rw [show e = i by omega]; exact ⟨n47, e63⟩
set_option maxRecDepth 100000 in
set_option maxHeartbeats 4000000 in
theorem c_X11_stateOf {M : Mem} {S : SS} {n : Nat} (hR : repM M S n) (hn : M.1 140 0 = nI n) (hn8 : n ≤ 8) {mk : Int32} {c : Nat → Nat} (hC : curM M S n c) : Con yX11_stateOf cX11_stateOf 5 (some .int) 1 [.ref 140, .int mk] M (fdM M S n mk c) := by
  refine Con.of (own := RX11) (ls := [some (.ref 140), some (.int mk), none, none, none]) rfl (by decide +kernel) (Nat.le_of_ble_eq_true rfl) rfl ?_
  obtain ⟨tb, hR⟩ := hR
  refine rx_iload_n (i := 1) dX11_stateOf_0 rfl rfl ?_
  refine rx_istore_n (i := 2) dX11_stateOf_1 rfl (by decide) rfl rfl ?_
  refine rx_iconst (0) dX11_stateOf_2 rfl ?_
  refine rx_istore_n (i := 3) dX11_stateOf_3 rfl (by decide) rfl rfl ?_
  refine l_stateOf1 (c := c) hn hn8 hC.1 ?_ (n + 1) 0 (Nat.zero_le _) (by omega)
  refine rx_iload_n (i := 2) dX11_stateOf_30 rfl rfl ?_
  refine rx_iload_n (i := 2) dX11_stateOf_31 rfl rfl ?_
  refine rx_bipush (11) dX11_stateOf_32 rfl ?_
  refine rx_iushr dX11_stateOf_34 rfl ?_
  refine rx_ixor dX11_stateOf_35 ?_
  refine rx_sipush (8191) dX11_stateOf_36 rfl ?_
  refine rx_iand dX11_stateOf_39 ?_
  refine rx_top (nI ((hmN n mk c + 0) % 8192)) (by
    have e := hmN_I (n := n) (mk := mk) (c := c)
    rw [Nat.add_zero, Nat.mod_eq_of_lt e.2]; exact e.1) ?_
  refine rx_istore_n (i := 3) dX11_stateOf_40 rfl (by decide) rfl rfl ?_
  exact l_stateOf2 hR hn hn8 hC 8193 0 (by omega) (fun e he => absurd he (Nat.not_lt_zero _)) (by omega)
