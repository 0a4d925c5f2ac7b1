theorem anyB_t {p : Nat → Bool} {k : Nat} (h : p k = true) : ∀ {n : Nat}, k < n → anyB p n = true
  | n + 1, hk => by
    simp only [anyB]
    by_cases q : k = n
    · subst q; rw [h, Bool.or_true]
    · rw [anyB_t h (n := n) (by omega), Bool.true_or]
theorem anyB_f {p : Nat → Bool} {n : Nat} (h : anyB p n = false) (hp : p n = false) : anyB p (n + 1) = false := by simp only [anyB, h, hp]; rfl
def sortOK (x : Int32) : Prop := x = 0 ∨ x = 1 ∨ x = 2 ∨ x = 3
set_option maxRecDepth 100000 in
set_option maxHeartbeats 4000000 in
theorem l_X11_isBelow {M : Mem} {n m a b : Nat} (w : MW M n m) (ha : a < n) (hb : b < n) (es : M.1 153 0 = 1) : ∀ (N : Nat) (i : Nat), (i ≤ n) → (anyB (fun k => decide (onT (mv M) a < onT (mv M) k) && decide (onT (mv M) k < onT (mv M) b)) i = false) → n - i < N → Reach cX11_isBelow RX11 6 2 (FQ cX11_isBelow (some .boolean) (some (.int (zI (blw (M.1 153 0) (M.1 153 1) n (onT (mv M)) b a)))) M) 59 [some (.ref 140), some (.int (nI a)), some (.int (nI b)), some (.int (onT (mv M) a)), some (.int (onT (mv M) b)), some (.int (nI i))] [] (M) := by
  intro N
  induction N with
  | zero => intro i hi hx hm; exact absurd ‹_ < 0› (Nat.not_lt_zero _)
  | succ N ih =>
    intro i hi hx hm
    have ⟨hn, hn8, hm, hm10, hd⟩ := w
    refine rx_iload (i := 5) dX11_isBelow_59 rfl ?_
    refine rx_aload_n (i := 0) dX11_isBelow_61 rfl rfl ?_
    refine rx_getI (k := 0) fo_X11_132 kl_140 (by decide) ti_11_0 dX11_isBelow_62 ?_
    refine rx_top (nI n) hn ?_
    refine rx_icmp_ge (tgt := 97) dX11_isBelow_65 (by decide) (fun c65 => ?_) (fun c65 => ?_)
    · skip
      have f65 := Int32.not_lt.mpr c65
      have e65 : i = n := by have := (nI_leI (by omega) (by omega)).mp c65; omega
      rw [e65] at hx
      refine rx_iload_n (i := 3) dX11_isBelow_97 rfl rfl ?_
      refine rx_iload (i := 4) dX11_isBelow_98 rfl ?_
      refine rx_icmp_ge (tgt := 107) dX11_isBelow_100 (by decide) (fun c100 => ?_) (fun c100 => ?_)
      · skip
        have e100 : ¬ onT (mv M) a < onT (mv M) b := Int32.not_lt.mpr c100
        refine rx_iconst (0) dX11_isBelow_107 rfl ?_
        exact rx_fiZ dX11_isBelow_108 (by first | exact Or.inl rfl | exact Or.inr rfl) (by rw [(show blw (M.1 153 0) (M.1 153 1) n (onT (mv M)) b a = (decide (onT (mv M) a < onT (mv M) b) && !(anyB (fun k => decide (onT (mv M) a < onT (mv M) k) && decide (onT (mv M) k < onT (mv M) b)) n)) from by rw [es]; exact if_pos rfl), hx]; simp [e100, zI]) rfl
      · skip
        have e100 : onT (mv M) a < onT (mv M) b := Int32.not_le.mp c100
        refine rx_iconst (1) dX11_isBelow_103 rfl ?_
        refine rx_goto (tgt := 108) dX11_isBelow_104 (by decide) ?_
        exact rx_fiZ dX11_isBelow_108 (by first | exact Or.inl rfl | exact Or.inr rfl) (by rw [(show blw (M.1 153 0) (M.1 153 1) n (onT (mv M)) b a = (decide (onT (mv M) a < onT (mv M) b) && !(anyB (fun k => decide (onT (mv M) a < onT (mv M) k) && decide (onT (mv M) k < onT (mv M) b)) n)) from by rw [es]; exact if_pos rfl), hx]; simp [e100, zI]) rfl
    · skip
      have f65 := Int32.not_le.mp c65
      have e65 : i < n := Nat.lt_of_not_le fun q => c65 (nI_le q (by omega))
      refine rx_aload_n (i := 0) dX11_isBelow_68 rfl rfl ?_
      refine rx_iload (i := 5) dX11_isBelow_69 rfl ?_
      refine rx_cvI (ci := 11) mo_X11_onList lk_X11_252 (c_X11_onList (by omega)) (by decide) rfl rfl (Nat.le_of_ble_eq_true rfl) kl_140 rfl dX11_isBelow_71 ?_
      refine rx_iload_n (i := 3) dX11_isBelow_74 rfl rfl ?_
      refine rx_icmp_le (tgt := 91) dX11_isBelow_75 (by decide) (fun c75 => ?_) (fun c75 => ?_)
      · skip
        have e75 : ¬ onT (mv M) a < onT (mv M) i := Int32.not_lt.mpr c75
        have hx2 := anyB_f (p := (fun k => decide (onT (mv M) a < onT (mv M) k) && decide (onT (mv M) k < onT (mv M) b))) hx (by simp [e75])
        first | refine rx_iincN (i := 5) dX11_isBelow_91 rfl (by decide) rfl rfl ?_ | refine rx_iinc (i := 5) dX11_isBelow_91 rfl rfl (by decide) rfl rfl ?_
        refine rx_goto (tgt := 59) dX11_isBelow_94 (by decide) ?_
        exact ih (i + 1) (by omega) hx2 (by omega)
      · skip
        have e75 : onT (mv M) a < onT (mv M) i := Int32.not_le.mp c75
        refine rx_aload_n (i := 0) dX11_isBelow_78 rfl rfl ?_
        refine rx_iload (i := 5) dX11_isBelow_79 rfl ?_
        refine rx_cvI (ci := 11) mo_X11_onList lk_X11_252 (c_X11_onList (by omega)) (by decide) rfl rfl (Nat.le_of_ble_eq_true rfl) kl_140 rfl dX11_isBelow_81 ?_
        refine rx_iload (i := 4) dX11_isBelow_84 rfl ?_
        refine rx_icmp_ge (tgt := 91) dX11_isBelow_86 (by decide) (fun c86 => ?_) (fun c86 => ?_)
        · skip
          have e86 : ¬ onT (mv M) i < onT (mv M) b := Int32.not_lt.mpr c86
          have hx2 := anyB_f (p := (fun k => decide (onT (mv M) a < onT (mv M) k) && decide (onT (mv M) k < onT (mv M) b))) hx (by simp [e86])
          first | refine rx_iincN (i := 5) dX11_isBelow_91 rfl (by decide) rfl rfl ?_ | refine rx_iinc (i := 5) dX11_isBelow_91 rfl rfl (by decide) rfl rfl ?_
          refine rx_goto (tgt := 59) dX11_isBelow_94 (by decide) ?_
          exact ih (i + 1) (by omega) hx2 (by omega)
        · skip
          have e86 : onT (mv M) i < onT (mv M) b := Int32.not_le.mp c86
          have hx2 := anyB_t (p := (fun k => decide (onT (mv M) a < onT (mv M) k) && decide (onT (mv M) k < onT (mv M) b))) (k := i) (by simp [e75, e86]) e65
          refine rx_iconst (0) dX11_isBelow_89 rfl ?_
          exact rx_fiZ dX11_isBelow_90 (Or.inl rfl) (by rw [(show blw (M.1 153 0) (M.1 153 1) n (onT (mv M)) b a = (decide (onT (mv M) a < onT (mv M) b) && !(anyB (fun k => decide (onT (mv M) a < onT (mv M) k) && decide (onT (mv M) k < onT (mv M) b)) n)) from by rw [es]; exact if_pos rfl), hx2, Bool.not_true, Bool.and_false]; rfl) rfl
set_option maxRecDepth 100000 in
set_option maxHeartbeats 4000000 in
theorem c_X11_isBelow {M : Mem} {n m a b : Nat} (w : MW M n m) (ha : a < n) (hb : b < n) (hs : sortOK (M.1 153 0)) : Fun yX11_isBelow cX11_isBelow 6 (some .boolean) 2 [.ref 140, .int (nI a), .int (nI b)] M (some (.int (zI (blw (M.1 153 0) (M.1 153 1) n (onT (mv M)) b a)))) (M) := by
  refine Fun.of (own := RX11) ([some (.ref 140), some (.int (nI a)), some (.int (nI b)), none, none, none]) rfl (by decide +kernel) (Nat.le_of_ble_eq_true rfl) rfl ?_
  have hn8 := w.2.1
  refine rx_aload_n (i := 0) dX11_isBelow_0 rfl rfl ?_
  refine rx_iload_n (i := 1) dX11_isBelow_1 rfl rfl ?_
  refine rx_cvI (ci := 11) mo_X11_onList lk_X11_252 (c_X11_onList (by omega)) (by decide) rfl rfl (Nat.le_of_ble_eq_true rfl) kl_140 rfl dX11_isBelow_2 ?_
  refine rx_istore_n (i := 3) dX11_isBelow_5 rfl (by decide) rfl rfl ?_
  refine rx_aload_n (i := 0) dX11_isBelow_6 rfl rfl ?_
  refine rx_iload_n (i := 2) dX11_isBelow_7 rfl rfl ?_
  refine rx_cvI (ci := 11) mo_X11_onList lk_X11_252 (c_X11_onList (by omega)) (by decide) rfl rfl (Nat.le_of_ble_eq_true rfl) kl_140 rfl dX11_isBelow_8 ?_
  refine rx_istore (i := 4) dX11_isBelow_11 (by decide) rfl rfl ?_
  refine rx_aload_n (i := 0) dX11_isBelow_13 rfl rfl ?_
  refine rx_getR 153 (k := 14) fo_X11_47 kl_140 (by decide) ti_11_14 (by decide) rfl dX11_isBelow_14 ?_
  refine rx_iconst (0) dX11_isBelow_17 rfl ?_
  refine rx_ialdN (k := 0) kl_153 (by omega) (by first | decide | omega) dX11_isBelow_18 ?_
  obtain ⟨srt, es⟩ : ∃ z, M.1 153 0 = z := ⟨_, rfl⟩
  refine rx_top srt es ?_
  rw [es] at hs
  by_cases s0 : srt = 0
  · subst s0
    refine rx_tableIn (off := 25) (tgt := 44) dX11_isBelow_19 (by decide) (by decide) rfl (by decide) ?_
    refine rx_iload_n (i := 3) dX11_isBelow_44 rfl rfl ?_
    refine rx_iload (i := 4) dX11_isBelow_45 rfl ?_
    refine rx_icmp_ge (tgt := 54) dX11_isBelow_47 (by decide) (fun c47 => ?_) (fun c47 => ?_)
    · skip
      have e47 : ¬ (onT (mv M) a < onT (mv M) b) := Int32.not_lt.mpr c47
      refine rx_iconst (0) dX11_isBelow_54 rfl ?_
      exact rx_fiZ dX11_isBelow_55 (by first | exact Or.inl rfl | exact Or.inr rfl) (by rw [(show blw (M.1 153 0) (M.1 153 1) n (onT (mv M)) b a = decide (onT (mv M) a < onT (mv M) b) from by rw [es]; rfl)]; simp [e47, zI]) rfl
    · skip
      have e47 : onT (mv M) a < onT (mv M) b := Int32.not_le.mp c47
      refine rx_iconst (1) dX11_isBelow_50 rfl ?_
      refine rx_goto (tgt := 55) dX11_isBelow_51 (by decide) ?_
      exact rx_fiZ dX11_isBelow_55 (by first | exact Or.inl rfl | exact Or.inr rfl) (by rw [(show blw (M.1 153 0) (M.1 153 1) n (onT (mv M)) b a = decide (onT (mv M) a < onT (mv M) b) from by rw [es]; rfl)]; simp [e47, zI]) rfl
  by_cases s1 : srt = 1
  · subst s1
    refine rx_tableIn (off := 37) (tgt := 56) dX11_isBelow_19 (by decide) (by decide) rfl (by decide) ?_
    refine rx_iconst (0) dX11_isBelow_56 rfl ?_
    refine rx_istore (i := 5) dX11_isBelow_57 (by decide) rfl rfl ?_
    exact l_X11_isBelow w ha hb es (n + 1) 0 (Nat.zero_le _) rfl (by omega)
  by_cases s2 : srt = 2
  · subst s2
    refine rx_tableIn (off := 90) (tgt := 109) dX11_isBelow_19 (by decide) (by decide) rfl (by decide) ?_
    refine rx_iload_n (i := 3) dX11_isBelow_109 rfl rfl ?_
    refine rx_iload (i := 4) dX11_isBelow_110 rfl ?_
    refine rx_icmp_le (tgt := 119) dX11_isBelow_112 (by decide) (fun c112 => ?_) (fun c112 => ?_)
    · skip
      have e112 : ¬ (onT (mv M) b < onT (mv M) a) := Int32.not_lt.mpr c112
      refine rx_iconst (0) dX11_isBelow_119 rfl ?_
      exact rx_fiZ dX11_isBelow_120 (by first | exact Or.inl rfl | exact Or.inr rfl) (by rw [(show blw (M.1 153 0) (M.1 153 1) n (onT (mv M)) b a = decide (onT (mv M) b < onT (mv M) a) from by rw [es]; rfl)]; simp [e112, zI]) rfl
    · skip
      have e112 : onT (mv M) b < onT (mv M) a := Int32.not_le.mp c112
      refine rx_iconst (1) dX11_isBelow_115 rfl ?_
      refine rx_goto (tgt := 120) dX11_isBelow_116 (by decide) ?_
      exact rx_fiZ dX11_isBelow_120 (by first | exact Or.inl rfl | exact Or.inr rfl) (by rw [(show blw (M.1 153 0) (M.1 153 1) n (onT (mv M)) b a = decide (onT (mv M) b < onT (mv M) a) from by rw [es]; rfl)]; simp [e112, zI]) rfl
  have e3 : srt = 3 := hs.resolve_left s0 |>.resolve_left s1 |>.resolve_left s2
  refine rx_tableOut (tgt := 121) dX11_isBelow_19 (by have q0 := lv_neT s0 (a := 0) rfl; have q1 := lv_neT s1 (a := 1) rfl; have q2 := lv_neT s2 (a := 2) rfl; have := srt.toInt; omega) (by decide) ?_
  subst e3
  refine rx_iload (i := 4) dX11_isBelow_121 rfl ?_
  refine rx_iload_n (i := 3) dX11_isBelow_123 rfl rfl ?_
  refine rx_isub dX11_isBelow_124 ?_
  refine rx_aload_n (i := 0) dX11_isBelow_125 rfl rfl ?_
  refine rx_getR 153 (k := 14) fo_X11_47 kl_140 (by decide) ti_11_14 (by decide) rfl dX11_isBelow_126 ?_
  refine rx_iconst (1) dX11_isBelow_129 rfl ?_
  refine rx_ialdN (k := 1) kl_153 (by omega) (by first | decide | omega) dX11_isBelow_130 ?_
  refine rx_icmp_lt (tgt := 138) dX11_isBelow_131 (by decide) (fun c131 => ?_) (fun c131 => ?_)
  · skip
    have e131 : ¬ (M.1 153 1 ≤ onT (mv M) b - onT (mv M) a) := Int32.not_le.mpr c131
    refine rx_iconst (0) dX11_isBelow_138 rfl ?_
    exact rx_fiZ dX11_isBelow_139 (by first | exact Or.inl rfl | exact Or.inr rfl) (by rw [(show blw (M.1 153 0) (M.1 153 1) n (onT (mv M)) b a = decide (M.1 153 1 ≤ onT (mv M) b - onT (mv M) a) from by rw [es]; rfl)]; simp [e131, zI]) rfl
  · skip
    have e131 : M.1 153 1 ≤ onT (mv M) b - onT (mv M) a := Int32.not_lt.mp c131
    refine rx_iconst (1) dX11_isBelow_134 rfl ?_
    refine rx_goto (tgt := 139) dX11_isBelow_135 (by decide) ?_
    exact rx_fiZ dX11_isBelow_139 (by first | exact Or.inl rfl | exact Or.inr rfl) (by rw [(show blw (M.1 153 0) (M.1 153 1) n (onT (mv M)) b a = decide (M.1 153 1 ≤ onT (mv M) b - onT (mv M) a) from by rw [es]; rfl)]; simp [e131, zI]) rfl
set_option maxRecDepth 100000 in
set_option maxHeartbeats 4000000 in
theorem c_X11_may {M : Mem} {n m : Nat} (w : MW M n m) (hs : sortOK (M.1 153 0)) {i k : Nat} (hi : i < n) (hk : k < m) : Fun yX11_may cX11_may 3 (some .boolean) 3 [.ref 140, .int (nI i), .int (nI k)] M (some (.int (zI (mayT (mv M) n k i)))) (M) := by
  refine Fun.of (own := RX11) ([some (.ref 140), some (.int (nI i)), some (.int (nI k))]) rfl (by decide +kernel) (Nat.le_of_ble_eq_true rfl) rfl ?_
  have ⟨hn, hn8, hm, hm10, hd⟩ := w
  obtain ⟨o, g, ho, hg, hog, eo, eg⟩ := hd k hk
  have ec : (mv M 6 k).toNatClampNeg = o := by rw [show mv M 6 k = M.1 147 k from rfl, eo, nI_clamp (by omega)]
  refine rx_iload_n (i := 1) dX11_may_0 rfl rfl ?_
  refine rx_aload_n (i := 0) dX11_may_1 rfl rfl ?_
  refine rx_getR 147 (k := 8) fo_X11_29 kl_140 (by decide) ti_11_8 (by decide) rfl dX11_may_2 ?_
  refine rx_iload_n (i := 2) dX11_may_5 rfl rfl ?_
  refine rx_ialdN kl_147 (by omega) (by first | decide | omega) dX11_may_6 ?_
  refine rx_icmp_eq (tgt := 52) dX11_may_7 (by decide) (fun c7 => ?_) (fun c7 => ?_)
  · skip
    have em : mayT (mv M) n k i = false := by simp only [mayT, show nI i = mv M 6 k from c7, decide_true, Bool.not_true, Bool.false_and]
    refine rx_iconst (0) dX11_may_52 rfl ?_
    exact rx_fiZ dX11_may_53 (by first | exact Or.inl rfl | exact Or.inr rfl) (by rw [em]; rfl) rfl
  · skip
    refine rx_iload_n (i := 1) dX11_may_10 rfl rfl ?_
    refine rx_aload_n (i := 0) dX11_may_11 rfl rfl ?_
    refine rx_getR 148 (k := 9) fo_X11_32 kl_140 (by decide) ti_11_9 (by decide) rfl dX11_may_12 ?_
    refine rx_iload_n (i := 2) dX11_may_15 rfl rfl ?_
    refine rx_ialdN kl_148 (by omega) (by first | decide | omega) dX11_may_16 ?_
    refine rx_icmp_eq (tgt := 52) dX11_may_17 (by decide) (fun c17 => ?_) (fun c17 => ?_)
    · skip
      have em : mayT (mv M) n k i = false := by simp only [mayT, show nI i = mv M 7 k from c17, decide_true, Bool.not_true, Bool.false_and, Bool.and_false]
      refine rx_iconst (0) dX11_may_52 rfl ?_
      exact rx_fiZ dX11_may_53 (by first | exact Or.inl rfl | exact Or.inr rfl) (by rw [em]; rfl) rfl
    · skip
      refine rx_aload_n (i := 0) dX11_may_20 rfl rfl ?_
      refine rx_iload_n (i := 1) dX11_may_21 rfl rfl ?_
      refine rx_cvI (ci := 11) mo_X11_counted lk_X11_225 (c_X11_counted (by omega)) (by decide) rfl rfl (Nat.le_of_ble_eq_true rfl) kl_140 rfl dX11_may_22 ?_
      refine rx_aload_n (i := 0) dX11_may_25 rfl rfl ?_
      refine rx_getR 149 (k := 10) fo_X11_35 kl_140 (by decide) ti_11_10 (by decide) rfl dX11_may_26 ?_
      refine rx_iload_n (i := 2) dX11_may_29 rfl rfl ?_
      refine rx_ialdN kl_149 (by omega) (by first | decide | omega) dX11_may_30 ?_
      refine rx_icmp_lt (tgt := 52) dX11_may_31 (by decide) (fun c31 => ?_) (fun c31 => ?_)
      · skip
        have e31 : ¬ mv M 8 k ≤ mv M 0 i - mv M 3 i := Int32.not_le.mpr c31
        have em : mayT (mv M) n k i = false := by simp [mayT, e31]
        refine rx_iconst (0) dX11_may_52 rfl ?_
        exact rx_fiZ dX11_may_53 (by first | exact Or.inl rfl | exact Or.inr rfl) (by rw [em]; rfl) rfl
      · skip
        have e31 : mv M 8 k ≤ mv M 0 i - mv M 3 i := Int32.not_lt.mp c31
        refine rx_aload_n (i := 0) dX11_may_34 rfl rfl ?_
        refine rx_iload_n (i := 1) dX11_may_35 rfl rfl ?_
        refine rx_aload_n (i := 0) dX11_may_36 rfl rfl ?_
        refine rx_getR 147 (k := 8) fo_X11_29 kl_140 (by decide) ti_11_8 (by decide) rfl dX11_may_37 ?_
        refine rx_iload_n (i := 2) dX11_may_40 rfl rfl ?_
        refine rx_ialdN kl_147 (by omega) (by first | decide | omega) dX11_may_41 ?_
        refine rx_top (nI o) eo ?_
        refine rx_cvI (ci := 11) mo_X11_isBelow lk_X11_281 (c_X11_isBelow w hi ho hs) (by decide) rfl rfl (Nat.le_of_ble_eq_true rfl) kl_140 rfl dX11_may_42 ?_
        refine rx_if_eq (tgt := 52) dX11_may_45 (by decide) (fun c45 => ?_) (fun c45 => ?_)
        · skip
          have e45 := zI_0.mp c45
          have em : mayT (mv M) n k i = false := by simp only [mayT, ec]; rw [show mv M 14 0 = M.1 153 0 from rfl, show mv M 14 1 = M.1 153 1 from rfl, e45]; simp
          refine rx_iconst (0) dX11_may_52 rfl ?_
          exact rx_fiZ dX11_may_53 (by first | exact Or.inl rfl | exact Or.inr rfl) (by rw [em]; rfl) rfl
        · skip
          have e45 := zI_n c45
          have em : mayT (mv M) n k i = true := by simp only [mayT, ec]; rw [show mv M 14 0 = M.1 153 0 from rfl, show mv M 14 1 = M.1 153 1 from rfl, e45, decide_eq_false (show ¬ nI i = mv M 6 k from c7), decide_eq_false (show ¬ nI i = mv M 7 k from c17), decide_eq_true e31]; rfl
          refine rx_iconst (1) dX11_may_48 rfl ?_
          refine rx_goto (tgt := 53) dX11_may_49 (by decide) ?_
          exact rx_fiZ dX11_may_53 (by first | exact Or.inl rfl | exact Or.inr rfl) (by rw [em]; rfl) rfl
set_option maxRecDepth 100000 in
set_option maxHeartbeats 4000000 in
theorem l_X11_mayPay {M : Mem} {n m : Nat} (w : MW M n m) (hs : sortOK (M.1 153 0)) {k : Nat} (hk : k < m) : ∀ (N : Nat) (i : Nat) (s : Int32), (i ≤ n) → (s = fbor (mayT (mv M) n k) i) → n - i < N → Reach cX11_mayPay RX11 4 4 (FQ cX11_mayPay (some .int) (some (.int (fbor (mayT (mv M) n k) n))) M) 4 [some (.ref 140), some (.int (nI k)), some (.int s), some (.int (nI i))] [] (M) := by
  intro N
  induction N with
  | zero => intro i s hi hs2 hm; exact absurd ‹_ < 0› (Nat.not_lt_zero _)
  | succ N ih =>
    intro i s hi hs2 hm
    have ⟨hn, hn8, hm, hm10, hd⟩ := w
    refine rx_iload_n (i := 3) dX11_mayPay_4 rfl rfl ?_
    refine rx_aload_n (i := 0) dX11_mayPay_5 rfl rfl ?_
    refine rx_getI (k := 0) fo_X11_132 kl_140 (by decide) ti_11_0 dX11_mayPay_6 ?_
    refine rx_top (nI n) hn ?_
    refine rx_icmp_ge (tgt := 37) dX11_mayPay_9 (by decide) (fun c9 => ?_) (fun c9 => ?_)
    · skip
      have f9 := Int32.not_lt.mpr c9
      have e9 : i = n := by have := (nI_leI (by omega) (by omega)).mp c9; omega
      subst e9
      refine rx_iload_n (i := 2) dX11_mayPay_37 rfl rfl ?_
      exact rx_fiI dX11_mayPay_38 hs2 rfl
    · skip
      have f9 := Int32.not_le.mp c9
      have e9 : i < n := Nat.lt_of_not_le fun q => c9 (nI_le q (by omega))
      refine rx_iload_n (i := 2) dX11_mayPay_12 rfl rfl ?_
      refine rx_aload_n (i := 0) dX11_mayPay_13 rfl rfl ?_
      refine rx_iload_n (i := 3) dX11_mayPay_14 rfl rfl ?_
      refine rx_iload_n (i := 1) dX11_mayPay_15 rfl rfl ?_
      refine rx_cvI (ci := 11) mo_X11_may lk_X11_285 (c_X11_may w hs e9 hk) (by decide) rfl rfl (Nat.le_of_ble_eq_true rfl) kl_140 rfl dX11_mayPay_16 ?_
      refine rx_if_eq (tgt := 28) dX11_mayPay_19 (by decide) (fun c19 => ?_) (fun c19 => ?_)
      · skip
        have e19 := zI_0.mp c19
        refine rx_iconst (0) dX11_mayPay_28 rfl ?_
        refine rx_ior dX11_mayPay_29 ?_
        refine rx_istore_n (i := 2) dX11_mayPay_30 rfl (by decide) rfl rfl ?_
        first | refine rx_iincN (i := 3) dX11_mayPay_31 rfl (by decide) rfl rfl ?_ | refine rx_iinc (i := 3) dX11_mayPay_31 rfl rfl (by decide) rfl rfl ?_
        refine rx_goto (tgt := 4) dX11_mayPay_34 (by decide) ?_
        exact ih (i + 1) _ (by omega) (by rw [hs2]; simp only [fbor]; rw [if_neg (by rw [e19]; decide), or_0]) (by omega)
      · skip
        have e19 := zI_n c19
        refine rx_iconst (1) dX11_mayPay_22 rfl ?_
        refine rx_iload_n (i := 3) dX11_mayPay_23 rfl rfl ?_
        refine rx_ishl dX11_mayPay_24 ?_
        refine rx_goto (tgt := 29) dX11_mayPay_25 (by decide) ?_
        refine rx_ior dX11_mayPay_29 ?_
        refine rx_istore_n (i := 2) dX11_mayPay_30 rfl (by decide) rfl rfl ?_
        first | refine rx_iincN (i := 3) dX11_mayPay_31 rfl (by decide) rfl rfl ?_ | refine rx_iinc (i := 3) dX11_mayPay_31 rfl rfl (by decide) rfl rfl ?_
        refine rx_goto (tgt := 4) dX11_mayPay_34 (by decide) ?_
        exact ih (i + 1) _ (by omega) (by rw [hs2]; simp only [fbor]; rw [if_pos e19]; rfl) (by omega)
set_option maxRecDepth 100000 in
set_option maxHeartbeats 4000000 in
theorem c_X11_mayPay {M : Mem} {n m : Nat} (w : MW M n m) (hs : sortOK (M.1 153 0)) {k : Nat} (hk : k < m) : Fun yX11_mayPay cX11_mayPay 4 (some .int) 4 [.ref 140, .int (nI k)] M (some (.int (fbor (mayT (mv M) n k) n))) (M) := by
  refine Fun.of (own := RX11) ([some (.ref 140), some (.int (nI k)), none, none]) rfl (by decide +kernel) (Nat.le_of_ble_eq_true rfl) rfl ?_
  refine rx_iconst (0) dX11_mayPay_0 rfl ?_
  refine rx_istore_n (i := 2) dX11_mayPay_1 rfl (by decide) rfl rfl ?_
  refine rx_iconst (0) dX11_mayPay_2 rfl ?_
  refine rx_istore_n (i := 3) dX11_mayPay_3 rfl (by decide) rfl rfl ?_
  have hn8 := w.2.1
  exact l_X11_mayPay w hs hk (n + 1) 0 0 (Nat.zero_le _) rfl (by omega)
set_option maxRecDepth 100000 in
set_option maxHeartbeats 4000000 in
theorem l_X11_partsBy {M : Mem} {n m : Nat} (w : MW M n m) (hs : sortOK (M.1 153 0)) {k : Nat} (hk : k < m) : ∀ (N : Nat) (i : Nat) (s : Int32), (i ≤ n) → (s = fbor (ptT (mv M) n (M.1 153 0) k) i) → n - i < N → Reach cX11_partsBy RX11 4 3 (FQ cX11_partsBy (some .int) (some (.int (fbor (ptT (mv M) n (M.1 153 0) k) n))) M) 4 [some (.ref 140), some (.int (nI k)), some (.int s), some (.int (nI i))] [] (M) := by
  intro N
  induction N with
  | zero => intro i s hi hs2 hm; exact absurd ‹_ < 0› (Nat.not_lt_zero _)
  | succ N ih =>
    intro i s hi hs2 hm
    have ⟨hn, hn8, hm, hm10, hd⟩ := w
    obtain ⟨o, g, ho, hg, hog, eo, eg⟩ := hd k hk
    have ec : (mv M 6 k).toNatClampNeg = o := by rw [show mv M 6 k = M.1 147 k from rfl, eo, nI_clamp (by omega)]
    refine rx_iload_n (i := 3) dX11_partsBy_4 rfl rfl ?_
    refine rx_aload_n (i := 0) dX11_partsBy_5 rfl rfl ?_
    refine rx_getI (k := 0) fo_X11_132 kl_140 (by decide) ti_11_0 dX11_partsBy_6 ?_
    refine rx_top (nI n) hn ?_
    refine rx_icmp_ge (tgt := 62) dX11_partsBy_9 (by decide) (fun c9 => ?_) (fun c9 => ?_)
    · skip
      have f9 := Int32.not_lt.mpr c9
      have e9 : i = n := by have := (nI_leI (by omega) (by omega)).mp c9; omega
      subst e9
      refine rx_iload_n (i := 2) dX11_partsBy_62 rfl rfl ?_
      exact rx_fiI dX11_partsBy_63 hs2 rfl
    · skip
      have f9 := Int32.not_le.mp c9
      have e9 : i < n := Nat.lt_of_not_le fun q => c9 (nI_le q (by omega))
      refine rx_iload_n (i := 2) dX11_partsBy_12 rfl rfl ?_
      refine rx_iload_n (i := 3) dX11_partsBy_13 rfl rfl ?_
      refine rx_aload_n (i := 0) dX11_partsBy_14 rfl rfl ?_
      refine rx_getR 147 (k := 8) fo_X11_29 kl_140 (by decide) ti_11_8 (by decide) rfl dX11_partsBy_15 ?_
      refine rx_iload_n (i := 1) dX11_partsBy_18 rfl rfl ?_
      refine rx_ialdN kl_147 (by omega) (by first | decide | omega) dX11_partsBy_19 ?_
      refine rx_icmp_eq (tgt := 53) dX11_partsBy_20 (by decide) (fun c20 => ?_) (fun c20 => ?_)
      · skip
        have em : ptT (mv M) n (M.1 153 0) k i = false := by simp only [ptT, show nI i = mv M 6 k from c20, decide_true, Bool.not_true, Bool.false_and]
        refine rx_iconst (0) dX11_partsBy_53 rfl ?_
        refine rx_ior dX11_partsBy_54 ?_
        refine rx_istore_n (i := 2) dX11_partsBy_55 rfl (by decide) rfl rfl ?_
        first | refine rx_iincN (i := 3) dX11_partsBy_56 rfl (by decide) rfl rfl ?_ | refine rx_iinc (i := 3) dX11_partsBy_56 rfl rfl (by decide) rfl rfl ?_
        refine rx_goto (tgt := 4) dX11_partsBy_59 (by decide) ?_
        exact ih (i + 1) _ (by omega) (by rw [hs2]; simp only [fbor]; rw [if_neg (by rw [em]; decide), or_0]) (by omega)
      · skip
        refine rx_iload_n (i := 3) dX11_partsBy_23 rfl rfl ?_
        refine rx_aload_n (i := 0) dX11_partsBy_24 rfl rfl ?_
        refine rx_getR 148 (k := 9) fo_X11_32 kl_140 (by decide) ti_11_9 (by decide) rfl dX11_partsBy_25 ?_
        refine rx_iload_n (i := 1) dX11_partsBy_28 rfl rfl ?_
        refine rx_ialdN kl_148 (by omega) (by first | decide | omega) dX11_partsBy_29 ?_
        refine rx_icmp_eq (tgt := 53) dX11_partsBy_30 (by decide) (fun c30 => ?_) (fun c30 => ?_)
        · skip
          have em : ptT (mv M) n (M.1 153 0) k i = false := by simp only [ptT, show nI i = mv M 7 k from c30, decide_true, Bool.not_true, Bool.false_and, Bool.and_false]
          refine rx_iconst (0) dX11_partsBy_53 rfl ?_
          refine rx_ior dX11_partsBy_54 ?_
          refine rx_istore_n (i := 2) dX11_partsBy_55 rfl (by decide) rfl rfl ?_
          first | refine rx_iincN (i := 3) dX11_partsBy_56 rfl (by decide) rfl rfl ?_ | refine rx_iinc (i := 3) dX11_partsBy_56 rfl rfl (by decide) rfl rfl ?_
          refine rx_goto (tgt := 4) dX11_partsBy_59 (by decide) ?_
          exact ih (i + 1) _ (by omega) (by rw [hs2]; simp only [fbor]; rw [if_neg (by rw [em]; decide), or_0]) (by omega)
        · skip
          refine rx_aload_n (i := 0) dX11_partsBy_33 rfl rfl ?_
          refine rx_iload_n (i := 3) dX11_partsBy_34 rfl rfl ?_
          refine rx_aload_n (i := 0) dX11_partsBy_35 rfl rfl ?_
          refine rx_getR 147 (k := 8) fo_X11_29 kl_140 (by decide) ti_11_8 (by decide) rfl dX11_partsBy_36 ?_
          refine rx_iload_n (i := 1) dX11_partsBy_39 rfl rfl ?_
          refine rx_ialdN kl_147 (by omega) (by first | decide | omega) dX11_partsBy_40 ?_
          refine rx_top (nI o) eo ?_
          refine rx_cvI (ci := 11) mo_X11_isBelow lk_X11_281 (c_X11_isBelow w e9 ho hs) (by decide) rfl rfl (Nat.le_of_ble_eq_true rfl) kl_140 rfl dX11_partsBy_41 ?_
          refine rx_if_eq (tgt := 53) dX11_partsBy_44 (by decide) (fun c44 => ?_) (fun c44 => ?_)
          · skip
            have e44 := zI_0.mp c44
            have em : ptT (mv M) n (M.1 153 0) k i = false := by simp only [ptT, ec]; rw [show mv M 14 1 = M.1 153 1 from rfl, e44]; simp
            refine rx_iconst (0) dX11_partsBy_53 rfl ?_
            refine rx_ior dX11_partsBy_54 ?_
            refine rx_istore_n (i := 2) dX11_partsBy_55 rfl (by decide) rfl rfl ?_
            first | refine rx_iincN (i := 3) dX11_partsBy_56 rfl (by decide) rfl rfl ?_ | refine rx_iinc (i := 3) dX11_partsBy_56 rfl rfl (by decide) rfl rfl ?_
            refine rx_goto (tgt := 4) dX11_partsBy_59 (by decide) ?_
            exact ih (i + 1) _ (by omega) (by rw [hs2]; simp only [fbor]; rw [if_neg (by rw [em]; decide), or_0]) (by omega)
          · skip
            have e44 := zI_n c44
            have em : ptT (mv M) n (M.1 153 0) k i = true := by simp only [ptT, ec]; rw [show mv M 14 1 = M.1 153 1 from rfl, e44, decide_eq_false (show ¬ nI i = mv M 6 k from c20), decide_eq_false (show ¬ nI i = mv M 7 k from c30)]; rfl
            refine rx_iconst (1) dX11_partsBy_47 rfl ?_
            refine rx_iload_n (i := 3) dX11_partsBy_48 rfl rfl ?_
            refine rx_ishl dX11_partsBy_49 ?_
            refine rx_goto (tgt := 54) dX11_partsBy_50 (by decide) ?_
            refine rx_ior dX11_partsBy_54 ?_
            refine rx_istore_n (i := 2) dX11_partsBy_55 rfl (by decide) rfl rfl ?_
            first | refine rx_iincN (i := 3) dX11_partsBy_56 rfl (by decide) rfl rfl ?_ | refine rx_iinc (i := 3) dX11_partsBy_56 rfl rfl (by decide) rfl rfl ?_
            refine rx_goto (tgt := 4) dX11_partsBy_59 (by decide) ?_
            exact ih (i + 1) _ (by omega) (by rw [hs2]; simp only [fbor]; rw [if_pos em]; rfl) (by omega)
set_option maxRecDepth 100000 in
set_option maxHeartbeats 4000000 in
theorem c_X11_partsBy {M : Mem} {n m : Nat} (w : MW M n m) (hs : sortOK (M.1 153 0)) {k : Nat} (hk : k < m) : Fun yX11_partsBy cX11_partsBy 4 (some .int) 3 [.ref 140, .int (nI k)] M (some (.int (fbor (ptT (mv M) n (M.1 153 0) k) n))) (M) := by
  refine Fun.of (own := RX11) ([some (.ref 140), some (.int (nI k)), none, none]) rfl (by decide +kernel) (Nat.le_of_ble_eq_true rfl) rfl ?_
  refine rx_iconst (0) dX11_partsBy_0 rfl ?_
  refine rx_istore_n (i := 2) dX11_partsBy_1 rfl (by decide) rfl rfl ?_
  refine rx_iconst (0) dX11_partsBy_2 rfl ?_
  refine rx_istore_n (i := 3) dX11_partsBy_3 rfl (by decide) rfl rfl ?_
  have hn8 := w.2.1
  exact l_X11_partsBy w hs hk (n + 1) 0 0 (Nat.zero_le _) rfl (by omega)
/-- of some debts (bits) those that anybody else may pay parts of -/
def lfT (T : TT) (n m : Nat) (srt b who : Int32) : Int32 := fbor (fun k => bt b k && !(decide (fbor (ptT T n srt k) n &&& (who ^^^ (-1)) = 0))) m
def bdT (T : TT) (n m : Nat) (srt b who : Int32) : Int32 := fsum (fun k => if bt who k = true then T 0 k - T 3 k else 0) n + sumT T m (lfT T n m srt b who)
def mnI (f : Nat → Int32) : Nat → Int32
  | 0 => 1000000000
  | k + 1 => if f k < mnI f k then f k else mnI f k
set_option maxRecDepth 100000 in
set_option maxHeartbeats 4000000 in
theorem l_X11_leftTo {M : Mem} {n m : Nat} (w : MW M n m) (hs : sortOK (M.1 153 0)) {who b : Int32} : ∀ (N : Nat) (i : Nat) (s : Int32), (i ≤ m) → (s = fbor (fun k => bt b k && !(decide (fbor (ptT (mv M) n (M.1 153 0) k) n &&& (who ^^^ (-1)) = 0))) i) → m - i < N → Reach cX11_leftTo RX11 5 4 (FQ cX11_leftTo (some .int) (some (.int (lfT (mv M) n m (M.1 153 0) b who))) M) 5 [some (.ref 140), some (.int who), some (.int b), some (.int s), some (.int (nI i))] [] (M) := by
  intro N
  induction N with
  | zero => intro i s hi hs2 hm; exact absurd ‹_ < 0› (Nat.not_lt_zero _)
  | succ N ih =>
    intro i s hi hs2 hm
    have ⟨hn, hn8, hm, hm10, hd⟩ := w
    refine rx_iload (i := 4) dX11_leftTo_5 rfl ?_
    refine rx_aload_n (i := 0) dX11_leftTo_7 rfl rfl ?_
    refine rx_getI (k := 7) fo_X11_139 kl_140 (by decide) ti_11_7 dX11_leftTo_8 ?_
    refine rx_top (nI m) hm ?_
    refine rx_icmp_ge (tgt := 53) dX11_leftTo_11 (by decide) (fun c11 => ?_) (fun c11 => ?_)
    · skip
      have f11 := Int32.not_lt.mpr c11
      have e11 : i = m := by have := (nI_leI (by omega) (by omega)).mp c11; omega
      subst e11
      refine rx_iload_n (i := 3) dX11_leftTo_53 rfl rfl ?_
      exact rx_fiI dX11_leftTo_54 hs2 rfl
    · skip
      have f11 := Int32.not_le.mp c11
      have e11 : i < m := Nat.lt_of_not_le fun q => c11 (nI_le q (by omega))
      refine rx_iload_n (i := 3) dX11_leftTo_14 rfl rfl ?_
      refine rx_iload_n (i := 2) dX11_leftTo_15 rfl rfl ?_
      refine rx_iload (i := 4) dX11_leftTo_16 rfl ?_
      refine rx_csI mo_X11_has lk_X11_291 (c_X11_has (by omega)) (by decide) rfl rfl (Nat.le_of_ble_eq_true rfl) dX11_leftTo_18 ?_
      refine rx_if_eq (tgt := 44) dX11_leftTo_21 (by decide) (fun c21 => ?_) (fun c21 => ?_)
      · skip
        have e21 := zI_0.mp c21
        refine rx_iconst (0) dX11_leftTo_44 rfl ?_
        refine rx_ior dX11_leftTo_45 ?_
        refine rx_istore_n (i := 3) dX11_leftTo_46 rfl (by decide) rfl rfl ?_
        first | refine rx_iincN (i := 4) dX11_leftTo_47 rfl (by decide) rfl rfl ?_ | refine rx_iinc (i := 4) dX11_leftTo_47 rfl rfl (by decide) rfl rfl ?_
        refine rx_goto (tgt := 5) dX11_leftTo_50 (by decide) ?_
        exact ih (i + 1) _ (by omega) (by rw [hs2]; simp only [fbor]; rw [if_neg (by simp [e21]), or_0]) (by omega)
      · skip
        have e21 := zI_n c21
        refine rx_aload_n (i := 0) dX11_leftTo_24 rfl rfl ?_
        refine rx_iload (i := 4) dX11_leftTo_25 rfl ?_
        refine rx_cvI (ci := 11) mo_X11_partsBy lk_X11_374 (c_X11_partsBy w hs e11) (by decide) rfl rfl (Nat.le_of_ble_eq_true rfl) kl_140 rfl dX11_leftTo_27 ?_
        refine rx_iload_n (i := 1) dX11_leftTo_30 rfl rfl ?_
        refine rx_iconst (-1) dX11_leftTo_31 rfl ?_
        refine rx_ixor dX11_leftTo_32 ?_
        refine rx_iand dX11_leftTo_33 ?_
        refine rx_if_eq (tgt := 44) dX11_leftTo_34 (by decide) (fun c34 => ?_) (fun c34 => ?_)
        · skip
          refine rx_iconst (0) dX11_leftTo_44 rfl ?_
          refine rx_ior dX11_leftTo_45 ?_
          refine rx_istore_n (i := 3) dX11_leftTo_46 rfl (by decide) rfl rfl ?_
          first | refine rx_iincN (i := 4) dX11_leftTo_47 rfl (by decide) rfl rfl ?_ | refine rx_iinc (i := 4) dX11_leftTo_47 rfl rfl (by decide) rfl rfl ?_
          refine rx_goto (tgt := 5) dX11_leftTo_50 (by decide) ?_
          exact ih (i + 1) _ (by omega) (by rw [hs2]; simp only [fbor]; rw [if_neg (by rw [decide_eq_true c34]; cases bt b i <;> decide), or_0]) (by omega)
        · skip
          refine rx_iconst (1) dX11_leftTo_37 rfl ?_
          refine rx_iload (i := 4) dX11_leftTo_38 rfl ?_
          refine rx_ishl dX11_leftTo_40 ?_
          refine rx_goto (tgt := 45) dX11_leftTo_41 (by decide) ?_
          refine rx_ior dX11_leftTo_45 ?_
          refine rx_istore_n (i := 3) dX11_leftTo_46 rfl (by decide) rfl rfl ?_
          first | refine rx_iincN (i := 4) dX11_leftTo_47 rfl (by decide) rfl rfl ?_ | refine rx_iinc (i := 4) dX11_leftTo_47 rfl rfl (by decide) rfl rfl ?_
          refine rx_goto (tgt := 5) dX11_leftTo_50 (by decide) ?_
          exact ih (i + 1) _ (by omega) (by rw [hs2]; simp only [fbor]; rw [if_pos (by rw [e21, decide_eq_false c34]; rfl)]; rfl) (by omega)
set_option maxRecDepth 100000 in
set_option maxHeartbeats 4000000 in
theorem c_X11_leftTo {M : Mem} {n m : Nat} (w : MW M n m) (hs : sortOK (M.1 153 0)) {who b : Int32} : Fun yX11_leftTo cX11_leftTo 5 (some .int) 4 [.ref 140, .int who, .int b] M (some (.int (lfT (mv M) n m (M.1 153 0) b who))) (M) := by
  refine Fun.of (own := RX11) ([some (.ref 140), some (.int who), some (.int b), none, none]) rfl (by decide +kernel) (Nat.le_of_ble_eq_true rfl) rfl ?_
  refine rx_iconst (0) dX11_leftTo_0 rfl ?_
  refine rx_istore_n (i := 3) dX11_leftTo_1 rfl (by decide) rfl rfl ?_
  refine rx_iconst (0) dX11_leftTo_2 rfl ?_
  refine rx_istore (i := 4) dX11_leftTo_3 (by decide) rfl rfl ?_
  have hm10 := w.2.2.2.1
  exact l_X11_leftTo w hs (m + 1) 0 0 (Nat.zero_le _) rfl (by omega)
set_option maxRecDepth 100000 in
set_option maxHeartbeats 4000000 in
theorem c_X11_boundOf {M : Mem} {n m : Nat} (w : MW M n m) (hs : sortOK (M.1 153 0)) {who b : Int32} : Fun yX11_boundOf cX11_boundOf 3 (some .int) 5 [.ref 140, .int who, .int b] M (some (.int (bdT (mv M) n m (M.1 153 0) b who))) (M) := by
  refine Fun.of (own := RX11) ([some (.ref 140), some (.int who), some (.int b)]) rfl (by decide +kernel) (Nat.le_of_ble_eq_true rfl) rfl ?_
  refine rx_aload_n (i := 0) dX11_boundOf_0 rfl rfl ?_
  refine rx_iload_n (i := 1) dX11_boundOf_1 rfl rfl ?_
  refine rx_cvI (ci := 11) mo_X11_countedOf lk_X11_377 (c_X11_countedOf w) (by decide) rfl rfl (Nat.le_of_ble_eq_true rfl) kl_140 rfl dX11_boundOf_2 ?_
  refine rx_aload_n (i := 0) dX11_boundOf_5 rfl rfl ?_
  refine rx_aload_n (i := 0) dX11_boundOf_6 rfl rfl ?_
  refine rx_iload_n (i := 1) dX11_boundOf_7 rfl rfl ?_
  refine rx_iload_n (i := 2) dX11_boundOf_8 rfl rfl ?_
  refine rx_cvI (ci := 11) mo_X11_leftTo lk_X11_380 (c_X11_leftTo w hs) (by decide) rfl rfl (Nat.le_of_ble_eq_true rfl) kl_140 rfl dX11_boundOf_9 ?_
  refine rx_cvI (ci := 11) mo_X11_sumOf lk_X11_361 (c_X11_sumOf w) (by decide) rfl rfl (Nat.le_of_ble_eq_true rfl) kl_140 rfl dX11_boundOf_12 ?_
  refine rx_iadd dX11_boundOf_15 ?_
  exact rx_fiI dX11_boundOf_16 rfl rfl
set_option maxRecDepth 100000 in
set_option maxHeartbeats 4000000 in
theorem l_X11_flowOf {M : Mem} {n m : Nat} (w : MW M n m) (hs : sortOK (M.1 153 0)) {b : Int32} : ∀ (N : Nat) (i : Nat) (s : Int32), (i ≤ 2 ^ n) → (s = mnI (fun k => bdT (mv M) n m (M.1 153 0) b (nI k)) i) → 2 ^ n - i < N → Reach cX11_flowOf RX11 4 6 (FQ cX11_flowOf (some .int) (some (.int (mnI (fun k => bdT (mv M) n m (M.1 153 0) b (nI k)) (2 ^ n)))) M) 6 [some (.ref 140), some (.int b), some (.int s), some (.int (nI i))] [] (M) := by
  intro N
  induction N with
  | zero => intro i s hi hs2 hm; exact absurd ‹_ < 0› (Nat.not_lt_zero _)
  | succ N ih =>
    intro i s hi hs2 hm
    have ⟨hn, hn8, hm, hm10, hd⟩ := w
    have h2n : 2 ^ n ≤ 256 := (by decide +kernel : ∀ n, n ≤ 8 → 2 ^ n ≤ 256) n hn8
    refine rx_iload_n (i := 3) dX11_flowOf_6 rfl rfl ?_
    refine rx_iconst (1) dX11_flowOf_7 rfl ?_
    refine rx_aload_n (i := 0) dX11_flowOf_8 rfl rfl ?_
    refine rx_getI (k := 0) fo_X11_132 kl_140 (by decide) ti_11_0 dX11_flowOf_9 ?_
    refine rx_top (nI n) hn ?_
    refine rx_ishl dX11_flowOf_12 ?_
    refine rx_top (nI (2 ^ n)) ((by decide +kernel : ∀ n, n ≤ 8 → (1 : Int32) <<< (nI n &&& 31) = nI (2 ^ n)) n hn8) ?_
    refine rx_icmp_ge (tgt := 33) dX11_flowOf_13 (by decide) (fun c13 => ?_) (fun c13 => ?_)
    · skip
      have f13 := Int32.not_lt.mpr c13
      have e13 : i = 2 ^ n := by have := (nI_leI (by omega) (by omega)).mp c13; omega
      subst e13
      refine rx_iload_n (i := 2) dX11_flowOf_33 rfl rfl ?_
      exact rx_fiI dX11_flowOf_34 hs2 rfl
    · skip
      have f13 := Int32.not_le.mp c13
      have e13 : i < 2 ^ n := Nat.lt_of_not_le fun q => c13 (nI_le q (by omega))
      refine rx_iload_n (i := 2) dX11_flowOf_16 rfl rfl ?_
      refine rx_aload_n (i := 0) dX11_flowOf_17 rfl rfl ?_
      refine rx_iload_n (i := 3) dX11_flowOf_18 rfl rfl ?_
      refine rx_iload_n (i := 1) dX11_flowOf_19 rfl rfl ?_
      refine rx_cvI (ci := 11) mo_X11_boundOf lk_X11_384 (c_X11_boundOf w hs) (by decide) rfl rfl (Nat.le_of_ble_eq_true rfl) kl_140 rfl dX11_flowOf_20 ?_
      refine rx_mmin (List.mem_of_getElem? (i := 1714) (by decide +kernel)) (by decide) (Nat.le_of_ble_eq_true rfl) dX11_flowOf_23 ?_
      refine rx_istore_n (i := 2) dX11_flowOf_26 rfl (by decide) rfl rfl ?_
      first | refine rx_iincN (i := 3) dX11_flowOf_27 rfl (by decide) rfl rfl ?_ | refine rx_iinc (i := 3) dX11_flowOf_27 rfl rfl (by decide) rfl rfl ?_
      refine rx_goto (tgt := 6) dX11_flowOf_30 (by decide) ?_
      exact ih (i + 1) _ (by omega) (by rw [hs2]; rfl) (by omega)
set_option maxRecDepth 100000 in
set_option maxHeartbeats 4000000 in
theorem c_X11_flowOf {M : Mem} {n m : Nat} (w : MW M n m) (hs : sortOK (M.1 153 0)) {b : Int32} : Fun yX11_flowOf cX11_flowOf 4 (some .int) 6 [.ref 140, .int b] M (some (.int (mnI (fun k => bdT (mv M) n m (M.1 153 0) b (nI k)) (2 ^ n)))) (M) := by
  refine Fun.of (own := RX11) ([some (.ref 140), some (.int b), none, none]) rfl (by decide +kernel) (Nat.le_of_ble_eq_true rfl) rfl ?_
  refine rx_ldcw (own := RX11) (v := (1000000000)) (List.mem_of_getElem? (i := 1924) (by decide +kernel)) dX11_flowOf_0 ?_
  refine rx_istore_n (i := 2) dX11_flowOf_3 rfl (by decide) rfl rfl ?_
  refine rx_iconst (0) dX11_flowOf_4 rfl ?_
  refine rx_istore_n (i := 3) dX11_flowOf_5 rfl (by decide) rfl rfl ?_
  have h2n : 2 ^ n ≤ 256 := (by decide +kernel : ∀ n, n ≤ 8 → 2 ^ n ≤ 256) n w.2.1
  exact l_X11_flowOf w hs (2 ^ n + 1) 0 1000000000 (Nat.zero_le _) rfl (Nat.lt_succ_of_le (Nat.sub_le _ _))
