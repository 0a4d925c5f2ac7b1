set_option maxRecDepth 100000 in
set_option maxHeartbeats 4000000 in
theorem l_poorer_v {M : Mem} {n m : Nat} (w : MW M n m) (hs : sortOK (M.1 153 0)) {i k C : Nat} (hi : i < n) (hk : k < m) (h10 : M.1 151 k = 0) (eC : mv M 0 i - mv M 3 i = nI C) (hC : C ≤ 8000) {QQ : Nat → List (Option Value) → List Value → Mem → Prop} {g : Nat} (hg : g < n) (hgo : g ≠ i) {r : Option (Nat × Nat)} {fr : Int32} (hr : lSt (mv M) n i k g C r) (hfw : (∀ c f, r = some (c, f) → fr = nI f)) {Mx : Nat} (hMx : Mx = mxG r C) (K : ∀ r fr, lSt (mv M) n i k (g + 1) C r → (∀ c f, r = some (c, f) → fr = nI f) → ∀ a b c, Reach cX11_poorer RX11 9 4 QQ 174 [some (.ref 140), some (.int (nI i)), some (.int (nI k)), some (.int (gBest r)), some (.int fr), some (.int (nI g)), a, b, c] [] M) : ∀ (N : Nat) (v : Nat), (1 ≤ v) → (v ≤ Mx + 1) → (∀ c, 1 ≤ c → c < v → ¬ lok (mv M) n i k c g) → Mx + 1 - v < N → Reach cX11_poorer RX11 9 4 (QQ) 89 [some (.ref 140), some (.int (nI i)), some (.int (nI k)), some (.int (gBest r)), some (.int fr), some (.int (nI g)), some (.int (nI Mx)), some (.int (nI v)), none] [] (M) := by
  intro N
  induction N with
  | zero => intro v hv1 hvM hnot hm; exact absurd ‹_ < 0› (Nat.not_lt_zero _)
  | succ N ih =>
    intro v hv1 hvM hnot hm
    have ⟨hn, hn8, hm, hm10, hd⟩ := w
    have hMK : Mx ≤ C := mx_le hMx
    refine rx_iload (i := 7) dX11_poorer_89 rfl ?_
    refine rx_iload (i := 6) dX11_poorer_91 rfl ?_
    refine rx_icmp_gt (tgt := 174) dX11_poorer_93 (by decide) (fun c93 => ?_) (fun c93 => ?_)
    · skip
      have e93 : Mx < v := (nI_ltI (by omega) (by omega)).mp c93
      refine K r fr ?_ hfw _ _ _
      match r, hr, hMx with
      | none, hr, hMx =>
        intro c f h1 h2 h3 q
        by_cases e : f = g
        · subst e
          simp only [mxG] at hMx
          exact hnot c h1 (by omega) q
        · exact hr c f h1 h2 (by omega) q
      | some (c, f), hr, hMx =>
        obtain ⟨h1, h2, h2b, h3, h4, h5⟩ := hr
        refine ⟨by omega, h2, h2b, h3, fun c' f' a1 a2 a3 q => ?_, h5⟩
        by_cases e : f' = g
        · subst e
          simp only [mxG] at hMx
          exact hnot c' a1 (by omega) q
        · exact h4 c' f' a1 a2 (by omega) q
    · skip
      have e93 : v ≤ Mx := (nI_leI (by omega) (by omega)).mp (Int32.not_lt.mp c93)
      have w2 : MW (shX M i g (nI v)) n m := w.sh
      have hMC : v ≤ C := by omega
      refine rx_aload_n (i := 0) dX11_poorer_96 rfl rfl ?_
      refine rx_getR 141 (k := 1) fo_X11_9 kl_140 (by decide) ti_11_1 (by decide) rfl dX11_poorer_97 ?_
      refine rx_iload_n (i := 1) dX11_poorer_100 rfl rfl ?_
      refine rx_dup2_11 dX11_poorer_101 rfl rfl ?_
      refine rx_ialdN kl_141 (by omega) (by first | decide | omega) dX11_poorer_102 ?_
      refine rx_iload (i := 7) dX11_poorer_103 rfl ?_
      refine rx_isub dX11_poorer_105 ?_
      refine rx_iastN kl_141 (by omega) (by first | decide | omega) dX11_poorer_106 ?_
      refine rx_aload_n (i := 0) dX11_poorer_107 rfl rfl ?_
      refine rx_getR 141 (k := 1) fo_X11_9 kl_140 (by decide) ti_11_1 (by decide) rfl dX11_poorer_108 ?_
      refine rx_iload (i := 5) dX11_poorer_111 rfl ?_
      refine rx_dup2_11 dX11_poorer_113 rfl rfl ?_
      refine rx_ialdN kl_141 (by omega) (by first | decide | omega) dX11_poorer_114 ?_
      refine rx_iload (i := 7) dX11_poorer_115 rfl ?_
      refine rx_iadd dX11_poorer_117 ?_
      refine rx_iastN kl_141 (by omega) (by first | decide | omega) dX11_poorer_118 ?_
      refine rx_aload_n (i := 0) dX11_poorer_119 rfl rfl ?_
      refine rx_iload_n (i := 1) dX11_poorer_120 rfl rfl ?_
      refine rx_iload_n (i := 2) dX11_poorer_121 rfl rfl ?_
      refine rx_cvI (ci := 11) mo_X11_may lk_X11_285 (c_X11_may (M := shX M i g (nI v)) w2 (show sortOK ((shX M i g (nI v)).1 153 0) from hs) hi hk) (by decide) rfl rfl (Nat.le_of_ble_eq_true rfl) kl_140 rfl dX11_poorer_122 ?_
      have ep : mayT (mv (shX M i g (nI v))) n k i = bt (payT (shT (mv M) i g (nI v)) n k) i := by
        rw [mv_shX, show payT (shT (mv M) i g (nI v)) n k = fbor (mayT (shT (mv M) i g (nI v)) n k) n from if_pos h10, b_fbor _ n (by omega)]
        simp [hi]
      rw [ep]
      refine rx_istore (i := 8) dX11_poorer_125 (by decide) rfl rfl ?_
      refine rx_aload_n (i := 0) dX11_poorer_127 rfl rfl ?_
      refine rx_getR 141 (k := 1) fo_X11_9 kl_140 (by decide) ti_11_1 (by decide) rfl dX11_poorer_128 ?_
      refine rx_iload_n (i := 1) dX11_poorer_131 rfl rfl ?_
      refine rx_dup2_11 dX11_poorer_132 rfl rfl ?_
      refine rx_ialdN kl_141 (by omega) (by first | decide | omega) dX11_poorer_133 ?_
      refine rx_iload (i := 7) dX11_poorer_134 rfl ?_
      refine rx_iadd dX11_poorer_136 ?_
      refine rx_iastN kl_141 (by omega) (by first | decide | omega) dX11_poorer_137 ?_
      refine rx_aload_n (i := 0) dX11_poorer_138 rfl rfl ?_
      refine rx_getR 141 (k := 1) fo_X11_9 kl_140 (by decide) ti_11_1 (by decide) rfl dX11_poorer_139 ?_
      refine rx_iload (i := 5) dX11_poorer_142 rfl ?_
      refine rx_dup2_11 dX11_poorer_144 rfl rfl ?_
      refine rx_ialdN kl_141 (by omega) (by first | decide | omega) dX11_poorer_145 ?_
      refine rx_iload (i := 7) dX11_poorer_146 rfl ?_
      refine rx_isub dX11_poorer_148 ?_
      refine rx_iastN kl_141 (by omega) (by first | decide | omega) dX11_poorer_149 ?_
      rw [shX_back (fun q => hgo q.symm)]
      refine rx_iload (i := 8) dX11_poorer_150 rfl ?_
      refine rx_if_ne (tgt := 158) dX11_poorer_152 (by decide) (fun c152 => ?_) (fun c152 => ?_)
      · skip
        have hgk : lok (mv M) n i k v g := ⟨hg, hgo, zI_n c152⟩
        refine rx_iload (i := 7) dX11_poorer_158 rfl ?_
        refine rx_istore_n (i := 3) dX11_poorer_160 rfl (by decide) rfl rfl ?_
        refine rx_iload (i := 5) dX11_poorer_161 rfl ?_
        refine rx_istore (i := 4) dX11_poorer_163 (by decide) rfl rfl ?_
        refine rx_goto (tgt := 174) dX11_poorer_165 (by decide) ?_
        refine K (some (v, g)) _ ?_ (fun c f e => by obtain ⟨rfl, rfl⟩ := Prod.mk.inj (Option.some.inj e); rfl) _ _ _
        match r, hr, hMx with
        | none, hr, hMx =>
          exact ⟨by omega, hv1, by omega, hgk, fun c' f' a1 a2 a3 => if e : f' = g then e ▸ hnot c' a1 a2 else hr c' f' a1 (by omega) (by omega), fun f' a => hr v f' hv1 (by omega) a⟩
        | some (c, f), hr, hMx =>
          obtain ⟨h1, h2, h2b, h3, h4, h5⟩ := hr
          simp only [mxG] at hMx
          exact ⟨by omega, hv1, by omega, hgk, fun c' f' a1 a2 a3 => if e : f' = g then e ▸ hnot c' a1 a2 else h4 c' f' a1 (by omega) (by omega), fun f' a => h4 v f' hv1 (by omega) a⟩
      · skip
        have hngk : ¬ lok (mv M) n i k v g := fun q => by have q3 := q.2.2; rw [zI_0.mp c152] at q3; cases q3
        refine rx_goto (tgt := 168) dX11_poorer_155 (by decide) ?_
        first | refine rx_iincN (i := 7) dX11_poorer_168 rfl (by decide) rfl rfl ?_ | refine rx_iinc (i := 7) dX11_poorer_168 rfl rfl (by decide) rfl rfl ?_
        refine rx_goto (tgt := 89) dX11_poorer_171 (by decide) ?_
        refine rx_drop 8 ?_
        exact ih (v + 1) (by omega) (by omega) (fun c h1 h2 => if e : c = v then e ▸ hngk else hnot c h1 (by omega)) (by omega)
set_option maxRecDepth 100000 in
set_option maxHeartbeats 4000000 in
theorem l_poorer_g {M : Mem} {n m : Nat} (w : MW M n m) (hs : sortOK (M.1 153 0)) {i k C : Nat} (hi : i < n) (hk : k < m) (h10 : M.1 151 k = 0) (eC : mv M 0 i - mv M 3 i = nI C) (hC : C ≤ 8000) {QQ : Nat → List (Option Value) → List Value → Mem → Prop} (K : ∀ r fr, lSt (mv M) n i k n C r → (∀ c f, r = some (c, f) → fr = nI f) → Reach cX11_poorer RX11 9 4 QQ 180 [some (.ref 140), some (.int (nI i)), some (.int (nI k)), some (.int (gBest r)), some (.int fr), some (.int (nI n)), none, none, none] [] M) : ∀ (N : Nat) (g : Nat) (r : Option (Nat × Nat)) (fr : Int32), (g ≤ n) → (lSt (mv M) n i k g C r) → ((∀ c f, r = some (c, f) → fr = nI f)) → n - g < N → Reach cX11_poorer RX11 9 4 (QQ) 43 [some (.ref 140), some (.int (nI i)), some (.int (nI k)), some (.int (gBest r)), some (.int fr), some (.int (nI g)), none, none, none] [] (M) := by
  intro N
  induction N with
  | zero => intro g r fr hg hr hfw hm; exact absurd ‹_ < 0› (Nat.not_lt_zero _)
  | succ N ih =>
    intro g r fr hg hr hfw hm
    have ⟨hn, hn8, hm, hm10, hd⟩ := w
    refine rx_iload (i := 5) dX11_poorer_43 rfl ?_
    refine rx_aload_n (i := 0) dX11_poorer_45 rfl rfl ?_
    refine rx_getI (k := 0) fo_X11_132 kl_140 (by decide) ti_11_0 dX11_poorer_46 ?_
    refine rx_top (nI n) (hn) ?_
    refine rx_icmp_ge (tgt := 180) dX11_poorer_49 (by decide) (fun c49 => ?_) (fun c49 => ?_)
    · skip
      have f49 := Int32.not_lt.mpr c49
      have e49 : g = n := by have := (nI_leI (by omega) (by omega)).mp c49; omega
      subst e49
      exact K r fr hr hfw
    · skip
      have f49 := Int32.not_le.mp c49
      have e49 : g < n := Nat.lt_of_not_le fun q => c49 (nI_le q (by omega))
      refine rx_iload (i := 5) dX11_poorer_52 rfl ?_
      refine rx_iload_n (i := 1) dX11_poorer_54 rfl rfl ?_
      refine rx_icmp_ne (tgt := 61) dX11_poorer_55 (by decide) (fun c55 => ?_) (fun c55 => ?_)
      · skip
        have e55 : g ≠ i := fun q => c55 (by rw [q])
        refine rx_iload_n (i := 3) dX11_poorer_61 rfl rfl ?_
        rcases r with - | ⟨c, f⟩
        · skip
          refine rx_if_ge (tgt := 73) dX11_poorer_62 (by decide) (fun c62 => absurd c62 (by decide)) (fun c62 => ?_)
          refine rx_aload_n (i := 0) dX11_poorer_65 rfl rfl ?_
          refine rx_iload_n (i := 1) dX11_poorer_66 rfl rfl ?_
          refine rx_cvI (ci := 11) mo_X11_counted lk_X11_225 (c_X11_counted (by omega)) (by decide) rfl rfl (Nat.le_of_ble_eq_true rfl) kl_140 rfl dX11_poorer_67 ?_
          refine rx_top (nI C) (eC) ?_
          refine rx_goto (tgt := 84) dX11_poorer_70 (by decide) ?_
          refine rx_istore (i := 6) dX11_poorer_84 (by decide) rfl rfl ?_
          refine rx_iconst (1) dX11_poorer_86 rfl ?_
          refine rx_istore (i := 7) dX11_poorer_87 (by decide) rfl rfl ?_
          refine l_poorer_v w hs hi hk h10 eC hC e49 e55 hr hfw (show C = mxG none C from rfl) (fun r fr h1 h2 a b c => ?_) (C + 1) 1 (Nat.le_refl 1) (by omega) (fun c h1 h2 => by omega) (by omega)
          refine rx_iincN (i := 5) dX11_poorer_174 rfl (by decide) rfl rfl ?_
          refine rx_goto (tgt := 43) dX11_poorer_177 (by decide) ?_
          refine rx_drop 6 ?_
          refine rx_drop 7 ?_
          refine rx_drop 8 ?_
          exact ih (g + 1) r fr (by omega) h1 h2 (by omega)
        · skip
          refine rx_if_ge (tgt := 73) dX11_poorer_62 (by decide) (fun c62 => ?_) (fun c62 => absurd (nI_pos' (by have := hr.2.2.1; omega)) c62)
          refine rx_aload_n (i := 0) dX11_poorer_73 rfl rfl ?_
          refine rx_iload_n (i := 1) dX11_poorer_74 rfl rfl ?_
          refine rx_cvI (ci := 11) mo_X11_counted lk_X11_225 (c_X11_counted (by omega)) (by decide) rfl rfl (Nat.le_of_ble_eq_true rfl) kl_140 rfl dX11_poorer_75 ?_
          refine rx_top (nI C) (eC) ?_
          refine rx_iload_n (i := 3) dX11_poorer_78 rfl rfl ?_
          refine rx_iconst (1) dX11_poorer_79 rfl ?_
          refine rx_isub dX11_poorer_80 ?_
          refine rx_top (nI (c - 1)) (by rw [show gBest (some (c, f)) = nI c from rfl, show (1 : Int32) = nI 1 from rfl, pk_sub hr.2.1]) ?_
          refine rx_mmin (List.mem_of_getElem? (i := 1714) (by decide +kernel)) (by decide) (Nat.le_of_ble_eq_true rfl) dX11_poorer_81 ?_
          refine rx_top (nI (min C (c - 1))) (mn2 (by omega) (by have := hr.2.2.1; omega)) ?_
          refine rx_istore (i := 6) dX11_poorer_84 (by decide) rfl rfl ?_
          refine rx_iconst (1) dX11_poorer_86 rfl ?_
          refine rx_istore (i := 7) dX11_poorer_87 (by decide) rfl rfl ?_
          refine l_poorer_v w hs hi hk h10 eC hC e49 e55 hr hfw (show min C (c - 1) = mxG (some (c, f)) C from rfl) (fun r fr h1 h2 a b c => ?_) (min C (c - 1) + 1) 1 (Nat.le_refl 1) (by omega) (fun c h1 h2 => by omega) (by omega)
          refine rx_iincN (i := 5) dX11_poorer_174 rfl (by decide) rfl rfl ?_
          refine rx_goto (tgt := 43) dX11_poorer_177 (by decide) ?_
          refine rx_drop 6 ?_
          refine rx_drop 7 ?_
          refine rx_drop 8 ?_
          exact ih (g + 1) r fr (by omega) h1 h2 (by omega)
      · skip
        have e55 : g = i := (nI_eq (by omega) (by omega)).mp c55
        have hr2 : lSt (mv M) n i k (g + 1) C r := by
          match r, hr with
          | none, hr => exact fun c f h1 h2 h3 q => if e : f = g then q.2.1 (e.trans e55) else hr c f h1 h2 (by omega) q
          | some (c, f), hr => exact ⟨by have := hr.1; omega, hr.2.1, hr.2.2.1, hr.2.2.2.1, fun c' f' a1 a2 a3 q => if e : f' = g then q.2.1 (e.trans e55) else hr.2.2.2.2.1 c' f' a1 a2 (by omega) q, hr.2.2.2.2.2⟩
        refine rx_goto (tgt := 174) dX11_poorer_58 (by decide) ?_
        first | refine rx_iincN (i := 5) dX11_poorer_174 rfl (by decide) rfl rfl ?_ | refine rx_iinc (i := 5) dX11_poorer_174 rfl rfl (by decide) rfl rfl ?_
        refine rx_goto (tgt := 43) dX11_poorer_177 (by decide) ?_
        exact ih (g + 1) r fr (by omega) hr2 hfw (by omega)
set_option maxRecDepth 100000 in
set_option maxHeartbeats 4000000 in
theorem c_X11_poorer {M : Mem} {n m : Nat} (w : MW M n m) (hs : sortOK (M.1 153 0)) {i k C : Nat} (hi : i < n) (hk : k < m) (h10 : M.1 151 k = 0) (eC : mv M 0 i - mv M 3 i = nI C) (hC : C ≤ 8000) : Con yX11_poorer cX11_poorer 9 (some .int) 4 [.ref 140, .int (nI i), .int (nI k)] M (fun v N => frQ M N ∧ ((mayT (mv M) n k i = true ∧ v = some (.int 0) ∧ N = t0 M) ∨ (mayT (mv M) n k i = false ∧ ((∃ c f, c ≤ C ∧ lLe (mv M) n i k c f ∧ v = some (.int (nI c)) ∧ row1 N (nI f).toInt64) ∨ (v = some (.int (-2)) ∧ N = t0 M ∧ ∀ c f, 1 ≤ c → c ≤ C → ¬ lok (mv M) n i k c f))))) := by
  refine Con.of (own := RX11) (ls := [some (.ref 140), some (.int (nI i)), some (.int (nI k)), none, none, none, none, none, none]) rfl (by decide +kernel) (Nat.le_of_ble_eq_true rfl) rfl ?_
  have w0 := w.t0
  have ⟨hn, hn8, hm, hm10, hd⟩ := w
  refine rx_aload_n (i := 0) dX11_poorer_0 rfl rfl ?_
  refine rx_iconst (0) dX11_poorer_1 rfl ?_
  refine rx_putI (k := 21) fo_X11_126 fn_11_21 kl_140 (by decide) ty_11_21 dX11_poorer_2 ?_
  refine rx_aload_n (i := 0) dX11_poorer_5 rfl rfl ?_
  refine rx_iload_n (i := 1) dX11_poorer_6 rfl rfl ?_
  refine rx_cvI (ci := 11) mo_X11_isOne lk_X11_244 (c_X11_isOne w0.1 (by omega)) (by decide) rfl rfl (Nat.le_of_ble_eq_true rfl) kl_140 rfl dX11_poorer_7 ?_
  refine rx_top (1) (one_i hi (by omega)) ?_
  refine rx_if_eq (tgt := 21) dX11_poorer_10 (by decide) (fun c10 => absurd c10 (by decide)) (fun c10 => ?_)
  refine rx_aload_n (i := 0) dX11_poorer_13 rfl rfl ?_
  refine rx_iload_n (i := 2) dX11_poorer_14 rfl rfl ?_
  refine rx_cvI (ci := 11) mo_X11_isOpen lk_X11_312 (c_X11_isOpen w0.2.2.1 (by omega)) (by decide) rfl rfl (Nat.le_of_ble_eq_true rfl) kl_140 rfl dX11_poorer_15 ?_
  refine rx_top (1) (if_pos ⟨⟨nI_pos' (by omega), nI_lt hk (by omega)⟩, by rw [nI_clamp (by omega)]; exact h10⟩) ?_
  refine rx_if_ne (tgt := 23) dX11_poorer_18 (by decide) (fun c18 => ?_) (fun c18 => absurd c18 (by decide))
  refine rx_aload_n (i := 0) dX11_poorer_23 rfl rfl ?_
  refine rx_iload_n (i := 1) dX11_poorer_24 rfl rfl ?_
  refine rx_iload_n (i := 2) dX11_poorer_25 rfl rfl ?_
  refine rx_cvI (ci := 11) mo_X11_may lk_X11_285 (c_X11_may w0 (show sortOK ((t0 M).1 153 0) from hs) hi hk) (by decide) rfl rfl (Nat.le_of_ble_eq_true rfl) kl_140 rfl dX11_poorer_26 ?_
  rw [t0_mv]
  refine rx_if_eq (tgt := 34) dX11_poorer_29 (by decide) (fun c29 => ?_) (fun c29 => ?_)
  · skip
    have ep := zI_0.mp c29
    refine rx_bipush (-2) dX11_poorer_34 rfl ?_
    refine rx_istore_n (i := 3) dX11_poorer_36 rfl (by decide) rfl rfl ?_
    refine rx_iconst (0) dX11_poorer_37 rfl ?_
    refine rx_istore (i := 4) dX11_poorer_38 (by decide) rfl rfl ?_
    refine rx_iconst (0) dX11_poorer_40 rfl ?_
    refine rx_istore (i := 5) dX11_poorer_41 (by decide) rfl rfl ?_
    refine l_poorer_g w0 (show sortOK ((t0 M).1 153 0) from hs) hi hk h10 (by rw [t0_mv]; exact eC) hC (fun r fr hr hfw => ?_) (n + 1) 0 none 0 (Nat.zero_le _) (fun c f _ _ h _ => absurd h (Nat.not_lt_zero _)) (fun c f e => by cases e) (by omega)
    rw [t0_mv] at hr
    refine rx_iload_n (i := 3) dX11_poorer_180 rfl rfl ?_
    rcases r with - | ⟨c, f⟩
    · skip
      refine rx_if_ge (tgt := 187) dX11_poorer_181 (by decide) (fun c181 => absurd c181 (by decide)) (fun c181 => ?_)
      refine rx_bipush (-2) dX11_poorer_184 rfl ?_
      exact rx_iret dX11_poorer_186 ⟨frQ_t0, Or.inr ⟨ep, Or.inr ⟨rfl, rfl, fun c f h1 h2 q => hr c f h1 h2 q.1 q⟩⟩⟩
    · skip
      have hc8 := hr.2.2.1
      obtain rfl := hfw c f rfl
      refine rx_if_ge (tgt := 187) dX11_poorer_181 (by decide) (fun c181 => ?_) (fun c181 => absurd (nI_pos' (by omega)) c181)
      refine rx_aload_n (i := 0) dX11_poorer_187 rfl rfl ?_
      refine rx_iconst (0) dX11_poorer_188 rfl ?_
      refine rx_putI (k := 20) fo_X11_129 fn_11_20 kl_140 (by decide) ty_11_20 dX11_poorer_189 ?_
      refine rx_aload_n (i := 0) dX11_poorer_192 rfl rfl ?_
      refine rx_iload (i := 4) dX11_poorer_193 rfl ?_
      refine rx_i2l dX11_poorer_195 rfl ?_
      refine rx_cvN (ci := 11) mo_X11_tell lk_X11_294 (c_X11_tell (s := 0) (v := (nI f).toInt64) sI_eq (by omega)) (by decide) rfl rfl (Nat.le_of_ble_eq_true rfl) kl_140 rfl dX11_poorer_196 ?_
      refine rx_iload_n (i := 3) dX11_poorer_199 rfl rfl ?_
      exact rx_iret dX11_poorer_200 ⟨frQ_t0.trans ((frQ_I (by omega)).trans frQ_mt), Or.inr ⟨ep, Or.inl ⟨c, f, hc8, ⟨hr.2.1, hr.2.2.2.1, fun c' f' a1 a2 q => hr.2.2.2.2.1 c' f' a1 a2 q.1 q, hr.2.2.2.2.2⟩, rfl, mt_row1⟩⟩⟩
  · skip
    have ep := zI_n c29
    refine rx_iconst (0) dX11_poorer_32 rfl ?_
    exact rx_iret dX11_poorer_33 ⟨frQ_t0, Or.inl ⟨ep, rfl, rfl⟩⟩
set_option maxRecDepth 100000 in
set_option maxHeartbeats 4000000 in
theorem c_X11_poorer_no {M : Mem} {n m : Nat} (w : MW M n m) {y x : Int32} (hx : ¬ ((0 ≤ x ∧ x < nI n) ∧ (0 ≤ y ∧ y < nI m) ∧ M.1 151 y.toNatClampNeg = 0)) : Fun yX11_poorer cX11_poorer 9 (some .int) 4 [.ref 140, .int x, .int y] M (some (.int (-1))) (t0 M) := by
  refine Fun.of (own := RX11) ([some (.ref 140), some (.int x), some (.int y), none, none, none, none, none, none]) rfl (by decide +kernel) (Nat.le_of_ble_eq_true rfl) rfl ?_
  have w0 := w.t0
  have ⟨hn, hn8, hm, hm10, hd⟩ := w
  refine rx_aload_n (i := 0) dX11_poorer_0 rfl rfl ?_
  refine rx_iconst (0) dX11_poorer_1 rfl ?_
  refine rx_putI (k := 21) fo_X11_126 fn_11_21 kl_140 (by decide) ty_11_21 dX11_poorer_2 ?_
  refine rx_aload_n (i := 0) dX11_poorer_5 rfl rfl ?_
  refine rx_iload_n (i := 1) dX11_poorer_6 rfl rfl ?_
  refine rx_cvI (ci := 11) mo_X11_isOne lk_X11_244 (c_X11_isOne w0.1 (by omega)) (by decide) rfl rfl (Nat.le_of_ble_eq_true rfl) kl_140 rfl dX11_poorer_7 ?_
  refine rx_if_eq (tgt := 21) dX11_poorer_10 (by decide) (fun c10 => ?_) (fun c10 => ?_)
  · skip
    refine rx_iconst (-1) dX11_poorer_21 rfl ?_
    exact rx_fiI dX11_poorer_22 rfl rfl
  · skip
    have e10 := ite1n c10
    refine rx_aload_n (i := 0) dX11_poorer_13 rfl rfl ?_
    refine rx_iload_n (i := 2) dX11_poorer_14 rfl rfl ?_
    refine rx_cvI (ci := 11) mo_X11_isOpen lk_X11_312 (c_X11_isOpen w0.2.2.1 (by omega)) (by decide) rfl rfl (Nat.le_of_ble_eq_true rfl) kl_140 rfl dX11_poorer_15 ?_
    refine rx_if_ne (tgt := 23) dX11_poorer_18 (by decide) (fun c18 => ?_) (fun c18 => ?_)
    · skip
      exact absurd ⟨e10, (ite1n c18).1, (ite1n c18).2⟩ hx
      skip
    · skip
      refine rx_iconst (-1) dX11_poorer_21 rfl ?_
      exact rx_fiI dX11_poorer_22 rfl rfl
/-- a payment undone leaves what was -/
theorem uM_mM {M : Mem} {o g i k : Nat} (hig : i ≠ g) (h0 : M.1 151 k = 0) (h1 : M.1 152 k = -1) : uM (mM M o g i k) o g i k = M := by
  have hgi : ¬ g = i := fun q => hig q.symm
  have ep : prT (mv (mM M o g i k)) i k = prT (mv M) i k := rfl
  refine Prod.ext ?_ rfl
  funext a j
  simp only [uM, ep]
  simp only [mM, shX, setI]
  by_cases e1 : a = 141
  · subst e1
    by_cases j1 : j = i
    · subst j1; simp [hig, hgi, Int32.sub_add_cancel]
    · by_cases j2 : j = g
      · subst j2; simp [hig, hgi, Int32.add_sub_cancel]
      · simp [j1, j2]
  · by_cases e2 : a = 146
    · subst e2
      by_cases j1 : j = 8 * o + i
      · subst j1; simp [Int32.add_sub_cancel]
      · simp [j1]
    · by_cases e3 : a = 151
      · subst e3
        by_cases j1 : j = k
        · subst j1; simp [h0]
        · simp [j1]
      · by_cases e4 : a = 152
        · subst e4
          by_cases j1 : j = k
          · subst j1; simp [h1]
          · simp [j1]
        · simp [e1, e2, e3, e4]
/-- PAYMENT number q told: the debt, who pays -/
def jdD (t : Int32) (q : Nat) : Nat := ((t >>> (nI (8 * q) &&& 31) &&& 255) >>> (4 &&& 31)).toNatClampNeg
def jdP (t : Int32) (q : Nat) : Nat := (t >>> (nI (8 * q) &&& 31) &&& 255 &&& 15).toNatClampNeg
theorem b255 : ∀ x : Int32, ∃ j : Nat, j < 256 ∧ x &&& 255 = nI j := by
  intro x
  refine ⟨(x &&& 255).toBitVec.toNat, ?_, ?_⟩
  · rw [Int32.toBitVec_and, BitVec.toNat_and]
    exact Nat.lt_succ_of_le Nat.and_le_right
  · refine Int32.toBitVec_inj.mp (BitVec.eq_of_toNat_eq ?_)
    show _ = (x &&& 255).toBitVec.toNat % 2 ^ 32
    rw [Nat.mod_eq_of_lt (BitVec.isLt _)]
theorem b4 : ∀ j, j < 256 → nI j >>> (4 &&& 31) = nI (j / 16) ∧ nI j &&& 15 = nI (j % 16) := by decide +kernel
theorem jd_eq {t : Int32} {q : Nat} : (t >>> (nI (8 * q) &&& 31) &&& 255) >>> (4 &&& 31) = nI (jdD t q) ∧ (t >>> (nI (8 * q) &&& 31) &&& 255 &&& 15) = nI (jdP t q) ∧ jdD t q < 16 ∧ jdP t q < 16 := by
  obtain ⟨j, hj, e⟩ := b255 (t >>> (nI (8 * q) &&& 31))
  unfold jdD jdP
  rw [e, (b4 j hj).1, (b4 j hj).2, nI_clamp (by omega), nI_clamp (by omega)]
  exact ⟨rfl, rfl, by omega, by omega⟩
/-- PAYMENTS from number q on, f more at most: (the town, PRICES, SUMS, the first that can't) -/
def jdR (n m : Nat) (t : Int32) : Nat → Nat → TT → Int32 → Int32 → TT × Int32 × Int32 × Nat
  | 0, q, T, a, b => (T, a, b, q)
  | f + 1, q, T, a, b => if (jdD t q < m ∧ T 10 (jdD t q) = 0) ∧ jdP t q < n ∧ mayT T n (jdD t q) (jdP t q) = true then jdR n m t f (q + 1) (mkT T (jdP t q) (jdD t q)) (a + prT T (jdP t q) (jdD t q)) (b + T 8 (jdD t q)) else (T, a, b, q)
/-- the memory when q of them are made -/
def jmM (M : Mem) (t : Int32) : Nat → Mem
  | 0 => M
  | q + 1 => mM (jmM M t q) (M.1 147 (jdD t q)).toNatClampNeg (M.1 148 (jdD t q)).toNatClampNeg (jdP t q) (jdD t q)
theorem jm_o {M : Mem} {t : Int32} {a j : Nat} (h : a ≠ 141 ∧ a ≠ 146 ∧ a ≠ 151 ∧ a ≠ 152) : ∀ {q : Nat}, (jmM M t q).1 a j = M.1 a j
  | 0 => rfl
  | q + 1 => (mM_140 h).trans (jm_o h)
theorem jm_st {M : Mem} {t : Int32} {k : Nat} : ∀ {q : Nat}, (jmM M t q).1 151 k = 0 → M.1 151 k = 0 ∧ (jmM M t q).1 152 k = M.1 152 k
  | 0, h => ⟨h, rfl⟩
  | q + 1, h => by
    have hne : k ≠ jdD t q := fun e => by
      subst e
      rw [show (jmM M t (q + 1)).1 151 (jdD t q) = 1 from (sI_na (by omega)).trans sI_eq] at h
      exact absurd h (by decide)
    have e1 : (jmM M t (q + 1)).1 151 k = (jmM M t q).1 151 k := (sI_na (by omega)).trans ((sI_ne (fun z => hne z.2)).trans ((sI_na (by omega)).trans ((sI_na (by omega)).trans (sI_na (by omega)))))
    have e2 : (jmM M t (q + 1)).1 152 k = (jmM M t q).1 152 k := (sI_ne (fun z => hne z.2)).trans ((sI_na (by omega)).trans ((sI_na (by omega)).trans ((sI_na (by omega)).trans (sI_na (by omega)))))
    rw [e1] at h
    rw [e2]
    exact jm_st h
theorem MW.jm {M : Mem} {n m : Nat} {t : Int32} {q : Nat} (w : MW M n m) : MW (jmM M t q) n m := w.keep (jm_o (by omega)) (jm_o (by omega)) (fun _ _ => jm_o (by omega)) (fun _ _ => jm_o (by omega))
/-- they can be made -/
def jOK (M : Mem) (n m : Nat) (t : Int32) (q : Nat) : Prop := ∀ e, e < q → (jdD t e < m ∧ (jmM M t e).1 151 (jdD t e) = 0) ∧ jdP t e < n ∧ mayT (mv (jmM M t e)) n (jdD t e) (jdP t e) = true
theorem jm_mv {M : Mem} {n m : Nat} {t : Int32} {q : Nat} (w : MW M n m) (h : jdD t q < m) : mv (jmM M t (q + 1)) = mkT (mv (jmM M t q)) (jdP t q) (jdD t q) := by
  obtain ⟨o, g, ho, hg, hog, eo, eg⟩ := w.2.2.2.2 _ h
  have := w.2.1
  refine mv_mM ?_ ?_ ?_ ?_
  · rw [jm_o (by omega), eo, nI_clamp (by omega)]
  · rw [jm_o (by omega), eg, nI_clamp (by omega)]
  · rw [eo, nI_clamp (by omega)]; omega
  · rw [eg, nI_clamp (by omega)]; omega
def jBad (N0 q : Nat) : Int32 := if q = N0 then -2 else nI q
set_option maxRecDepth 100000 in
set_option maxHeartbeats 4000000 in
theorem l_judge {M : Mem} {n m : Nat} (w : MW M n m) (hk01 : ∀ i, i < n → M.1 143 i = 0 ∨ M.1 143 i = 1) (hs : sortOK (M.1 153 0)) {t : Int32} {N0 : Nat} (hN : N0 ≤ 4) {R : TT × Int32 × Int32 × Nat} {QQ : Nat → List (Option Value) → List Value → Mem → Prop} (K : R.2.2.2 ≤ N0 → jOK M n m t R.2.2.2 → ∀ a b c d, Reach cX11_judge RX11 11 4 QQ 141 [some (.ref 140), some (.int (nI N0)), some (.int t), some (.int R.2.1), some (.int R.2.2.1), some (.int (jBad N0 R.2.2.2)), some (.int (nI R.2.2.2)), a, b, c, d] [] (jmM M t R.2.2.2)) : ∀ (N : Nat) (q : Nat) (a : Int32) (b : Int32), (q ≤ N0) → (jOK M n m t q) → (jdR n m t (N0 - q) q (mv (jmM M t q)) a b = R) → N0 - q < N → Reach cX11_judge RX11 11 4 (QQ) 34 [some (.ref 140), some (.int (nI N0)), some (.int t), some (.int a), some (.int b), some (.int (-2)), some (.int (nI q)), some (.int (nI q)), none, none, none] [] (jmM M t q) := by
  intro N
  induction N with
  | zero => intro q a b hq hok he hm; exact absurd ‹_ < 0› (Nat.not_lt_zero _)
  | succ N ih =>
    intro q a b hq hok he hm
    have ⟨hn, hn8, hm, hm10, hd⟩ := w
    refine rx_iload (i := 7) dX11_judge_34 rfl ?_
    refine rx_iload_n (i := 1) dX11_judge_36 rfl rfl ?_
    refine rx_icmp_ge (tgt := 141) dX11_judge_37 (by decide) (fun c37 => ?_) (fun c37 => ?_)
    · skip
      have f37 := Int32.not_lt.mpr c37
      have e37 : q = N0 := by have := (nI_leI (by omega) (by omega)).mp c37; omega
      subst e37
      rw [Nat.sub_self, jdR] at he
      subst he
      have h := K hq hok (some (.int (nI q))) none none none
      rw [show jBad q q = -2 from if_pos rfl] at h
      exact h
    · skip
      have f37 := Int32.not_le.mp c37
      have e37 : q < N0 := Nat.lt_of_not_le fun z => c37 (nI_le z (by omega))
      have ej := jd_eq (t := t) (q := q)
      refine rx_iload (i := 5) dX11_judge_40 rfl ?_
      refine rx_bipush (-2) dX11_judge_42 rfl ?_
      refine rx_icmp_ne (tgt := 141) dX11_judge_44 (by decide) (fun c44 => ?_) (fun c44 => ?_)
      · skip
        exact absurd rfl c44
      · skip
        refine rx_iload_n (i := 2) dX11_judge_47 rfl rfl ?_
        refine rx_bipush (8) dX11_judge_48 rfl ?_
        refine rx_iload (i := 7) dX11_judge_50 rfl ?_
        refine rx_imul dX11_judge_52 ?_
        refine rx_top (nI (8 * q)) (by rw [show (8 : Int32) = nI 8 from rfl, pk_mul]) ?_
        refine rx_ishr dX11_judge_53 ?_
        refine rx_sipush (255) dX11_judge_54 rfl ?_
        refine rx_iand dX11_judge_57 ?_
        refine rx_istore (i := 8) dX11_judge_58 (by decide) rfl rfl ?_
        refine rx_iload (i := 8) dX11_judge_60 rfl ?_
        refine rx_iconst (4) dX11_judge_62 rfl ?_
        refine rx_ishr dX11_judge_63 ?_
        refine rx_top (nI (jdD t q)) (ej.1) ?_
        refine rx_istore (i := 9) dX11_judge_64 (by decide) rfl rfl ?_
        refine rx_iload (i := 8) dX11_judge_66 rfl ?_
        refine rx_bipush (15) dX11_judge_68 rfl ?_
        refine rx_iand dX11_judge_70 ?_
        refine rx_top (nI (jdP t q)) (ej.2.1) ?_
        refine rx_istore (i := 10) dX11_judge_71 (by decide) rfl rfl ?_
        refine rx_aload_n (i := 0) dX11_judge_73 rfl rfl ?_
        refine rx_iload (i := 9) dX11_judge_74 rfl ?_
        refine rx_cvI (ci := 11) mo_X11_isOpen lk_X11_312 (c_X11_isOpen (w.jm (t := t) (q := q)).2.2.1 (by omega)) (by decide) rfl rfl (Nat.le_of_ble_eq_true rfl) kl_140 rfl dX11_judge_76 ?_
        refine rx_if_eq (tgt := 102) dX11_judge_79 (by decide) (fun c79 => ?_) (fun c79 => ?_)
        · skip
          rw [show jdR n m t (N0 - q) q (mv (jmM M t q)) a b = (mv (jmM M t q), a, b, q) from by rw [show N0 - q = (N0 - q - 1) + 1 by omega]; exact if_neg (fun z => ite1 c79 ⟨⟨nI_pos' (by omega), nI_lt z.1.1 (by omega)⟩, by rw [nI_clamp (by omega)]; exact z.1.2⟩)] at he
          subst he
          have e102 : True := trivial
          refine rx_iload (i := 7) dX11_judge_102 rfl ?_
          refine rx_istore (i := 5) dX11_judge_104 (by decide) rfl rfl ?_
          refine rx_goto (tgt := 135) dX11_judge_106 (by decide) ?_
          first | refine rx_iincN (i := 7) dX11_judge_135 rfl (by decide) rfl rfl ?_ | refine rx_iinc (i := 7) dX11_judge_135 rfl rfl (by decide) rfl rfl ?_
          refine rx_goto (tgt := 34) dX11_judge_138 (by decide) ?_
          refine rx_iload (i := 7) dX11_judge_34 rfl ?_
          refine rx_iload_n (i := 1) dX11_judge_36 rfl rfl ?_
          have hK := K (by omega) hok
          rw [show jBad N0 q = nI q from if_neg (by omega)] at hK
          refine rx_icmp_ge (tgt := 141) dX11_judge_37 (by decide) (fun _ => hK _ _ _ _) (fun _ => ?_)
          refine rx_iload (i := 5) dX11_judge_40 rfl ?_
          refine rx_bipush (-2) dX11_judge_42 rfl ?_
          refine rx_icmp_ne (tgt := 141) dX11_judge_44 (by decide) (fun _ => hK _ _ _ _) (fun z => absurd (show (0 : Int32) ≤ -2 by rw [← z]; exact nI_pos' (by omega)) (by decide))
        · skip
          have e79 := ite1n c79
          have h1 : jdD t q < m := (nI_ltI (by omega) (by omega)).mp e79.1.2
          have h2 : (jmM M t q).1 151 (jdD t q) = 0 := by have z := e79.2; rw [nI_clamp (by omega)] at z; exact z
          refine rx_aload_n (i := 0) dX11_judge_82 rfl rfl ?_
          refine rx_iload (i := 10) dX11_judge_83 rfl ?_
          refine rx_cvI (ci := 11) mo_X11_isOne lk_X11_244 (c_X11_isOne (w.jm (t := t) (q := q)).1 (by omega)) (by decide) rfl rfl (Nat.le_of_ble_eq_true rfl) kl_140 rfl dX11_judge_85 ?_
          refine rx_if_eq (tgt := 102) dX11_judge_88 (by decide) (fun c88 => ?_) (fun c88 => ?_)
          · skip
            rw [show jdR n m t (N0 - q) q (mv (jmM M t q)) a b = (mv (jmM M t q), a, b, q) from by rw [show N0 - q = (N0 - q - 1) + 1 by omega]; exact if_neg (fun z => ite1 c88 ⟨nI_pos' (by omega), nI_lt z.2.1 (by omega)⟩)] at he
            subst he
            refine rx_iload (i := 7) dX11_judge_102 rfl ?_
            refine rx_istore (i := 5) dX11_judge_104 (by decide) rfl rfl ?_
            refine rx_goto (tgt := 135) dX11_judge_106 (by decide) ?_
            first | refine rx_iincN (i := 7) dX11_judge_135 rfl (by decide) rfl rfl ?_ | refine rx_iinc (i := 7) dX11_judge_135 rfl rfl (by decide) rfl rfl ?_
            refine rx_goto (tgt := 34) dX11_judge_138 (by decide) ?_
            refine rx_iload (i := 7) dX11_judge_34 rfl ?_
            refine rx_iload_n (i := 1) dX11_judge_36 rfl rfl ?_
            have hK := K (by omega) hok
            rw [show jBad N0 q = nI q from if_neg (by omega)] at hK
            refine rx_icmp_ge (tgt := 141) dX11_judge_37 (by decide) (fun _ => hK _ _ _ _) (fun _ => ?_)
            refine rx_iload (i := 5) dX11_judge_40 rfl ?_
            refine rx_bipush (-2) dX11_judge_42 rfl ?_
            refine rx_icmp_ne (tgt := 141) dX11_judge_44 (by decide) (fun _ => hK _ _ _ _) (fun z => absurd (show (0 : Int32) ≤ -2 by rw [← z]; exact nI_pos' (by omega)) (by decide))
          · skip
            have e88 := ite1n c88
            have h3 : jdP t q < n := (nI_ltI (by omega) (by omega)).mp e88.2
            refine rx_aload_n (i := 0) dX11_judge_91 rfl rfl ?_
            refine rx_iload (i := 10) dX11_judge_92 rfl ?_
            refine rx_iload (i := 9) dX11_judge_94 rfl ?_
            refine rx_cvI (ci := 11) mo_X11_may lk_X11_285 (c_X11_may (M := jmM M t q) (i := jdP t q) (k := jdD t q) w.jm (show sortOK ((jmM M t q).1 153 0) from by rw [jm_o (by omega)]; exact hs) (by omega) (by omega)) (by decide) rfl rfl (Nat.le_of_ble_eq_true rfl) kl_140 rfl dX11_judge_96 ?_
            refine rx_if_ne (tgt := 109) dX11_judge_99 (by decide) (fun c99 => ?_) (fun c99 => ?_)
            · skip
              have h4 := zI_n c99
              obtain ⟨o, g, ho, hg, hog, eo, eg⟩ := hd _ h1
              have hoc : nI o = nI (M.1 147 (jdD t q)).toNatClampNeg := by rw [eo, nI_clamp (by omega)]
              have hgc : nI g = nI (M.1 148 (jdD t q)).toNatClampNeg := by rw [eg, nI_clamp (by omega)]
              have hoo : (M.1 147 (jdD t q)).toNatClampNeg < 8 := by rw [eo, nI_clamp (by omega)]; omega
              have hgg : (M.1 148 (jdD t q)).toNatClampNeg < 8 := by rw [eg, nI_clamp (by omega)]; omega
              refine rx_iload_n (i := 3) dX11_judge_109 rfl rfl ?_
              refine rx_aload_n (i := 0) dX11_judge_110 rfl rfl ?_
              refine rx_iload (i := 10) dX11_judge_111 rfl ?_
              refine rx_iload (i := 9) dX11_judge_113 rfl ?_
              refine rx_cvI (ci := 11) mo_X11_make lk_X11_304 (c_X11_make (M := jmM M t q) (i := jdP t q) (k := jdD t q) (o := (M.1 147 (jdD t q)).toNatClampNeg) (g := (M.1 148 (jdD t q)).toNatClampNeg) (by omega) (by omega) (by rw [jm_o (by omega)]; exact hk01 _ h3) (by omega) (by omega) ((jm_o (by omega)).trans (eo.trans hoc)) ((jm_o (by omega)).trans (eg.trans hgc))) (by decide) rfl rfl (Nat.le_of_ble_eq_true rfl) kl_140 rfl dX11_judge_115 ?_
              refine rx_iadd dX11_judge_118 ?_
              refine rx_istore_n (i := 3) dX11_judge_119 rfl (by decide) rfl rfl ?_
              refine rx_iload (i := 4) dX11_judge_120 rfl ?_
              refine rx_aload_n (i := 0) dX11_judge_122 rfl rfl ?_
              refine rx_getR 149 (k := 10) fo_X11_35 kl_140 (by decide) ti_11_10 (by decide) rfl dX11_judge_123 ?_
              refine rx_iload (i := 9) dX11_judge_126 rfl ?_
              refine rx_ialdN kl_149 (by omega) (by first | decide | omega) dX11_judge_128 ?_
              refine rx_top (M.1 149 (jdD t q)) ((mM_140 (by omega)).trans (jm_o (by omega))) ?_
              refine rx_iadd dX11_judge_129 ?_
              refine rx_istore (i := 4) dX11_judge_130 (by decide) rfl rfl ?_
              first | refine rx_iincN (i := 6) dX11_judge_132 rfl (by decide) rfl rfl ?_ | refine rx_iinc (i := 6) dX11_judge_132 rfl rfl (by decide) rfl rfl ?_
              first | refine rx_iincN (i := 7) dX11_judge_135 rfl (by decide) rfl rfl ?_ | refine rx_iinc (i := 7) dX11_judge_135 rfl rfl (by decide) rfl rfl ?_
              refine rx_goto (tgt := 34) dX11_judge_138 (by decide) ?_
              refine rx_drop 8 ?_
              refine rx_drop 9 ?_
              refine rx_drop 10 ?_
              rw [show N0 - q = (N0 - q - 1) + 1 by omega, show jdR n m t (N0 - q - 1 + 1) q (mv (jmM M t q)) a b = jdR n m t (N0 - q - 1) (q + 1) (mkT (mv (jmM M t q)) (jdP t q) (jdD t q)) (a + prT (mv (jmM M t q)) (jdP t q) (jdD t q)) (b + mv (jmM M t q) 8 (jdD t q)) from if_pos ⟨⟨h1, h2⟩, h3, h4⟩, ← jm_mv w h1, show mv (jmM M t q) 8 (jdD t q) = M.1 149 (jdD t q) from jm_o (by omega), show N0 - q - 1 = N0 - (q + 1) by omega] at he
              exact ih (q + 1) _ _ (by omega) (fun e z => if e2 : e = q then e2 ▸ ⟨⟨h1, h2⟩, h3, h4⟩ else hok e (by omega)) he (by omega)
            · skip
              have h4n := zI_0.mp c99
              rw [show jdR n m t (N0 - q) q (mv (jmM M t q)) a b = (mv (jmM M t q), a, b, q) from by rw [show N0 - q = (N0 - q - 1) + 1 by omega]; exact if_neg (fun z => by rw [h4n] at z; exact absurd z.2.2 (by decide))] at he
              subst he
              refine rx_iload (i := 7) dX11_judge_102 rfl ?_
              refine rx_istore (i := 5) dX11_judge_104 (by decide) rfl rfl ?_
              refine rx_goto (tgt := 135) dX11_judge_106 (by decide) ?_
              first | refine rx_iincN (i := 7) dX11_judge_135 rfl (by decide) rfl rfl ?_ | refine rx_iinc (i := 7) dX11_judge_135 rfl rfl (by decide) rfl rfl ?_
              refine rx_goto (tgt := 34) dX11_judge_138 (by decide) ?_
              refine rx_iload (i := 7) dX11_judge_34 rfl ?_
              refine rx_iload_n (i := 1) dX11_judge_36 rfl rfl ?_
              have hK := K (by omega) hok
              rw [show jBad N0 q = nI q from if_neg (by omega)] at hK
              refine rx_icmp_ge (tgt := 141) dX11_judge_37 (by decide) (fun _ => hK _ _ _ _) (fun _ => ?_)
              refine rx_iload (i := 5) dX11_judge_40 rfl ?_
              refine rx_bipush (-2) dX11_judge_42 rfl ?_
              refine rx_icmp_ne (tgt := 141) dX11_judge_44 (by decide) (fun _ => hK _ _ _ _) (fun z => absurd (show (0 : Int32) ≤ -2 by rw [← z]; exact nI_pos' (by omega)) (by decide))
set_option maxRecDepth 100000 in
set_option maxHeartbeats 4000000 in
theorem l_judge2 {M : Mem} {n m : Nat} (w : MW M n m) (hk01 : ∀ i, i < n → M.1 143 i = 0 ∨ M.1 143 i = 1) (hs : sortOK (M.1 153 0)) {t : Int32} {N0 : Nat} (hN : N0 ≤ 4) (hop : ∀ k, k < m → M.1 151 k = 0 → M.1 152 k = -1) {a b x : Int32} {qq : Nat} {QQ : Nat → List (Option Value) → List Value → Mem → Prop} (K : ∀ c, Reach cX11_judge RX11 11 4 QQ 175 [some (.ref 140), some (.int (nI N0)), some (.int t), some (.int a), some (.int b), some (.int x), some (.int (nI qq)), c, none, none, none] [] M) (hqq : qq ≤ 4) (hok : jOK M n m t qq) : ∀ (N : Nat) (q : Nat), (q ≤ qq) → q < N → Reach cX11_judge RX11 11 4 (QQ) 147 [some (.ref 140), some (.int (nI N0)), some (.int t), some (.int a), some (.int b), some (.int x), some (.int (nI qq)), some (.int (nI q - 1)), none, none, none] [] (jmM M t q) := by
  intro N
  induction N with
  | zero => intro q hq hm; exact absurd ‹_ < 0› (Nat.not_lt_zero _)
  | succ N ih =>
    intro q hq hm
    have ⟨hn, hn8, hm, hm10, hd⟩ := w
    refine rx_iload (i := 7) dX11_judge_147 rfl ?_
    rcases q with - | q
    · skip
      refine rx_if_lt (tgt := 175) dX11_judge_149 (by decide) (fun c149 => ?_) (fun c149 => absurd (show (nI 0 - 1 : Int32) < 0 by decide) c149)
      exact K _
    · skip
      have ejj := jd_eq (t := t) (q := q)
      obtain ⟨⟨h1, h2⟩, h3, h4⟩ := hok q (by omega)
      obtain ⟨o, g, ho, hg, hog, eo, eg⟩ := hd _ h1
      have hst := jm_st h2
      refine rx_top (nI q) (by rw [show (1 : Int32) = nI 1 from rfl, pk_sub (by omega), Nat.add_sub_cancel]) ?_
      refine rx_if_lt (tgt := 175) dX11_judge_149 (by decide) (fun c149 => absurd c149 (nI_pos (by omega))) (fun c149 => ?_)
      refine rx_aload_n (i := 0) dX11_judge_152 rfl rfl ?_
      refine rx_iload_n (i := 2) dX11_judge_153 rfl rfl ?_
      refine rx_bipush (8) dX11_judge_154 rfl ?_
      refine rx_iload (i := 7) dX11_judge_156 rfl ?_
      refine rx_top (nI q) (by rw [show (1 : Int32) = nI 1 from rfl, pk_sub (by omega), Nat.add_sub_cancel]) ?_
      refine rx_imul dX11_judge_158 ?_
      refine rx_top (nI (8 * q)) (by rw [show (8 : Int32) = nI 8 from rfl, pk_mul]) ?_
      refine rx_ishr dX11_judge_159 ?_
      refine rx_sipush (255) dX11_judge_160 rfl ?_
      refine rx_iand dX11_judge_163 ?_
      refine rx_iconst (4) dX11_judge_164 rfl ?_
      refine rx_ishr dX11_judge_165 ?_
      refine rx_top (nI (jdD t q)) (ejj.1) ?_
      refine rx_cvN (ci := 11) mo_X11_unmake lk_X11_307 (c_X11_unmake (M := jmM M t (q + 1)) (i := jdP t q) (k := jdD t q) (o := (M.1 147 (jdD t q)).toNatClampNeg) (g := (M.1 148 (jdD t q)).toNatClampNeg) (by omega) (by omega) (by rw [jm_o (by omega)]; exact hk01 _ h3) (by rw [eo, nI_clamp (by omega)]; omega) (by rw [eg, nI_clamp (by omega)]; omega) (by rw [jm_o (by omega), eo, nI_clamp (by omega)]) (by rw [jm_o (by omega), eg, nI_clamp (by omega)]) sI_eq) (by decide) rfl rfl (Nat.le_of_ble_eq_true rfl) kl_140 rfl dX11_judge_166 ?_
      rw [show uM (jmM M t (q + 1)) (M.1 147 (jdD t q)).toNatClampNeg (M.1 148 (jdD t q)).toNatClampNeg (jdP t q) (jdD t q) = jmM M t q from uM_mM (fun z => (mayT_cnt h4).2.2 (by rw [z, show mv (jmM M t q) 7 (jdD t q) = M.1 148 (jdD t q) from jm_o (by omega), eg, nI_clamp (by omega)])) h2 (by rw [hst.2]; exact hop _ h1 hst.1)]
      refine rx_iinc (v := nI q - 1) (i := 7) dX11_judge_169 rfl (by rw [show (nI (q + 1) - 1 : Int32) = nI q from by rw [show (1 : Int32) = nI 1 from rfl, pk_sub (by omega), Nat.add_sub_cancel], Int32.sub_eq_add_neg]; rfl) (by decide) rfl rfl ?_
      refine rx_goto (tgt := 147) dX11_judge_172 (by decide) ?_
      exact ih q (by omega) (by omega)
set_option maxRecDepth 100000 in
set_option maxHeartbeats 4000000 in
theorem c_X11_judge {M : Mem} {n m : Nat} (w : MW M n m) (hk01 : ∀ i, i < n → M.1 143 i = 0 ∨ M.1 143 i = 1) (hs : sortOK (M.1 153 0)) {t : Int32} {N0 : Nat} (hN : N0 ≤ 4) (hop : ∀ k, k < m → M.1 151 k = 0 → M.1 152 k = -1) : Con yX11_judge cX11_judge 11 (some .int) 4 [.ref 140, .int (nI N0), .int t] M (fun v N => v = some (.int (jBad N0 (jdR n m t N0 0 (mv M) 0 0).2.2.2)) ∧ frQ M N ∧ row2 N (jdR n m t N0 0 (mv M) 0 0).2.1.toInt64 (jdR n m t N0 0 (mv M) 0 0).2.2.1.toInt64) := by
  refine Con.of (own := RX11) (ls := [some (.ref 140), some (.int (nI N0)), some (.int t), none, none, none, none, none, none, none, none]) rfl (by decide +kernel) (Nat.le_of_ble_eq_true rfl) rfl ?_
  have w0 := w.t0
  have ⟨hn, hn8, hm, hm10, hd⟩ := w
  refine rx_aload_n (i := 0) dX11_judge_0 rfl rfl ?_
  refine rx_iconst (0) dX11_judge_1 rfl ?_
  refine rx_putI (k := 21) fo_X11_126 fn_11_21 kl_140 (by decide) ty_11_21 dX11_judge_2 ?_
  refine rx_iload_n (i := 1) dX11_judge_5 rfl rfl ?_
  refine rx_i2l dX11_judge_6 rfl ?_
  refine rx_lconst (0) dX11_judge_7 rfl ?_
  refine rx_ldc2 (own := RX11) (v := (4)) (List.mem_of_getElem? (i := 1793) (by decide +kernel)) dX11_judge_8 ?_
  refine rx_csI mo_X11_in lk_X11_135 (c_X11_in (a := (nI N0).toInt64) (b := 0) (c := 4)) (by decide) rfl rfl (Nat.le_of_ble_eq_true rfl) dX11_judge_11 ?_
  refine rx_top (1) (if_pos ⟨l_0.mpr (nI_pos' (by omega)), l_4.mpr (nI_le (b := 4) (by omega) (by omega))⟩) ?_
  refine rx_if_ne (tgt := 19) dX11_judge_14 (by decide) (fun c14 => ?_) (fun c14 => absurd c14 (by decide))
  refine rx_iconst (0) dX11_judge_19 rfl ?_
  refine rx_istore_n (i := 3) dX11_judge_20 rfl (by decide) rfl rfl ?_
  refine rx_iconst (0) dX11_judge_21 rfl ?_
  refine rx_istore (i := 4) dX11_judge_22 (by decide) rfl rfl ?_
  refine rx_bipush (-2) dX11_judge_24 rfl ?_
  refine rx_istore (i := 5) dX11_judge_26 (by decide) rfl rfl ?_
  refine rx_iconst (0) dX11_judge_28 rfl ?_
  refine rx_istore (i := 6) dX11_judge_29 (by decide) rfl rfl ?_
  refine rx_iconst (0) dX11_judge_31 rfl ?_
  refine rx_istore (i := 7) dX11_judge_32 (by decide) rfl rfl ?_
  refine l_judge w0 (fun i hi => hk01 i hi) (show sortOK ((t0 M).1 153 0) from hs) hN (R := jdR n m t N0 0 (mv M) 0 0) (fun hR1 hR2 a b c d => ?_) (N0 + 1) 0 0 0 (Nat.zero_le _) (fun e z => absurd z (Nat.not_lt_zero _)) (by rw [Nat.sub_zero, show mv (jmM (t0 M) t 0) = mv M from t0_mv]) (by omega)
  refine rx_drop 8 ?_
  refine rx_drop 9 ?_
  refine rx_drop 10 ?_
  refine rx_iload (i := 6) dX11_judge_141 rfl ?_
  refine rx_iconst (1) dX11_judge_143 rfl ?_
  refine rx_isub dX11_judge_144 ?_
  refine rx_istore (i := 7) dX11_judge_145 (by decide) rfl rfl ?_
  refine l_judge2 w0 (fun i hi => hk01 i hi) (show sortOK ((t0 M).1 153 0) from hs) hN (fun k hk h => hop k hk h) (fun c => ?_) (by omega) hR2 5 (jdR n m t N0 0 (mv M) 0 0).2.2.2 (Nat.le_refl _) (by omega)
  refine rx_aload_n (i := 0) dX11_judge_175 rfl rfl ?_
  refine rx_iconst (0) dX11_judge_176 rfl ?_
  refine rx_putI (k := 20) fo_X11_129 fn_11_20 kl_140 (by decide) ty_11_20 dX11_judge_177 ?_
  refine rx_aload_n (i := 0) dX11_judge_180 rfl rfl ?_
  refine rx_iload_n (i := 3) dX11_judge_181 rfl rfl ?_
  refine rx_i2l dX11_judge_182 rfl ?_
  refine rx_cvN (ci := 11) mo_X11_tell lk_X11_294 (c_X11_tell (s := 0) sI_eq (by omega)) (by decide) rfl rfl (Nat.le_of_ble_eq_true rfl) kl_140 rfl dX11_judge_183 ?_
  refine rx_aload_n (i := 0) dX11_judge_186 rfl rfl ?_
  refine rx_iload (i := 4) dX11_judge_187 rfl ?_
  refine rx_i2l dX11_judge_189 rfl ?_
  refine rx_cvN (ci := 11) mo_X11_tell lk_X11_294 (c_X11_tell (s := 1) mt_20 (by omega)) (by decide) rfl rfl (Nat.le_of_ble_eq_true rfl) kl_140 rfl dX11_judge_190 ?_
  refine rx_iload (i := 5) dX11_judge_193 rfl ?_
  exact rx_iret dX11_judge_195 ⟨rfl, frQ_t0.trans ((frQ_I (by omega)).trans (frQ_mt.trans frQ_mt)), mt_row2⟩
set_option maxRecDepth 100000 in
set_option maxHeartbeats 4000000 in
theorem c_X11_judge_no {M : Mem} {y t : Int32} (hx : ¬ (0 ≤ y ∧ y ≤ 4)) : Fun yX11_judge cX11_judge 11 (some .int) 4 [.ref 140, .int y, .int t] M (some (.int (-1))) (t0 M) := by
  refine Fun.of (own := RX11) ([some (.ref 140), some (.int y), some (.int t), none, none, none, none, none, none, none, none]) rfl (by decide +kernel) (Nat.le_of_ble_eq_true rfl) rfl ?_
  refine rx_aload_n (i := 0) dX11_judge_0 rfl rfl ?_
  refine rx_iconst (0) dX11_judge_1 rfl ?_
  refine rx_putI (k := 21) fo_X11_126 fn_11_21 kl_140 (by decide) ty_11_21 dX11_judge_2 ?_
  refine rx_iload_n (i := 1) dX11_judge_5 rfl rfl ?_
  refine rx_i2l dX11_judge_6 rfl ?_
  refine rx_lconst (0) dX11_judge_7 rfl ?_
  refine rx_ldc2 (own := RX11) (v := (4)) (List.mem_of_getElem? (i := 1793) (by decide +kernel)) dX11_judge_8 ?_
  refine rx_csI mo_X11_in lk_X11_135 (c_X11_in (a := y.toInt64) (b := 0) (c := 4)) (by decide) rfl rfl (Nat.le_of_ble_eq_true rfl) dX11_judge_11 ?_
  refine rx_if_ne (tgt := 19) dX11_judge_14 (by decide) (fun c14 => ?_) (fun c14 => ?_)
  · skip
    exact absurd ⟨l_0.mp (ite1n c14).1, l_4.mp (ite1n c14).2⟩ hx
    skip
  · skip
    refine rx_iconst (-1) dX11_judge_17 rfl ?_
    exact rx_fiI dX11_judge_18 rfl rfl
