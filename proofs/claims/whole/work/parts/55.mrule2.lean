set_option maxRecDepth 100000 in
set_option maxHeartbeats 4000000 in
theorem c_X11_held {M : Mem} {a L tp : Nat} (r : RM M a L tp) {lv : Int32 → Int32} {f deep : Nat} {th : PF → PR} (hmo : monP (min L tp) th) (hl40 : min L tp ≤ 40) (hth : ∀ s, pOK (min L tp) s → min L tp - s.1 < f → Con yX11_sum cX11_sum 5 (some .int) (4 * f + 6) [.ref 140, .int (nI deep)] (rdm M s) (fun v N => ∃ x, v = some (.int x) ∧ N = rdm M (th s).2 ∧ evOK lv x (th s))) {s : PF} (hs : pOK (min L tp) s) (hfs : min L tp - s.1 < f) : Con yX11_held cX11_held 3 (some .int) (4 * f + 7) [.ref 140, .int (nI deep)] (rdm M s) (fun v N => ∃ x, v = some (.int x) ∧ N = rdm M (heP (M.1 a) (min L tp) th s).2 ∧ evOK lv x (heP (M.1 a) (min L tp) th s)) := by
  refine Con.of (own := RX11) (ls := [some (.ref 140), some (.int (nI deep)), none]) rfl (by decide +kernel) (Nat.le_of_ble_eq_true rfl) rfl ?_
  refine rx_aload_n (i := 0) dX11_held_0 rfl rfl ?_
  refine rx_iload_n (i := 1) dX11_held_1 rfl rfl ?_
  refine rx_callV (ci := 11) mo_X11_sum lk_X11_209 (hth s hs hfs) (by omega) rfl rfl (Nat.le_of_ble_eq_true rfl) kl_140 rfl dX11_held_2 ?_
  rintro _ _ ⟨v, rfl, rfl, hv⟩
  have hr := (hmo s hs).2
  have hm2 : s.1 ≤ (th s).2.1 := (hmo s hs).1
  refine rx_istore_n (i := 2) dX11_held_5 rfl (by decide) rfl rfl ?_
  refine rx_aload_n (i := 0) dX11_held_6 rfl rfl ?_
  refine rx_bipush (60) dX11_held_7 rfl ?_
  refine rx_cvI (ci := 11) mo_X11_passes lk_X11_172 (c_X11_passes (s := (th s).2) r hr (c := 60)) (by omega) rfl rfl (Nat.le_of_ble_eq_true rfl) kl_140 rfl dX11_held_9 ?_
  refine rx_if_eq (tgt := 30) dX11_held_12 (by decide) (fun c12 => ?_) (fun c12 => ?_)
  · skip
    have e12 := zI_0.mp c12
    have n12 := (passP_f e12).1
    rw [(passP_f e12).2]
    refine rx_aload_n (i := 0) dX11_held_30 rfl rfl ?_
    refine rx_bipush (62) dX11_held_31 rfl ?_
    refine rx_cvI (ci := 11) mo_X11_passes lk_X11_172 (c_X11_passes (s := (th s).2) r hr (c := 62)) (by omega) rfl rfl (Nat.le_of_ble_eq_true rfl) kl_140 rfl dX11_held_33 ?_
    refine rx_if_eq (tgt := 54) dX11_held_36 (by decide) (fun c36 => ?_) (fun c36 => ?_)
    · skip
      have e36 := zI_0.mp c36
      have n36 := (passP_f e36).1
      rw [(passP_f e36).2]
      refine rx_aload_n (i := 0) dX11_held_54 rfl rfl ?_
      refine rx_bipush (61) dX11_held_55 rfl ?_
      refine rx_cvI (ci := 11) mo_X11_passes lk_X11_172 (c_X11_passes (s := (th s).2) r hr (c := 61)) (by omega) rfl rfl (Nat.le_of_ble_eq_true rfl) kl_140 rfl dX11_held_57 ?_
      refine rx_if_eq (tgt := 78) dX11_held_60 (by decide) (fun c60 => ?_) (fun c60 => ?_)
      · skip
        have e60 := zI_0.mp c60
        have n60 := (passP_f e60).1
        rw [(passP_f e60).2]
        refine rx_iload_n (i := 2) dX11_held_78 rfl rfl ?_
        exact rx_iret dX11_held_79 ⟨v, rfl, by rw [show heP (M.1 a) (min L tp) th s = th s from by simp only [heP]; rw [if_neg n12, if_neg n36, if_neg n60]], by rw [show heP (M.1 a) (min L tp) th s = th s from by simp only [heP]; rw [if_neg n12, if_neg n36, if_neg n60]]; exact hv⟩
      · skip
        have e60 := passP_t (zI_n c60)
        rw [e60.2]
        have hpk : pOK (min L tp) ((th s).2.1 + 1, none) := ⟨kc_lt e60.1.2 (by decide), fun _ e => by cases e⟩
        have eR : heP (M.1 a) (min L tp) th s = ((th s).1 ++ (th ((th s).2.1 + 1, none)).1 ++ [2002], (th ((th s).2.1 + 1, none)).2) := by
          simp only [heP]
          rw [if_neg n12, if_neg n36, if_pos e60.1]
        refine rx_iload_n (i := 2) dX11_held_63 rfl rfl ?_
        refine rx_aload_n (i := 0) dX11_held_64 rfl rfl ?_
        refine rx_iload_n (i := 1) dX11_held_65 rfl rfl ?_
        refine rx_callV (ci := 11) mo_X11_sum lk_X11_209 (hth ((th s).2.1 + 1, none) hpk (by show min L tp - ((th s).2.1 + 1) < f; omega)) (by omega) rfl rfl (Nat.le_of_ble_eq_true rfl) kl_140 rfl dX11_held_66 ?_
        rintro _ _ ⟨o, rfl, rfl, ho⟩
        refine rx_icmp_ne (tgt := 76) dX11_held_69 (by decide) (fun c69 => ?_) (fun c69 => ?_)
        · skip
          have ex : ¬ v = o := c69
          refine rx_iconst (0) dX11_held_76 rfl ?_
          exact rx_iret dX11_held_77 ⟨_, rfl, by rw [eR], by rw [eR, show (0 : Int32) = dnF (2002 - 2000) v o from by rw [dn2]; exact (if_neg ex).symm]; exact evOK_2 (hv e60.1.1) ho (by decide)⟩
        · skip
          have ex : v = o := c69
          refine rx_iconst (1) dX11_held_72 rfl ?_
          refine rx_goto (tgt := 77) dX11_held_73 (by decide) ?_
          exact rx_iret dX11_held_77 ⟨_, rfl, by rw [eR], by rw [eR, show (1 : Int32) = dnF (2002 - 2000) v o from by rw [dn2]; exact (if_pos ex).symm]; exact evOK_2 (hv e60.1.1) ho (by decide)⟩
    · skip
      have e36 := passP_t (zI_n c36)
      rw [e36.2]
      have hpk : pOK (min L tp) ((th s).2.1 + 1, none) := ⟨kc_lt e36.1.2 (by decide), fun _ e => by cases e⟩
      have eR : heP (M.1 a) (min L tp) th s = ((th s).1 ++ (th ((th s).2.1 + 1, none)).1 ++ [2001], (th ((th s).2.1 + 1, none)).2) := by
        simp only [heP]
        rw [if_neg n12, if_pos e36.1]
      refine rx_iload_n (i := 2) dX11_held_39 rfl rfl ?_
      refine rx_aload_n (i := 0) dX11_held_40 rfl rfl ?_
      refine rx_iload_n (i := 1) dX11_held_41 rfl rfl ?_
      refine rx_callV (ci := 11) mo_X11_sum lk_X11_209 (hth ((th s).2.1 + 1, none) hpk (by show min L tp - ((th s).2.1 + 1) < f; omega)) (by omega) rfl rfl (Nat.le_of_ble_eq_true rfl) kl_140 rfl dX11_held_42 ?_
      rintro _ _ ⟨o, rfl, rfl, ho⟩
      refine rx_icmp_le (tgt := 52) dX11_held_45 (by decide) (fun c45 => ?_) (fun c45 => ?_)
      · skip
        have ex : ¬ o < v := Int32.not_lt.mpr c45
        refine rx_iconst (0) dX11_held_52 rfl ?_
        exact rx_iret dX11_held_53 ⟨_, rfl, by rw [eR], by rw [eR, show (0 : Int32) = dnF (2001 - 2000) v o from by rw [dn1]; exact (if_neg ex).symm]; exact evOK_2 (hv e36.1.1) ho (by decide)⟩
      · skip
        have ex : o < v := Int32.not_le.mp c45
        refine rx_iconst (1) dX11_held_48 rfl ?_
        refine rx_goto (tgt := 53) dX11_held_49 (by decide) ?_
        exact rx_iret dX11_held_53 ⟨_, rfl, by rw [eR], by rw [eR, show (1 : Int32) = dnF (2001 - 2000) v o from by rw [dn1]; exact (if_pos ex).symm]; exact evOK_2 (hv e36.1.1) ho (by decide)⟩
  · skip
    have e12 := passP_t (zI_n c12)
    rw [e12.2]
    have hpk : pOK (min L tp) ((th s).2.1 + 1, none) := ⟨kc_lt e12.1.2 (by decide), fun _ e => by cases e⟩
    have eR : heP (M.1 a) (min L tp) th s = ((th s).1 ++ (th ((th s).2.1 + 1, none)).1 ++ [2000], (th ((th s).2.1 + 1, none)).2) := by
      simp only [heP]
      rw [if_pos e12.1]
    refine rx_iload_n (i := 2) dX11_held_15 rfl rfl ?_
    refine rx_aload_n (i := 0) dX11_held_16 rfl rfl ?_
    refine rx_iload_n (i := 1) dX11_held_17 rfl rfl ?_
    refine rx_callV (ci := 11) mo_X11_sum lk_X11_209 (hth ((th s).2.1 + 1, none) hpk (by show min L tp - ((th s).2.1 + 1) < f; omega)) (by omega) rfl rfl (Nat.le_of_ble_eq_true rfl) kl_140 rfl dX11_held_18 ?_
    rintro _ _ ⟨o, rfl, rfl, ho⟩
    refine rx_icmp_ge (tgt := 28) dX11_held_21 (by decide) (fun c21 => ?_) (fun c21 => ?_)
    · skip
      have ex : ¬ v < o := Int32.not_lt.mpr c21
      refine rx_iconst (0) dX11_held_28 rfl ?_
      exact rx_iret dX11_held_29 ⟨_, rfl, by rw [eR], by rw [eR, show (0 : Int32) = dnF (2000 - 2000) v o from by rw [dn0]; exact (if_neg ex).symm]; exact evOK_2 (hv e12.1.1) ho (by decide)⟩
    · skip
      have ex : v < o := Int32.not_le.mp c21
      refine rx_iconst (1) dX11_held_24 rfl ?_
      refine rx_goto (tgt := 29) dX11_held_25 (by decide) ?_
      exact rx_iret dX11_held_29 ⟨_, rfl, by rw [eR], by rw [eR, show (1 : Int32) = dnF (2000 - 2000) v o from by rw [dn0]; exact (if_pos ex).symm]; exact evOK_2 (hv e12.1.1) ho (by decide)⟩
/-- what letters are worth -/
def lvOK (M : Mem) (n m : Nat) (lv : Int32 → Int32) : Prop := (M.1 140 29 = -1 ∧ ∀ x, lv x = 0) ∨ ∃ i k, i < n ∧ k < m ∧ (M.1 143 i = 0 ∨ M.1 143 i = 1) ∧ M.1 140 29 = nI i ∧ M.1 140 30 = nI k ∧ lv = thT (mv M) n m i k
theorem mv_rdm {M : Mem} {s : PF} : mv (rdm M s) = mv M := by
  funext c j
  match c with
  | 0 | 1 | 2 | 3 | 4 | 6 | 7 | 8 | 9 | 10 | 11 | 12 | 13 | 14 | 15 | 16 | 17 | 18 | 19 => exact rdm_o (by omega)
  | 5 => rfl
  | c + 20 => rfl
theorem MW_rdm {M : Mem} {n m : Nat} {s : PF} (w : MW M n m) : MW (rdm M s) n m := w.keep (rdm_o (by omega)) (rdm_o (by omega)) (fun _ _ => rdm_o (by omega)) (fun _ _ => rdm_o (by omega))
theorem evS_lit {lv : Int32 → Int32} {stk : List Int32} {x : Int32} (h : x < 1000) : evS lv stk x = x :: stk := if_pos h
theorem evS_let : ∀ {lv : Int32 → Int32} {stk : List Int32} {q : Nat}, q < 8 → evS lv stk (1000 + nI q) = lv (nI q) :: stk := by
  intro lv stk q hq
  have e : ∀ q, q < 8 → ¬ (1000 + nI q < 1000) ∧ 1000 + nI q < 2000 ∧ 1000 + nI q - 1000 = nI q := by decide +kernel
  obtain ⟨e1, e2, e3⟩ := e q hq
  unfold evS
  rw [if_neg e1, if_pos e2, e3]
theorem evS_neg {lv : Int32 → Int32} {stk : List Int32} {x : Int32} : evS lv (x :: stk) 2007 = (-x) :: stk := by
  unfold evS
  rw [if_neg (by decide), if_neg (by decide), if_pos rfl]
theorem numP_le {S : Nat → Int32} {lim : Nat} {s : PF} (h : (numP S lim 3 0 999 s).2.2 = none) : (numP S lim 3 0 999 s).1 < 1000 := by
  obtain ⟨p, f⟩ := s
  cases f with
  | some w => cases h
  | none =>
    simp only [numP] at h ⊢
    split at h
    · cases h
    · next c =>
      rw [if_neg c]
      split at h
      · next c2 => rw [if_pos c2]; exact Int32.lt_of_le_of_lt c2.2 (by decide)
      · cases h
set_option maxRecDepth 100000 in
set_option maxHeartbeats 4000000 in
theorem l_thing67 {M : Mem} {a L tp : Nat} (r : RM M a L tp) {lv : Int32 → Int32} {n m : Nat} (w : MW M n m) (hlv : lvOK M n m lv) {f deep : Nat} (hl40 : min L tp ≤ 40) {s : PF} (hs : pOK (min L tp) s) (e20 : s.2 = none) {c : Int32} (hc : kc (M.1 a) (min L tp) s.1 = c) (ng : ¬ (s.2 = none ∧ kc (M.1 a) (min L tp) s.1 = 45)) (hnb : ¬ (kc (M.1 a) (min L tp) s.1 = 40 ∧ deep < 4)) : Reach cX11_thing RX11 4 (4 * f + 8) (RetQ cX11_thing (some .int) (fun v N => ∃ x, v = some (.int x) ∧ N = rdm M (thP (M.1 a) (min L tp) (f + 1) deep s).2 ∧ evOK lv x (thP (M.1 a) (min L tp) (f + 1) deep s))) 67 [some (.ref 140), some (.int (nI deep)), some (.int c), none] [] (rdm M s) := by
  refine rx_iload_n (i := 2) dX11_thing_67 rfl rfl ?_
  refine rx_i2l dX11_thing_68 rfl ?_
  refine rx_ldc2 (own := RX11) (v := (48)) (List.mem_of_getElem? (i := 1616) (by decide +kernel)) dX11_thing_69 ?_
  refine rx_ldc2 (own := RX11) (v := (57)) (List.mem_of_getElem? (i := 1617) (by decide +kernel)) dX11_thing_72 ?_
  refine rx_csI mo_X11_in lk_X11_135 c_X11_in (by omega) rfl rfl (Nat.le_of_ble_eq_true rfl) dX11_thing_75 ?_
  refine rx_if_eq (tgt := 91) dX11_thing_78 (by decide) (fun c78 => ?_) (fun c78 => ?_)
  · skip
    have e78 : ¬ dig c = true := fun z => ite1 c78 (by rw [l48, l57]; exact dig_iff.mp z)
    refine rx_iload_n (i := 2) dX11_thing_91 rfl rfl ?_
    refine rx_bipush (105) dX11_thing_92 rfl ?_
    refine rx_icmp_eq (tgt := 149) dX11_thing_94 (by decide) (fun c94 => ?_) (fun c94 => ?_)
    · skip
      subst c94
      have eR : thP (M.1 a) (min L tp) (f + 1) deep s = ([1000 + nI 0], (s.1 + 1, none)) := by
        simp only [thP]
        rw [if_neg ng, if_neg (fun q => q e20), if_neg hnb, if_neg (by rw [hc]; exact e78), hc, if_neg (by decide)]
        rfl
      have hlt : s.1 < min L tp := kc_lt hc (by decide)
      obtain ⟨p, fl⟩ := s
      simp only at e20
      subst e20
      refine rx_aload_n (i := 0) dX11_thing_149 rfl rfl ?_
      refine rx_dup dX11_thing_150 rfl ?_
      refine rx_getI (k := 25) fo_X11_158 kl_140 (by decide) ti_11_25 dX11_thing_151 ?_
      refine rx_top (nI p) rdm_25 ?_
      refine rx_iconst (1) dX11_thing_154 rfl ?_
      refine rx_iadd dX11_thing_155 ?_
      rw [nI_1]
      refine rx_putI (k := 25) fo_X11_158 fn_11_25 kl_140 (by decide) ty_11_25 dX11_thing_156 ?_
      rw [rdm_at]
      refine rx_aload_n (i := 0) dX11_thing_159 rfl rfl ?_
      refine rx_getI (k := 29) fo_X11_65 kl_140 (by decide) ti_11_29 dX11_thing_160 ?_
      refine rx_top (M.1 140 29) (rdm_o (by omega)) ?_
      rcases hlv with ⟨h29, hz⟩ | ⟨i, k, hi, hk, h01, h29, h30, rfl⟩
      · skip
        refine rx_iconst (-1) dX11_thing_163 rfl ?_
        refine rx_icmp_ne (tgt := 171) dX11_thing_164 (by decide) (fun c164 => absurd h29 c164) (fun c164 => ?_)
        refine rx_iconst (0) dX11_thing_167 rfl ?_
        refine rx_goto (tgt := 176) dX11_thing_168 (by decide) ?_
        exact rx_iret dX11_thing_176 ⟨_, rfl, by rw [eR], by rw [eR]; intro h stk; show evS _ stk (1000 + nI 0) = _; rw [evS_let (by decide)]; rw [hz]⟩
      · skip
        refine rx_iconst (-1) dX11_thing_163 rfl ?_
        refine rx_icmp_ne (tgt := 171) dX11_thing_164 (by decide) (fun c164 => ?_) (fun c164 => absurd (show (0 : Int32) ≤ -1 by rw [← c164, h29]; exact nI_pos' (by have := w.2.1; omega)) (by decide))
        refine rx_aload_n (i := 0) dX11_thing_171 rfl rfl ?_
        refine rx_iload_n (i := 2) dX11_thing_172 rfl rfl ?_
        refine rx_cvI (ci := 11) mo_X11_letter lk_X11_222 (c_X11_letter_105 (MW_rdm w) hi hk (by rw [rdm_o (by omega)]; exact h01) (by rw [rdm_o (by omega)]; exact h29) (by rw [rdm_o (by omega)]; exact h30)) (by omega) rfl rfl (Nat.le_of_ble_eq_true rfl) kl_140 rfl dX11_thing_173 ?_
        exact rx_iret dX11_thing_176 ⟨_, rfl, by rw [eR], by rw [eR]; intro h stk; show evS _ stk (1000 + nI 0) = _; rw [evS_let (by decide)]; rw [mv_rdm]; rfl⟩
    · skip
      refine rx_iload_n (i := 2) dX11_thing_97 rfl rfl ?_
      refine rx_bipush (99) dX11_thing_98 rfl ?_
      refine rx_icmp_eq (tgt := 149) dX11_thing_100 (by decide) (fun c100 => ?_) (fun c100 => ?_)
      · skip
        subst c100
        have eR : thP (M.1 a) (min L tp) (f + 1) deep s = ([1000 + nI 1], (s.1 + 1, none)) := by
          simp only [thP]
          rw [if_neg ng, if_neg (fun q => q e20), if_neg hnb, if_neg (by rw [hc]; exact e78), hc, if_neg (by decide)]
          rfl
        have hlt : s.1 < min L tp := kc_lt hc (by decide)
        obtain ⟨p, fl⟩ := s
        simp only at e20
        subst e20
        refine rx_aload_n (i := 0) dX11_thing_149 rfl rfl ?_
        refine rx_dup dX11_thing_150 rfl ?_
        refine rx_getI (k := 25) fo_X11_158 kl_140 (by decide) ti_11_25 dX11_thing_151 ?_
        refine rx_top (nI p) rdm_25 ?_
        refine rx_iconst (1) dX11_thing_154 rfl ?_
        refine rx_iadd dX11_thing_155 ?_
        rw [nI_1]
        refine rx_putI (k := 25) fo_X11_158 fn_11_25 kl_140 (by decide) ty_11_25 dX11_thing_156 ?_
        rw [rdm_at]
        refine rx_aload_n (i := 0) dX11_thing_159 rfl rfl ?_
        refine rx_getI (k := 29) fo_X11_65 kl_140 (by decide) ti_11_29 dX11_thing_160 ?_
        refine rx_top (M.1 140 29) (rdm_o (by omega)) ?_
        rcases hlv with ⟨h29, hz⟩ | ⟨i, k, hi, hk, h01, h29, h30, rfl⟩
        · skip
          refine rx_iconst (-1) dX11_thing_163 rfl ?_
          refine rx_icmp_ne (tgt := 171) dX11_thing_164 (by decide) (fun c164 => absurd h29 c164) (fun c164 => ?_)
          refine rx_iconst (0) dX11_thing_167 rfl ?_
          refine rx_goto (tgt := 176) dX11_thing_168 (by decide) ?_
          exact rx_iret dX11_thing_176 ⟨_, rfl, by rw [eR], by rw [eR]; intro h stk; show evS _ stk (1000 + nI 1) = _; rw [evS_let (by decide)]; rw [hz]⟩
        · skip
          refine rx_iconst (-1) dX11_thing_163 rfl ?_
          refine rx_icmp_ne (tgt := 171) dX11_thing_164 (by decide) (fun c164 => ?_) (fun c164 => absurd (show (0 : Int32) ≤ -1 by rw [← c164, h29]; exact nI_pos' (by have := w.2.1; omega)) (by decide))
          refine rx_aload_n (i := 0) dX11_thing_171 rfl rfl ?_
          refine rx_iload_n (i := 2) dX11_thing_172 rfl rfl ?_
          refine rx_cvI (ci := 11) mo_X11_letter lk_X11_222 (c_X11_letter_99 (MW_rdm w) hi hk (by rw [rdm_o (by omega)]; exact h01) (by rw [rdm_o (by omega)]; exact h29) (by rw [rdm_o (by omega)]; exact h30)) (by omega) rfl rfl (Nat.le_of_ble_eq_true rfl) kl_140 rfl dX11_thing_173 ?_
          exact rx_iret dX11_thing_176 ⟨_, rfl, by rw [eR], by rw [eR]; intro h stk; show evS _ stk (1000 + nI 1) = _; rw [evS_let (by decide)]; rw [mv_rdm]; rfl⟩
      · skip
        refine rx_iload_n (i := 2) dX11_thing_103 rfl rfl ?_
        refine rx_bipush (97) dX11_thing_104 rfl ?_
        refine rx_icmp_eq (tgt := 149) dX11_thing_106 (by decide) (fun c106 => ?_) (fun c106 => ?_)
        · skip
          subst c106
          have eR : thP (M.1 a) (min L tp) (f + 1) deep s = ([1000 + nI 2], (s.1 + 1, none)) := by
            simp only [thP]
            rw [if_neg ng, if_neg (fun q => q e20), if_neg hnb, if_neg (by rw [hc]; exact e78), hc, if_neg (by decide)]
            rfl
          have hlt : s.1 < min L tp := kc_lt hc (by decide)
          obtain ⟨p, fl⟩ := s
          simp only at e20
          subst e20
          refine rx_aload_n (i := 0) dX11_thing_149 rfl rfl ?_
          refine rx_dup dX11_thing_150 rfl ?_
          refine rx_getI (k := 25) fo_X11_158 kl_140 (by decide) ti_11_25 dX11_thing_151 ?_
          refine rx_top (nI p) rdm_25 ?_
          refine rx_iconst (1) dX11_thing_154 rfl ?_
          refine rx_iadd dX11_thing_155 ?_
          rw [nI_1]
          refine rx_putI (k := 25) fo_X11_158 fn_11_25 kl_140 (by decide) ty_11_25 dX11_thing_156 ?_
          rw [rdm_at]
          refine rx_aload_n (i := 0) dX11_thing_159 rfl rfl ?_
          refine rx_getI (k := 29) fo_X11_65 kl_140 (by decide) ti_11_29 dX11_thing_160 ?_
          refine rx_top (M.1 140 29) (rdm_o (by omega)) ?_
          rcases hlv with ⟨h29, hz⟩ | ⟨i, k, hi, hk, h01, h29, h30, rfl⟩
          · skip
            refine rx_iconst (-1) dX11_thing_163 rfl ?_
            refine rx_icmp_ne (tgt := 171) dX11_thing_164 (by decide) (fun c164 => absurd h29 c164) (fun c164 => ?_)
            refine rx_iconst (0) dX11_thing_167 rfl ?_
            refine rx_goto (tgt := 176) dX11_thing_168 (by decide) ?_
            exact rx_iret dX11_thing_176 ⟨_, rfl, by rw [eR], by rw [eR]; intro h stk; show evS _ stk (1000 + nI 2) = _; rw [evS_let (by decide)]; rw [hz]⟩
          · skip
            refine rx_iconst (-1) dX11_thing_163 rfl ?_
            refine rx_icmp_ne (tgt := 171) dX11_thing_164 (by decide) (fun c164 => ?_) (fun c164 => absurd (show (0 : Int32) ≤ -1 by rw [← c164, h29]; exact nI_pos' (by have := w.2.1; omega)) (by decide))
            refine rx_aload_n (i := 0) dX11_thing_171 rfl rfl ?_
            refine rx_iload_n (i := 2) dX11_thing_172 rfl rfl ?_
            refine rx_cvI (ci := 11) mo_X11_letter lk_X11_222 (c_X11_letter_97 (MW_rdm w) hi hk (by rw [rdm_o (by omega)]; exact h01) (by rw [rdm_o (by omega)]; exact h29) (by rw [rdm_o (by omega)]; exact h30)) (by omega) rfl rfl (Nat.le_of_ble_eq_true rfl) kl_140 rfl dX11_thing_173 ?_
            exact rx_iret dX11_thing_176 ⟨_, rfl, by rw [eR], by rw [eR]; intro h stk; show evS _ stk (1000 + nI 2) = _; rw [evS_let (by decide)]; rw [mv_rdm]; rfl⟩
        · skip
          refine rx_iload_n (i := 2) dX11_thing_109 rfl rfl ?_
          refine rx_bipush (115) dX11_thing_110 rfl ?_
          refine rx_icmp_eq (tgt := 149) dX11_thing_112 (by decide) (fun c112 => ?_) (fun c112 => ?_)
          · skip
            subst c112
            have eR : thP (M.1 a) (min L tp) (f + 1) deep s = ([1000 + nI 3], (s.1 + 1, none)) := by
              simp only [thP]
              rw [if_neg ng, if_neg (fun q => q e20), if_neg hnb, if_neg (by rw [hc]; exact e78), hc, if_neg (by decide)]
              rfl
            have hlt : s.1 < min L tp := kc_lt hc (by decide)
            obtain ⟨p, fl⟩ := s
            simp only at e20
            subst e20
            refine rx_aload_n (i := 0) dX11_thing_149 rfl rfl ?_
            refine rx_dup dX11_thing_150 rfl ?_
            refine rx_getI (k := 25) fo_X11_158 kl_140 (by decide) ti_11_25 dX11_thing_151 ?_
            refine rx_top (nI p) rdm_25 ?_
            refine rx_iconst (1) dX11_thing_154 rfl ?_
            refine rx_iadd dX11_thing_155 ?_
            rw [nI_1]
            refine rx_putI (k := 25) fo_X11_158 fn_11_25 kl_140 (by decide) ty_11_25 dX11_thing_156 ?_
            rw [rdm_at]
            refine rx_aload_n (i := 0) dX11_thing_159 rfl rfl ?_
            refine rx_getI (k := 29) fo_X11_65 kl_140 (by decide) ti_11_29 dX11_thing_160 ?_
            refine rx_top (M.1 140 29) (rdm_o (by omega)) ?_
            rcases hlv with ⟨h29, hz⟩ | ⟨i, k, hi, hk, h01, h29, h30, rfl⟩
            · skip
              refine rx_iconst (-1) dX11_thing_163 rfl ?_
              refine rx_icmp_ne (tgt := 171) dX11_thing_164 (by decide) (fun c164 => absurd h29 c164) (fun c164 => ?_)
              refine rx_iconst (0) dX11_thing_167 rfl ?_
              refine rx_goto (tgt := 176) dX11_thing_168 (by decide) ?_
              exact rx_iret dX11_thing_176 ⟨_, rfl, by rw [eR], by rw [eR]; intro h stk; show evS _ stk (1000 + nI 3) = _; rw [evS_let (by decide)]; rw [hz]⟩
            · skip
              refine rx_iconst (-1) dX11_thing_163 rfl ?_
              refine rx_icmp_ne (tgt := 171) dX11_thing_164 (by decide) (fun c164 => ?_) (fun c164 => absurd (show (0 : Int32) ≤ -1 by rw [← c164, h29]; exact nI_pos' (by have := w.2.1; omega)) (by decide))
              refine rx_aload_n (i := 0) dX11_thing_171 rfl rfl ?_
              refine rx_iload_n (i := 2) dX11_thing_172 rfl rfl ?_
              refine rx_cvI (ci := 11) mo_X11_letter lk_X11_222 (c_X11_letter_115 (MW_rdm w) hi hk (by rw [rdm_o (by omega)]; exact h01) (by rw [rdm_o (by omega)]; exact h29) (by rw [rdm_o (by omega)]; exact h30)) (by omega) rfl rfl (Nat.le_of_ble_eq_true rfl) kl_140 rfl dX11_thing_173 ?_
              exact rx_iret dX11_thing_176 ⟨_, rfl, by rw [eR], by rw [eR]; intro h stk; show evS _ stk (1000 + nI 3) = _; rw [evS_let (by decide)]; rw [mv_rdm]; rfl⟩
          · skip
            refine rx_iload_n (i := 2) dX11_thing_115 rfl rfl ?_
            refine rx_bipush (112) dX11_thing_116 rfl ?_
            refine rx_icmp_eq (tgt := 149) dX11_thing_118 (by decide) (fun c118 => ?_) (fun c118 => ?_)
            · skip
              subst c118
              have eR : thP (M.1 a) (min L tp) (f + 1) deep s = ([1000 + nI 4], (s.1 + 1, none)) := by
                simp only [thP]
                rw [if_neg ng, if_neg (fun q => q e20), if_neg hnb, if_neg (by rw [hc]; exact e78), hc, if_neg (by decide)]
                rfl
              have hlt : s.1 < min L tp := kc_lt hc (by decide)
              obtain ⟨p, fl⟩ := s
              simp only at e20
              subst e20
              refine rx_aload_n (i := 0) dX11_thing_149 rfl rfl ?_
              refine rx_dup dX11_thing_150 rfl ?_
              refine rx_getI (k := 25) fo_X11_158 kl_140 (by decide) ti_11_25 dX11_thing_151 ?_
              refine rx_top (nI p) rdm_25 ?_
              refine rx_iconst (1) dX11_thing_154 rfl ?_
              refine rx_iadd dX11_thing_155 ?_
              rw [nI_1]
              refine rx_putI (k := 25) fo_X11_158 fn_11_25 kl_140 (by decide) ty_11_25 dX11_thing_156 ?_
              rw [rdm_at]
              refine rx_aload_n (i := 0) dX11_thing_159 rfl rfl ?_
              refine rx_getI (k := 29) fo_X11_65 kl_140 (by decide) ti_11_29 dX11_thing_160 ?_
              refine rx_top (M.1 140 29) (rdm_o (by omega)) ?_
              rcases hlv with ⟨h29, hz⟩ | ⟨i, k, hi, hk, h01, h29, h30, rfl⟩
              · skip
                refine rx_iconst (-1) dX11_thing_163 rfl ?_
                refine rx_icmp_ne (tgt := 171) dX11_thing_164 (by decide) (fun c164 => absurd h29 c164) (fun c164 => ?_)
                refine rx_iconst (0) dX11_thing_167 rfl ?_
                refine rx_goto (tgt := 176) dX11_thing_168 (by decide) ?_
                exact rx_iret dX11_thing_176 ⟨_, rfl, by rw [eR], by rw [eR]; intro h stk; show evS _ stk (1000 + nI 4) = _; rw [evS_let (by decide)]; rw [hz]⟩
              · skip
                refine rx_iconst (-1) dX11_thing_163 rfl ?_
                refine rx_icmp_ne (tgt := 171) dX11_thing_164 (by decide) (fun c164 => ?_) (fun c164 => absurd (show (0 : Int32) ≤ -1 by rw [← c164, h29]; exact nI_pos' (by have := w.2.1; omega)) (by decide))
                refine rx_aload_n (i := 0) dX11_thing_171 rfl rfl ?_
                refine rx_iload_n (i := 2) dX11_thing_172 rfl rfl ?_
                refine rx_cvI (ci := 11) mo_X11_letter lk_X11_222 (c_X11_letter_112 (MW_rdm w) hi hk (by rw [rdm_o (by omega)]; exact h01) (by rw [rdm_o (by omega)]; exact h29) (by rw [rdm_o (by omega)]; exact h30)) (by omega) rfl rfl (Nat.le_of_ble_eq_true rfl) kl_140 rfl dX11_thing_173 ?_
                exact rx_iret dX11_thing_176 ⟨_, rfl, by rw [eR], by rw [eR]; intro h stk; show evS _ stk (1000 + nI 4) = _; rw [evS_let (by decide)]; rw [mv_rdm]; rfl⟩
            · skip
              refine rx_iload_n (i := 2) dX11_thing_121 rfl rfl ?_
              refine rx_bipush (102) dX11_thing_122 rfl ?_
              refine rx_icmp_eq (tgt := 149) dX11_thing_124 (by decide) (fun c124 => ?_) (fun c124 => ?_)
              · skip
                subst c124
                have eR : thP (M.1 a) (min L tp) (f + 1) deep s = ([1000 + nI 5], (s.1 + 1, none)) := by
                  simp only [thP]
                  rw [if_neg ng, if_neg (fun q => q e20), if_neg hnb, if_neg (by rw [hc]; exact e78), hc, if_neg (by decide)]
                  rfl
                have hlt : s.1 < min L tp := kc_lt hc (by decide)
                obtain ⟨p, fl⟩ := s
                simp only at e20
                subst e20
                refine rx_aload_n (i := 0) dX11_thing_149 rfl rfl ?_
                refine rx_dup dX11_thing_150 rfl ?_
                refine rx_getI (k := 25) fo_X11_158 kl_140 (by decide) ti_11_25 dX11_thing_151 ?_
                refine rx_top (nI p) rdm_25 ?_
                refine rx_iconst (1) dX11_thing_154 rfl ?_
                refine rx_iadd dX11_thing_155 ?_
                rw [nI_1]
                refine rx_putI (k := 25) fo_X11_158 fn_11_25 kl_140 (by decide) ty_11_25 dX11_thing_156 ?_
                rw [rdm_at]
                refine rx_aload_n (i := 0) dX11_thing_159 rfl rfl ?_
                refine rx_getI (k := 29) fo_X11_65 kl_140 (by decide) ti_11_29 dX11_thing_160 ?_
                refine rx_top (M.1 140 29) (rdm_o (by omega)) ?_
                rcases hlv with ⟨h29, hz⟩ | ⟨i, k, hi, hk, h01, h29, h30, rfl⟩
                · skip
                  refine rx_iconst (-1) dX11_thing_163 rfl ?_
                  refine rx_icmp_ne (tgt := 171) dX11_thing_164 (by decide) (fun c164 => absurd h29 c164) (fun c164 => ?_)
                  refine rx_iconst (0) dX11_thing_167 rfl ?_
                  refine rx_goto (tgt := 176) dX11_thing_168 (by decide) ?_
                  exact rx_iret dX11_thing_176 ⟨_, rfl, by rw [eR], by rw [eR]; intro h stk; show evS _ stk (1000 + nI 5) = _; rw [evS_let (by decide)]; rw [hz]⟩
                · skip
                  refine rx_iconst (-1) dX11_thing_163 rfl ?_
                  refine rx_icmp_ne (tgt := 171) dX11_thing_164 (by decide) (fun c164 => ?_) (fun c164 => absurd (show (0 : Int32) ≤ -1 by rw [← c164, h29]; exact nI_pos' (by have := w.2.1; omega)) (by decide))
                  refine rx_aload_n (i := 0) dX11_thing_171 rfl rfl ?_
                  refine rx_iload_n (i := 2) dX11_thing_172 rfl rfl ?_
                  refine rx_cvI (ci := 11) mo_X11_letter lk_X11_222 (c_X11_letter_102 (MW_rdm w) hi hk (by rw [rdm_o (by omega)]; exact h01) (by rw [rdm_o (by omega)]; exact h29) (by rw [rdm_o (by omega)]; exact h30)) (by omega) rfl rfl (Nat.le_of_ble_eq_true rfl) kl_140 rfl dX11_thing_173 ?_
                  exact rx_iret dX11_thing_176 ⟨_, rfl, by rw [eR], by rw [eR]; intro h stk; show evS _ stk (1000 + nI 5) = _; rw [evS_let (by decide)]; rw [mv_rdm]; rfl⟩
              · skip
                refine rx_iload_n (i := 2) dX11_thing_127 rfl rfl ?_
                refine rx_bipush (111) dX11_thing_128 rfl ?_
                refine rx_icmp_eq (tgt := 149) dX11_thing_130 (by decide) (fun c130 => ?_) (fun c130 => ?_)
                · skip
                  subst c130
                  have eR : thP (M.1 a) (min L tp) (f + 1) deep s = ([1000 + nI 6], (s.1 + 1, none)) := by
                    simp only [thP]
                    rw [if_neg ng, if_neg (fun q => q e20), if_neg hnb, if_neg (by rw [hc]; exact e78), hc, if_neg (by decide)]
                    rfl
                  have hlt : s.1 < min L tp := kc_lt hc (by decide)
                  obtain ⟨p, fl⟩ := s
                  simp only at e20
                  subst e20
                  refine rx_aload_n (i := 0) dX11_thing_149 rfl rfl ?_
                  refine rx_dup dX11_thing_150 rfl ?_
                  refine rx_getI (k := 25) fo_X11_158 kl_140 (by decide) ti_11_25 dX11_thing_151 ?_
                  refine rx_top (nI p) rdm_25 ?_
                  refine rx_iconst (1) dX11_thing_154 rfl ?_
                  refine rx_iadd dX11_thing_155 ?_
                  rw [nI_1]
                  refine rx_putI (k := 25) fo_X11_158 fn_11_25 kl_140 (by decide) ty_11_25 dX11_thing_156 ?_
                  rw [rdm_at]
                  refine rx_aload_n (i := 0) dX11_thing_159 rfl rfl ?_
                  refine rx_getI (k := 29) fo_X11_65 kl_140 (by decide) ti_11_29 dX11_thing_160 ?_
                  refine rx_top (M.1 140 29) (rdm_o (by omega)) ?_
                  rcases hlv with ⟨h29, hz⟩ | ⟨i, k, hi, hk, h01, h29, h30, rfl⟩
                  · skip
                    refine rx_iconst (-1) dX11_thing_163 rfl ?_
                    refine rx_icmp_ne (tgt := 171) dX11_thing_164 (by decide) (fun c164 => absurd h29 c164) (fun c164 => ?_)
                    refine rx_iconst (0) dX11_thing_167 rfl ?_
                    refine rx_goto (tgt := 176) dX11_thing_168 (by decide) ?_
                    exact rx_iret dX11_thing_176 ⟨_, rfl, by rw [eR], by rw [eR]; intro h stk; show evS _ stk (1000 + nI 6) = _; rw [evS_let (by decide)]; rw [hz]⟩
                  · skip
                    refine rx_iconst (-1) dX11_thing_163 rfl ?_
                    refine rx_icmp_ne (tgt := 171) dX11_thing_164 (by decide) (fun c164 => ?_) (fun c164 => absurd (show (0 : Int32) ≤ -1 by rw [← c164, h29]; exact nI_pos' (by have := w.2.1; omega)) (by decide))
                    refine rx_aload_n (i := 0) dX11_thing_171 rfl rfl ?_
                    refine rx_iload_n (i := 2) dX11_thing_172 rfl rfl ?_
                    refine rx_cvI (ci := 11) mo_X11_letter lk_X11_222 (c_X11_letter_111 (MW_rdm w) hi hk (by rw [rdm_o (by omega)]; exact h01) (by rw [rdm_o (by omega)]; exact h29) (by rw [rdm_o (by omega)]; exact h30)) (by omega) rfl rfl (Nat.le_of_ble_eq_true rfl) kl_140 rfl dX11_thing_173 ?_
                    exact rx_iret dX11_thing_176 ⟨_, rfl, by rw [eR], by rw [eR]; intro h stk; show evS _ stk (1000 + nI 6) = _; rw [evS_let (by decide)]; rw [mv_rdm]; rfl⟩
                · skip
                  refine rx_iload_n (i := 2) dX11_thing_133 rfl rfl ?_
                  refine rx_bipush (103) dX11_thing_134 rfl ?_
                  refine rx_icmp_eq (tgt := 149) dX11_thing_136 (by decide) (fun c136 => ?_) (fun c136 => ?_)
                  · skip
                    subst c136
                    have eR : thP (M.1 a) (min L tp) (f + 1) deep s = ([1000 + nI 7], (s.1 + 1, none)) := by
                      simp only [thP]
                      rw [if_neg ng, if_neg (fun q => q e20), if_neg hnb, if_neg (by rw [hc]; exact e78), hc, if_neg (by decide)]
                      rfl
                    have hlt : s.1 < min L tp := kc_lt hc (by decide)
                    obtain ⟨p, fl⟩ := s
                    simp only at e20
                    subst e20
                    refine rx_aload_n (i := 0) dX11_thing_149 rfl rfl ?_
                    refine rx_dup dX11_thing_150 rfl ?_
                    refine rx_getI (k := 25) fo_X11_158 kl_140 (by decide) ti_11_25 dX11_thing_151 ?_
                    refine rx_top (nI p) rdm_25 ?_
                    refine rx_iconst (1) dX11_thing_154 rfl ?_
                    refine rx_iadd dX11_thing_155 ?_
                    rw [nI_1]
                    refine rx_putI (k := 25) fo_X11_158 fn_11_25 kl_140 (by decide) ty_11_25 dX11_thing_156 ?_
                    rw [rdm_at]
                    refine rx_aload_n (i := 0) dX11_thing_159 rfl rfl ?_
                    refine rx_getI (k := 29) fo_X11_65 kl_140 (by decide) ti_11_29 dX11_thing_160 ?_
                    refine rx_top (M.1 140 29) (rdm_o (by omega)) ?_
                    rcases hlv with ⟨h29, hz⟩ | ⟨i, k, hi, hk, h01, h29, h30, rfl⟩
                    · skip
                      refine rx_iconst (-1) dX11_thing_163 rfl ?_
                      refine rx_icmp_ne (tgt := 171) dX11_thing_164 (by decide) (fun c164 => absurd h29 c164) (fun c164 => ?_)
                      refine rx_iconst (0) dX11_thing_167 rfl ?_
                      refine rx_goto (tgt := 176) dX11_thing_168 (by decide) ?_
                      exact rx_iret dX11_thing_176 ⟨_, rfl, by rw [eR], by rw [eR]; intro h stk; show evS _ stk (1000 + nI 7) = _; rw [evS_let (by decide)]; rw [hz]⟩
                    · skip
                      refine rx_iconst (-1) dX11_thing_163 rfl ?_
                      refine rx_icmp_ne (tgt := 171) dX11_thing_164 (by decide) (fun c164 => ?_) (fun c164 => absurd (show (0 : Int32) ≤ -1 by rw [← c164, h29]; exact nI_pos' (by have := w.2.1; omega)) (by decide))
                      refine rx_aload_n (i := 0) dX11_thing_171 rfl rfl ?_
                      refine rx_iload_n (i := 2) dX11_thing_172 rfl rfl ?_
                      refine rx_cvI (ci := 11) mo_X11_letter lk_X11_222 (c_X11_letter_103 (MW_rdm w) hi hk (by rw [rdm_o (by omega)]; exact h01) (by rw [rdm_o (by omega)]; exact h29) (by rw [rdm_o (by omega)]; exact h30)) (by omega) rfl rfl (Nat.le_of_ble_eq_true rfl) kl_140 rfl dX11_thing_173 ?_
                      exact rx_iret dX11_thing_176 ⟨_, rfl, by rw [eR], by rw [eR]; intro h stk; show evS _ stk (1000 + nI 7) = _; rw [evS_let (by decide)]; rw [mv_rdm]; rfl⟩
                  · skip
                    have e8 : ltx c = 8 := by
                      unfold ltx
                      rw [if_neg c94, if_neg c100, if_neg c106, if_neg c112, if_neg c118, if_neg c124, if_neg c130, if_neg c136]
                    have eR : thP (M.1 a) (min L tp) (f + 1) deep s = ([], faultP s.1 s) := by
                      simp only [thP]
                      rw [if_neg ng, if_neg (fun q => q e20), if_neg hnb, if_neg (by rw [hc]; exact e78), if_pos (by rw [hc]; exact e8)]
                    refine rx_aload_n (i := 0) dX11_thing_139 rfl rfl ?_
                    refine rx_aload_n (i := 0) dX11_thing_140 rfl rfl ?_
                    refine rx_getI (k := 25) fo_X11_158 kl_140 (by decide) ti_11_25 dX11_thing_141 ?_
                    refine rx_top (nI s.1) rdm_25 ?_
                    refine rx_cvN (ci := 11) mo_X11_fault lk_X11_176 (c_X11_fault (q := s.1) hs.2) (by omega) rfl rfl (Nat.le_of_ble_eq_true rfl) kl_140 rfl dX11_thing_144 ?_
                    refine rx_iconst (0) dX11_thing_147 rfl ?_
                    exact rx_iret dX11_thing_148 ⟨_, rfl, by rw [eR], by rw [eR]; exact fun h => by rw [faultP_n e20] at h; cases h⟩
  · skip
    have e78 : dig c = true := dig_iff.mpr (by have z := ite1n c78; rw [l48, l57] at z; exact z)
    have eR : thP (M.1 a) (min L tp) (f + 1) deep s = ([(numP (M.1 a) (min L tp) 3 0 999 s).1], (numP (M.1 a) (min L tp) 3 0 999 s).2) := by
      simp only [thP]
      rw [if_neg ng, if_neg (fun q => q e20), if_neg hnb, if_pos (by rw [hc]; exact e78)]
    refine rx_aload_n (i := 0) dX11_thing_81 rfl rfl ?_
    refine rx_iconst (3) dX11_thing_82 rfl ?_
    refine rx_iconst (0) dX11_thing_83 rfl ?_
    refine rx_sipush (999) dX11_thing_84 rfl ?_
    refine rx_cvI (ci := 11) mo_X11_number lk_X11_201 (c_X11_number r hs (d := 3) (lo := 0) (hi := 999) (by decide)) (by omega) rfl rfl (Nat.le_of_ble_eq_true rfl) kl_140 rfl dX11_thing_87 ?_
    exact rx_iret dX11_thing_90 ⟨_, rfl, by rw [eR], by rw [eR]; exact fun h stk => evS_lit (numP_le h)⟩
theorem need_none {S : Nat → Int32} {lim : Nat} {c : Int32} {s : PF} (h : (needP S lim c s).2 = none) : s.2 = none := by
  unfold needP at h
  split at h
  · next q => exact q.1
  · cases e : s.2 with
    | none => rfl
    | some w => rw [faultP_s e, e] at h; cases h
set_option maxRecDepth 100000 in
set_option maxHeartbeats 4000000 in
theorem c_X11_thing_s {M : Mem} {a L tp : Nat} (r : RM M a L tp) {lv : Int32 → Int32} {n m : Nat} (w : MW M n m) (hlv : lvOK M n m lv) {f deep : Nat} (hl40 : min L tp ≤ 40) (hdp : deep ≤ 4) (hhe : ∀ s, deep < 4 → pOK (min L tp) s → min L tp - s.1 < f → Con yX11_held cX11_held 3 (some .int) (4 * f + 7) [.ref 140, .int (nI (deep + 1))] (rdm M s) (fun v N => ∃ x, v = some (.int x) ∧ N = rdm M (heF (M.1 a) (min L tp) f (deep + 1) s).2 ∧ evOK lv x (heF (M.1 a) (min L tp) f (deep + 1) s))) (hth : ∀ s, pOK (min L tp) s → min L tp - s.1 < f → Con yX11_thing cX11_thing 4 (some .int) (4 * f + 4) [.ref 140, .int (nI deep)] (rdm M s) (fun v N => ∃ x, v = some (.int x) ∧ N = rdm M (thP (M.1 a) (min L tp) f deep s).2 ∧ evOK lv x (thP (M.1 a) (min L tp) f deep s))) {s : PF} (hs : pOK (min L tp) s) (hfs : min L tp - s.1 < f + 1) : Con yX11_thing cX11_thing 4 (some .int) (4 * f + 8) [.ref 140, .int (nI deep)] (rdm M s) (fun v N => ∃ x, v = some (.int x) ∧ N = rdm M (thP (M.1 a) (min L tp) (f + 1) deep s).2 ∧ evOK lv x (thP (M.1 a) (min L tp) (f + 1) deep s)) := by
  refine Con.of (own := RX11) (ls := [some (.ref 140), some (.int (nI deep)), none, none]) rfl (by decide +kernel) (Nat.le_of_ble_eq_true rfl) rfl ?_
  refine rx_aload_n (i := 0) dX11_thing_0 rfl rfl ?_
  refine rx_bipush (45) dX11_thing_1 rfl ?_
  refine rx_cvI (ci := 11) mo_X11_passes lk_X11_172 (c_X11_passes r hs (c := 45)) (by omega) rfl rfl (Nat.le_of_ble_eq_true rfl) kl_140 rfl dX11_thing_3 ?_
  refine rx_if_eq (tgt := 16) dX11_thing_6 (by decide) (fun c6 => ?_) (fun c6 => ?_)
  · skip
    have e6 := zI_0.mp c6
    have ng := (passP_f e6).1
    rw [(passP_f e6).2]
    refine rx_aload_n (i := 0) dX11_thing_16 rfl rfl ?_
    refine rx_cvI (ci := 11) mo_X11_fine lk_X11_164 (c_X11_fine hs.2) (by omega) rfl rfl (Nat.le_of_ble_eq_true rfl) kl_140 rfl dX11_thing_17 ?_
    refine rx_if_ne (tgt := 25) dX11_thing_20 (by decide) (fun c20 => ?_) (fun c20 => ?_)
    · skip
      have e20 : s.2 = none := ite1n c20
      refine rx_aload_n (i := 0) dX11_thing_25 rfl rfl ?_
      refine rx_cvI (ci := 11) mo_X11_here lk_X11_168 (c_X11_here r hs) (by omega) rfl rfl (Nat.le_of_ble_eq_true rfl) kl_140 rfl dX11_thing_26 ?_
      obtain ⟨c, hc⟩ : ∃ c, kc (M.1 a) (min L tp) s.1 = c := ⟨_, rfl⟩
      rw [hc]
      refine rx_istore_n (i := 2) dX11_thing_29 rfl (by decide) rfl rfl ?_
      refine rx_iload_n (i := 2) dX11_thing_30 rfl rfl ?_
      refine rx_bipush (40) dX11_thing_31 rfl ?_
      refine rx_icmp_ne (tgt := 67) dX11_thing_33 (by decide) (fun c33 => ?_) (fun c33 => ?_)
      · skip
        have hnb : ¬ (kc (M.1 a) (min L tp) s.1 = 40 ∧ deep < 4) := fun q => c33 (hc.symm.trans q.1)
        exact l_thing67 r w hlv hl40 hs e20 hc ng hnb
      · skip
        refine rx_iload_n (i := 1) dX11_thing_36 rfl rfl ?_
        refine rx_iconst (4) dX11_thing_37 rfl ?_
        refine rx_icmp_ge (tgt := 67) dX11_thing_38 (by decide) (fun c38 => ?_) (fun c38 => ?_)
        · skip
          have e38 : 4 ≤ deep := (nI_leI (a := 4) (by omega) (by omega)).mp c38
          have hnb : ¬ (kc (M.1 a) (min L tp) s.1 = 40 ∧ deep < 4) := fun q => by omega
          exact l_thing67 r w hlv hl40 hs e20 hc ng hnb
        · skip
          have e38 : deep < 4 := Nat.lt_of_not_le fun q => c38 (nI_le (a := 4) q (by omega))
          have hlt : s.1 < min L tp := kc_lt (hc.trans c33) (by decide)
          have hpk : pOK (min L tp) (s.1 + 1, none) := ⟨hlt, fun _ e => by cases e⟩
          have eR : thP (M.1 a) (min L tp) (f + 1) deep s = ((heF (M.1 a) (min L tp) f (deep + 1) (s.1 + 1, none)).1, needP (M.1 a) (min L tp) 41 (heF (M.1 a) (min L tp) f (deep + 1) (s.1 + 1, none)).2) := by
            simp only [thP]
            rw [if_neg ng, if_neg (fun q => q e20), if_pos ⟨hc.trans c33, e38⟩]
            rfl
          have hm3 : pOK (min L tp) (heF (M.1 a) (min L tp) f (deep + 1) (s.1 + 1, none)).2 := (heP_mon (suP_mon (prP_mon (thP_mon (by omega) f (deep + 1)))) _ hpk).2
          refine rx_aload_n (i := 0) dX11_thing_41 rfl rfl ?_
          refine rx_dup dX11_thing_42 rfl ?_
          refine rx_getI (k := 25) fo_X11_158 kl_140 (by decide) ti_11_25 dX11_thing_43 ?_
          refine rx_top (nI s.1) rdm_25 ?_
          refine rx_iconst (1) dX11_thing_46 rfl ?_
          refine rx_iadd dX11_thing_47 ?_
          rw [nI_1]
          refine rx_putI (k := 25) fo_X11_158 fn_11_25 kl_140 (by decide) ty_11_25 dX11_thing_48 ?_
          rw [rdm_at, e20]
          refine rx_aload_n (i := 0) dX11_thing_51 rfl rfl ?_
          refine rx_iload_n (i := 1) dX11_thing_52 rfl rfl ?_
          refine rx_iconst (1) dX11_thing_53 rfl ?_
          refine rx_iadd dX11_thing_54 ?_
          rw [nI_1]
          refine rx_callV (ci := 11) mo_X11_held lk_X11_219 (hhe (s.1 + 1, none) e38 hpk (by show min L tp - (s.1 + 1) < f; omega)) (by omega) rfl rfl (Nat.le_of_ble_eq_true rfl) kl_140 rfl dX11_thing_55 ?_
          rintro _ _ ⟨o, rfl, rfl, ho⟩
          refine rx_istore_n (i := 3) dX11_thing_58 rfl (by decide) rfl rfl ?_
          refine rx_aload_n (i := 0) dX11_thing_59 rfl rfl ?_
          refine rx_bipush (41) dX11_thing_60 rfl ?_
          refine rx_cvN (ci := 11) mo_X11_need lk_X11_205 (c_X11_need r hm3 (c := 41)) (by omega) rfl rfl (Nat.le_of_ble_eq_true rfl) kl_140 rfl dX11_thing_62 ?_
          refine rx_iload_n (i := 3) dX11_thing_65 rfl rfl ?_
          exact rx_iret dX11_thing_66 ⟨_, rfl, by rw [eR], by rw [eR]; exact fun h stk => ho (need_none h) stk⟩
    · skip
      have e20 : ¬ s.2 = none := ite1 c20
      have eR : thP (M.1 a) (min L tp) (f + 1) deep s = ([], s) := by
        simp only [thP]
        rw [if_neg ng, if_pos e20]
      refine rx_iconst (0) dX11_thing_23 rfl ?_
      exact rx_iret dX11_thing_24 ⟨_, rfl, by rw [eR], by rw [eR]; exact fun h => absurd h e20⟩
  · skip
    have e6 := passP_t (zI_n c6)
    rw [e6.2]
    have hlt : s.1 < min L tp := kc_lt e6.1.2 (by decide)
    have eR : thP (M.1 a) (min L tp) (f + 1) deep s = ((thP (M.1 a) (min L tp) f deep (s.1 + 1, none)).1 ++ [2007], (thP (M.1 a) (min L tp) f deep (s.1 + 1, none)).2) := by
      simp only [thP]
      rw [if_pos e6.1]
    refine rx_aload_n (i := 0) dX11_thing_9 rfl rfl ?_
    refine rx_iload_n (i := 1) dX11_thing_10 rfl rfl ?_
    refine rx_callV (ci := 11) mo_X11_thing lk_X11_216 (hth (s.1 + 1, none) ⟨hlt, fun _ e => by cases e⟩ (by show min L tp - (s.1 + 1) < f; omega)) (by omega) rfl rfl (Nat.le_of_ble_eq_true rfl) kl_140 rfl dX11_thing_11 ?_
    rintro _ _ ⟨o, rfl, rfl, ho⟩
    refine rx_ineg dX11_thing_14 ?_
    exact rx_iret dX11_thing_15 ⟨_, rfl, by rw [eR], by rw [eR]; exact fun h stk => by show evC lv stk (_ ++ [2007]) = _; rw [evC_app, ho h, evC_1]; exact evS_neg⟩
/-- a thing, and what is held, f signs or fewer left -/
theorem c_X11_rec {M : Mem} {a L tp : Nat} (r : RM M a L tp) {lv : Int32 → Int32} {n m : Nat} (w : MW M n m) (hlv : lvOK M n m lv) (hl40 : min L tp ≤ 40) : ∀ (f deep : Nat), deep ≤ 4 →
    (∀ s, pOK (min L tp) s → min L tp - s.1 < f → Con yX11_thing cX11_thing 4 (some .int) (4 * f + 4) [.ref 140, .int (nI deep)] (rdm M s) (fun v N => ∃ x, v = some (.int x) ∧ N = rdm M (thP (M.1 a) (min L tp) f deep s).2 ∧ evOK lv x (thP (M.1 a) (min L tp) f deep s))) ∧
    (∀ s, pOK (min L tp) s → min L tp - s.1 < f → Con yX11_held cX11_held 3 (some .int) (4 * f + 7) [.ref 140, .int (nI deep)] (rdm M s) (fun v N => ∃ x, v = some (.int x) ∧ N = rdm M (heF (M.1 a) (min L tp) f deep s).2 ∧ evOK lv x (heF (M.1 a) (min L tp) f deep s))) := by
  intro f
  induction f with
  | zero => intro deep hd; exact ⟨fun s _ h => absurd h (Nat.not_lt_zero _), fun s _ h => absurd h (Nat.not_lt_zero _)⟩
  | succ f ih =>
    intro deep hd
    have hl31 : min L tp < 2 ^ 31 := by omega
    have h1 : ∀ s, pOK (min L tp) s → min L tp - s.1 < f + 1 → Con yX11_thing cX11_thing 4 (some .int) (4 * (f + 1) + 4) [.ref 140, .int (nI deep)] (rdm M s) (fun v N => ∃ x, v = some (.int x) ∧ N = rdm M (thP (M.1 a) (min L tp) (f + 1) deep s).2 ∧ evOK lv x (thP (M.1 a) (min L tp) (f + 1) deep s)) :=
      fun s hs hfs => c_X11_thing_s r w hlv hl40 hd (fun s hd4 hs hfs => (ih (deep + 1) hd4).2 s hs hfs) (ih deep hd).1 hs hfs
    refine ⟨h1, fun s hs hfs => ?_⟩
    have m1 := thP_mon (S := M.1 a) hl31 (f + 1) deep
    have m2 := prP_mon (S := M.1 a) m1
    have m3 := suP_mon (S := M.1 a) m2
    exact c_X11_held r m3 hl40 (fun s hs hfs => c_X11_sum r m2 hl40 (fun s hs hfs => c_X11_product r m1 hl40 h1 hs hfs) hs hfs) hs hfs
