set_option maxRecDepth 100000 in
set_option maxHeartbeats 4000000 in
theorem l_X11_letter {M : Mem} {n m : Nat} (w : MW M n m) {i k : Nat} (hi : i < n) (hk : k < m) (h01 : M.1 143 i = 0 ∨ M.1 143 i = 1) (h29 : M.1 140 29 = nI i) (h30 : M.1 140 30 = nI k) : ∀ (N : Nat) (j : Nat), (j ≤ m) → (anyB (fun j => decide (M.1 151 j = 0) && (decide (M.1 147 j = nI i) && decide (M.1 148 j = M.1 147 k))) j = false) → m - j < N → Reach cX11_letter RX11 3 1 (FQ cX11_letter (some .int) (some (.int (zI (anyB (fun j => decide (M.1 151 j = 0) && (decide (M.1 147 j = nI i) && decide (M.1 148 j = M.1 147 k))) m)))) M) 159 [some (.ref 140), some (.int 103), some (.int (nI j))] [] (M) := by
  intro N
  induction N with
  | zero => intro j hj hx hm; exact absurd ‹_ < 0› (Nat.not_lt_zero _)
  | succ N ih =>
    intro j hj hx hm
    have ⟨hn, hn8, hm, hm10, hd⟩ := w
    refine rx_iload_n (i := 2) dX11_letter_159 rfl rfl ?_
    refine rx_aload_n (i := 0) dX11_letter_160 rfl rfl ?_
    refine rx_getI (k := 7) fo_X11_139 kl_140 (by decide) ti_11_7 dX11_letter_161 ?_
    refine rx_top (nI m) hm ?_
    refine rx_icmp_ge (tgt := 215) dX11_letter_164 (by decide) (fun c164 => ?_) (fun c164 => ?_)
    · skip
      have f164 := Int32.not_lt.mpr c164
      have e164 : j = m := by have := (nI_leI (by omega) (by omega)).mp c164; omega
      rw [e164] at hx
      refine rx_iconst (0) dX11_letter_215 rfl ?_
      exact rx_fiI dX11_letter_216 (by rw [hx]; rfl) rfl
    · skip
      have f164 := Int32.not_le.mp c164
      have e164 : j < m := Nat.lt_of_not_le fun q => c164 (nI_le q (by omega))
      refine rx_aload_n (i := 0) dX11_letter_167 rfl rfl ?_
      refine rx_getR 151 (k := 12) fo_X11_41 kl_140 (by decide) ti_11_12 (by decide) rfl dX11_letter_168 ?_
      refine rx_iload_n (i := 2) dX11_letter_171 rfl rfl ?_
      refine rx_ialdN kl_151 (by omega) (by first | decide | omega) dX11_letter_172 ?_
      refine rx_if_ne (tgt := 209) dX11_letter_173 (by decide) (fun c173 => ?_) (fun c173 => ?_)
      · skip
        have hx2 := anyB_f (p := (fun j => decide (M.1 151 j = 0) && (decide (M.1 147 j = nI i) && decide (M.1 148 j = M.1 147 k)))) hx (by simp [c173])
        first | refine rx_iincN (i := 2) dX11_letter_209 rfl (by decide) rfl rfl ?_ | refine rx_iinc (i := 2) dX11_letter_209 rfl rfl (by decide) rfl rfl ?_
        refine rx_goto (tgt := 159) dX11_letter_212 (by decide) ?_
        exact ih (j + 1) (by omega) hx2 (by omega)
      · skip
        refine rx_aload_n (i := 0) dX11_letter_176 rfl rfl ?_
        refine rx_getR 147 (k := 8) fo_X11_29 kl_140 (by decide) ti_11_8 (by decide) rfl dX11_letter_177 ?_
        refine rx_iload_n (i := 2) dX11_letter_180 rfl rfl ?_
        refine rx_ialdN kl_147 (by omega) (by first | decide | omega) dX11_letter_181 ?_
        refine rx_aload_n (i := 0) dX11_letter_182 rfl rfl ?_
        refine rx_getI (k := 29) fo_X11_65 kl_140 (by decide) ti_11_29 dX11_letter_183 ?_
        refine rx_top (nI i) h29 ?_
        refine rx_icmp_ne (tgt := 209) dX11_letter_186 (by decide) (fun c186 => ?_) (fun c186 => ?_)
        · skip
          have hx2 := anyB_f (p := (fun j => decide (M.1 151 j = 0) && (decide (M.1 147 j = nI i) && decide (M.1 148 j = M.1 147 k)))) hx (by simp [c186])
          first | refine rx_iincN (i := 2) dX11_letter_209 rfl (by decide) rfl rfl ?_ | refine rx_iinc (i := 2) dX11_letter_209 rfl rfl (by decide) rfl rfl ?_
          refine rx_goto (tgt := 159) dX11_letter_212 (by decide) ?_
          exact ih (j + 1) (by omega) hx2 (by omega)
        · skip
          refine rx_aload_n (i := 0) dX11_letter_189 rfl rfl ?_
          refine rx_getR 148 (k := 9) fo_X11_32 kl_140 (by decide) ti_11_9 (by decide) rfl dX11_letter_190 ?_
          refine rx_iload_n (i := 2) dX11_letter_193 rfl rfl ?_
          refine rx_ialdN kl_148 (by omega) (by first | decide | omega) dX11_letter_194 ?_
          refine rx_aload_n (i := 0) dX11_letter_195 rfl rfl ?_
          refine rx_getR 147 (k := 8) fo_X11_29 kl_140 (by decide) ti_11_8 (by decide) rfl dX11_letter_196 ?_
          refine rx_aload_n (i := 0) dX11_letter_199 rfl rfl ?_
          refine rx_getI (k := 30) fo_X11_228 kl_140 (by decide) ti_11_30 dX11_letter_200 ?_
          refine rx_top (nI k) h30 ?_
          refine rx_ialdN kl_147 (by omega) (by first | decide | omega) dX11_letter_203 ?_
          refine rx_icmp_ne (tgt := 209) dX11_letter_204 (by decide) (fun c204 => ?_) (fun c204 => ?_)
          · skip
            have hx2 := anyB_f (p := (fun j => decide (M.1 151 j = 0) && (decide (M.1 147 j = nI i) && decide (M.1 148 j = M.1 147 k)))) hx (by simp [c204])
            first | refine rx_iincN (i := 2) dX11_letter_209 rfl (by decide) rfl rfl ?_ | refine rx_iinc (i := 2) dX11_letter_209 rfl rfl (by decide) rfl rfl ?_
            refine rx_goto (tgt := 159) dX11_letter_212 (by decide) ?_
            exact ih (j + 1) (by omega) hx2 (by omega)
          · skip
            have hx2 := anyB_t (p := (fun j => decide (M.1 151 j = 0) && (decide (M.1 147 j = nI i) && decide (M.1 148 j = M.1 147 k)))) (k := j) (by simp [c173, c186, c204]) e164
            refine rx_iconst (1) dX11_letter_207 rfl ?_
            exact rx_fiI dX11_letter_208 (by rw [hx2]; rfl) rfl
set_option maxRecDepth 100000 in
set_option maxHeartbeats 4000000 in
theorem c_X11_letter_105 {M : Mem} {n m : Nat} (w : MW M n m) {i k : Nat} (hi : i < n) (hk : k < m) (h01 : M.1 143 i = 0 ∨ M.1 143 i = 1) (h29 : M.1 140 29 = nI i) (h30 : M.1 140 30 = nI k) : Fun yX11_letter cX11_letter 3 (some .int) 1 [.ref 140, .int 105] M (some (.int (thT (mv M) n m i k 0))) (M) := by
  refine Fun.of (own := RX11) ([some (.ref 140), some (.int 105), none]) rfl (by decide +kernel) (Nat.le_of_ble_eq_true rfl) rfl ?_
  have ⟨hn, hn8, hm, hm10, hd⟩ := w
  refine rx_iload_n (i := 1) dX11_letter_0 rfl rfl ?_
  refine rx_tableIn (off := 91) (tgt := 92) dX11_letter_1 (by decide) (by decide) rfl (by decide) ?_
  refine rx_aload_n (i := 0) dX11_letter_92 rfl rfl ?_
  refine rx_getI (k := 29) fo_X11_65 kl_140 (by decide) ti_11_29 dX11_letter_93 ?_
  refine rx_top (nI i) h29 ?_
  exact rx_fiI dX11_letter_96 rfl rfl
set_option maxRecDepth 100000 in
set_option maxHeartbeats 4000000 in
theorem c_X11_letter_99 {M : Mem} {n m : Nat} (w : MW M n m) {i k : Nat} (hi : i < n) (hk : k < m) (h01 : M.1 143 i = 0 ∨ M.1 143 i = 1) (h29 : M.1 140 29 = nI i) (h30 : M.1 140 30 = nI k) : Fun yX11_letter cX11_letter 3 (some .int) 1 [.ref 140, .int 99] M (some (.int (thT (mv M) n m i k 1))) (M) := by
  refine Fun.of (own := RX11) ([some (.ref 140), some (.int 99), none]) rfl (by decide +kernel) (Nat.le_of_ble_eq_true rfl) rfl ?_
  have ⟨hn, hn8, hm, hm10, hd⟩ := w
  refine rx_iload_n (i := 1) dX11_letter_0 rfl rfl ?_
  refine rx_tableIn (off := 96) (tgt := 97) dX11_letter_1 (by decide) (by decide) rfl (by decide) ?_
  refine rx_aload_n (i := 0) dX11_letter_97 rfl rfl ?_
  refine rx_aload_n (i := 0) dX11_letter_98 rfl rfl ?_
  refine rx_getI (k := 29) fo_X11_65 kl_140 (by decide) ti_11_29 dX11_letter_99 ?_
  refine rx_top (nI i) h29 ?_
  refine rx_cvI (ci := 11) mo_X11_counted lk_X11_225 (c_X11_counted (by omega)) (by decide) rfl rfl (Nat.le_of_ble_eq_true rfl) kl_140 rfl dX11_letter_102 ?_
  exact rx_fiI dX11_letter_105 rfl rfl
set_option maxRecDepth 100000 in
set_option maxHeartbeats 4000000 in
theorem c_X11_letter_97 {M : Mem} {n m : Nat} (w : MW M n m) {i k : Nat} (hi : i < n) (hk : k < m) (h01 : M.1 143 i = 0 ∨ M.1 143 i = 1) (h29 : M.1 140 29 = nI i) (h30 : M.1 140 30 = nI k) : Fun yX11_letter cX11_letter 3 (some .int) 1 [.ref 140, .int 97] M (some (.int (thT (mv M) n m i k 2))) (M) := by
  refine Fun.of (own := RX11) ([some (.ref 140), some (.int 97), none]) rfl (by decide +kernel) (Nat.le_of_ble_eq_true rfl) rfl ?_
  have ⟨hn, hn8, hm, hm10, hd⟩ := w
  refine rx_iload_n (i := 1) dX11_letter_0 rfl rfl ?_
  refine rx_tableIn (off := 105) (tgt := 106) dX11_letter_1 (by decide) (by decide) rfl (by decide) ?_
  refine rx_aload_n (i := 0) dX11_letter_106 rfl rfl ?_
  refine rx_getR 142 (k := 2) fo_X11_13 kl_140 (by decide) ti_11_2 (by decide) rfl dX11_letter_107 ?_
  refine rx_aload_n (i := 0) dX11_letter_110 rfl rfl ?_
  refine rx_getI (k := 29) fo_X11_65 kl_140 (by decide) ti_11_29 dX11_letter_111 ?_
  refine rx_top (nI i) h29 ?_
  refine rx_ialdN kl_142 (by omega) (by first | decide | omega) dX11_letter_114 ?_
  exact rx_fiI dX11_letter_115 rfl rfl
set_option maxRecDepth 100000 in
set_option maxHeartbeats 4000000 in
theorem c_X11_letter_115 {M : Mem} {n m : Nat} (w : MW M n m) {i k : Nat} (hi : i < n) (hk : k < m) (h01 : M.1 143 i = 0 ∨ M.1 143 i = 1) (h29 : M.1 140 29 = nI i) (h30 : M.1 140 30 = nI k) : Fun yX11_letter cX11_letter 3 (some .int) 1 [.ref 140, .int 115] M (some (.int (thT (mv M) n m i k 3))) (M) := by
  refine Fun.of (own := RX11) ([some (.ref 140), some (.int 115), none]) rfl (by decide +kernel) (Nat.le_of_ble_eq_true rfl) rfl ?_
  have ⟨hn, hn8, hm, hm10, hd⟩ := w
  refine rx_iload_n (i := 1) dX11_letter_0 rfl rfl ?_
  refine rx_tableIn (off := 115) (tgt := 116) dX11_letter_1 (by decide) (by decide) rfl (by decide) ?_
  refine rx_aload_n (i := 0) dX11_letter_116 rfl rfl ?_
  refine rx_getR 149 (k := 10) fo_X11_35 kl_140 (by decide) ti_11_10 (by decide) rfl dX11_letter_117 ?_
  refine rx_aload_n (i := 0) dX11_letter_120 rfl rfl ?_
  refine rx_getI (k := 30) fo_X11_228 kl_140 (by decide) ti_11_30 dX11_letter_121 ?_
  refine rx_top (nI k) h30 ?_
  refine rx_ialdN kl_149 (by omega) (by first | decide | omega) dX11_letter_124 ?_
  exact rx_fiI dX11_letter_125 rfl rfl
set_option maxRecDepth 100000 in
set_option maxHeartbeats 4000000 in
theorem c_X11_letter_112 {M : Mem} {n m : Nat} (w : MW M n m) {i k : Nat} (hi : i < n) (hk : k < m) (h01 : M.1 143 i = 0 ∨ M.1 143 i = 1) (h29 : M.1 140 29 = nI i) (h30 : M.1 140 30 = nI k) : Fun yX11_letter cX11_letter 3 (some .int) 1 [.ref 140, .int 112] M (some (.int (thT (mv M) n m i k 4))) (M) := by
  refine Fun.of (own := RX11) ([some (.ref 140), some (.int 112), none]) rfl (by decide +kernel) (Nat.le_of_ble_eq_true rfl) rfl ?_
  have ⟨hn, hn8, hm, hm10, hd⟩ := w
  refine rx_iload_n (i := 1) dX11_letter_0 rfl rfl ?_
  refine rx_tableIn (off := 125) (tgt := 126) dX11_letter_1 (by decide) (by decide) rfl (by decide) ?_
  refine rx_aload_n (i := 0) dX11_letter_126 rfl rfl ?_
  refine rx_aload_n (i := 0) dX11_letter_127 rfl rfl ?_
  refine rx_getI (k := 29) fo_X11_65 kl_140 (by decide) ti_11_29 dX11_letter_128 ?_
  refine rx_top (nI i) h29 ?_
  refine rx_aload_n (i := 0) dX11_letter_131 rfl rfl ?_
  refine rx_getI (k := 30) fo_X11_228 kl_140 (by decide) ti_11_30 dX11_letter_132 ?_
  refine rx_top (nI k) h30 ?_
  refine rx_cvI (ci := 11) mo_X11_priceOf lk_X11_231 (c_X11_priceOf (by omega) (by omega) h01) (by decide) rfl rfl (Nat.le_of_ble_eq_true rfl) kl_140 rfl dX11_letter_135 ?_
  exact rx_fiI dX11_letter_138 rfl rfl
set_option maxRecDepth 100000 in
set_option maxHeartbeats 4000000 in
theorem c_X11_letter_102 {M : Mem} {n m : Nat} (w : MW M n m) {i k : Nat} (hi : i < n) (hk : k < m) (h01 : M.1 143 i = 0 ∨ M.1 143 i = 1) (h29 : M.1 140 29 = nI i) (h30 : M.1 140 30 = nI k) : Fun yX11_letter cX11_letter 3 (some .int) 1 [.ref 140, .int 102] M (some (.int (thT (mv M) n m i k 5))) (M) := by
  refine Fun.of (own := RX11) ([some (.ref 140), some (.int 102), none]) rfl (by decide +kernel) (Nat.le_of_ble_eq_true rfl) rfl ?_
  have ⟨hn, hn8, hm, hm10, hd⟩ := w
  refine rx_iload_n (i := 1) dX11_letter_0 rfl rfl ?_
  refine rx_tableIn (off := 138) (tgt := 139) dX11_letter_1 (by decide) (by decide) rfl (by decide) ?_
  refine rx_aload_n (i := 0) dX11_letter_139 rfl rfl ?_
  refine rx_aload_n (i := 0) dX11_letter_140 rfl rfl ?_
  refine rx_getI (k := 29) fo_X11_65 kl_140 (by decide) ti_11_29 dX11_letter_141 ?_
  refine rx_top (nI i) h29 ?_
  refine rx_cvI (ci := 11) mo_X11_favoursOwed lk_X11_235 (c_X11_favoursOwed w hi) (by decide) rfl rfl (Nat.le_of_ble_eq_true rfl) kl_140 rfl dX11_letter_144 ?_
  exact rx_fiI dX11_letter_147 rfl rfl
set_option maxRecDepth 100000 in
set_option maxHeartbeats 4000000 in
theorem c_X11_letter_111 {M : Mem} {n m : Nat} (w : MW M n m) {i k : Nat} (hi : i < n) (hk : k < m) (h01 : M.1 143 i = 0 ∨ M.1 143 i = 1) (h29 : M.1 140 29 = nI i) (h30 : M.1 140 30 = nI k) : Fun yX11_letter cX11_letter 3 (some .int) 1 [.ref 140, .int 111] M (some (.int (thT (mv M) n m i k 6))) (M) := by
  refine Fun.of (own := RX11) ([some (.ref 140), some (.int 111), none]) rfl (by decide +kernel) (Nat.le_of_ble_eq_true rfl) rfl ?_
  have ⟨hn, hn8, hm, hm10, hd⟩ := w
  refine rx_iload_n (i := 1) dX11_letter_0 rfl rfl ?_
  refine rx_tableIn (off := 147) (tgt := 148) dX11_letter_1 (by decide) (by decide) rfl (by decide) ?_
  refine rx_aload_n (i := 0) dX11_letter_148 rfl rfl ?_
  refine rx_aload_n (i := 0) dX11_letter_149 rfl rfl ?_
  refine rx_getI (k := 29) fo_X11_65 kl_140 (by decide) ti_11_29 dX11_letter_150 ?_
  refine rx_top (nI i) h29 ?_
  refine rx_cvI (ci := 11) mo_X11_openOf lk_X11_238 (c_X11_openOf w) (by decide) rfl rfl (Nat.le_of_ble_eq_true rfl) kl_140 rfl dX11_letter_153 ?_
  exact rx_fiI dX11_letter_156 rfl rfl
set_option maxRecDepth 100000 in
set_option maxHeartbeats 4000000 in
theorem c_X11_letter_103 {M : Mem} {n m : Nat} (w : MW M n m) {i k : Nat} (hi : i < n) (hk : k < m) (h01 : M.1 143 i = 0 ∨ M.1 143 i = 1) (h29 : M.1 140 29 = nI i) (h30 : M.1 140 30 = nI k) : Fun yX11_letter cX11_letter 3 (some .int) 1 [.ref 140, .int 103] M (some (.int (thT (mv M) n m i k 7))) (M) := by
  refine Fun.of (own := RX11) ([some (.ref 140), some (.int 103), none]) rfl (by decide +kernel) (Nat.le_of_ble_eq_true rfl) rfl ?_
  have ⟨hn, hn8, hm, hm10, hd⟩ := w
  refine rx_iload_n (i := 1) dX11_letter_0 rfl rfl ?_
  refine rx_tableIn (off := 156) (tgt := 157) dX11_letter_1 (by decide) (by decide) rfl (by decide) ?_
  refine rx_iconst (0) dX11_letter_157 rfl ?_
  refine rx_istore_n (i := 2) dX11_letter_158 rfl (by decide) rfl rfl ?_
  exact l_X11_letter w hi hk h01 h29 h30 (m + 1) 0 (Nat.zero_le _) rfl (by omega)
/-- the number of a letter; 8: none -/
def ltx (c : Int32) : Nat := if c = 105 then 0 else if c = 99 then 1 else if c = 97 then 2 else if c = 115 then 3 else if c = 112 then 4 else if c = 102 then 5 else if c = 111 then 6 else if c = 103 then 7 else 8
section
variable (S : Nat → Int32) (lim : Nat)
abbrev PR : Type := List Int32 × PF
/-- factors -/
def prL (th : PF → PR) : Nat → PR → PR
  | 0, r => r
  | g + 1, r => if r.2.2 = none ∧ (kc S lim r.2.1 = 42 ∨ kc S lim r.2.1 = 47) then prL th g (r.1 ++ (th (r.2.1 + 1, none)).1 ++ [if kc S lim r.2.1 = 42 then 2005 else 2006], (th (r.2.1 + 1, none)).2) else r
def prP (th : PF → PR) (s : PF) : PR := prL S lim th 41 (th s)
def suL (pr : PF → PR) : Nat → PR → PR
  | 0, r => r
  | g + 1, r => if r.2.2 = none ∧ (kc S lim r.2.1 = 43 ∨ kc S lim r.2.1 = 45) then suL pr g (r.1 ++ (pr (r.2.1 + 1, none)).1 ++ [if kc S lim r.2.1 = 43 then 2003 else 2004], (pr (r.2.1 + 1, none)).2) else r
def suP (pr : PF → PR) (s : PF) : PR := suL S lim pr 41 (pr s)
def heP (su : PF → PR) (s : PF) : PR :=
  let v := su s
  if v.2.2 = none ∧ kc S lim v.2.1 = 60 then (v.1 ++ (su (v.2.1 + 1, none)).1 ++ [2000], (su (v.2.1 + 1, none)).2)
  else if v.2.2 = none ∧ kc S lim v.2.1 = 62 then (v.1 ++ (su (v.2.1 + 1, none)).1 ++ [2001], (su (v.2.1 + 1, none)).2)
  else if v.2.2 = none ∧ kc S lim v.2.1 = 61 then (v.1 ++ (su (v.2.1 + 1, none)).1 ++ [2002], (su (v.2.1 + 1, none)).2)
  else v
/-- a thing: what is to be done for it, and where it ends -/
def thP : Nat → Nat → PF → PR
  | 0, _, s => ([], s)
  | f + 1, deep, s =>
    if s.2 = none ∧ kc S lim s.1 = 45 then ((thP f deep (s.1 + 1, none)).1 ++ [2007], (thP f deep (s.1 + 1, none)).2)
    else if ¬ s.2 = none then ([], s)
    else if kc S lim s.1 = 40 ∧ deep < 4 then
      ((heP S lim (suP S lim (prP S lim (thP f (deep + 1)))) (s.1 + 1, none)).1, needP S lim 41 (heP S lim (suP S lim (prP S lim (thP f (deep + 1)))) (s.1 + 1, none)).2)
    else if dig (kc S lim s.1) = true then ([(numP S lim 3 0 999 s).1], (numP S lim 3 0 999 s).2)
    else if ltx (kc S lim s.1) = 8 then ([], faultP s.1 s)
    else ([1000 + nI (ltx (kc S lim s.1))], (s.1 + 1, none))
def suF (f deep : Nat) : PF → PR := suP S lim (prP S lim (thP S lim f deep))
def heF (f deep : Nat) : PF → PR := heP S lim (suF S lim f deep)
end
/-- a step done -/
def evS (lv : Int32 → Int32) (stk : List Int32) (st : Int32) : List Int32 :=
  if st < 1000 then st :: stk
  else if st < 2000 then lv (st - 1000) :: stk
  else if st = 2007 then (match stk with | a :: r => (-a) :: r | [] => [])
  else (match stk with | b :: a :: r => dnF (st - 2000) a b :: r | _ => stk)
def evC (lv : Int32 → Int32) (stk : List Int32) (c : List Int32) : List Int32 := c.foldl (evS lv) stk
theorem evC_app {lv : Int32 → Int32} {stk : List Int32} {a b : List Int32} : evC lv stk (a ++ b) = evC lv (evC lv stk a) b := List.foldl_append
theorem evC_1 {lv : Int32 → Int32} {stk : List Int32} {x : Int32} : evC lv stk [x] = evS lv stk x := rfl
def evOK (lv : Int32 → Int32) (x : Int32) (r : PR) : Prop := r.2.2 = none → ∀ stk, evC lv stk r.1 = x :: stk
theorem evOK_2 {lv : Int32 → Int32} {x y op : Int32} {a b : List Int32} {s : PF} (ha : ∀ stk, evC lv stk a = x :: stk) (hb : evOK lv y (b, s)) (hop : 2000 ≤ op ∧ ¬ op = 2007) : evOK lv (dnF (op - 2000) x y) (a ++ b ++ [op], s) := by
  intro h stk
  have hb := hb h
  simp only at hb
  show evC lv stk (a ++ b ++ [op]) = _
  rw [evC_app, evC_app, ha, hb, evC_1, evS]
  rw [if_neg (fun q => absurd (Int32.lt_of_lt_of_le q (show (1000 : Int32) ≤ 2000 by decide)) (Int32.not_lt.mpr hop.1)), if_neg (Int32.not_lt.mpr hop.1), if_neg hop.2]
theorem passP_t {S : Nat → Int32} {lim : Nat} {c : Int32} {s : PF} (h : (passP S lim c s).1 = true) : (s.2 = none ∧ kc S lim s.1 = c) ∧ (passP S lim c s).2 = (s.1 + 1, none) := by
  unfold passP at h ⊢
  split
  · next q => exact ⟨q, rfl⟩
  · next q => rw [if_neg q] at h; cases h
theorem passP_f {S : Nat → Int32} {lim : Nat} {c : Int32} {s : PF} (h : (passP S lim c s).1 = false) : ¬ (s.2 = none ∧ kc S lim s.1 = c) ∧ (passP S lim c s).2 = s := by
  unfold passP at h ⊢
  split
  · next q => rw [if_pos q] at h; cases h
  · next q => exact ⟨q, rfl⟩
/-! where they end -/
def monP (lim : Nat) (th : PF → PR) : Prop := ∀ s, pOK lim s → s.1 ≤ (th s).2.1 ∧ pOK lim (th s).2
theorem prL_mon {S : Nat → Int32} {lim : Nat} {th : PF → PR} (h : monP lim th) : ∀ (g : Nat) (r : PR), pOK lim r.2 → r.2.1 ≤ (prL S lim th g r).2.1 ∧ pOK lim (prL S lim th g r).2
  | 0, r, hr => ⟨Nat.le_refl _, hr⟩
  | g + 1, r, hr => by
    simp only [prL]
    split
    · next q =>
      have hl : r.2.1 < lim := q.2.elim (fun q => kc_lt q (by decide)) (fun q => kc_lt q (by decide))
      have h1 := h (r.2.1 + 1, none) ⟨hl, fun _ e => by cases e⟩
      have h2 := prL_mon (S := S) h g (r.1 ++ (th (r.2.1 + 1, none)).1 ++ [if kc S lim r.2.1 = 42 then 2005 else 2006], (th (r.2.1 + 1, none)).2) h1.2
      have h3 := h1.1
      simp only at h3 h2
      exact ⟨by omega, h2.2⟩
    · exact ⟨Nat.le_refl _, hr⟩
theorem prP_mon {S : Nat → Int32} {lim : Nat} {th : PF → PR} (h : monP lim th) : monP lim (prP S lim th) := fun s hs => by
  have h1 := h s hs
  have h2 := prL_mon (S := S) h 41 (th s) h1.2
  exact ⟨Nat.le_trans h1.1 h2.1, h2.2⟩
theorem suL_mon {S : Nat → Int32} {lim : Nat} {th : PF → PR} (h : monP lim th) : ∀ (g : Nat) (r : PR), pOK lim r.2 → r.2.1 ≤ (suL S lim th g r).2.1 ∧ pOK lim (suL S lim th g r).2
  | 0, r, hr => ⟨Nat.le_refl _, hr⟩
  | g + 1, r, hr => by
    simp only [suL]
    split
    · next q =>
      have hl : r.2.1 < lim := q.2.elim (fun q => kc_lt q (by decide)) (fun q => kc_lt q (by decide))
      have h1 := h (r.2.1 + 1, none) ⟨hl, fun _ e => by cases e⟩
      have h2 := suL_mon (S := S) h g (r.1 ++ (th (r.2.1 + 1, none)).1 ++ [if kc S lim r.2.1 = 43 then 2003 else 2004], (th (r.2.1 + 1, none)).2) h1.2
      have h3 := h1.1
      simp only at h3 h2
      exact ⟨by omega, h2.2⟩
    · exact ⟨Nat.le_refl _, hr⟩
theorem suP_mon {S : Nat → Int32} {lim : Nat} {th : PF → PR} (h : monP lim th) : monP lim (suP S lim th) := fun s hs => by
  have h1 := h s hs
  have h2 := suL_mon (S := S) h 41 (th s) h1.2
  exact ⟨Nat.le_trans h1.1 h2.1, h2.2⟩
theorem heP_mon {S : Nat → Int32} {lim : Nat} {su : PF → PR} (h : monP lim su) : monP lim (heP S lim su) := fun s hs => by
  have h1 := h s hs
  have key : ∀ c : Int32, 0 ≤ c → kc S lim (su s).2.1 = c → s.1 ≤ (su ((su s).2.1 + 1, none)).2.1 ∧ pOK lim (su ((su s).2.1 + 1, none)).2 := fun c hc e => by
    have hl : (su s).2.1 < lim := kc_lt e hc
    have h2 := h ((su s).2.1 + 1, none) ⟨hl, fun _ e => by cases e⟩
    have h3 := h2.1
    simp only at h3
    exact ⟨by omega, h2.2⟩
  simp only [heP]
  split
  · next q => exact key _ (by decide) q.2
  · split
    · next q => exact key _ (by decide) q.2
    · split
      · next q => exact key _ (by decide) q.2
      · exact h1
theorem thP_mon {S : Nat → Int32} {lim : Nat} (hl : lim < 2 ^ 31) : ∀ (f deep : Nat), monP lim (thP S lim f deep)
  | 0, _ => fun s hs => ⟨Nat.le_refl _, hs⟩
  | f + 1, deep => fun s hs => by
    simp only [thP]
    split
    · next q =>
      have h1 := thP_mon (S := S) hl f deep (s.1 + 1, none) ⟨kc_lt q.2 (by decide), fun _ e => by cases e⟩
      exact ⟨Nat.le_trans (Nat.le_succ _) h1.1, h1.2⟩
    · split
      · exact ⟨Nat.le_refl _, hs⟩
      · next q2 =>
        split
        · next q =>
          have h1 := heP_mon (S := S) (suP_mon (S := S) (prP_mon (S := S) (thP_mon (S := S) hl f (deep + 1)))) (s.1 + 1, none) ⟨kc_lt q.1 (by decide), fun _ e => by cases e⟩
          have h2 := h1.1
          have h3 := need_ok (S := S) (c := 41) (by decide) hl h1.2
          simp only at h2
          refine ⟨?_, h3⟩
          have : ∀ s : PF, s.1 ≤ (needP S lim 41 s).1 := fun s => by unfold needP; split; exact Nat.le_succ _; exact Nat.le_refl _
          have := this (heP S lim (suP S lim (prP S lim (thP S lim f (deep + 1)))) (s.1 + 1, none)).2
          simp only
          omega
        · split
          · refine ⟨?_, num_ok hl hs⟩
            have e : s.2 = none := Classical.not_not.mp q2
            have hb := numM_le (S := S) (lim := lim) (d := 3) (v := 0) hs.1
            obtain ⟨p, f⟩ := s
            simp only at e
            subst e
            simp only [numP]
            split
            · exact hb.1
            · split
              · exact hb.1
              · exact hb.1
          · next q4 =>
            split
            · exact ⟨Nat.le_refl _, fault_ok (by have := hs.1; omega) hs⟩
            · next q5 =>
              refine ⟨Nat.le_succ _, ?_, fun _ e => by cases e⟩
              show s.1 + 1 ≤ lim
              rcases Nat.lt_or_ge s.1 lim with z | z
              · exact z
              · rw [show kc S lim s.1 = -1 from if_neg (by omega)] at q5
                exact absurd (by decide +kernel : ltx (-1) = 8) q5
theorem dn0 {a b : Int32} : dnF (2000 - 2000) a b = if a < b then 1 else 0 := by rw [show (2000 : Int32) - 2000 = 0 from by decide]; exact if_pos rfl
theorem dn1 {a b : Int32} : dnF (2001 - 2000) a b = if b < a then 1 else 0 := by rw [show (2001 : Int32) - 2000 = 1 from by decide, dnF]; rfl
theorem dn2 {a b : Int32} : dnF (2002 - 2000) a b = if a = b then 1 else 0 := by rw [show (2002 : Int32) - 2000 = 2 from by decide, dnF]; rfl
theorem dn3 {a b : Int32} : dnF (2003 - 2000) a b = a + b := by rw [show (2003 : Int32) - 2000 = 3 from by decide, dnF]; rfl
theorem dn4 {a b : Int32} : dnF (2004 - 2000) a b = a - b := by rw [show (2004 : Int32) - 2000 = 4 from by decide, dnF]; rfl
theorem dn5 {a b : Int32} : dnF (2005 - 2000) a b = a * b := by rw [show (2005 : Int32) - 2000 = 5 from by decide, dnF]; rfl
theorem dn6 {a b : Int32} : dnF (2006 - 2000) a b = if b = 0 then 0 else a / b := by rw [show (2006 : Int32) - 2000 = 6 from by decide, dnF]; rfl
set_option maxRecDepth 100000 in
set_option maxHeartbeats 4000000 in
theorem l_X11_product {M : Mem} {a L tp : Nat} (r : RM M a L tp) {lv : Int32 → Int32} {f deep : Nat} {th : PF → PR} (hmo : monP (min L tp) th) (hl40 : min L tp ≤ 40) (hth : ∀ s, pOK (min L tp) s → min L tp - s.1 < f → Con yX11_thing cX11_thing 4 (some .int) (4 * f + 4) [.ref 140, .int (nI deep)] (rdm M s) (fun v N => ∃ x, v = some (.int x) ∧ N = rdm M (th s).2 ∧ evOK lv x (th s))) {XF : PR} : ∀ (N : Nat) (rr : PR) (v : Int32), (pOK (min L tp) rr.2) → (min L tp - rr.2.1 < f) → (evOK lv v rr) → (prL (M.1 a) (min L tp) th N rr = XF) → min L tp - rr.2.1 < N → Reach cX11_product RX11 5 (4 * f + 5) (RetQ cX11_product (some .int) (fun v N => ∃ x, v = some (.int x) ∧ N = rdm M (XF).2 ∧ evOK lv x (XF))) 6 [some (.ref 140), some (.int (nI deep)), some (.int v), none, none] [] (rdm M rr.2) := by
  intro N
  induction N with
  | zero => intro rr v hr hfz hv he hm; exact absurd ‹_ < 0› (Nat.not_lt_zero _)
  | succ N ih =>
    intro rr v hr hfz hv he hm
    have hl31 : min L tp < 2 ^ 31 := by omega
    refine rx_aload_n (i := 0) dX11_product_6 rfl rfl ?_
    refine rx_cvI (ci := 11) mo_X11_fine lk_X11_164 (c_X11_fine hr.2) (by omega) rfl rfl (Nat.le_of_ble_eq_true rfl) kl_140 rfl dX11_product_7 ?_
    refine rx_if_eq (tgt := 91) dX11_product_10 (by decide) (fun c10 => ?_) (fun c10 => ?_)
    · skip
      have e10 : ¬ rr.2.2 = none := ite1 c10
      rw [show prL (M.1 a) (min L tp) th (N + 1) rr = rr from if_neg (fun q => e10 q.1)] at he
      subst he
      refine rx_iload_n (i := 2) dX11_product_91 rfl rfl ?_
      exact rx_iret dX11_product_92 ⟨v, rfl, rfl, hv⟩
    · skip
      have e10 : rr.2.2 = none := ite1n c10
      refine rx_aload_n (i := 0) dX11_product_13 rfl rfl ?_
      refine rx_cvI (ci := 11) mo_X11_here lk_X11_168 (c_X11_here (s := rr.2) r hr) (by omega) rfl rfl (Nat.le_of_ble_eq_true rfl) kl_140 rfl dX11_product_14 ?_
      refine rx_bipush (42) dX11_product_17 rfl ?_
      refine rx_icmp_eq (tgt := 31) dX11_product_19 (by decide) (fun c19 => ?_) (fun c19 => ?_)
      · skip
        have ecc : kc (M.1 a) (min L tp) rr.2.1 = 42 ∨ kc (M.1 a) (min L tp) rr.2.1 = 47 := Or.inl c19
        have est : prL (M.1 a) (min L tp) th (N + 1) rr = prL (M.1 a) (min L tp) th N (rr.1 ++ (th (rr.2.1 + 1, none)).1 ++ [if kc (M.1 a) (min L tp) rr.2.1 = 42 then 2005 else 2006], (th (rr.2.1 + 1, none)).2) := if_pos ⟨e10, ecc⟩
        rw [est] at he
        have hlt : rr.2.1 < min L tp := ecc.elim (fun q => kc_lt q (by decide)) (fun q => kc_lt q (by decide))
        have hpk : pOK (min L tp) (rr.2.1 + 1, none) := ⟨hlt, fun _ e => by cases e⟩
        have hmm := hmo _ hpk
        have hmm1 : rr.2.1 + 1 ≤ (th (rr.2.1 + 1, none)).2.1 := hmm.1
        refine rx_aload_n (i := 0) dX11_product_31 rfl rfl ?_
        refine rx_cvI (ci := 11) mo_X11_here lk_X11_168 (c_X11_here (s := rr.2) r hr) (by omega) rfl rfl (Nat.le_of_ble_eq_true rfl) kl_140 rfl dX11_product_32 ?_
        refine rx_bipush (42) dX11_product_35 rfl ?_
        refine rx_icmp_ne (tgt := 44) dX11_product_37 (by decide) (fun c37 => absurd c19 c37) (fun c37 => ?_)
        refine rx_iconst (1) dX11_product_40 rfl ?_
        refine rx_goto (tgt := 45) dX11_product_41 (by decide) ?_
        refine rx_istore_n (i := 3) dX11_product_45 rfl (by decide) rfl rfl ?_
        refine rx_aload_n (i := 0) dX11_product_46 rfl rfl ?_
        refine rx_dup dX11_product_47 rfl ?_
        refine rx_getI (k := 25) fo_X11_158 kl_140 (by decide) ti_11_25 dX11_product_48 ?_
        refine rx_top (nI rr.2.1) rdm_25 ?_
        refine rx_iconst (1) dX11_product_51 rfl ?_
        refine rx_iadd dX11_product_52 ?_
        rw [nI_1]
        refine rx_putI (k := 25) fo_X11_158 fn_11_25 kl_140 (by decide) ty_11_25 dX11_product_53 ?_
        rw [rdm_at, e10]
        refine rx_aload_n (i := 0) dX11_product_56 rfl rfl ?_
        refine rx_iload_n (i := 1) dX11_product_57 rfl rfl ?_
        refine rx_callV (ci := 11) mo_X11_thing lk_X11_216 (hth (rr.2.1 + 1, none) hpk (by omega)) (by omega) rfl rfl (Nat.le_of_ble_eq_true rfl) kl_140 rfl dX11_product_58 ?_
        rintro _ _ ⟨o, rfl, rfl, ho⟩
        refine rx_istore (i := 4) dX11_product_61 (by decide) rfl rfl ?_
        refine rx_iload_n (i := 3) dX11_product_63 rfl rfl ?_
        refine rx_if_eq (tgt := 74) dX11_product_64 (by decide) (fun c64 => absurd c64 (by decide)) (fun c64 => ?_)
        refine rx_iload_n (i := 2) dX11_product_67 rfl rfl ?_
        refine rx_iload (i := 4) dX11_product_68 rfl ?_
        refine rx_imul dX11_product_70 ?_
        refine rx_goto (tgt := 87) dX11_product_71 (by decide) ?_
        refine rx_istore_n (i := 2) dX11_product_87 rfl (by decide) rfl rfl ?_
        refine rx_goto (tgt := 6) dX11_product_88 (by decide) ?_
        refine rx_drop 3 ?_
        refine rx_drop 4 ?_
        exact ih (rr.1 ++ (th (rr.2.1 + 1, none)).1 ++ [if kc (M.1 a) (min L tp) rr.2.1 = 42 then 2005 else 2006], (th (rr.2.1 + 1, none)).2) _ hmm.2 (by show min L tp - (th (rr.2.1 + 1, none)).2.1 < f; omega) (by rw [if_pos c19]; rw [← dn5]; exact evOK_2 (op := 2005) (lv := lv) (hv e10) ho (by decide)) he (by show min L tp - (th (rr.2.1 + 1, none)).2.1 < N; omega)
      · skip
        refine rx_aload_n (i := 0) dX11_product_22 rfl rfl ?_
        refine rx_cvI (ci := 11) mo_X11_here lk_X11_168 (c_X11_here (s := rr.2) r hr) (by omega) rfl rfl (Nat.le_of_ble_eq_true rfl) kl_140 rfl dX11_product_23 ?_
        refine rx_bipush (47) dX11_product_26 rfl ?_
        refine rx_icmp_ne (tgt := 91) dX11_product_28 (by decide) (fun c28 => ?_) (fun c28 => ?_)
        · skip
          have e28 : ¬ (kc (M.1 a) (min L tp) rr.2.1 = 42 ∨ kc (M.1 a) (min L tp) rr.2.1 = 47) := fun q => q.elim c19 c28
          rw [show prL (M.1 a) (min L tp) th (N + 1) rr = rr from if_neg (fun q => e28 q.2)] at he
          subst he
          refine rx_iload_n (i := 2) dX11_product_91 rfl rfl ?_
          exact rx_iret dX11_product_92 ⟨v, rfl, rfl, hv⟩
        · skip
          have ecc : kc (M.1 a) (min L tp) rr.2.1 = 42 ∨ kc (M.1 a) (min L tp) rr.2.1 = 47 := Or.inr c28
          have est : prL (M.1 a) (min L tp) th (N + 1) rr = prL (M.1 a) (min L tp) th N (rr.1 ++ (th (rr.2.1 + 1, none)).1 ++ [if kc (M.1 a) (min L tp) rr.2.1 = 42 then 2005 else 2006], (th (rr.2.1 + 1, none)).2) := if_pos ⟨e10, ecc⟩
          rw [est] at he
          have hlt : rr.2.1 < min L tp := ecc.elim (fun q => kc_lt q (by decide)) (fun q => kc_lt q (by decide))
          have hpk : pOK (min L tp) (rr.2.1 + 1, none) := ⟨hlt, fun _ e => by cases e⟩
          have hmm := hmo _ hpk
          have hmm1 : rr.2.1 + 1 ≤ (th (rr.2.1 + 1, none)).2.1 := hmm.1
          refine rx_aload_n (i := 0) dX11_product_31 rfl rfl ?_
          refine rx_cvI (ci := 11) mo_X11_here lk_X11_168 (c_X11_here (s := rr.2) r hr) (by omega) rfl rfl (Nat.le_of_ble_eq_true rfl) kl_140 rfl dX11_product_32 ?_
          refine rx_bipush (42) dX11_product_35 rfl ?_
          refine rx_icmp_ne (tgt := 44) dX11_product_37 (by decide) (fun c37 => ?_) (fun c37 => absurd c37 c19)
          refine rx_iconst (0) dX11_product_44 rfl ?_
          refine rx_istore_n (i := 3) dX11_product_45 rfl (by decide) rfl rfl ?_
          refine rx_aload_n (i := 0) dX11_product_46 rfl rfl ?_
          refine rx_dup dX11_product_47 rfl ?_
          refine rx_getI (k := 25) fo_X11_158 kl_140 (by decide) ti_11_25 dX11_product_48 ?_
          refine rx_top (nI rr.2.1) rdm_25 ?_
          refine rx_iconst (1) dX11_product_51 rfl ?_
          refine rx_iadd dX11_product_52 ?_
          rw [nI_1]
          refine rx_putI (k := 25) fo_X11_158 fn_11_25 kl_140 (by decide) ty_11_25 dX11_product_53 ?_
          rw [rdm_at, e10]
          refine rx_aload_n (i := 0) dX11_product_56 rfl rfl ?_
          refine rx_iload_n (i := 1) dX11_product_57 rfl rfl ?_
          refine rx_callV (ci := 11) mo_X11_thing lk_X11_216 (hth (rr.2.1 + 1, none) hpk (by omega)) (by omega) rfl rfl (Nat.le_of_ble_eq_true rfl) kl_140 rfl dX11_product_58 ?_
          rintro _ _ ⟨o, rfl, rfl, ho⟩
          refine rx_istore (i := 4) dX11_product_61 (by decide) rfl rfl ?_
          refine rx_iload_n (i := 3) dX11_product_63 rfl rfl ?_
          refine rx_if_eq (tgt := 74) dX11_product_64 (by decide) (fun c64 => ?_) (fun c64 => absurd rfl c64)
          refine rx_iload (i := 4) dX11_product_74 rfl ?_
          refine rx_if_ne (tgt := 83) dX11_product_76 (by decide) (fun c76 => ?_) (fun c76 => ?_)
          · skip
            refine rx_iload_n (i := 2) dX11_product_83 rfl rfl ?_
            refine rx_iload (i := 4) dX11_product_84 rfl ?_
            refine rx_idiv dX11_product_86 c76 ?_
            refine rx_istore_n (i := 2) dX11_product_87 rfl (by decide) rfl rfl ?_
            refine rx_goto (tgt := 6) dX11_product_88 (by decide) ?_
            refine rx_drop 3 ?_
            refine rx_drop 4 ?_
            exact ih (rr.1 ++ (th (rr.2.1 + 1, none)).1 ++ [if kc (M.1 a) (min L tp) rr.2.1 = 42 then 2005 else 2006], (th (rr.2.1 + 1, none)).2) _ hmm.2 (by show min L tp - (th (rr.2.1 + 1, none)).2.1 < f; omega) (by rw [if_neg c19]; rw [show v / o = dnF (2006 - 2000) v o from by rw [dn6]; exact (if_neg c76).symm]; exact evOK_2 (op := 2006) (lv := lv) (hv e10) ho (by decide)) he (by show min L tp - (th (rr.2.1 + 1, none)).2.1 < N; omega)
          · skip
            refine rx_iconst (0) dX11_product_79 rfl ?_
            refine rx_goto (tgt := 87) dX11_product_80 (by decide) ?_
            refine rx_istore_n (i := 2) dX11_product_87 rfl (by decide) rfl rfl ?_
            refine rx_goto (tgt := 6) dX11_product_88 (by decide) ?_
            refine rx_drop 3 ?_
            refine rx_drop 4 ?_
            exact ih (rr.1 ++ (th (rr.2.1 + 1, none)).1 ++ [if kc (M.1 a) (min L tp) rr.2.1 = 42 then 2005 else 2006], (th (rr.2.1 + 1, none)).2) _ hmm.2 (by show min L tp - (th (rr.2.1 + 1, none)).2.1 < f; omega) (by rw [if_neg c19]; rw [show (0 : Int32) = dnF (2006 - 2000) v o from by rw [dn6]; exact (if_pos c76).symm]; exact evOK_2 (op := 2006) (lv := lv) (hv e10) ho (by decide)) he (by show min L tp - (th (rr.2.1 + 1, none)).2.1 < N; omega)
set_option maxRecDepth 100000 in
set_option maxHeartbeats 4000000 in
theorem c_X11_product {M : Mem} {a L tp : Nat} (r : RM M a L tp) {lv : Int32 → Int32} {f deep : Nat} {th : PF → PR} (hmo : monP (min L tp) th) (hl40 : min L tp ≤ 40) (hth : ∀ s, pOK (min L tp) s → min L tp - s.1 < f → Con yX11_thing cX11_thing 4 (some .int) (4 * f + 4) [.ref 140, .int (nI deep)] (rdm M s) (fun v N => ∃ x, v = some (.int x) ∧ N = rdm M (th s).2 ∧ evOK lv x (th s))) {s : PF} (hs : pOK (min L tp) s) (hfs : min L tp - s.1 < f) : Con yX11_product cX11_product 5 (some .int) (4 * f + 5) [.ref 140, .int (nI deep)] (rdm M s) (fun v N => ∃ x, v = some (.int x) ∧ N = rdm M (prP (M.1 a) (min L tp) th s).2 ∧ evOK lv x (prP (M.1 a) (min L tp) th s)) := by
  refine Con.of (own := RX11) (ls := [some (.ref 140), some (.int (nI deep)), none, none, none]) rfl (by decide +kernel) (Nat.le_of_ble_eq_true rfl) rfl ?_
  refine rx_aload_n (i := 0) dX11_product_0 rfl rfl ?_
  refine rx_iload_n (i := 1) dX11_product_1 rfl rfl ?_
  refine rx_callV (ci := 11) mo_X11_thing lk_X11_216 (hth s hs hfs) (by omega) rfl rfl (Nat.le_of_ble_eq_true rfl) kl_140 rfl dX11_product_2 ?_
  rintro _ _ ⟨o, rfl, rfl, ho⟩
  refine rx_istore_n (i := 2) dX11_product_5 rfl (by decide) rfl rfl ?_
  have hm1 := hmo s hs
  have hm2 : s.1 ≤ (th s).2.1 := hm1.1
  exact l_X11_product r hmo hl40 hth 41 (th s) o hm1.2 (by omega) ho rfl (by omega)
set_option maxRecDepth 100000 in
set_option maxHeartbeats 4000000 in
theorem l_X11_sum {M : Mem} {a L tp : Nat} (r : RM M a L tp) {lv : Int32 → Int32} {f deep : Nat} {th : PF → PR} (hmo : monP (min L tp) th) (hl40 : min L tp ≤ 40) (hth : ∀ s, pOK (min L tp) s → min L tp - s.1 < f → Con yX11_product cX11_product 5 (some .int) (4 * f + 5) [.ref 140, .int (nI deep)] (rdm M s) (fun v N => ∃ x, v = some (.int x) ∧ N = rdm M (th s).2 ∧ evOK lv x (th s))) {XF : PR} : ∀ (N : Nat) (rr : PR) (v : Int32), (pOK (min L tp) rr.2) → (min L tp - rr.2.1 < f) → (evOK lv v rr) → (suL (M.1 a) (min L tp) th N rr = XF) → min L tp - rr.2.1 < N → Reach cX11_sum RX11 5 (4 * f + 6) (RetQ cX11_sum (some .int) (fun v N => ∃ x, v = some (.int x) ∧ N = rdm M (XF).2 ∧ evOK lv x (XF))) 6 [some (.ref 140), some (.int (nI deep)), some (.int v), none, none] [] (rdm M rr.2) := by
  intro N
  induction N with
  | zero => intro rr v hr hfz hv he hm; exact absurd ‹_ < 0› (Nat.not_lt_zero _)
  | succ N ih =>
    intro rr v hr hfz hv he hm
    have hl31 : min L tp < 2 ^ 31 := by omega
    refine rx_aload_n (i := 0) dX11_sum_6 rfl rfl ?_
    refine rx_cvI (ci := 11) mo_X11_fine lk_X11_164 (c_X11_fine hr.2) (by omega) rfl rfl (Nat.le_of_ble_eq_true rfl) kl_140 rfl dX11_sum_7 ?_
    refine rx_if_eq (tgt := 82) dX11_sum_10 (by decide) (fun c10 => ?_) (fun c10 => ?_)
    · skip
      have e10 : ¬ rr.2.2 = none := ite1 c10
      rw [show suL (M.1 a) (min L tp) th (N + 1) rr = rr from if_neg (fun q => e10 q.1)] at he
      subst he
      refine rx_iload_n (i := 2) dX11_sum_82 rfl rfl ?_
      exact rx_iret dX11_sum_83 ⟨v, rfl, rfl, hv⟩
    · skip
      have e10 : rr.2.2 = none := ite1n c10
      refine rx_aload_n (i := 0) dX11_sum_13 rfl rfl ?_
      refine rx_cvI (ci := 11) mo_X11_here lk_X11_168 (c_X11_here (s := rr.2) r hr) (by omega) rfl rfl (Nat.le_of_ble_eq_true rfl) kl_140 rfl dX11_sum_14 ?_
      refine rx_bipush (43) dX11_sum_17 rfl ?_
      refine rx_icmp_eq (tgt := 31) dX11_sum_19 (by decide) (fun c19 => ?_) (fun c19 => ?_)
      · skip
        have ecc : kc (M.1 a) (min L tp) rr.2.1 = 43 ∨ kc (M.1 a) (min L tp) rr.2.1 = 45 := Or.inl c19
        have est : suL (M.1 a) (min L tp) th (N + 1) rr = suL (M.1 a) (min L tp) th N (rr.1 ++ (th (rr.2.1 + 1, none)).1 ++ [if kc (M.1 a) (min L tp) rr.2.1 = 43 then 2003 else 2004], (th (rr.2.1 + 1, none)).2) := if_pos ⟨e10, ecc⟩
        rw [est] at he
        have hlt : rr.2.1 < min L tp := ecc.elim (fun q => kc_lt q (by decide)) (fun q => kc_lt q (by decide))
        have hpk : pOK (min L tp) (rr.2.1 + 1, none) := ⟨hlt, fun _ e => by cases e⟩
        have hmm := hmo _ hpk
        have hmm1 : rr.2.1 + 1 ≤ (th (rr.2.1 + 1, none)).2.1 := hmm.1
        refine rx_aload_n (i := 0) dX11_sum_31 rfl rfl ?_
        refine rx_cvI (ci := 11) mo_X11_here lk_X11_168 (c_X11_here (s := rr.2) r hr) (by omega) rfl rfl (Nat.le_of_ble_eq_true rfl) kl_140 rfl dX11_sum_32 ?_
        refine rx_bipush (43) dX11_sum_35 rfl ?_
        refine rx_icmp_ne (tgt := 44) dX11_sum_37 (by decide) (fun c37 => absurd c19 c37) (fun c37 => ?_)
        refine rx_iconst (1) dX11_sum_40 rfl ?_
        refine rx_goto (tgt := 45) dX11_sum_41 (by decide) ?_
        refine rx_istore_n (i := 3) dX11_sum_45 rfl (by decide) rfl rfl ?_
        refine rx_aload_n (i := 0) dX11_sum_46 rfl rfl ?_
        refine rx_dup dX11_sum_47 rfl ?_
        refine rx_getI (k := 25) fo_X11_158 kl_140 (by decide) ti_11_25 dX11_sum_48 ?_
        refine rx_top (nI rr.2.1) rdm_25 ?_
        refine rx_iconst (1) dX11_sum_51 rfl ?_
        refine rx_iadd dX11_sum_52 ?_
        rw [nI_1]
        refine rx_putI (k := 25) fo_X11_158 fn_11_25 kl_140 (by decide) ty_11_25 dX11_sum_53 ?_
        rw [rdm_at, e10]
        refine rx_aload_n (i := 0) dX11_sum_56 rfl rfl ?_
        refine rx_iload_n (i := 1) dX11_sum_57 rfl rfl ?_
        refine rx_callV (ci := 11) mo_X11_product lk_X11_213 (hth (rr.2.1 + 1, none) hpk (by omega)) (by omega) rfl rfl (Nat.le_of_ble_eq_true rfl) kl_140 rfl dX11_sum_58 ?_
        rintro _ _ ⟨o, rfl, rfl, ho⟩
        refine rx_istore (i := 4) dX11_sum_61 (by decide) rfl rfl ?_
        refine rx_iload_n (i := 3) dX11_sum_63 rfl rfl ?_
        refine rx_if_eq (tgt := 74) dX11_sum_64 (by decide) (fun c64 => absurd c64 (by decide)) (fun c64 => ?_)
        refine rx_iload_n (i := 2) dX11_sum_67 rfl rfl ?_
        refine rx_iload (i := 4) dX11_sum_68 rfl ?_
        refine rx_iadd dX11_sum_70 ?_
        refine rx_goto (tgt := 78) dX11_sum_71 (by decide) ?_
        refine rx_istore_n (i := 2) dX11_sum_78 rfl (by decide) rfl rfl ?_
        refine rx_goto (tgt := 6) dX11_sum_79 (by decide) ?_
        refine rx_drop 3 ?_
        refine rx_drop 4 ?_
        exact ih (rr.1 ++ (th (rr.2.1 + 1, none)).1 ++ [if kc (M.1 a) (min L tp) rr.2.1 = 43 then 2003 else 2004], (th (rr.2.1 + 1, none)).2) _ hmm.2 (by show min L tp - (th (rr.2.1 + 1, none)).2.1 < f; omega) (by rw [if_pos c19]; rw [← dn3]; exact evOK_2 (op := 2003) (lv := lv) (hv e10) ho (by decide)) he (by show min L tp - (th (rr.2.1 + 1, none)).2.1 < N; omega)
      · skip
        refine rx_aload_n (i := 0) dX11_sum_22 rfl rfl ?_
        refine rx_cvI (ci := 11) mo_X11_here lk_X11_168 (c_X11_here (s := rr.2) r hr) (by omega) rfl rfl (Nat.le_of_ble_eq_true rfl) kl_140 rfl dX11_sum_23 ?_
        refine rx_bipush (45) dX11_sum_26 rfl ?_
        refine rx_icmp_ne (tgt := 82) dX11_sum_28 (by decide) (fun c28 => ?_) (fun c28 => ?_)
        · skip
          have e28 : ¬ (kc (M.1 a) (min L tp) rr.2.1 = 43 ∨ kc (M.1 a) (min L tp) rr.2.1 = 45) := fun q => q.elim c19 c28
          rw [show suL (M.1 a) (min L tp) th (N + 1) rr = rr from if_neg (fun q => e28 q.2)] at he
          subst he
          refine rx_iload_n (i := 2) dX11_sum_82 rfl rfl ?_
          exact rx_iret dX11_sum_83 ⟨v, rfl, rfl, hv⟩
        · skip
          have ecc : kc (M.1 a) (min L tp) rr.2.1 = 43 ∨ kc (M.1 a) (min L tp) rr.2.1 = 45 := Or.inr c28
          have est : suL (M.1 a) (min L tp) th (N + 1) rr = suL (M.1 a) (min L tp) th N (rr.1 ++ (th (rr.2.1 + 1, none)).1 ++ [if kc (M.1 a) (min L tp) rr.2.1 = 43 then 2003 else 2004], (th (rr.2.1 + 1, none)).2) := if_pos ⟨e10, ecc⟩
          rw [est] at he
          have hlt : rr.2.1 < min L tp := ecc.elim (fun q => kc_lt q (by decide)) (fun q => kc_lt q (by decide))
          have hpk : pOK (min L tp) (rr.2.1 + 1, none) := ⟨hlt, fun _ e => by cases e⟩
          have hmm := hmo _ hpk
          have hmm1 : rr.2.1 + 1 ≤ (th (rr.2.1 + 1, none)).2.1 := hmm.1
          refine rx_aload_n (i := 0) dX11_sum_31 rfl rfl ?_
          refine rx_cvI (ci := 11) mo_X11_here lk_X11_168 (c_X11_here (s := rr.2) r hr) (by omega) rfl rfl (Nat.le_of_ble_eq_true rfl) kl_140 rfl dX11_sum_32 ?_
          refine rx_bipush (43) dX11_sum_35 rfl ?_
          refine rx_icmp_ne (tgt := 44) dX11_sum_37 (by decide) (fun c37 => ?_) (fun c37 => absurd c37 c19)
          refine rx_iconst (0) dX11_sum_44 rfl ?_
          refine rx_istore_n (i := 3) dX11_sum_45 rfl (by decide) rfl rfl ?_
          refine rx_aload_n (i := 0) dX11_sum_46 rfl rfl ?_
          refine rx_dup dX11_sum_47 rfl ?_
          refine rx_getI (k := 25) fo_X11_158 kl_140 (by decide) ti_11_25 dX11_sum_48 ?_
          refine rx_top (nI rr.2.1) rdm_25 ?_
          refine rx_iconst (1) dX11_sum_51 rfl ?_
          refine rx_iadd dX11_sum_52 ?_
          rw [nI_1]
          refine rx_putI (k := 25) fo_X11_158 fn_11_25 kl_140 (by decide) ty_11_25 dX11_sum_53 ?_
          rw [rdm_at, e10]
          refine rx_aload_n (i := 0) dX11_sum_56 rfl rfl ?_
          refine rx_iload_n (i := 1) dX11_sum_57 rfl rfl ?_
          refine rx_callV (ci := 11) mo_X11_product lk_X11_213 (hth (rr.2.1 + 1, none) hpk (by omega)) (by omega) rfl rfl (Nat.le_of_ble_eq_true rfl) kl_140 rfl dX11_sum_58 ?_
          rintro _ _ ⟨o, rfl, rfl, ho⟩
          refine rx_istore (i := 4) dX11_sum_61 (by decide) rfl rfl ?_
          refine rx_iload_n (i := 3) dX11_sum_63 rfl rfl ?_
          refine rx_if_eq (tgt := 74) dX11_sum_64 (by decide) (fun c64 => ?_) (fun c64 => absurd rfl c64)
          refine rx_iload_n (i := 2) dX11_sum_74 rfl rfl ?_
          refine rx_iload (i := 4) dX11_sum_75 rfl ?_
          refine rx_isub dX11_sum_77 ?_
          refine rx_istore_n (i := 2) dX11_sum_78 rfl (by decide) rfl rfl ?_
          refine rx_goto (tgt := 6) dX11_sum_79 (by decide) ?_
          refine rx_drop 3 ?_
          refine rx_drop 4 ?_
          exact ih (rr.1 ++ (th (rr.2.1 + 1, none)).1 ++ [if kc (M.1 a) (min L tp) rr.2.1 = 43 then 2003 else 2004], (th (rr.2.1 + 1, none)).2) _ hmm.2 (by show min L tp - (th (rr.2.1 + 1, none)).2.1 < f; omega) (by rw [if_neg c19]; rw [← dn4]; exact evOK_2 (op := 2004) (lv := lv) (hv e10) ho (by decide)) he (by show min L tp - (th (rr.2.1 + 1, none)).2.1 < N; omega)
set_option maxRecDepth 100000 in
set_option maxHeartbeats 4000000 in
theorem c_X11_sum {M : Mem} {a L tp : Nat} (r : RM M a L tp) {lv : Int32 → Int32} {f deep : Nat} {th : PF → PR} (hmo : monP (min L tp) th) (hl40 : min L tp ≤ 40) (hth : ∀ s, pOK (min L tp) s → min L tp - s.1 < f → Con yX11_product cX11_product 5 (some .int) (4 * f + 5) [.ref 140, .int (nI deep)] (rdm M s) (fun v N => ∃ x, v = some (.int x) ∧ N = rdm M (th s).2 ∧ evOK lv x (th s))) {s : PF} (hs : pOK (min L tp) s) (hfs : min L tp - s.1 < f) : Con yX11_sum cX11_sum 5 (some .int) (4 * f + 6) [.ref 140, .int (nI deep)] (rdm M s) (fun v N => ∃ x, v = some (.int x) ∧ N = rdm M (suP (M.1 a) (min L tp) th s).2 ∧ evOK lv x (suP (M.1 a) (min L tp) th s)) := by
  refine Con.of (own := RX11) (ls := [some (.ref 140), some (.int (nI deep)), none, none, none]) rfl (by decide +kernel) (Nat.le_of_ble_eq_true rfl) rfl ?_
  refine rx_aload_n (i := 0) dX11_sum_0 rfl rfl ?_
  refine rx_iload_n (i := 1) dX11_sum_1 rfl rfl ?_
  refine rx_callV (ci := 11) mo_X11_product lk_X11_213 (hth s hs hfs) (by omega) rfl rfl (Nat.le_of_ble_eq_true rfl) kl_140 rfl dX11_sum_2 ?_
  rintro _ _ ⟨o, rfl, rfl, ho⟩
  refine rx_istore_n (i := 2) dX11_sum_5 rfl (by decide) rfl rfl ?_
  have hm1 := hmo s hs
  have hm2 : s.1 ≤ (th s).2.1 := hm1.1
  exact l_X11_sum r hmo hl40 hth 41 (th s) o hm1.2 (by omega) ho rfl (by omega)
