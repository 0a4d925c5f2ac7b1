/-- where a rule of L signs ends, and what's wrong -/
def ruQ (X : Nat → Int32) (L : Nat) : PF := if L = 0 then (0, none) else (heF X (min L 40) 41 0 (0, none)).2
def ruE (X : Nat → Int32) (L : Nat) : PF := if (ruQ X L).1 < L then faultP (ruQ X L).1 (ruQ X L) else ruQ X L
theorem ruQ_ok {X : Nat → Int32} {L : Nat} : pOK (min L 40) (ruQ X L) := by
  unfold ruQ; split
  · exact ⟨Nat.zero_le _, fun _ e => by cases e⟩
  · have hl : min L 40 < 2 ^ 31 := by have := Nat.min_le_right L 40; omega
    exact (heP_mon (suP_mon (prP_mon (thP_mon hl 41 0))) (0, none) ⟨Nat.zero_le _, fun _ e => by cases e⟩).2
/-- the first c signs taken for the rule -/
def cprM (M : Mem) (c : Nat) : Mem := (fun a j => if a = 156 ∧ j < c then M.1 154 j else M.1 a j, M.2)
theorem cpr_0 {M : Mem} : cprM M 0 = M := by
  refine Prod.ext ?_ rfl
  funext a j; exact if_neg (by omega)
theorem cpr_s {M : Mem} {c : Nat} {x : Int32} (hx : x = M.1 154 c) : setI (cprM M c) 156 c x = cprM M (c + 1) := by
  subst hx
  refine Prod.ext ?_ rfl
  funext a j
  simp only [setI, cprM]
  by_cases h : a = 156 ∧ j = c
  · rw [if_pos h, if_pos (by omega), h.2]
  · rw [if_neg h]
    by_cases h2 : a = 156 ∧ j < c
    · rw [if_pos h2, if_pos (by omega)]
    · rw [if_neg h2, if_neg (by omega)]
theorem cpr_o {M : Mem} {c a j : Nat} (h : a ≠ 156) : (cprM M c).1 a j = M.1 a j := if_neg (fun q => h q.1)
set_option maxRecDepth 100000 in
set_option maxHeartbeats 4000000 in
theorem l_X11_rule {M : Mem} {L : Nat} (hL40 : L ≤ 40) (hby : ∀ j, j < L → vp_nar .byte (M.1 154 j) = M.1 154 j) {QQ : Nat → List (Option Value) → List Value → Mem → Prop} (K : Reach cX11_rule RX11 3 172 QQ 96 [some (.ref 140), some (.int (nI L)), some (.int (nI L))] [] (cprM M L)) : ∀ (N : Nat) (i : Nat), (i ≤ L) → L - i < N → Reach cX11_rule RX11 3 172 (QQ) 73 [some (.ref 140), some (.int (nI L)), some (.int (nI i))] [] (cprM M i) := by
  intro N
  induction N with
  | zero => intro i hi hm; exact absurd ‹_ < 0› (Nat.not_lt_zero _)
  | succ N ih =>
    intro i hi hm
    refine rx_iload_n (i := 2) dX11_rule_73 rfl rfl ?_
    refine rx_iload_n (i := 1) dX11_rule_74 rfl rfl ?_
    refine rx_icmp_ge (tgt := 96) dX11_rule_75 (by decide) (fun c75 => ?_) (fun c75 => ?_)
    · skip
      have f75 := Int32.not_lt.mpr c75
      have e75 : i = L := by have := (nI_leI (by omega) (by omega)).mp c75; omega
      subst e75
      exact K
      skip
    · skip
      have f75 := Int32.not_le.mp c75
      have e75 : i < L := Nat.lt_of_not_le fun q => c75 (nI_le q (by omega))
      refine rx_aload_n (i := 0) dX11_rule_78 rfl rfl ?_
      refine rx_getR 156 (k := 27) fo_X11_62 kl_140 (by decide) ti_11_27 (by decide) rfl dX11_rule_79 ?_
      refine rx_iload_n (i := 2) dX11_rule_82 rfl rfl ?_
      refine rx_aload_n (i := 0) dX11_rule_83 rfl rfl ?_
      refine rx_getR 154 (k := 17) fo_X11_54 kl_140 (by decide) ti_11_17 (by decide) rfl dX11_rule_84 ?_
      refine rx_iload_n (i := 2) dX11_rule_87 rfl rfl ?_
      refine rx_baldN kl_154 (by omega) (by first | decide | omega) dX11_rule_88 ?_
      refine rx_top (M.1 154 i) (cpr_o (by omega)) ?_
      refine rx_bastN kl_156 (by omega) (by first | decide | omega) dX11_rule_89 ?_
      rw [hby i (by omega), cpr_s rfl]
      first | refine rx_iincN (i := 2) dX11_rule_90 rfl (by decide) rfl rfl ?_ | refine rx_iinc (i := 2) dX11_rule_90 rfl rfl (by decide) rfl rfl ?_
      refine rx_goto (tgt := 73) dX11_rule_93 (by decide) ?_
      exact ih (i + 1) (by omega) (by omega)
theorem ruQ_s {X : Nat → Int32} {L : Nat} (h : ¬ L = 0) : (heF X (min L 40) 41 0 (0, none)).2 = ruQ X L := by unfold ruQ; rw [if_neg h]
theorem ruE_t {X : Nat → Int32} {L : Nat} (h : (ruQ X L).1 < L) : ruE X L = faultP (ruQ X L).1 (ruQ X L) := if_pos h
theorem ruE_f {X : Nat → Int32} {L : Nat} (h : ¬ (ruQ X L).1 < L) : ruE X L = ruQ X L := if_neg h
theorem ruE_0 {X : Nat → Int32} : ruE X 0 = (0, none) := by
  have h : ruQ X 0 = (0, none) := if_pos rfl
  rw [ruE_f (by rw [h]; omega), h]
theorem ruE_ok {X : Nat → Int32} {L : Nat} : pOK (min L 40) (ruE X L) := by
  unfold ruE; split
  · exact fault_ok (by have := (ruQ_ok (X := X) (L := L)).1; have := Nat.min_le_right L 40; omega) ruQ_ok
  · exact ruQ_ok
theorem ruE_40 {X : Nat → Int32} {L : Nat} (h : (ruE X L).2 = none) : L ≤ 40 := by
  rcases Nat.lt_or_ge (ruQ X L).1 L with q | q
  · rw [ruE_t q] at h
    simp only [faultP] at h
    split at h <;> cases h
  · have := (ruQ_ok (X := X) (L := L)).1
    have := Nat.min_le_right L 40
    omega
/-- as frQ, the row too stays -/
def frP (M N : Mem) : Prop := (∀ a j, ¬ (159 ≤ a ∧ a ≤ 172) → ¬ (a = 140 ∧ (j = 21 ∨ (23 ≤ j ∧ j ≤ 26) ∨ j = 29 ∨ j = 30)) → N.1 a j = M.1 a j) ∧ ∀ a, a ≠ 166 → a ≠ 166 → N.2.1 a = M.2.1 a
theorem frP.refl {M : Mem} : frP M M := ⟨fun _ _ _ _ => rfl, fun _ _ _ => rfl⟩
theorem frP.trans {M N K : Mem} (h : frP M N) (h2 : frP N K) : frP M K := ⟨fun a j q r => (h2.1 a j q r).trans (h.1 a j q r), fun a q r => (h2.2 a q r).trans (h.2 a q r)⟩
theorem frP_I {M : Mem} {a j : Nat} {x : Int32} (h : (159 ≤ a ∧ a ≤ 172) ∨ (a = 140 ∧ (j = 21 ∨ (23 ≤ j ∧ j ≤ 26) ∨ j = 29 ∨ j = 30))) : frP M (setI M a j x) := ⟨fun b k q r => if_neg (by omega), fun _ _ _ => rfl⟩
theorem frP_t0 {M : Mem} : frP M (t0 M) := frP_I (by omega)
theorem frS.P {M N : Mem} (h : frS M N) : frP M N := ⟨fun a j q r => h.1 a j (by omega), fun a _ _ => by rw [h.2]⟩
theorem ruM_fr {M K : Mem} {s : PF} {L : Nat} (hF : frP (setI M 140 18 0) K) : frP (setI (setI (cprM M L) 140 18 0) 140 28 (nI L)) (setI (cprM (rdm K s) L) 140 28 (nI L)) := by
  refine ⟨fun a j q r => ?_, fun a q r => hF.2 a q r⟩
  by_cases h1 : a = 140 ∧ j = 28
  · rw [h1.1, h1.2, sI_eq, sI_eq]
  · rw [sI_ne h1, sI_ne h1]
    by_cases h2 : a = 156 ∧ j < L
    · rw [sI_ne (by omega), show (cprM (rdm K s) L).1 a j = (rdm K s).1 154 j from if_pos h2, show (cprM M L).1 a j = M.1 154 j from if_pos h2, rdm_o (by omega), hF.1 154 j (by omega) (by omega), sI_ne (by omega)]
    · rw [show (cprM (rdm K s) L).1 a j = (rdm K s).1 a j from if_neg h2, rdm_o (by omega), hF.1 a j q r]
      by_cases h3 : a = 140 ∧ j = 18
      · rw [h3.1, h3.2, sI_eq, sI_eq]
      · rw [sI_ne h3, sI_ne h3, show (cprM M L).1 a j = M.1 a j from if_neg h2]
set_option maxRecDepth 100000 in
set_option maxHeartbeats 4000000 in
theorem c_X11_rule {M : Mem} {n m L : Nat} (w : MW M n m) (h18 : M.1 140 18 = nI L) (hL80 : L ≤ 80) (hby : ∀ j, j < L → vp_nar .byte (M.1 154 j) = M.1 154 j) : Con yX11_rule cX11_rule 3 (some .int) 172 [.ref 140] M (fun v N => match (ruE (M.1 154) L).2 with | none => v = some (.int 0) ∧ frP (setI (setI (cprM M L) 140 18 0) 140 28 (nI L)) N | some q => v = some (.int (-1 - nI q)) ∧ frP (setI M 140 18 0) N) := by
  refine Con.of (own := RX11) (ls := [some (.ref 140), none, none]) rfl (by decide +kernel) (Nat.le_of_ble_eq_true rfl) rfl ?_
  obtain ⟨K, hK⟩ : ∃ K, setI (setI (bgM (setI M 140 21 0) 154 L 40) 140 18 0) 140 29 (-1) = K := ⟨_, rfl⟩
  have eK : K = rdm K (0, none) := by
    rw [← hK]
    unfold bgM
    simp only [rdm_set (show ¬ (140 = 140 ∧ (18 = 25 ∨ 18 = 26)) by omega), rdm_set (show ¬ (140 = 140 ∧ (29 = 25 ∨ 29 = 26)) by omega), rdm_rdm]
  have hF : frP (setI M 140 18 0) K := by
    rw [← hK]
    have h1 : frP M (bgM (setI M 140 21 0) 154 L 40) := frP_t0.trans bgM_fr.P
    refine frP.trans (N := setI (bgM (setI M 140 21 0) 154 L 40) 140 18 0) ⟨fun a j q r => ?_, fun a q r => h1.2 a q r⟩ (frP_I (by omega))
    by_cases e : a = 140 ∧ j = 18
    · rw [e.1, e.2, sI_eq, sI_eq]
    · rw [sI_ne e, sI_ne e]; exact h1.1 a j q r
  have hRM : RM K 154 L 40 := by rw [← hK]; exact (bgM_RM (by omega) (by omega) (Or.inl rfl)).keep rfl ((sI_ne (by omega)).trans (sI_ne (by omega))) ((sI_ne (by omega)).trans (sI_ne (by omega)))
  have wK : MW K n m := w.keep (by rw [hF.1 _ _ (by omega) (by omega)]; exact sI_ne (by omega)) (by rw [hF.1 _ _ (by omega) (by omega)]; exact sI_ne (by omega)) (fun _ _ => by rw [hF.1 _ _ (by omega) (by omega)]; exact sI_ne (by omega)) (fun _ _ => by rw [hF.1 _ _ (by omega) (by omega)]; exact sI_ne (by omega))
  have eX : K.1 154 = M.1 154 := funext fun j => (hF.1 154 j (by omega) (by omega)).trans (sI_ne (by omega))
  have hlv : lvOK K n m (fun _ => 0) := Or.inl ⟨by rw [← hK]; exact sI_eq, fun _ => rfl⟩
  have hok := ruQ_ok (X := M.1 154) (L := L)
  have hl := Nat.min_le_right L 40
  have hok1 := hok.1
  have hokE := ruE_ok (X := M.1 154) (L := L)
  refine rx_aload_n (i := 0) dX11_rule_0 rfl rfl ?_
  refine rx_iconst (0) dX11_rule_1 rfl ?_
  refine rx_putI (k := 21) fo_X11_126 fn_11_21 kl_140 (by decide) ty_11_21 dX11_rule_2 ?_
  refine rx_aload_n (i := 0) dX11_rule_5 rfl rfl ?_
  refine rx_getI (k := 18) fo_X11_146 kl_140 (by decide) ti_11_18 dX11_rule_6 ?_
  refine rx_top (nI L) ((sI_ne (by omega)).trans h18) ?_
  refine rx_istore_n (i := 1) dX11_rule_9 rfl (by decide) rfl rfl ?_
  refine rx_aload_n (i := 0) dX11_rule_10 rfl rfl ?_
  refine rx_aload_n (i := 0) dX11_rule_11 rfl rfl ?_
  refine rx_getR 154 (k := 17) fo_X11_54 kl_140 (by decide) ti_11_17 (by decide) rfl dX11_rule_12 ?_
  refine rx_iload_n (i := 1) dX11_rule_15 rfl rfl ?_
  refine rx_bipush (40) dX11_rule_16 rfl ?_
  refine rx_cvN (ci := 11) mo_X11_begin lk_X11_184 (c_X11_begin (a := 154) (L := L) (tp := 40) (Or.inl rfl)) (by decide) rfl rfl (Nat.le_of_ble_eq_true rfl) kl_140 rfl dX11_rule_18 ?_
  refine rx_aload_n (i := 0) dX11_rule_21 rfl rfl ?_
  refine rx_iconst (0) dX11_rule_22 rfl ?_
  refine rx_putI (k := 18) fo_X11_146 fn_11_18 kl_140 (by decide) ty_11_18 dX11_rule_23 ?_
  refine rx_aload_n (i := 0) dX11_rule_26 rfl rfl ?_
  refine rx_iconst (-1) dX11_rule_27 rfl ?_
  refine rx_putI (k := 29) fo_X11_65 fn_11_29 kl_140 (by decide) ty_11_29 dX11_rule_28 ?_
  rw [hK]
  refine rx_iload_n (i := 1) dX11_rule_31 rfl rfl ?_
  refine rx_if_le (tgt := 71) dX11_rule_32 (by decide) (fun c32 => ?_) (fun c32 => ?_)
  · skip
    have f32 := Int32.not_lt.mpr c32
    have e32 : L = 0 := nI_0' (by omega) (Int32.le_antisymm c32 (nI_pos' (by omega)))
    subst e32
    refine rx_iconst (0) dX11_rule_71 rfl ?_
    refine rx_istore_n (i := 2) dX11_rule_72 rfl (by decide) rfl rfl ?_
    refine l_X11_rule (L := 0) (M := K) (by omega) (fun j hj => absurd hj (Nat.not_lt_zero _)) ?_ 1 0 (Nat.zero_le _) (by omega)
    refine rx_aload_n (i := 0) dX11_rule_96 rfl rfl ?_
    refine rx_iload_n (i := 1) dX11_rule_97 rfl rfl ?_
    refine rx_putI (k := 28) fo_X11_241 fn_11_28 kl_140 (by decide) ty_11_28 dX11_rule_98 ?_
    refine rx_iconst (0) dX11_rule_101 rfl ?_
    exact rx_iret dX11_rule_102 (by rw [ruE_0]; exact ⟨rfl, by have := ruM_fr (s := (0, none)) (L := 0) hF; rw [← eK] at this; exact this⟩)
    skip
  · skip
    have f32 := Int32.not_le.mp c32
    have e32 : 0 < L := Nat.pos_of_ne_zero fun q => c32 (by rw [q]; exact Int32.le_refl 0)
    rw [eK]
    refine rx_aload_n (i := 0) dX11_rule_35 rfl rfl ?_
    refine rx_iconst (0) dX11_rule_36 rfl ?_
    refine rx_callV (ci := 11) mo_X11_held lk_X11_219 ((c_X11_rec hRM wK hlv hl 41 0 (Nat.zero_le _)).2 (0, none) ⟨Nat.zero_le _, fun _ e => by cases e⟩ (by show min L 40 - 0 < 41; omega)) (by decide) rfl rfl (Nat.le_of_ble_eq_true rfl) kl_140 rfl dX11_rule_37 ?_
    rintro _ N ⟨x, rfl, rfl, -⟩
    rw [eX, show (heF (M.1 154) (min L 40) 41 0 (0, none)).2 = ruQ (M.1 154) L from ruQ_s (by omega)]
    refine rx_pop dX11_rule_40 rfl ?_
    refine rx_aload_n (i := 0) dX11_rule_41 rfl rfl ?_
    refine rx_getI (k := 25) fo_X11_158 kl_140 (by decide) ti_11_25 dX11_rule_42 ?_
    refine rx_top (nI (ruQ (M.1 154) L).1) (rdm_25) ?_
    refine rx_iload_n (i := 1) dX11_rule_45 rfl rfl ?_
    refine rx_icmp_ge (tgt := 57) dX11_rule_46 (by decide) (fun c46 => ?_) (fun c46 => ?_)
    · skip
      have f46 := Int32.not_lt.mpr c46
      have e46 : ¬ (ruQ (M.1 154) L).1 < L := fun q => absurd ((nI_leI (by omega) (by omega)).mp c46) (by omega)
      have eE := ruE_f e46
      rw [← eE]
      refine rx_aload_n (i := 0) dX11_rule_57 rfl rfl ?_
      refine rx_cvI (ci := 11) mo_X11_fine lk_X11_164 (c_X11_fine hokE.2) (by decide) rfl rfl (Nat.le_of_ble_eq_true rfl) kl_140 rfl dX11_rule_58 ?_
      refine rx_if_ne (tgt := 71) dX11_rule_61 (by decide) (fun c61 => ?_) (fun c61 => ?_)
      · skip
        have e61 := ite1n c61
        refine rx_iconst (0) dX11_rule_71 rfl ?_
        refine rx_istore_n (i := 2) dX11_rule_72 rfl (by decide) rfl rfl ?_
        have hL40 := ruE_40 e61
        refine l_X11_rule (M := rdm K (ruE (M.1 154) L)) hL40 (fun j hj => by rw [show (rdm K (ruE (M.1 154) L)).1 154 j = M.1 154 j from (rdm_o (by omega)).trans (congrFun eX j)]; exact hby j hj) ?_ (L + 1) 0 (Nat.zero_le _) (by omega)
        refine rx_aload_n (i := 0) dX11_rule_96 rfl rfl ?_
        refine rx_iload_n (i := 1) dX11_rule_97 rfl rfl ?_
        refine rx_putI (k := 28) fo_X11_241 fn_11_28 kl_140 (by decide) ty_11_28 dX11_rule_98 ?_
        refine rx_iconst (0) dX11_rule_101 rfl ?_
        exact rx_iret dX11_rule_102 (by rw [e61]; exact ⟨rfl, ruM_fr hF⟩)
      · skip
        have e61 := ite1 c61
        refine rx_iconst (-1) dX11_rule_64 rfl ?_
        refine rx_aload_n (i := 0) dX11_rule_65 rfl rfl ?_
        refine rx_getI (k := 26) fo_X11_161 kl_140 (by decide) ti_11_26 dX11_rule_66 ?_
        refine rx_top (optI (ruE (M.1 154) L).2) (rdm_26) ?_
        refine rx_isub dX11_rule_69 ?_
        obtain ⟨q, hq⟩ := Option.ne_none_iff_exists'.mp e61
        refine rx_top (-1 - nI q) (by rw [hq]; rfl) ?_
        exact rx_iret dX11_rule_70 (by rw [hq]; exact ⟨rfl, hF.trans frS_rdm.P⟩)
    · skip
      have f46 := Int32.not_le.mp c46
      have e46 : (ruQ (M.1 154) L).1 < L := Nat.lt_of_not_le fun q => c46 (nI_le q (by omega))
      have eE := ruE_t e46
      refine rx_aload_n (i := 0) dX11_rule_49 rfl rfl ?_
      refine rx_aload_n (i := 0) dX11_rule_50 rfl rfl ?_
      refine rx_getI (k := 25) fo_X11_158 kl_140 (by decide) ti_11_25 dX11_rule_51 ?_
      refine rx_top (nI (ruQ (M.1 154) L).1) (rdm_25) ?_
      refine rx_cvN (ci := 11) mo_X11_fault lk_X11_176 (c_X11_fault hok.2) (by decide) rfl rfl (Nat.le_of_ble_eq_true rfl) kl_140 rfl dX11_rule_54 ?_
      rw [← eE]
      refine rx_aload_n (i := 0) dX11_rule_57 rfl rfl ?_
      refine rx_cvI (ci := 11) mo_X11_fine lk_X11_164 (c_X11_fine hokE.2) (by decide) rfl rfl (Nat.le_of_ble_eq_true rfl) kl_140 rfl dX11_rule_58 ?_
      refine rx_if_ne (tgt := 71) dX11_rule_61 (by decide) (fun c61 => ?_) (fun c61 => ?_)
      · skip
        have e61 := ite1n c61
        refine rx_iconst (0) dX11_rule_71 rfl ?_
        refine rx_istore_n (i := 2) dX11_rule_72 rfl (by decide) rfl rfl ?_
        have hL40 := ruE_40 e61
        refine l_X11_rule (M := rdm K (ruE (M.1 154) L)) hL40 (fun j hj => by rw [show (rdm K (ruE (M.1 154) L)).1 154 j = M.1 154 j from (rdm_o (by omega)).trans (congrFun eX j)]; exact hby j hj) ?_ (L + 1) 0 (Nat.zero_le _) (by omega)
        refine rx_aload_n (i := 0) dX11_rule_96 rfl rfl ?_
        refine rx_iload_n (i := 1) dX11_rule_97 rfl rfl ?_
        refine rx_putI (k := 28) fo_X11_241 fn_11_28 kl_140 (by decide) ty_11_28 dX11_rule_98 ?_
        refine rx_iconst (0) dX11_rule_101 rfl ?_
        exact rx_iret dX11_rule_102 (by rw [e61]; exact ⟨rfl, ruM_fr hF⟩)
      · skip
        have e61 := ite1 c61
        refine rx_iconst (-1) dX11_rule_64 rfl ?_
        refine rx_aload_n (i := 0) dX11_rule_65 rfl rfl ?_
        refine rx_getI (k := 26) fo_X11_161 kl_140 (by decide) ti_11_26 dX11_rule_66 ?_
        refine rx_top (optI (ruE (M.1 154) L).2) (rdm_26) ?_
        refine rx_isub dX11_rule_69 ?_
        obtain ⟨q, hq⟩ := Option.ne_none_iff_exists'.mp e61
        refine rx_top (-1 - nI q) (by rw [hq]; rfl) ?_
        exact rx_iret dX11_rule_70 (by rw [hq]; exact ⟨rfl, hF.trans frS_rdm.P⟩)
