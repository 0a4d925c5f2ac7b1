theorem l_findTable0 {M : Mem} {day : Int32} {QQ : Nat → List (Option Value) → List Value → Mem → Prop} (K : Reach cX11_findStates RX11 9 4 QQ 22 [some (.ref 140), some (.int day), none, none, none, none, none, none, none] [] (zeA M 168 8192)) : Reach cX11_findStates RX11 9 4 QQ 2 [some (.ref 140), some (.int day), some (.int 0), none, none, none, none, none, none] [] (M) := by
  have h := l_findTable K 8193 0 (by omega) (by omega)
  rw [ze_0] at h
  exact h
theorem l_findSave0 {M : Mem} {n : Nat} {day : Int32} (hn : M.1 140 0 = nI n) (hn8 : n ≤ 8) {QQ : Nat → List (Option Value) → List Value → Mem → Prop} (K : Reach cX11_findStates RX11 9 4 QQ 64 [some (.ref 140), some (.int day), none, none, none, none, none, none, none] [] (cpA M 169 141 n)) : Reach cX11_findStates RX11 9 4 QQ 38 [some (.ref 140), some (.int day), some (.int 0), none, none, none, none, none, none] [] (M) := by
  have h := l_findSave hn hn8 K (n + 1) 0 (by omega) (by omega)
  rw [cpA_0] at h
  exact h
theorem l_findBack0 {M : Mem} {n : Nat} {day b : Int32} (hn : M.1 140 0 = nI n) (hn8 : n ≤ 8) {QQ : Nat → List (Option Value) → List Value → Mem → Prop} (K : Reach cX11_findStates RX11 9 4 QQ 405 [some (.ref 140), some (.int day), some (.int b), none, none, none, none, none, none] [] (cpA M 141 169 n)) : Reach cX11_findStates RX11 9 4 QQ 379 [some (.ref 140), some (.int day), some (.int b), some (.int 0), none, none, none, none, none] [] (M) := by
  have h := l_findBack hn hn8 K (n + 1) 0 (by omega) (by omega)
  rw [cpA_0] at h
  exact h
set_option maxRecDepth 100000 in
set_option maxHeartbeats 4000000 in
theorem l_findEnd {M : Mem} {n : Nat} {day b : Int32} {P : Option Value → Mem → Prop} (hn : M.1 140 0 = nI n) (hn8 : n ≤ 8) (hb : b = 0 ∨ b = 1) (h : P (some (.int b)) (cpA M 141 169 n)) : Reach cX11_findStates RX11 9 4 (RetQ cX11_findStates (some .boolean) P) 377 [some (.ref 140), some (.int day), some (.int b), none, none, none, none, none, none] [] (M) := by
  refine rx_iconst (0) dX11_findStates_377 rfl ?_
  refine rx_istore_n (i := 3) dX11_findStates_378 rfl (by decide) rfl rfl ?_
  refine l_findBack0 hn hn8 ?_
  refine rx_iload_n (i := 2) dX11_findStates_405 rfl rfl ?_
  exact rx_zret dX11_findStates_406 hb h
/-- as frQ, and the row stays -/
def frK (M N : Mem) : Prop := frQ M N ∧ N.1 140 20 = M.1 140 20 ∧ N.2.1 155 = M.2.1 155
theorem msF.base {M0 M1 N : Mem} {n : Nat} (hf : msF M1 N n) (h1 : ∀ a j, ¬ (a = 168 ∨ (a = 140 ∧ (j = 44 ∨ j = 46)) ∨ (a = 169 ∧ j < n)) → M1.1 a j = M0.1 a j) (h2 : M1.2 = M0.2) (h3 : ∀ j, j < n → M1.1 169 j = M0.1 141 j) : frK M0 (cpA N 141 169 n) := by
  refine ⟨⟨fun a j q r => ?_, fun a q r => ?_⟩, (cpA_o (by omega)).trans ((hf.1 _ _ (by omega)).trans (h1 _ _ (by omega))), (hf.2.1 155 (by omega)).trans (by rw [h2])⟩
  · by_cases e : a = 141 ∧ j < n
    · show (if a = 141 ∧ j < n then N.1 169 j else N.1 a j) = _
      rw [if_pos e, hf.1 169 j (by omega), h3 j e.2, e.1]
    · show (if a = 141 ∧ j < n then N.1 169 j else N.1 a j) = _
      rw [if_neg e, hf.1 a j (by omega), h1 a j (by omega)]
  · show N.2.1 a = _
    rw [hf.2.1 a r, h2]
theorem SZ_rep {M : Mem} {n : Nat} (h1 : M.1 140 44 = 0) (h2 : ∀ p, p < 8192 → M.1 168 p = 0) : repM M SZ n :=
  ⟨fun _ => 0, h1, Nat.zero_le _, fun s hs => absurd hs (Nat.not_lt_zero _), h2, TabOK.empty fun _ _ => rfl⟩
theorem SF_repM {M : Mem} {n : Nat} {c : Nat → Nat} (h : repM M (SZ.add 0 c) n) : repM (setJ (setI (setI M 162 0 0) 165 0 0) 166 0 1) (SF c) n := by
  obtain ⟨tb, a1, a2, a3, a4, a5⟩ := h
  refine ⟨tb, a1, a2, fun s hs => ?_, a4, a5⟩
  obtain rfl : s = 0 := Nat.lt_one_iff.mp hs
  obtain ⟨b1, b2, b3, b4⟩ := a3 0 hs
  exact ⟨b1, b2, rfl, b4⟩
/-- the first state -/
theorem MI.start {M0 M : Mem} {T : TT} {n : Nat} {these : Int32} {c : Nat → Nat} (hr : repM M (SZ.add 0 c) n) (hf : msF M0 M n) (h163 : M.1 163 0 = -1) : MI M0 (setJ (setI (setI M 162 0 0) 165 0 0) 166 0 1) T n these (SF c) 0 0 (fun _ => (0, 0, 0)) (fun _ => 0) := by
  have h1 : ∀ t, t < (SF c).N → t = 0 := fun t ht => Nat.lt_one_iff.mp ht
  refine ⟨((hf.trans (msF_I (by omega))).trans (msF_I (by omega))).trans msF_J, SF_repM hr, fun t ht => ?_, ⟨h163, fun t h0 ht => by have := h1 t ht; omega⟩, ⟨fun t ht _ => ?_, fun _ => Nat.zero_lt_succ _⟩, fun t ht => absurd ht (Nat.not_lt_zero _), fun w hw => absurd hw (Nat.not_lt_zero _)⟩
  · obtain rfl := h1 t ht; rfl
  · obtain rfl := h1 t ht; rfl
set_option maxRecDepth 100000 in
set_option maxHeartbeats 4000000 in
theorem c_X11_findStates {M : Mem} {n m : Nat} {x : Int32} (w : MW M n m) (hs : sortOK (M.1 153 0)) (hO : OKS (mv M) n m) (hA : AOK (mv M) n) : Con yX11_findStates cX11_findStates 9 (some .boolean) 4 [.ref 140, .int x] M (fun v N => v = some (.int (zI (vis (mv M) n m (thV (mv M) m x)).1.1)) ∧ frK M N ∧ N.1 140 46 = (thV (mv M) m x) ∧ (N.1 171 = M.1 171 ∧ ∃ W, N.1 140 44 = nI W ∧ W ≤ 3000) ∧ ((vis (mv M) n m (thV (mv M) m x)).1.1 = true → ∃ D rk W, FS N (mv M) n m (thV (mv M) m x) (vis (mv M) n m (thV (mv M) m x)).1.2 D rk W)) := by
  refine Con.of (own := RX11) (ls := [some (.ref 140), some (.int x), none, none, none, none, none, none, none]) rfl (by decide +kernel) (Nat.le_of_ble_eq_true rfl) rfl ?_
  obtain ⟨th, eth⟩ : ∃ z, thV (mv M) m x = z := ⟨_, rfl⟩
  rw [eth]
  have ⟨wn, hn8, wm, hm10, wd⟩ := id w
  have emv : mv (setI (zeA M 168 8192) 140 44 0) = mv M := by
    funext c j
    by_cases hc : c = 0
    · subst hc; exact (sI_na (by omega)).trans (ze_o (by omega))
    · exact mv_cg (fun b h1 h2 => (sI_na (by omega)).trans (ze_o (by omega))) (fun k hk => (sI_ne (by omega)).trans (ze_o (by omega))) hc
  have wz : MW (setI (zeA M 168 8192) 140 44 0) n m := w.keep ((sI_ne (by omega)).trans (ze_o (by omega))) ((sI_ne (by omega)).trans (ze_o (by omega))) (fun k _ => (sI_ne (by omega)).trans (ze_o (by omega))) (fun k _ => (sI_ne (by omega)).trans (ze_o (by omega)))
  have nb : ((setI (setI (zeA M 168 8192) 140 44 0) 140 46 th) : Mem).1 140 0 = nI n := (sI_ne (by omega)).trans wz.1
  refine rx_iconst (0) dX11_findStates_0 rfl ?_
  refine rx_istore_n (i := 2) dX11_findStates_1 rfl (by decide) rfl rfl ?_
  refine l_findTable0 ?_
  refine rx_aload_n (i := 0) dX11_findStates_22 rfl rfl ?_
  refine rx_iconst (0) dX11_findStates_23 rfl ?_
  refine rx_putI (k := 44) fo_X11_325 fn_11_44 kl_140 (by decide) ty_11_44 dX11_findStates_24 ?_
  refine rx_aload_n (i := 0) dX11_findStates_27 rfl rfl ?_
  refine rx_aload_n (i := 0) dX11_findStates_28 rfl rfl ?_
  refine rx_iload_n (i := 1) dX11_findStates_29 rfl rfl ?_
  refine rx_cvI (ci := 11) mo_X11_dueBy lk_X11_328 (c_X11_dueBy wz) (by decide) rfl rfl (Nat.le_of_ble_eq_true rfl) kl_140 rfl dX11_findStates_30 ?_
  refine rx_top (th) ((congrArg (fun T => thV T m x) emv).trans eth) ?_
  refine rx_putI (k := 46) fo_X11_331 fn_11_46 kl_140 (by decide) ty_11_46 dX11_findStates_33 ?_
  refine rx_iconst (0) dX11_findStates_36 rfl ?_
  refine rx_istore_n (i := 2) dX11_findStates_37 rfl (by decide) rfl rfl ?_
  refine l_findSave0 nb hn8 ?_
  obtain ⟨M0, eM0⟩ : ∃ z, cpA (setI (setI (zeA M 168 8192) 140 44 0) 140 46 th) 169 141 n = z := ⟨_, rfl⟩
  rw [eM0]
  have k0 : ∀ a j, ¬ (a = 168 ∨ (a = 140 ∧ (j = 44 ∨ j = 46)) ∨ (a = 169 ∧ j < n)) → M0.1 a j = M.1 a j := fun a j q => by
    rw [← eM0]
    refine (if_neg (by omega)).trans ?_
    exact (sI_ne (by omega)).trans ((sI_ne (by omega)).trans (if_neg (by omega)))
  have k169 : ∀ j, j < n → M0.1 169 j = M.1 141 j := fun j hj => by
    rw [← eM0]
    refine (if_pos ⟨rfl, hj⟩).trans ?_
    exact (sI_na (by omega)).trans ((sI_na (by omega)).trans (ze_o (by omega)))
  have kJ : M0.2 = M.2 := by rw [← eM0]; rfl
  have k46 : M0.1 140 46 = th := by rw [← eM0]; exact (cpA_o (by omega)).trans sI_eq
  have k44 : M0.1 140 44 = 0 := by rw [← eM0]; exact (cpA_o (by omega)).trans ((sI_ne (by omega)).trans sI_eq)
  have k168 : ∀ p, p < 8192 → M0.1 168 p = 0 := fun p hp => by rw [← eM0]; exact (cpA_o (by omega)).trans ((sI_na (by omega)).trans ((sI_na (by omega)).trans (if_pos ⟨rfl, hp⟩)))
  have k171 : ∀ N, msF M0 N n → (cpA N 141 169 n).1 171 = M.1 171 := fun N h => funext fun j => (cpA_o (by omega)).trans ((h.1 171 j (by omega)).trans (k0 171 j (by omega)))
  have kmv : mv M0 = mv M := by
    funext c j
    by_cases hc : c = 0
    · subst hc; exact k0 141 j (by omega)
    · exact mv_cg (fun b h1 h2 => k0 b j (by omega)) (fun k hk => k0 140 k (by omega)) hc
  have w0 : MW M0 n m := w.keep (k0 _ _ (by omega)) (k0 _ _ (by omega)) (fun k _ => k0 _ _ (by omega)) (fun k _ => k0 _ _ (by omega))
  have hC0 : curM M0 SZ n (coT (mv M) n) := ⟨fun i hi => by rw [coT_nI hO hi]; exact k0 141 i (by omega), fun i => coT_lt hO i, fun s hs => absurd hs (Nat.not_lt_zero _)⟩
  refine rx_aload_n (i := 0) dX11_findStates_64 rfl rfl ?_
  refine rx_iconst (0) dX11_findStates_65 rfl ?_
  refine rx_callV (ci := 11) mo_X11_stateOf lk_X11_334 (c_X11_stateOf (S := SZ) (SZ_rep k44 k168) w0.1 hn8 hC0) (by decide) rfl rfl (Nat.le_of_ble_eq_true rfl) kl_140 rfl dX11_findStates_66 ?_
  rintro v8 M4 hfd
  rcases hfd with ⟨t, ht1, -⟩ | ⟨-, ⟨-, rfl, hrep, pl, rfl⟩ | ⟨hN4, -⟩⟩
  · exact absurd ht1 (Nat.not_lt_zero _)
  rotate_left
  · exact absurd hN4 (by decide)
  have hOm : OKS (mv M0) n m := by rw [kmv]; exact hO
  have hAm : AOK (mv M0) n := by rw [kmv]; exact hA
  have htm : thOK (mv M0) m th := by rw [kmv, ← eth]; exact thV_OK hm10
  have hE0 : EX (mv M0) n m th (SF (coT (mv M0) n)) := SF_EX hOm (fun i hi => by have := hOm.1 i hi; omega)
  refine rx_pop dX11_findStates_69 rfl ?_
  refine rx_aload_n (i := 0) dX11_findStates_70 rfl rfl ?_
  refine rx_getR 162 (k := 38) fo_X11_84 kl_140 (by decide) ti_11_38 (by decide) rfl dX11_findStates_71 ?_
  refine rx_iconst (0) dX11_findStates_74 rfl ?_
  refine rx_iconst (0) dX11_findStates_75 rfl ?_
  refine rx_iastN (k := 0) kl_162 (by omega) (by first | decide | omega) dX11_findStates_76 ?_
  refine rx_aload_n (i := 0) dX11_findStates_77 rfl rfl ?_
  refine rx_getR 165 (k := 41) fo_X11_93 kl_140 (by decide) ti_11_41 (by decide) rfl dX11_findStates_78 ?_
  refine rx_iconst (0) dX11_findStates_81 rfl ?_
  refine rx_iconst (0) dX11_findStates_82 rfl ?_
  refine rx_iastN (k := 0) kl_165 (by omega) (by first | decide | omega) dX11_findStates_83 ?_
  refine rx_aload_n (i := 0) dX11_findStates_84 rfl rfl ?_
  refine rx_getR 166 (k := 42) fo_X11_96 kl_140 (by decide) ti_11_42 (by decide) rfl dX11_findStates_85 ?_
  refine rx_iconst (0) dX11_findStates_88 rfl ?_
  refine rx_lconst (1) dX11_findStates_89 rfl ?_
  refine rx_lastN (k := 0) kl_166 (by omega) (by first | decide | omega) dX11_findStates_90 ?_
  have hMI : MI M0 (setJ (setI (setI (nsM M0 pl SZ.N 0 n) 162 0 0) 165 0 0) 166 0 1) (mv M0) n th (SF (coT (mv M0) n)) 0 0 (fun _ => (0, 0, 0)) (fun _ => 0) := MI.start (by rw [kmv]; exact hrep) msF_ns ((ns_1 (by omega) (by omega)).trans sI_eq)
  have hPI := PI.start hE0
  obtain ⟨M5, eM5⟩ : ∃ z, setJ (setI (setI (nsM M0 pl SZ.N 0 n) 162 0 0) 165 0 0) 166 0 1 = z := ⟨_, rfl⟩
  rw [eM5] at hMI
  rw [eM5]
  have KT : ∀ N S s D rk W, (vis (mv M0) n m th).1 = (true, S) → s + 1 = S.N → MI M0 N (mv M0) n th S s 80 D rk → PI (mv M0) n m th S s 60 D rk W → Reach cX11_findStates RX11 9 4 (RetQ cX11_findStates (some .boolean) (fun v N => v = some (.int (zI (vis (mv M) n m th).1.1)) ∧ frK M N ∧ N.1 140 46 = th ∧ (N.1 171 = M.1 171 ∧ ∃ W, N.1 140 44 = nI W ∧ W ≤ 3000) ∧ ((vis (mv M) n m th).1.1 = true → ∃ D rk W, FS N (mv M) n m th (vis (mv M) n m th).1.2 D rk W))) 377 [some (.ref 140), some (.int x), some (.int 1), none, none, none, none, none, none] [] (N) := fun N S s D rk W h1 h2 h3 h4 => by
    refine l_findEnd ((h3.1.1 _ _ (by omega)).trans w0.1) hn8 (Or.inr rfl) ⟨?_, msF.base h3.1 k0 kJ k169, (cpA_o (by omega)).trans ((h3.1.1 _ _ (by omega)).trans k46), ⟨k171 N h3.1, _, (cpA_o (by omega)).trans (repM_N h3.2.1).1, (repM_N h3.2.1).2⟩, fun _ => ⟨D, rk, W, ?_⟩⟩
    · rw [← kmv, h1]; rfl
    · rw [← kmv, h1]
      exact FS.of h3 h4 h2 (fun a ha => by funext j; exact cpA_o (by omega)) rfl
  have KF : ∀ N, (msF M0 N n ∧ ∃ W, N.1 140 44 = nI W ∧ W ≤ 3000) → (vis (mv M0) n m th).1.1 = false → Reach cX11_findStates RX11 9 4 (RetQ cX11_findStates (some .boolean) (fun v N => v = some (.int (zI (vis (mv M) n m th).1.1)) ∧ frK M N ∧ N.1 140 46 = th ∧ (N.1 171 = M.1 171 ∧ ∃ W, N.1 140 44 = nI W ∧ W ≤ 3000) ∧ ((vis (mv M) n m th).1.1 = true → ∃ D rk W, FS N (mv M) n m th (vis (mv M) n m th).1.2 D rk W))) 377 [some (.ref 140), some (.int x), some (.int 0), none, none, none, none, none, none] [] (N) := fun N h1 h2 => by
    refine l_findEnd ((h1.1.1 _ _ (by omega)).trans w0.1) hn8 (Or.inl rfl) ⟨?_, msF.base h1.1 k0 kJ k169, (cpA_o (by omega)).trans ((h1.1.1 _ _ (by omega)).trans k46), ⟨k171 N h1.1, h1.2.elim fun W hW => ⟨W, (cpA_o (by omega)).trans hW.1, hW.2⟩⟩, fun z => ?_⟩
    · rw [← kmv, h2]; rfl
    · rw [← kmv, h2] at z; cases z
  refine rx_iconst (1) dX11_findStates_91 rfl ?_
  refine rx_istore_n (i := 2) dX11_findStates_92 rfl (by decide) rfl rfl ?_
  refine rx_iconst (0) dX11_findStates_93 rfl ?_
  refine rx_istore_n (i := 3) dX11_findStates_94 rfl (by decide) rfl rfl ?_
  refine rx_iload_n (i := 3) dX11_findStates_95 rfl rfl ?_
  refine rx_aload_n (i := 0) dX11_findStates_96 rfl rfl ?_
  refine rx_getI (k := 44) fo_X11_325 kl_140 (by decide) ti_11_44 dX11_findStates_97 ?_
  refine rx_top (nI (SF (coT (mv M0) n)).N) ((repM_N hMI.2.1).1) ?_
  refine rx_icmp_ge (tgt := 377) dX11_findStates_100 (by decide) (fun c100 => ?_) (fun c100 => ?_)
  · skip
    exact absurd c100 (by rw [show nI (SF (coT (mv M0) n)).N = 1 from rfl]; decide)
    skip
  · skip
    refine rx_iload_n (i := 2) dX11_findStates_103 rfl rfl ?_
    refine rx_if_eq (tgt := 377) dX11_findStates_104 (by decide) (fun c104 => absurd c104 (by decide)) (fun c104 => ?_)
    refine rx_iload_n (i := 3) dX11_findStates_107 rfl rfl ?_
    refine rx_if_le (tgt := 139) dX11_findStates_108 (by decide) (fun c108 => ?_) (fun c108 => absurd c108 (by decide))
    refine rx_iconst (0) dX11_findStates_139 rfl ?_
    refine rx_istore (i := 4) dX11_findStates_140 (by decide) rfl rfl ?_
    have hvs : vis (mv M0) n m th = vrun (mv M0) n m th 3000 1 (lvs (ldT (mv M0) n ((SF (coT (mv M0) n)).co 0)) n 0 ((SF (coT (mv M0) n)).mk 0) ((SF (coT (mv M0) n)).co 0) ((SF (coT (mv M0) n)).pr 0) ((SF (coT (mv M0) n)).rw 0) th m (((true, SF (coT (mv M0) n)), 0, fun _ => th) : XS)) := by
      unfold vis
      rw [vrun_go (show 0 < 1 by omega) rfl]
    have hx80 := mrun_80 (T := mv M0) (n := n) (s := 0) (m := m) (mk0 := (SF (coT (mv M0) n)).mk 0) (c0 := (SF (coT (mv M0) n)).co 0) (p0 := (SF (coT (mv M0) n)).pr 0) (r0 := (SF (coT (mv M0) n)).rw 0) (these := th) (x := (((true, SF (coT (mv M0) n)), 0, fun _ => th) : XS)) hn8 hm10 htm
    refine l_findIn (x := (true, SF (coT (mv M0) n))) (rk := fun _ => 0) (s := 0) w0 (by rw [k0 _ _ (by omega)]; exact hs) k46 htm hOm hAm (fun N S2 D2 W2 r1 r2 r3 r4 => ?_) (fun N r1 r2 => ?_) 81 0 _ (SF (coT (mv M0) n)) _ _ 0 (by omega) rfl ⟨rfl, rfl, rfl, rfl⟩ hMI hPI (by omega) (fun _ _ _ _ _ => Nat.zero_le _) (by omega)
    · skip
      first | refine rx_iincN (i := 3) dX11_findStates_371 rfl (by decide) rfl rfl ?_ | refine rx_iinc (i := 3) dX11_findStates_371 rfl rfl (by decide) rfl rfl ?_
      refine rx_goto (tgt := 95) dX11_findStates_374 (by decide) ?_
      exact l_findOut w0 (by rw [k0 _ _ (by omega)]; exact hs) k46 htm hOm hAm KT KF 3002 0 N S2 (lvs (ldT (mv M0) n ((SF (coT (mv M0) n)).co 0)) n 0 ((SF (coT (mv M0) n)).mk 0) ((SF (coT (mv M0) n)).co 0) ((SF (coT (mv M0) n)).pr 0) ((SF (coT (mv M0) n)).rw 0) th m (((true, SF (coT (mv M0) n)), 0, fun _ => th) : XS)) D2 _ W2 hvs.symm (by rw [← hx80]; exact r1) r3 r4 (by omega)
    · skip
      have hff : ((lvs (ldT (mv M0) n ((SF (coT (mv M0) n)).co 0)) n 0 ((SF (coT (mv M0) n)).mk 0) ((SF (coT (mv M0) n)).co 0) ((SF (coT (mv M0) n)).pr 0) ((SF (coT (mv M0) n)).rw 0) th m (((true, SF (coT (mv M0) n)), 0, fun _ => th) : XS))).1.1 = false := by rw [← hx80]; exact r2
      first | refine rx_iincN (i := 3) dX11_findStates_371 rfl (by decide) rfl rfl ?_ | refine rx_iinc (i := 3) dX11_findStates_371 rfl rfl (by decide) rfl rfl ?_
      refine rx_goto (tgt := 95) dX11_findStates_374 (by decide) ?_
      refine rx_iload_n (i := 3) dX11_findStates_95 rfl rfl ?_
      refine rx_aload_n (i := 0) dX11_findStates_96 rfl rfl ?_
      refine rx_getI (k := 44) fo_X11_325 kl_140 (by decide) ti_11_44 dX11_findStates_97 ?_
      refine rx_icmp_ge (tgt := 377) dX11_findStates_100 (by decide) (fun c100 => ?_) (fun c100 => ?_)
      · skip
        have f100 := Int32.not_lt.mpr c100
        refine rx_drop 3 ?_
        exact KF _ r1 (by rw [hvs, vrun_stop (fun z => by rw [z.2] at hff; cases hff)]; exact hff)
      · skip
        have f100 := Int32.not_le.mp c100
        refine rx_iload_n (i := 2) dX11_findStates_103 rfl rfl ?_
        refine rx_if_eq (tgt := 377) dX11_findStates_104 (by decide) (fun c104 => ?_) (fun c104 => absurd c104 (by decide))
        refine rx_drop 3 ?_
        exact KF _ r1 (by rw [hvs, vrun_stop (fun z => by rw [z.2] at hff; cases hff)]; exact hff)
