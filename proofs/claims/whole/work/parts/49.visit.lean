def stV (M N : Mem) : Prop := (∀ a j, (a < 19 ∨ (27 < a ∧ a < 108) ∨ 123 < a) → N.1 a j = M.1 a j) ∧ (∀ a, (a < 20 ∨ 23 < a) → N.2.1 a = M.2.1 a) ∧ N.2.2 = M.2.2
theorem stV.refl {M : Mem} : stV M M := ⟨fun _ _ _ => rfl, fun _ _ => rfl, rfl⟩
theorem stV.trans {M N K : Mem} (h : stV M N) (h2 : stV N K) : stV M K := ⟨fun a j q => (h2.1 a j q).trans (h.1 a j q), fun a q => (h2.2.1 a q).trans (h.2.1 a q), h2.2.2.trans h.2.2⟩
theorem stG.V {M N : Mem} (h : stG M N) : stV M N := ⟨fun a j q => h.1 a j (by omega), h.2.1, h.2.2⟩
theorem stV_I {M : Mem} {a k : Nat} {x : Int32} (h : a = 19 ∨ (108 ≤ a ∧ a ≤ 123)) : stV M (setI M a k x) := ⟨fun b j hb => if_neg (by omega), fun _ _ => rfl, rfl⟩
theorem stV_ld {M : Mem} {n : Nat} {c : Nat → Nat} : stV M (ldM M n c) := ⟨fun b j hb => ld_o (by omega), fun _ _ => rfl, rfl⟩
theorem stV_cp {M : Mem} : stV M (cpM M 108 28) := ⟨fun b j hb => congrFun (cpM_o (by omega)) j, fun _ _ => rfl, rfl⟩
theorem stG_view {M N : Mem} (h : stG M N) : alk (view M 108) (view N 108) := fun c h5 h20 => view_same (M := M) (M' := N) (t := 108) (fun c' h1 h2 => by funext j; exact h.1 _ _ (by omega)) c h5 h20
theorem view_put {M : Mem} {t j : Nat} {x : Int32} : view (setI M (t + 15) j x) t = setT (view M t) 14 j x := by
  funext c a
  simp only [view, setT, setI]
  by_cases h : c < 15
  · simp only [if_pos h]
    by_cases e : c = 14
    · subst e; simp [show t + 1 + 14 = t + 15 by omega]
    · rw [if_neg (by omega), if_neg (by omega)]
  · simp only [if_neg h]
    rw [if_neg (by omega), if_neg (by omega)]
theorem view_19 {M : Mem} {a k : Nat} {x : Int32} (h : a < 108) : view (setI M a k x) 108 = view M 108 := by
  funext c j
  simp only [view, setI]
  split
  · exact if_neg (by omega)
  · exact if_neg (by omega)
theorem TW_w {M : Mem} {t n m : Nat} (h15 : view M t 15 0 = nI n) (h16 : view M t 16 0 = nI m) (hn : n ≤ 8) (hm : m ≤ 10) (hO : OKS (view M t) n m) : TW M t n m :=
  ⟨h15, hn, h16, hm, fun k hk => by
    obtain ⟨-, -, o, g, ho, hg, hog, eo, eg⟩ := hO.2.2.2 k hk
    exact ⟨o, g, ho, hg, hog, (by rw [show t + 7 = t + 1 + 6 by omega]; exact eo), (by rw [show t + 8 = t + 1 + 7 by omega]; exact eg)⟩⟩
theorem ld_alk {M : Mem} {T : TT} {n : Nat} {c : Nat → Nat} (hv : ∀ a, a ≠ 0 → a ≠ 5 → a < 20 → view M 108 a = T a) (hv0 : ∀ j, n ≤ j → M.1 109 j = T 0 j) : alk (ldT T n c) (view (ldM M n c) 108) := by
  intro a h5 h20
  by_cases e : a = 0
  · subst e
    funext j
    simp only [view, ldM, ldT]
    by_cases q : j < n
    · simp [q]
    · simp [q]; exact hv0 j (by omega)
  · rw [ldT_o e, ← hv a e h5 h20]
    funext j
    simp only [view]
    split
    · rw [ld_o (by omega)]
    · rw [ld_o (by omega)]
/-- these, and all states -/
def thV (T : TT) (m : Nat) (x : Int32) : Int32 := fbor (dueT T x) m
def vsX (T : TT) (n m : Nat) (x : Int32) : XS := vis T n m (thV T m x)
/-- what the class keeps of a visit -/
def VS (M : Mem) (T : TT) (n m : Nat) (x : Int32) : Prop :=
  M.1 19 13 = 1 ∧ M.1 19 12 = x ∧ agV T (view M 108) n m ∧ (M.1 108 15 = nI n ∧ M.1 108 16 = nI m) ∧ M.1 19 10 = thV T m x ∧ repC M (vsX T n m x).1.2 ∧ (M.1 19 14 = if (vsX T n m x).1.1 = true then 0 else 1) ∧ M.1 19 11 = (vsX T n m x).2.1 ∧ ∀ j, j < 10 → M.1 27 j = (vsX T n m x).2.2 j
theorem cap_cap {c : Nat → Nat} {n : Nat} : cap (cap c n) n = cap c n := by
  funext j
  simp only [cap]
  split <;> rfl
theorem coT_nI {T : TT} {n m i : Nat} (hO : OKS T n m) (hi : i < n) : nI (coT T n i) = T 0 i := by
  obtain ⟨v, hv, e⟩ := nI_of (x := T 0 i) (fun q => by have := Int32.lt_iff_toInt_lt.mp q; rw [i_0] at this; have := hO.1 i hi; omega)
  show nI (if i < n then (T 0 i).toNatClampNeg else 0) = _
  rw [if_pos hi, e, nI_clamp hv]
theorem coT_lt {T : TT} {n m : Nat} (hO : OKS T n m) (i : Nat) : coT T n i < 65536 := ((SF_EX (these := 0) hO (fun i hi => by have := hO.1 i hi; omega)).2.2 0 (show 0 < 1 by omega)).2.1 i
theorem b_thV {T : TT} {m : Nat} {x : Int32} (hm : m ≤ 10) {j : Nat} (h : bt (thV T m x) j = true) : j < m := by
  rw [thV, b_fbor _ m (by omega)] at h
  simp at h
  exact h.1
set_option maxRecDepth 100000 in
set_option maxHeartbeats 4000000 in
theorem l_visit {M0 : Mem} {T : TT} {n m : Nat} {these d : Int32} {XF : XS} (hn8 : n ≤ 8) (hm10 : m ≤ 10) (h15 : T 15 0 = nI n) (h16 : T 16 0 = nI m) (hO : OKS T n m) {s1 : Int32} {QQ : Nat → List (Option Value) → List Value → Mem → Prop} (K : ∀ N s, (stV M0 N) → (repC N XF.1.2) → (N.1 19 14 = if XF.1.1 = true then 0 else 1) → (N.1 19 11 = XF.2.1) → (∀ j, j < 10 → N.1 27 j = XF.2.2 j) → (EX T n m these XF.1.2) → (N.1 19 10 = these) → (N.1 19 12 = d) → (∀ c, c ≠ 0 → c ≠ 5 → c < 20 → view N 108 c = T c) → (∀ j, n ≤ j → N.1 109 j = T 0 j) → Reach cX5_visit RX5 5 4 QQ 136 [some (.ref 19), some (.ref 28), some (.int s1), some (.int d), some (.int (nI s))] [] N) : ∀ (N : Nat) (s : Nat) (x : XS) (M1 : Mem), (s ≤ 3000) → (stV M0 M1) → (repC M1 x.1.2) → (M1.1 19 14 = if x.1.1 = true then 0 else 1) → (M1.1 19 11 = x.2.1) → (∀ j, j < 10 → M1.1 27 j = x.2.2 j) → (EX T n m these x.1.2) → (M1.1 19 10 = these) → (M1.1 19 12 = d) → (∀ c, c ≠ 0 → c ≠ 5 → c < 20 → view M1 108 c = T c) → (∀ j, n ≤ j → M1.1 109 j = T 0 j) → (vrun T n m these N s x = XF) → 3000 - s < N → Reach cX5_visit RX5 5 4 (QQ) 94 [some (.ref 19), some (.ref 28), some (.int s1), some (.int d), some (.int (nI s))] [] (M1) := by
  intro N
  induction N with
  | zero => intro s x M1 hs hst hR hf hp hb hE h10 h12 hv hv0 he hm; exact absurd ‹_ < 0› (Nat.not_lt_zero _)
  | succ N ih =>
    intro s x M1 hs hst hR hf hp hb hE h10 h12 hv hv0 he hm
    have hN : M1.1 19 9 = nI x.1.2.N := by obtain ⟨tb, q1, -⟩ := hR; exact q1
    have hN3 : x.1.2.N ≤ 3000 := by obtain ⟨tb, -, q1, -⟩ := hR; exact q1
    refine rx_iload (i := 4) dX5_visit_94 rfl ?_
    refine rx_sipush (3000) dX5_visit_96 rfl ?_
    refine rx_icmp_ge (tgt := 136) dX5_visit_99 (by decide) (fun c99 => ?_) (fun c99 => ?_)
    · skip
      have f99 := Int32.not_lt.mpr c99
      have e99 : ¬ s < x.1.2.N := fun q => by have z := (nI_leI (a := 3000) (by omega) (by omega)).mp c99; omega
      rw [show vrun T n m these (N + 1) s x = x from if_neg fun q => e99 q.1] at he
      subst he
      exact K M1 s hst hR hf hp hb hE h10 h12 hv hv0
    · skip
      have f99 := Int32.not_le.mp c99
      refine rx_iload (i := 4) dX5_visit_102 rfl ?_
      refine rx_aload_n (i := 0) dX5_visit_104 rfl rfl ?_
      refine rx_getI (k := 9) fo_X5_76 kl_19 (by decide) ti_5_9 dX5_visit_105 ?_
      refine rx_top (nI x.1.2.N) hN ?_
      refine rx_icmp_ge (tgt := 136) dX5_visit_108 (by decide) (fun c108 => ?_) (fun c108 => ?_)
      · skip
        have f108 := Int32.not_lt.mpr c108
        have e108 : ¬ s < x.1.2.N := fun q => c108 |> fun z => by have := (nI_leI (by omega) (by omega)).mp z; omega
        rw [show vrun T n m these (N + 1) s x = x from if_neg fun q => e108 q.1] at he
        subst he
        exact K M1 s hst hR hf hp hb hE h10 h12 hv hv0
      · skip
        have f108 := Int32.not_le.mp c108
        have e108 : s < x.1.2.N := Nat.lt_of_not_le fun q => c108 (nI_le q (by omega))
        refine rx_aload_n (i := 0) dX5_visit_111 rfl rfl ?_
        refine rx_getI (k := 14) fo_X5_59 kl_19 (by decide) ti_5_14 dX5_visit_112 ?_
        refine rx_top _ hf ?_
        refine rx_if_ne (tgt := 136) dX5_visit_115 (by decide) (fun c115 => ?_) (fun c115 => ?_)
        · skip
          have e115 : ¬ x.1.1 = true := fun q => c115 (by rw [if_pos q])
          rw [show vrun T n m these (N + 1) s x = x from if_neg fun q => e115 q.2] at he
          subst he
          exact K M1 s hst hR hf hp hb hE h10 h12 hv hv0
        · skip
          have e115 : x.1.1 = true := Decidable.byContradiction fun q => absurd c115 (by rw [if_neg q]; decide)
          rw [show vrun T n m these (N + 1) s x = vrun T n m these N (s + 1) (lvs (ldT T n (x.1.2.co s)) n s (x.1.2.mk s) (x.1.2.co s) (x.1.2.pr s) (x.1.2.rw s) these m x) from if_pos ⟨e108, e115⟩] at he
          have hP := hE.2.2 s e108
          have eA : alk (ldT T n (x.1.2.co s)) (view (ldM M1 n (x.1.2.co s)) 108) := ld_alk hv hv0
          have hO2 : OKS (view (ldM M1 n (x.1.2.co s)) 108) n m := hP.2.2.1.alk eA
          have w2 : TW (ldM M1 n (x.1.2.co s)) 108 n m := TW_w ((congrFun (eA 15 (by omega) (by omega)) 0).trans ((congrFun (ldT_o (by decide)) 0).trans h15)) ((congrFun (eA 16 (by omega) (by omega)) 0).trans ((congrFun (ldT_o (by decide)) 0).trans h16)) hn8 hm10 hO2
          refine rx_aload_n (i := 0) dX5_visit_118 rfl rfl ?_
          refine rx_iload (i := 4) dX5_visit_119 rfl ?_
          refine rx_cvN (ci := 5) mo_X5_load lk_X5_79 (c_X5_load (S := x.1.2) hR e108 (show M1.1 108 15 = nI n from (congrFun (hv 15 (by omega) (by omega) (by omega)) 0).trans h15) hn8) (by decide) rfl rfl (Nat.le_of_ble_eq_true rfl) kl_19 rfl dX5_visit_121 ?_
          refine rx_aload_n (i := 0) dX5_visit_124 rfl rfl ?_
          refine rx_iload (i := 4) dX5_visit_125 rfl ?_
          refine rx_callV (ci := 5) mo_X5_leave lk_X5_83 (c_X5_leave (x0 := x) (these := these) w2 hO2 (fun i hi => ld_i hi) hP.2.1 (ld_rep hR) ((ld_o (by omega)).trans hf) ((ld_o (by omega)).trans hp) (fun j hj => (ld_o (by omega)).trans (hb j hj)) ((ld_o (by omega)).trans h10) hP.r54 (hE.iv e108) (by omega)) (by decide) rfl rfl (Nat.le_of_ble_eq_true rfl) kl_19 rfl dX5_visit_127 ?_
          rintro _ N2 ⟨rfl, hG, hR2, hf2, hp2, hb2⟩
          rw [lvs_alk eA] at hR2 hf2 hp2 hb2
          have eB := stG_view hG
          first | refine rx_iincN (i := 4) dX5_visit_130 rfl (by decide) rfl rfl ?_ | refine rx_iinc (i := 4) dX5_visit_130 rfl rfl (by decide) rfl rfl ?_
          refine rx_goto (tgt := 94) dX5_visit_133 (by decide) ?_
          exact ih (s + 1) _ N2 (by omega) (hst.trans (stV_ld.trans hG.V)) hR2 hf2 hp2 hb2 (lvs_EX hn8 hm10 hP hE (Nat.le_refl m)) ((hG.1 19 10 (by omega)).trans ((ld_o (by omega)).trans h10)) ((hG.1 19 12 (by omega)).trans ((ld_o (by omega)).trans h12)) (fun c h0 h5 h20 => (eB c h5 h20).trans ((eA c h5 h20).trans (ldT_o h0))) (fun j hj => by
            rw [hG.1 109 j (by omega), show (ldM M1 n (x.1.2.co s)).1 109 j = M1.1 109 j from if_neg (by omega)]
            exact hv0 j hj) he (by omega)
theorem rep_19 {M : Mem} {S : SS} {x : Int32} (hR : repC M S) : repC (setI M 19 13 x) S := by
  obtain ⟨tb, h1, h2, h3, h4, h5⟩ := hR
  exact ⟨tb, (sI_ne (by omega)).trans h1, h2, fun s hs => ⟨(sI_ne (by omega)).trans (h3 s hs).1, (h3 s hs).2.1, (h3 s hs).2.2.1, (h3 s hs).2.2.2.1, (sI_ne (by omega)).trans (h3 s hs).2.2.2.2.1, (h3 s hs).2.2.2.2.2⟩, fun p hp => (sI_ne (by omega)).trans (h4 p hp), h5⟩
set_option maxRecDepth 100000 in
set_option maxHeartbeats 4000000 in
theorem l_visit52 {M : Mem} {n m : Nat} {srt d : Int32} (w : TW M 28 n m) (hO : OKS (view M 28) n m) : Reach cX5_visit RX5 5 4 (RetQ cX5_visit (some .boolean) (fun v N => v = some (.int (zI (vsX (setT (view M 28) 14 0 srt) n m d).1.1)) ∧ VS N (setT (view M 28) 14 0 srt) n m d ∧ stV M N)) 52 [some (.ref 19), some (.ref 28), some (.int srt), some (.int d), none] [] M := by
  have ht : isTown 108 := by unfold isTown; omega
  have hN0 : isTown 28 := by unfold isTown; omega
  have ⟨hn, hn8, hm, hm10, hd⟩ := w
  have eC : alk (setT (view M 28) 14 0 srt) (view (setI (cpM M 108 28) 123 0 srt) 108) := fun c h5 h20 => by
    rw [show (123 : Nat) = 108 + 15 from rfl, view_put]
    funext j
    simp only [setT]
    rw [view_cp c h5 h20]
  have hOT : OKS (setT (view M 28) 14 0 srt) n m := hO
  have h8T : ∀ i, i < n → 0 ≤ ((setT (view M 28) 14 0 srt) 0 i).toInt := fun i hi => by have := hO.1 i hi; show 0 ≤ (view M 28 0 i).toInt; omega
  have w2 : TW (setI (setI (cpM M 108 28) 123 0 srt) 19 12 d) 108 n m := TW_w (by rw [view_19 (by omega)]; exact (congrFun (eC 15 (by omega) (by omega)) 0).trans hn) (by rw [view_19 (by omega)]; exact (congrFun (eC 16 (by omega) (by omega)) 0).trans hm) hn8 hm10 (by rw [view_19 (by omega)]; exact hOT.alk eC)
  refine rx_aload_n (i := 0) dX5_visit_52 rfl rfl ?_
  refine rx_getR 108 (k := 0) fo_X5_12 kl_19 (by decide) ti_5_0 (by decide) rfl dX5_visit_53 ?_
  refine rx_aload_n (i := 1) dX5_visit_56 rfl rfl ?_
  refine rx_cvN (ci := 8) mo_X8_copyFrom lk_X5_62 (c_X8_copyFrom ht hN0 (by omega)) (by decide) rfl rfl (Nat.le_of_ble_eq_true rfl) kl_108 rfl dX5_visit_57 ?_
  refine rx_aload_n (i := 0) dX5_visit_60 rfl rfl ?_
  refine rx_getR 108 (k := 0) fo_X5_12 kl_19 (by decide) ti_5_0 (by decide) rfl dX5_visit_61 ?_
  refine rx_getR 123 (k := 14) fo_X5_52 kl_108 (by decide) ti_8_14 (by decide) rfl dX5_visit_64 ?_
  refine rx_iconst (0) dX5_visit_67 rfl ?_
  refine rx_iload_n (i := 2) dX5_visit_68 rfl rfl ?_
  refine rx_iastN (k := 0) kl_123 (by omega) (by first | decide | omega) dX5_visit_69 ?_
  refine rx_aload_n (i := 0) dX5_visit_70 rfl rfl ?_
  refine rx_iload_n (i := 3) dX5_visit_71 rfl rfl ?_
  refine rx_putI (k := 12) fo_X5_48 fn_5_12 kl_19 (by decide) ty_5_12 dX5_visit_72 ?_
  refine rx_aload_n (i := 0) dX5_visit_75 rfl rfl ?_
  refine rx_aload_n (i := 0) dX5_visit_76 rfl rfl ?_
  refine rx_getR 108 (k := 0) fo_X5_12 kl_19 (by decide) ti_5_0 (by decide) rfl dX5_visit_77 ?_
  refine rx_iload_n (i := 3) dX5_visit_80 rfl rfl ?_
  refine rx_cvI (ci := 8) mo_X8_openDueBy lk_X5_66 (c_X8_openDueBy ht w2) (by decide) rfl rfl (Nat.le_of_ble_eq_true rfl) kl_108 rfl dX5_visit_81 ?_
  refine rx_top (thV (setT (view M 28) 14 0 srt) m d) (fbor_congr fun k hk => by
    rw [sI_na (by omega), sI_na (by omega)]
    have a1 := congrFun (eC 10 (by omega) (by omega)) k
    have a2 := congrFun (eC 9 (by omega) (by omega)) k
    simp only [view] at a1 a2
    simp only [dueT]
    rw [← a1, ← a2]
    rfl) ?_
  refine rx_putI (k := 10) fo_X5_70 fn_5_10 kl_19 (by decide) ty_5_10 dX5_visit_84 ?_
  have e15 : (setI (setI (setI (cpM M 108 28) 123 0 srt) 19 12 d) 19 10 (thV (setT (view M 28) 14 0 srt) m d)).1 108 15 = nI n := by rw [sI_na (by omega)]; exact w2.1
  have eD : alk (setT (view M 28) 14 0 srt) (view (setI (setI (setI (cpM M 108 28) 123 0 srt) 19 12 d) 19 10 (thV (setT (view M 28) 14 0 srt) m d)) 108) := fun c h5 h20 => by rw [view_19 (by omega), view_19 (by omega)]; exact eC c h5 h20
  have e0 : ∀ i, i < n → (setI (setI (setI (cpM M 108 28) 123 0 srt) 19 12 d) 19 10 (thV (setT (view M 28) 14 0 srt) m d)).1 109 i = nI (coT (setT (view M 28) 14 0 srt) n i) := fun i hi => by
    rw [coT_nI hOT hi]; exact congrFun (eD 0 (by omega) (by omega)) i
  refine rx_aload_n (i := 0) dX5_visit_87 rfl rfl ?_
  refine rx_callV (ci := 5) mo_X5_start lk_X5_73 (c_X5_start (M := (setI (setI (setI (cpM M 108 28) 123 0 srt) 19 12 d) 19 10 (thV (setT (view M 28) 14 0 srt) m d))) (n := n) (c := coT (setT (view M 28) 14 0 srt) n) e15 hn8 e0 (coT_lt hOT)) (by decide) rfl rfl (Nat.le_of_ble_eq_true rfl) kl_19 rfl dX5_visit_88 ?_
  rintro _ M2 ⟨rfl, hG, hL2, hR2, hf2, hp2, hb2⟩
  rw [show cap (coT (setT (view M 28) 14 0 srt) n) n = coT (setT (view M 28) 14 0 srt) n from cap_cap] at hR2
  have eB := stG_view hG
  refine rx_iconst (0) dX5_visit_91 rfl ?_
  refine rx_istore (i := 4) dX5_visit_92 (by decide) rfl rfl ?_
  refine l_visit (M0 := M) (T := (setT (view M 28) 14 0 srt)) (n := n) (m := m) (these := thV (setT (view M 28) 14 0 srt) m d) (XF := vsX (setT (view M 28) 14 0 srt) n m d) hn8 hm10 hn hm hOT (fun N s a1 a2 a3 a4 a5 a6 a7 a8 a9 a10 => ?_) 3001 0 ((true, SF (coT (setT (view M 28) 14 0 srt) n)), 0, fun _ => thV (setT (view M 28) 14 0 srt) m d) M2 (by omega) ((stV_cp.trans ((stV_I (by omega)).trans ((stV_I (by omega)).trans (stV_I (by omega))))).trans hG.V) hR2 hf2 hp2 (fun j hj => (hb2 j hj).trans sI_eq) (SF_EX hOT h8T) ((hG.1 19 10 (by omega)).trans sI_eq) ((hG.1 19 12 (by omega)).trans ((sI_ne (by omega)).trans sI_eq)) (fun c h0 h5 h20 => (eB c h5 h20).trans (eD c h5 h20)) (fun j hj => (congrFun (eB 0 (by omega) (by omega)) j).trans (congrFun (eD 0 (by omega) (by omega)) j)) rfl (by omega)
  refine rx_aload_n (i := 0) dX5_visit_136 rfl rfl ?_
  refine rx_iconst (0) dX5_visit_137 rfl ?_
  refine rx_cvN (ci := 5) mo_X5_load lk_X5_79 (c_X5_load (s := 0) a2 a6.2.1.1 (show N.1 108 15 = nI n from (congrFun (a9 15 (by omega) (by omega) (by omega)) 0).trans hn) hn8) (by decide) rfl rfl (Nat.le_of_ble_eq_true rfl) kl_19 rfl dX5_visit_138 ?_
  rw [a6.2.1.2.2.1]
  refine rx_aload_n (i := 0) dX5_visit_141 rfl rfl ?_
  refine rx_iconst (1) dX5_visit_142 rfl ?_
  refine rx_putZ (k := 13) fo_X5_44 fn_5_13 kl_19 (by decide) ty_5_13 (by first | exact Or.inl rfl | exact Or.inr rfl) dX5_visit_143 ?_
  have eE : alk (ldT (setT (view M 28) 14 0 srt) n (coT (setT (view M 28) 14 0 srt) n)) (view (setI (ldM N n (coT (setT (view M 28) 14 0 srt) n)) 19 13 1) 108) := by
    rw [view_19 (by omega)]; exact ld_alk a9 a10
  have hVS : VS (setI (ldM N n (coT (setT (view M 28) 14 0 srt) n)) 19 13 1) (setT (view M 28) 14 0 srt) n m d := by
    refine ⟨sI_eq, (sI_ne (by omega)).trans ((ld_o (by omega)).trans a8), agV.trans ?_ eE.ag, ⟨?_, ?_⟩, (sI_ne (by omega)).trans ((ld_o (by omega)).trans a7), rep_19 (ld_rep a2), (sI_ne (by omega)).trans ((ld_o (by omega)).trans a3), (sI_ne (by omega)).trans ((ld_o (by omega)).trans a4), fun j hj => (sI_ne (by omega)).trans ((ld_o (by omega)).trans (a5 j hj))⟩
    · refine ⟨fun j hj => ⟨?_, ?_, ?_, ?_, ?_⟩, fun k hk => ⟨?_, ?_, ?_, ?_, ?_⟩, ?_, ?_, ?_⟩
      · rw [ldT_i hj, coT_nI hOT hj]
      all_goals rw [ldT_o (by decide)]
    · exact (congrFun (eE 15 (by omega) (by omega)) 0).trans ((congrFun (ldT_o (by decide)) 0).trans hn)
    · exact (congrFun (eE 16 (by omega) (by omega)) 0).trans ((congrFun (ldT_o (by decide)) 0).trans hm)
  have hstV : stV M (setI (ldM N n (coT (setT (view M 28) 14 0 srt) n)) 19 13 1) := a1.trans (stV_ld.trans (stV_I (by omega)))
  refine rx_aload_n (i := 0) dX5_visit_146 rfl rfl ?_
  refine rx_getI (k := 14) fo_X5_59 kl_19 (by decide) ti_5_14 dX5_visit_147 ?_
  refine rx_top _ ((sI_ne (by omega)).trans ((ld_o (by omega)).trans a3)) ?_
  refine rx_if_ne (tgt := 157) dX5_visit_150 (by decide) (fun c150 => ?_) (fun c150 => ?_)
  · skip
    have e150 : (vsX (setT (view M 28) 14 0 srt) n m d).1.1 = false := by
      cases h : (vsX (setT (view M 28) 14 0 srt) n m d).1.1
      · rfl
      · exact absurd (if_pos h) c150
    refine rx_iconst (0) dX5_visit_157 rfl ?_
    exact rx_zret dX5_visit_158 (by first | exact Or.inl rfl | exact Or.inr rfl) ⟨by rw [e150]; rfl, hVS, hstV⟩
  · skip
    have e150 : (vsX (setT (view M 28) 14 0 srt) n m d).1.1 = true := by
      cases h : (vsX (setT (view M 28) 14 0 srt) n m d).1.1
      · exact absurd c150 (by rw [if_neg (by rw [h]; decide)]; decide)
      · rfl
    refine rx_iconst (1) dX5_visit_153 rfl ?_
    refine rx_goto (tgt := 158) dX5_visit_154 (by decide) ?_
    exact rx_zret dX5_visit_158 (by first | exact Or.inl rfl | exact Or.inr rfl) ⟨by rw [e150]; rfl, hVS, hstV⟩
set_option maxRecDepth 100000 in
set_option maxHeartbeats 4000000 in
theorem c_X5_visit {M : Mem} {n m : Nat} {srt d : Int32} (w : TW M 28 n m) (hO : OKS (view M 28) n m) (hV : M.1 19 13 = 0 ∨ (M.1 19 13 = 1 ∧ ∃ T0 n0 m0 x0, VS M T0 n0 m0 x0 ∧ n0 ≤ 8 ∧ m0 ≤ 10)) (hst : M.1 108 15 = nI n → M.1 108 16 = nI m → (∀ j, j < n → M.1 110 j = M.1 30 j ∧ M.1 111 j = M.1 31 j) ∧ ∀ k, k < m → M.1 115 k = M.1 35 k ∧ M.1 116 k = M.1 36 k ∧ M.1 117 k = M.1 37 k ∧ M.1 118 k = M.1 38 k) : Con yX5_visit cX5_visit 5 (some .boolean) 4 [.ref 19, .ref 28, .int srt, .int d] M (fun v N => v = some (.int (zI (vsX (setT (view M 28) 14 0 srt) n m d).1.1)) ∧ VS N (setT (view M 28) 14 0 srt) n m d ∧ stV M N) := by
  refine Con.of (own := RX5) (ls := [some (.ref 19), some (.ref 28), some (.int srt), some (.int d), none]) rfl (by decide +kernel) (Nat.le_of_ble_eq_true rfl) rfl ?_
  have ht : isTown 108 := by unfold isTown; omega
  have hN0 : isTown 28 := by unfold isTown; omega
  classical
  refine rx_aload_n (i := 0) dX5_visit_0 rfl rfl ?_
  refine rx_getI (k := 13) fo_X5_44 kl_19 (by decide) ti_5_13 dX5_visit_1 ?_
  refine rx_if_eq (tgt := 52) dX5_visit_4 (by decide) (fun c4 => ?_) (fun c4 => ?_)
  · skip
    exact l_visit52 w hO
  · skip
    obtain ⟨h13, T0, n0, m0, x0, hV, hn08, hm010⟩ := hV.resolve_left c4
    refine rx_aload_n (i := 0) dX5_visit_7 rfl rfl ?_
    refine rx_getI (k := 12) fo_X5_48 kl_19 (by decide) ti_5_12 dX5_visit_8 ?_
    refine rx_iload_n (i := 3) dX5_visit_11 rfl rfl ?_
    refine rx_icmp_ne (tgt := 52) dX5_visit_12 (by decide) (fun c12 => ?_) (fun c12 => ?_)
    · skip
      exact l_visit52 w hO
    · skip
      refine rx_aload_n (i := 0) dX5_visit_15 rfl rfl ?_
      refine rx_getR 108 (k := 0) fo_X5_12 kl_19 (by decide) ti_5_0 (by decide) rfl dX5_visit_16 ?_
      refine rx_getR 123 (k := 14) fo_X5_52 kl_108 (by decide) ti_8_14 (by decide) rfl dX5_visit_19 ?_
      refine rx_iconst (0) dX5_visit_22 rfl ?_
      refine rx_ialdN (k := 0) kl_123 (by omega) (by first | decide | omega) dX5_visit_23 ?_
      refine rx_iload_n (i := 2) dX5_visit_24 rfl rfl ?_
      refine rx_icmp_ne (tgt := 52) dX5_visit_25 (by decide) (fun c25 => ?_) (fun c25 => ?_)
      · skip
        exact l_visit52 w hO
      · skip
        refine rx_aload_n (i := 0) dX5_visit_28 rfl rfl ?_
        refine rx_getR 108 (k := 0) fo_X5_12 kl_19 (by decide) ti_5_0 (by decide) rfl dX5_visit_29 ?_
        refine rx_aload_n (i := 1) dX5_visit_32 rfl rfl ?_
        refine rx_cvI (ci := 8) mo_X8_isLike lk_X5_55 (c_X8_isLike (v := decide (likeT M 108 28 n0 m0)) ht hN0 hV.2.2.2.1.1 hn08 hV.2.2.2.1.2 hm010 decide_eq_true_iff) (by decide) rfl rfl (Nat.le_of_ble_eq_true rfl) kl_108 rfl dX5_visit_33 ?_
        refine rx_if_eq (tgt := 52) dX5_visit_36 (by decide) (fun c36 => ?_) (fun c36 => ?_)
        · skip
          exact l_visit52 w hO
        · skip
          have eL : likeT M 108 28 n0 m0 := Decidable.byContradiction fun q => c36 (by rw [decide_eq_false q]; rfl)
          have hw := w
          obtain ⟨hn, hn8, hm, hm10, hd⟩ := hw
          obtain ⟨v13, v12, vag, ⟨vn, vm⟩, v10, vR, vf, vp, vb⟩ := hV
          obtain ⟨⟨⟨⟨k1, k2⟩, k3⟩, k4⟩, k5⟩ := eL
          rw [vn, hn] at k1
          rw [vm, hm] at k2
          obtain rfl : n0 = n := (nI_eq (by omega) (by omega)).mp k1
          obtain rfl : m0 = m := (nI_eq (by omega) (by omega)).mp k2
          obtain ⟨st1, st2⟩ := hst vn vm
          have eG : agV (setT (view M 28) 14 0 srt) (view M 108) n0 m0 := by
            refine ⟨fun j hj => ⟨(k4 j hj).1, (st1 j hj).1, (st1 j hj).2, (k4 j hj).2.1, (k4 j hj).2.2⟩, fun k hk => ⟨(st2 k hk).1, (st2 k hk).2.1, (st2 k hk).2.2.1, (st2 k hk).2.2.2, k5 k hk⟩, c25, ((k3 1 (by decide)).resolve_left (by decide)), ((k3 2 (by decide)).resolve_left (by decide))⟩
          obtain rfl : x0 = d := v12.symm.trans (c12)
          have eT : agV (setT (view M 28) 14 0 srt) T0 n0 m0 := eG.trans vag.symm
          have hOT : OKS (setT (view M 28) 14 0 srt) n0 m0 := hO
          have eth : thV T0 m0 x0 = thV (setT (view M 28) 14 0 srt) m0 x0 := fbor_congr fun k hk => by simp only [dueT, (eT.2.1 k hk).2.2.2.1, (eT.2.1 k hk).2.2.2.2]
          have eX : vsX T0 n0 m0 x0 = vsX (setT (view M 28) 14 0 srt) n0 m0 x0 := by unfold vsX; rw [eth]; exact vis_ag hn8 hm10 eT hOT (fun i hi => by have := hO.1 i hi; show 0 ≤ (view M 28 0 i).toInt; omega)
          have hVS : VS M (setT (view M 28) 14 0 srt) n0 m0 x0 := by
            refine ⟨v13, v12, eG, ⟨vn, vm⟩, by rw [← eth]; exact v10, ?_, ?_, ?_, ?_⟩
            · rw [← eX]; exact vR
            · rw [← eX]; exact vf
            · rw [← eX]; exact vp
            · rw [← eX]; exact vb
          refine rx_aload_n (i := 0) dX5_visit_39 rfl rfl ?_
          refine rx_getI (k := 14) fo_X5_59 kl_19 (by decide) ti_5_14 dX5_visit_40 ?_
          refine rx_top _ hVS.2.2.2.2.2.2.1 ?_
          refine rx_if_ne (tgt := 50) dX5_visit_43 (by decide) (fun c43 => ?_) (fun c43 => ?_)
          · skip
            have e43 : (vsX (setT (view M 28) 14 0 srt) n0 m0 x0).1.1 = false := by
              cases h : (vsX (setT (view M 28) 14 0 srt) n0 m0 x0).1.1
              · rfl
              · exact absurd (if_pos h) c43
            refine rx_iconst (0) dX5_visit_50 rfl ?_
            exact rx_zret dX5_visit_51 (by first | exact Or.inl rfl | exact Or.inr rfl) ⟨by rw [e43]; rfl, hVS, stV.refl⟩
          · skip
            have e43 : (vsX (setT (view M 28) 14 0 srt) n0 m0 x0).1.1 = true := by
              cases h : (vsX (setT (view M 28) 14 0 srt) n0 m0 x0).1.1
              · exact absurd c43 (by rw [if_neg (by rw [h]; decide)]; decide)
              · rfl
            refine rx_iconst (1) dX5_visit_46 rfl ?_
            refine rx_goto (tgt := 51) dX5_visit_47 (by decide) ?_
            exact rx_zret dX5_visit_51 (by first | exact Or.inl rfl | exact Or.inr rfl) ⟨by rw [e43]; rfl, hVS, stV.refl⟩
