set_option maxRecDepth 100000 in
set_option maxHeartbeats 4000000 in
theorem l_X11_mostPaid {M : Mem} {W : Nat} (h44 : M.1 140 44 = nI W) (hW : W ≤ 3000) : ∀ (N : Nat) (i : Nat) (s : Int32), (i ≤ W) → (s = (mxI (fun q => bcnt (M.1 159 q)) i)) → W - i < N → Reach cX11_mostPaid RX11 3 1 (FQ cX11_mostPaid (some .int) (some (.int (mxI (fun q => bcnt (M.1 159 q)) W))) M) 4 [some (.ref 140), some (.int s), some (.int (nI i))] [] (M) := by
  intro N
  induction N with
  | zero => intro i s hi hs hm; exact absurd ‹_ < 0› (Nat.not_lt_zero _)
  | succ N ih =>
    intro i s hi hs hm
    refine rx_iload_n (i := 2) dX11_mostPaid_4 rfl rfl ?_
    refine rx_aload_n (i := 0) dX11_mostPaid_5 rfl rfl ?_
    refine rx_getI (k := 44) fo_X11_325 kl_140 (by decide) ti_11_44 dX11_mostPaid_6 ?_
    refine rx_top (nI W) (h44) ?_
    refine rx_icmp_ge (tgt := 32) dX11_mostPaid_9 (by decide) (fun c9 => ?_) (fun c9 => ?_)
    · skip
      have f9 := Int32.not_lt.mpr c9
      have e9 : i = W := by have := (nI_leI (by omega) (by omega)).mp c9; omega
      subst e9
      refine rx_iload_n (i := 1) dX11_mostPaid_32 rfl rfl ?_
      exact rx_fiI dX11_mostPaid_33 hs rfl
    · skip
      have f9 := Int32.not_le.mp c9
      have e9 : i < W := Nat.lt_of_not_le fun q => c9 (nI_le q (by omega))
      refine rx_iload_n (i := 1) dX11_mostPaid_12 rfl rfl ?_
      refine rx_aload_n (i := 0) dX11_mostPaid_13 rfl rfl ?_
      refine rx_getR 159 (k := 35) fo_X11_74 kl_140 (by decide) ti_11_35 (by decide) rfl dX11_mostPaid_14 ?_
      refine rx_iload_n (i := 2) dX11_mostPaid_17 rfl rfl ?_
      refine rx_ialdN kl_159 (by omega) (by first | decide | omega) dX11_mostPaid_18 ?_
      refine rx_csI mo_J6_bitCount_0f7a4 lk_X11_337 c_J6_bitCount_0f7a4 (by decide) rfl rfl (Nat.le_of_ble_eq_true rfl) dX11_mostPaid_19 ?_
      refine rx_mmax (List.mem_of_getElem? (i := 1715) (by decide +kernel)) (by decide) (Nat.le_of_ble_eq_true rfl) dX11_mostPaid_22 ?_
      refine rx_istore_n (i := 1) dX11_mostPaid_25 rfl (by decide) rfl rfl ?_
      first | refine rx_iincN (i := 2) dX11_mostPaid_26 rfl (by decide) rfl rfl ?_ | refine rx_iinc (i := 2) dX11_mostPaid_26 rfl rfl (by decide) rfl rfl ?_
      refine rx_goto (tgt := 4) dX11_mostPaid_29 (by decide) ?_
      exact ih (i + 1) _ (by omega) (by rw [hs]; rfl) (by omega)
set_option maxRecDepth 100000 in
set_option maxHeartbeats 4000000 in
theorem c_X11_mostPaid {M : Mem} {W : Nat} (h44 : M.1 140 44 = nI W) (hW : W ≤ 3000) : Fun yX11_mostPaid cX11_mostPaid 3 (some .int) 1 [.ref 140] M (some (.int (mxI (fun q => bcnt (M.1 159 q)) W))) (M) := by
  refine Fun.of (own := RX11) ([some (.ref 140), none, none]) rfl (by decide +kernel) (Nat.le_of_ble_eq_true rfl) rfl ?_
  refine rx_iconst (0) dX11_mostPaid_0 rfl ?_
  refine rx_istore_n (i := 1) dX11_mostPaid_1 rfl (by decide) rfl rfl ?_
  refine rx_iconst (0) dX11_mostPaid_2 rfl ?_
  refine rx_istore_n (i := 2) dX11_mostPaid_3 rfl (by decide) rfl rfl ?_
  exact l_X11_mostPaid h44 hW (W + 1) 0 0 (Nat.zero_le _) rfl (by omega)
/-- how many of n from a on -/
def cntB (p : Nat → Bool) (a : Nat) : Nat → Nat
  | 0 => 0
  | n + 1 => cntB p a n + (if p (a + n) = true then 1 else 0)
/-- the rank of a state in its layer, f to e -/
def rkS (M : Mem) (pa : Nat → Nat) (f e s : Nat) : Nat := cntB (fun o => rwL M o s (pa o) (pa s)) f (e - f)
/-- the ranks set up to i -/
def orM (M : Mem) (pa : Nat → Nat) (f e i : Nat) : Mem := (fun a j => if a = 165 ∧ f ≤ j ∧ j < i then nI (rkS M pa f e j) else M.1 a j, M.2)
theorem or_0' {M : Mem} {pa : Nat → Nat} {f e : Nat} : orM M pa f e f = M := by
  refine Prod.ext ?_ rfl
  funext a j; exact if_neg (by omega)
theorem or_o {M : Mem} {pa : Nat → Nat} {f e i a j : Nat} (h : ¬ (a = 165 ∧ f ≤ j)) : (orM M pa f e i).1 a j = M.1 a j := if_neg (by omega)
theorem or_s {M : Mem} {pa : Nat → Nat} {f e i : Nat} (h : f ≤ i) : setI (orM M pa f e i) 165 i (nI (rkS M pa f e i)) = orM M pa f e (i + 1) := by
  refine Prod.ext ?_ rfl
  funext a j
  simp only [setI, orM]
  by_cases q : a = 165 ∧ j = i
  · rw [if_pos q, if_pos (by omega), q.2]
  · rw [if_neg q]
    by_cases q2 : a = 165 ∧ f ≤ j ∧ j < i
    · rw [if_pos q2, if_pos (by omega)]
    · rw [if_neg q2, if_neg (by omega)]
theorem rwL_o {M N : Mem} {o s po ps f : Nat} (hpo : po < f) (hps : ps < f) (h : ∀ a j, ¬ (a = 165 ∧ f ≤ j) → N.1 a j = M.1 a j) : rwL N o s po ps = rwL M o s po ps := by
  unfold rwL
  rw [h 163 o (by omega), h 163 s (by omega), h 164 o (by omega), h 164 s (by omega), h 165 po (by omega), h 165 ps (by omega)]
set_option maxRecDepth 100000 in
set_option maxHeartbeats 4000000 in
theorem l_orderIn {M : Mem} {W f e : Nat} {pa : Nat → Nat} (hW : W ≤ 3000) (he : e ≤ W) (hpa : ∀ o, f ≤ o → o < e → pa o < f ∧ M.1 163 o = nI (pa o)) {s : Nat} (hs1 : f ≤ s) (hs2 : s < e) {QQ : Nat → List (Option Value) → List Value → Mem → Prop} (K : Reach cX11_orderLayer RX11 5 1 QQ 90 [some (.ref 140), some (.int (nI f)), some (.int (nI e)), some (.int (nI s)), none] [] (orM M pa f e (s + 1))) : ∀ (N : Nat) (i : Nat), (i ≤ e) → (f ≤ i) → e - i < N → Reach cX11_orderLayer RX11 5 1 (QQ) 54 [some (.ref 140), some (.int (nI f)), some (.int (nI e)), some (.int (nI s)), some (.int (nI i))] [] ((setI (orM M pa f e s) 165 s (nI (cntB (fun o => rwL M o s (pa o) (pa s)) f (i - f))))) := by
  intro N
  induction N with
  | zero => intro i hi hfi hm; exact absurd ‹_ < 0› (Nat.not_lt_zero _)
  | succ N ih =>
    intro i hi hfi hm
    refine rx_iload (i := 4) dX11_orderLayer_54 rfl ?_
    refine rx_iload_n (i := 2) dX11_orderLayer_56 rfl rfl ?_
    refine rx_icmp_ge (tgt := 90) dX11_orderLayer_57 (by decide) (fun c57 => ?_) (fun c57 => ?_)
    · skip
      have f57 := Int32.not_lt.mpr c57
      have e57 : i = e := by have := (nI_leI (by omega) (by omega)).mp c57; omega
      subst e57
      refine rx_drop 4 ?_
      rw [show cntB (fun o => rwL M o s (pa o) (pa s)) f (i - f) = rkS M pa f i s from rfl, or_s hs1]
      exact K
    · skip
      have f57 := Int32.not_le.mp c57
      have e57 : i < e := Nat.lt_of_not_le fun q => c57 (nI_le q (by omega))
      have hk : ∀ a j, ¬ (a = 165 ∧ f ≤ j) → (setI (orM M pa f e s) 165 s (nI (cntB (fun o => rwL M o s (pa o) (pa s)) f (i - f)))).1 a j = M.1 a j := fun a j q => (sI_ne (by omega)).trans (or_o q)
      have p1 := hpa i hfi e57
      have p2 := hpa s hs1 hs2
      refine rx_aload_n (i := 0) dX11_orderLayer_60 rfl rfl ?_
      refine rx_getR 165 (k := 41) fo_X11_93 kl_140 (by decide) ti_11_41 (by decide) rfl dX11_orderLayer_61 ?_
      refine rx_iload_n (i := 3) dX11_orderLayer_64 rfl rfl ?_
      refine rx_dup2_11 dX11_orderLayer_65 rfl rfl ?_
      refine rx_ialdN kl_165 (by omega) (by first | decide | omega) dX11_orderLayer_66 ?_
      refine rx_top (nI (cntB (fun o => rwL M o s (pa o) (pa s)) f (i - f))) (sI_eq) ?_
      refine rx_aload_n (i := 0) dX11_orderLayer_67 rfl rfl ?_
      refine rx_iload (i := 4) dX11_orderLayer_68 rfl ?_
      refine rx_iload_n (i := 3) dX11_orderLayer_70 rfl rfl ?_
      refine rx_cvI (ci := 11) mo_X11_isRowLess lk_X11_352 (c_X11_isRowLess (o := i) (s := s) (by omega) (by omega) (by omega) (by omega) ((hk 163 i (by omega)).trans p1.2) ((hk 163 s (by omega)).trans p2.2)) (by decide) rfl rfl (Nat.le_of_ble_eq_true rfl) kl_140 rfl dX11_orderLayer_71 ?_
      refine rx_top (zI (rwL M i s (pa i) (pa s))) (congrArg zI (rwL_o p1.1 p2.1 hk)) ?_
      refine rx_if_eq (tgt := 81) dX11_orderLayer_74 (by decide) (fun c74 => ?_) (fun c74 => ?_)
      · skip
        have e74 : rwL M i s (pa i) (pa s) = false := zI_0.mp c74
        refine rx_iconst (0) dX11_orderLayer_81 rfl ?_
        refine rx_iadd dX11_orderLayer_82 ?_
        refine rx_top (nI (cntB (fun o => rwL M o s (pa o) (pa s)) f (i + 1 - f))) (by
          rw [show i + 1 - f = (i - f) + 1 by omega, cntB, show f + (i - f) = i by omega, e74]
          first | rfl | (rw [if_pos rfl, ← nI_add]; rfl)  | (rw [if_neg (by decide), Nat.add_zero]; exact Int32.add_zero _)) ?_
        refine rx_iastN kl_165 (by omega) (by first | decide | omega) dX11_orderLayer_83 ?_
        rw [sI_sI]
        first | refine rx_iincN (i := 4) dX11_orderLayer_84 rfl (by decide) rfl rfl ?_ | refine rx_iinc (i := 4) dX11_orderLayer_84 rfl rfl (by decide) rfl rfl ?_
        refine rx_goto (tgt := 54) dX11_orderLayer_87 (by decide) ?_
        exact ih (i + 1) (by omega) (by omega) (by omega)
      · skip
        have e74 : rwL M i s (pa i) (pa s) = true := zI_n c74
        refine rx_iconst (1) dX11_orderLayer_77 rfl ?_
        refine rx_goto (tgt := 82) dX11_orderLayer_78 (by decide) ?_
        refine rx_iadd dX11_orderLayer_82 ?_
        refine rx_top (nI (cntB (fun o => rwL M o s (pa o) (pa s)) f (i + 1 - f))) (by
          rw [show i + 1 - f = (i - f) + 1 by omega, cntB, show f + (i - f) = i by omega, e74]
          first | rfl | (rw [if_pos rfl, ← nI_add]; rfl)  | (rw [if_neg (by decide), Nat.add_zero]; exact Int32.add_zero _)) ?_
        refine rx_iastN kl_165 (by omega) (by first | decide | omega) dX11_orderLayer_83 ?_
        rw [sI_sI]
        first | refine rx_iincN (i := 4) dX11_orderLayer_84 rfl (by decide) rfl rfl ?_ | refine rx_iinc (i := 4) dX11_orderLayer_84 rfl rfl (by decide) rfl rfl ?_
        refine rx_goto (tgt := 54) dX11_orderLayer_87 (by decide) ?_
        exact ih (i + 1) (by omega) (by omega) (by omega)
set_option maxRecDepth 100000 in
set_option maxHeartbeats 4000000 in
theorem l_orderOut {M : Mem} {W f e : Nat} {pa : Nat → Nat} (hW : W ≤ 3000) (he : e ≤ W) (hpa : ∀ o, f ≤ o → o < e → pa o < f ∧ M.1 163 o = nI (pa o)) (hfe : f ≤ e) : ∀ (N : Nat) (i : Nat), (i ≤ e) → (f ≤ i) → e - i < N → Reach cX11_orderLayer RX11 5 1 (FQ cX11_orderLayer none none (orM M pa f e e)) 39 [some (.ref 140), some (.int (nI f)), some (.int (nI e)), some (.int (nI i)), none] [] (orM M pa f e i) := by
  intro N
  induction N with
  | zero => intro i hi hfi hm; exact absurd ‹_ < 0› (Nat.not_lt_zero _)
  | succ N ih =>
    intro i hi hfi hm
    refine rx_iload_n (i := 3) dX11_orderLayer_39 rfl rfl ?_
    refine rx_iload_n (i := 2) dX11_orderLayer_40 rfl rfl ?_
    refine rx_icmp_ge (tgt := 96) dX11_orderLayer_41 (by decide) (fun c41 => ?_) (fun c41 => ?_)
    · skip
      have f41 := Int32.not_lt.mpr c41
      have e41 : i = e := by have := (nI_leI (by omega) (by omega)).mp c41; omega
      subst e41
      exact rx_fiV dX11_orderLayer_96 rfl
    · skip
      have f41 := Int32.not_le.mp c41
      have e41 : i < e := Nat.lt_of_not_le fun q => c41 (nI_le q (by omega))
      refine rx_aload_n (i := 0) dX11_orderLayer_44 rfl rfl ?_
      refine rx_getR 165 (k := 41) fo_X11_93 kl_140 (by decide) ti_11_41 (by decide) rfl dX11_orderLayer_45 ?_
      refine rx_iload_n (i := 3) dX11_orderLayer_48 rfl rfl ?_
      refine rx_iconst (0) dX11_orderLayer_49 rfl ?_
      refine rx_iastN kl_165 (by omega) (by first | decide | omega) dX11_orderLayer_50 ?_
      refine rx_iload_n (i := 1) dX11_orderLayer_51 rfl rfl ?_
      refine rx_istore (i := 4) dX11_orderLayer_52 (by decide) rfl rfl ?_
      rw [show (0 : Int32) = nI (cntB (fun o => rwL M o i (pa o) (pa i)) f (f - f)) from by rw [Nat.sub_self]; rfl]
      refine l_orderIn (s := i) hW he hpa hfi e41 ?_ (e + 1) f hfe (Nat.le_refl _) (by omega)
      first | refine rx_iincN (i := 3) dX11_orderLayer_90 rfl (by decide) rfl rfl ?_ | refine rx_iinc (i := 3) dX11_orderLayer_90 rfl rfl (by decide) rfl rfl ?_
      refine rx_goto (tgt := 39) dX11_orderLayer_93 (by decide) ?_
      exact ih (i + 1) (by omega) (by omega) (by omega)
set_option maxRecDepth 100000 in
set_option maxHeartbeats 4000000 in
theorem l_orderEnd {M : Mem} {W f e : Nat} {pa : Nat → Nat} (hW : W ≤ 3000) (he : e ≤ W) (hpa : ∀ o, f ≤ o → o < e → pa o < f ∧ M.1 163 o = nI (pa o)) (hfe : f ≤ e) (h44 : M.1 140 44 = nI W) (h1 : ∀ o, f ≤ o → o < e → bcnt (M.1 159 o) = bcnt (M.1 159 f)) (h2 : e < W → ¬ bcnt (M.1 159 e) = bcnt (M.1 159 f)) (hf : f < W) : ∀ (N : Nat) (i : Nat), (i ≤ e) → (f ≤ i) → e - i < N → Reach cX11_orderLayer RX11 5 1 (FQ cX11_orderLayer none none (orM M pa f e e)) 2 [some (.ref 140), some (.int (nI f)), some (.int (nI i)), none, none] [] (M) := by
  intro N
  induction N with
  | zero => intro i hi hfi hm; exact absurd ‹_ < 0› (Nat.not_lt_zero _)
  | succ N ih =>
    intro i hi hfi hm
    refine rx_iload_n (i := 2) dX11_orderLayer_2 rfl rfl ?_
    refine rx_aload_n (i := 0) dX11_orderLayer_3 rfl rfl ?_
    refine rx_getI (k := 44) fo_X11_325 kl_140 (by decide) ti_11_44 dX11_orderLayer_4 ?_
    refine rx_top (nI W) (h44) ?_
    refine rx_icmp_ge (tgt := 37) dX11_orderLayer_7 (by decide) (fun c7 => ?_) (fun c7 => ?_)
    · skip
      have f7 := Int32.not_lt.mpr c7
      have e7 : i = e := by have := (nI_leI (by omega) (by omega)).mp c7; omega
      subst e7
      refine rx_iload_n (i := 1) dX11_orderLayer_37 rfl rfl ?_
      refine rx_istore_n (i := 3) dX11_orderLayer_38 rfl (by decide) rfl rfl ?_
      have hO := l_orderOut hW he hpa hfe (i + 1) f hfe (Nat.le_refl _) (by omega)
      rw [or_0'] at hO
      exact hO
    · skip
      have f7 := Int32.not_le.mp c7
      have e7 : i < W := Nat.lt_of_not_le fun q => c7 (nI_le q (by omega))
      refine rx_aload_n (i := 0) dX11_orderLayer_10 rfl rfl ?_
      refine rx_getR 159 (k := 35) fo_X11_74 kl_140 (by decide) ti_11_35 (by decide) rfl dX11_orderLayer_11 ?_
      refine rx_iload_n (i := 2) dX11_orderLayer_14 rfl rfl ?_
      refine rx_ialdN kl_159 (by omega) (by first | decide | omega) dX11_orderLayer_15 ?_
      refine rx_csI mo_J6_bitCount_0f7a4 lk_X11_337 c_J6_bitCount_0f7a4 (by decide) rfl rfl (Nat.le_of_ble_eq_true rfl) dX11_orderLayer_16 ?_
      refine rx_aload_n (i := 0) dX11_orderLayer_19 rfl rfl ?_
      refine rx_getR 159 (k := 35) fo_X11_74 kl_140 (by decide) ti_11_35 (by decide) rfl dX11_orderLayer_20 ?_
      refine rx_iload_n (i := 1) dX11_orderLayer_23 rfl rfl ?_
      refine rx_ialdN kl_159 (by omega) (by first | decide | omega) dX11_orderLayer_24 ?_
      refine rx_csI mo_J6_bitCount_0f7a4 lk_X11_337 c_J6_bitCount_0f7a4 (by decide) rfl rfl (Nat.le_of_ble_eq_true rfl) dX11_orderLayer_25 ?_
      refine rx_icmp_ne (tgt := 37) dX11_orderLayer_28 (by decide) (fun c28 => ?_) (fun c28 => ?_)
      · skip
        have e28 : i = e := by
          rcases Nat.lt_or_eq_of_le hi with q | q
          · exact absurd (h1 i hfi q) c28
          · exact q
        subst e28
        refine rx_iload_n (i := 1) dX11_orderLayer_37 rfl rfl ?_
        refine rx_istore_n (i := 3) dX11_orderLayer_38 rfl (by decide) rfl rfl ?_
        have hO := l_orderOut hW he hpa hfe (i + 1) f hfe (Nat.le_refl _) (by omega)
        rw [or_0'] at hO
        exact hO
      · skip
        have e28 : i < e := by
          rcases Nat.lt_or_eq_of_le hi with q | q
          · exact q
          · subst q; exact absurd c28 (h2 e7)
        first | refine rx_iincN (i := 2) dX11_orderLayer_31 rfl (by decide) rfl rfl ?_ | refine rx_iinc (i := 2) dX11_orderLayer_31 rfl rfl (by decide) rfl rfl ?_
        refine rx_goto (tgt := 2) dX11_orderLayer_34 (by decide) ?_
        exact ih (i + 1) (by omega) (by omega) (by omega)
set_option maxRecDepth 100000 in
set_option maxHeartbeats 4000000 in
theorem c_X11_orderLayer {M : Mem} {W f e : Nat} {pa : Nat → Nat} (hW : W ≤ 3000) (he : e ≤ W) (hpa : ∀ o, f ≤ o → o < e → pa o < f ∧ M.1 163 o = nI (pa o)) (hfe : f ≤ e) (h44 : M.1 140 44 = nI W) (h1 : ∀ o, f ≤ o → o < e → bcnt (M.1 159 o) = bcnt (M.1 159 f)) (h2 : e < W → ¬ bcnt (M.1 159 e) = bcnt (M.1 159 f)) (hf : f < W) : Fun yX11_orderLayer cX11_orderLayer 5 none 1 [.ref 140, .int (nI f)] M (none) (orM M pa f e e) := by
  refine Fun.of (own := RX11) ([some (.ref 140), some (.int (nI f)), none, none, none]) rfl (by decide +kernel) (Nat.le_of_ble_eq_true rfl) rfl ?_
  refine rx_iload_n (i := 1) dX11_orderLayer_0 rfl rfl ?_
  refine rx_istore_n (i := 2) dX11_orderLayer_1 rfl (by decide) rfl rfl ?_
  exact l_orderEnd hW he hpa hfe h44 h1 h2 hf (e + 1) f hfe (Nat.le_refl _) (by omega)
