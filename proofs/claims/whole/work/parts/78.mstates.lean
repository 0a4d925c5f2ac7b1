/-- a state's coins brought -/
def loM (M : Mem) (s c : Nat) : Mem := (fun a j => if a = 141 ∧ j < c then M.1 160 (8 * s + j) else M.1 a j, M.2)
theorem lo_0 {M : Mem} {s : Nat} : loM M s 0 = M := by
  refine Prod.ext ?_ rfl
  funext a j; exact if_neg (by omega)
theorem lo_o {M : Mem} {s c a j : Nat} (h : a ≠ 141) : (loM M s c).1 a j = M.1 a j := if_neg fun q => h q.1
theorem lo_s {M : Mem} {s c : Nat} : setI (loM M s c) 141 c (M.1 160 (8 * s + c)) = loM M s (c + 1) := by
  refine Prod.ext ?_ rfl
  funext a j
  simp only [setI, loM]
  by_cases h : a = 141 ∧ j = c
  · rw [if_pos h, if_pos (by omega), h.2]
  · rw [if_neg h]
    by_cases h2 : a = 141 ∧ j < c
    · rw [if_pos h2, if_pos (by omega)]
    · rw [if_neg h2, if_neg (by omega)]
set_option maxRecDepth 100000 in
set_option maxHeartbeats 4000000 in
theorem l_X11_load {M : Mem} {n s : Nat} (hn : M.1 140 0 = nI n) (hn8 : n ≤ 8) (hs : s < 3000) : ∀ (N : Nat) (i : Nat), (i ≤ n) → n - i < N → Reach cX11_load RX11 3 0 (FQ cX11_load none none (loM M s n)) 2 [some (.ref 140), some (.int (nI s)), some (.int (nI i))] [] (loM M s i) := by
  intro N
  induction N with
  | zero => intro i hi hm; exact absurd ‹_ < 0› (Nat.not_lt_zero _)
  | succ N ih =>
    intro i hi hm
    refine rx_iload_n (i := 2) dX11_load_2 rfl rfl ?_
    refine rx_aload_n (i := 0) dX11_load_3 rfl rfl ?_
    refine rx_getI (k := 0) fo_X11_132 kl_140 (by decide) ti_11_0 dX11_load_4 ?_
    refine rx_top (nI n) ((lo_o (by omega)).trans hn) ?_
    refine rx_icmp_ge (tgt := 33) dX11_load_7 (by decide) (fun c7 => ?_) (fun c7 => ?_)
    · skip
      have f7 := Int32.not_lt.mpr c7
      have e7 : i = n := by have := (nI_leI (by omega) (by omega)).mp c7; omega
      subst e7
      exact rx_fiV dX11_load_33 rfl
    · skip
      have f7 := Int32.not_le.mp c7
      have e7 : i < n := Nat.lt_of_not_le fun q => c7 (nI_le q (by omega))
      refine rx_aload_n (i := 0) dX11_load_10 rfl rfl ?_
      refine rx_getR 141 (k := 1) fo_X11_9 kl_140 (by decide) ti_11_1 (by decide) rfl dX11_load_11 ?_
      refine rx_iload_n (i := 2) dX11_load_14 rfl rfl ?_
      refine rx_aload_n (i := 0) dX11_load_15 rfl rfl ?_
      refine rx_getR 160 (k := 36) fo_X11_77 kl_140 (by decide) ti_11_36 (by decide) rfl dX11_load_16 ?_
      refine rx_bipush (8) dX11_load_19 rfl ?_
      refine rx_iload_n (i := 1) dX11_load_21 rfl rfl ?_
      refine rx_imul dX11_load_22 ?_
      refine rx_top (nI (8 * s)) (by rw [show (8 : Int32) = nI 8 from rfl, pk_mul]) ?_
      refine rx_iload_n (i := 2) dX11_load_23 rfl rfl ?_
      refine rx_iadd dX11_load_24 ?_
      refine rx_top (nI (8 * s + i)) (by rw [nI_add]) ?_
      refine rx_ialdN kl_160 (by omega) (by first | decide | omega) dX11_load_25 ?_
      refine rx_top (M.1 160 (8 * s + i)) (lo_o (by omega)) ?_
      refine rx_iastN kl_141 (by omega) (by first | decide | omega) dX11_load_26 ?_
      rw [lo_s]
      first | refine rx_iincN (i := 2) dX11_load_27 rfl (by decide) rfl rfl ?_ | refine rx_iinc (i := 2) dX11_load_27 rfl rfl (by decide) rfl rfl ?_
      refine rx_goto (tgt := 2) dX11_load_30 (by decide) ?_
      exact ih (i + 1) (by omega) (by omega)
set_option maxRecDepth 100000 in
set_option maxHeartbeats 4000000 in
theorem c_X11_load {M : Mem} {n s : Nat} (hn : M.1 140 0 = nI n) (hn8 : n ≤ 8) (hs : s < 3000) : Fun yX11_load cX11_load 3 none 0 [.ref 140, .int (nI s)] M (none) (loM M s n) := by
  refine Fun.of (own := RX11) ([some (.ref 140), some (.int (nI s)), none]) rfl (by decide +kernel) (Nat.le_of_ble_eq_true rfl) rfl ?_
  refine rx_iconst (0) dX11_load_0 rfl ?_
  refine rx_istore_n (i := 2) dX11_load_1 rfl (by decide) rfl rfl ?_
  have h := l_X11_load (M := M) hn hn8 hs (n + 1) 0 (Nat.zero_le _) (by omega)
  rw [lo_0] at h
  exact h
/-- a state is this -/
def isSt (M : Mem) (s : Nat) (mk : Int32) (n : Nat) : Bool := decide (M.1 159 s = mk) && allB (fun i => decide (M.1 160 (8 * s + i) = M.1 141 i)) n
theorem isSt_iff {M : Mem} {s n : Nat} {mk : Int32} : isSt M s mk n = true ↔ M.1 159 s = mk ∧ ∀ i, i < n → M.1 160 (8 * s + i) = M.1 141 i := by
  simp only [isSt, Bool.and_eq_true, decide_eq_true_eq, allB_iff]
theorem isSt_f {M : Mem} {s n : Nat} {mk : Int32} (h : ¬ (M.1 159 s = mk ∧ ∀ i, i < n → M.1 160 (8 * s + i) = M.1 141 i)) : (0 : Int32) = zI (isSt M s mk n) := by
  have e : isSt M s mk n = false := by cases q : isSt M s mk n; rfl; exact absurd (isSt_iff.mp q) h
  rw [e]; rfl
theorem isSt_t {M : Mem} {s n : Nat} {mk : Int32} (h : M.1 159 s = mk ∧ ∀ i, i < n → M.1 160 (8 * s + i) = M.1 141 i) : (1 : Int32) = zI (isSt M s mk n) := by rw [isSt_iff.mpr h]; rfl
set_option maxRecDepth 100000 in
set_option maxHeartbeats 4000000 in
theorem l_X11_isState {M : Mem} {n s : Nat} {mk : Int32} (hn : M.1 140 0 = nI n) (hn8 : n ≤ 8) (hs : s < 3000) (h0 : M.1 159 s = mk) : ∀ (N : Nat) (i : Nat), (i ≤ n) → (∀ j, j < i → M.1 160 (8 * s + j) = M.1 141 j) → n - i < N → Reach cX11_isState RX11 4 0 (FQ cX11_isState (some .boolean) (some (.int (zI (isSt M s mk n)))) M) 14 [some (.ref 140), some (.int (nI s)), some (.int mk), some (.int (nI i))] [] (M) := by
  intro N
  induction N with
  | zero => intro i hi hq hm; exact absurd ‹_ < 0› (Nat.not_lt_zero _)
  | succ N ih =>
    intro i hi hq hm
    refine rx_iload_n (i := 3) dX11_isState_14 rfl rfl ?_
    refine rx_aload_n (i := 0) dX11_isState_15 rfl rfl ?_
    refine rx_getI (k := 0) fo_X11_132 kl_140 (by decide) ti_11_0 dX11_isState_16 ?_
    refine rx_top (nI n) (hn) ?_
    refine rx_icmp_ge (tgt := 50) dX11_isState_19 (by decide) (fun c19 => ?_) (fun c19 => ?_)
    · skip
      have f19 := Int32.not_lt.mpr c19
      have e19 : i = n := by have := (nI_leI (by omega) (by omega)).mp c19; omega
      subst e19
      refine rx_iconst (1) dX11_isState_50 rfl ?_
      refine rx_top (zI (isSt M s mk i)) (isSt_t ⟨h0, hq⟩) ?_
      exact rx_fiZ dX11_isState_51 (zI_01 _) rfl rfl
    · skip
      have f19 := Int32.not_le.mp c19
      have e19 : i < n := Nat.lt_of_not_le fun q => c19 (nI_le q (by omega))
      refine rx_aload_n (i := 0) dX11_isState_22 rfl rfl ?_
      refine rx_getR 160 (k := 36) fo_X11_77 kl_140 (by decide) ti_11_36 (by decide) rfl dX11_isState_23 ?_
      refine rx_bipush (8) dX11_isState_26 rfl ?_
      refine rx_iload_n (i := 1) dX11_isState_28 rfl rfl ?_
      refine rx_imul dX11_isState_29 ?_
      refine rx_top (nI (8 * s)) (by rw [show (8 : Int32) = nI 8 from rfl, pk_mul]) ?_
      refine rx_iload_n (i := 3) dX11_isState_30 rfl rfl ?_
      refine rx_iadd dX11_isState_31 ?_
      refine rx_top (nI (8 * s + i)) (by rw [nI_add]) ?_
      refine rx_ialdN kl_160 (by omega) (by first | decide | omega) dX11_isState_32 ?_
      refine rx_aload_n (i := 0) dX11_isState_33 rfl rfl ?_
      refine rx_getR 141 (k := 1) fo_X11_9 kl_140 (by decide) ti_11_1 (by decide) rfl dX11_isState_34 ?_
      refine rx_iload_n (i := 3) dX11_isState_37 rfl rfl ?_
      refine rx_ialdN kl_141 (by omega) (by first | decide | omega) dX11_isState_38 ?_
      refine rx_icmp_eq (tgt := 44) dX11_isState_39 (by decide) (fun c39 => ?_) (fun c39 => ?_)
      · skip
        first | refine rx_iincN (i := 3) dX11_isState_44 rfl (by decide) rfl rfl ?_ | refine rx_iinc (i := 3) dX11_isState_44 rfl rfl (by decide) rfl rfl ?_
        refine rx_goto (tgt := 14) dX11_isState_47 (by decide) ?_
        exact ih (i + 1) (by omega) (fun j hj => by
          rcases Nat.lt_or_eq_of_le (Nat.le_of_lt_succ hj) with q | q
          · exact hq j q
          · rw [q]; exact c39) (by omega)
      · skip
        refine rx_iconst (0) dX11_isState_42 rfl ?_
        refine rx_top (zI (isSt M s mk n)) (isSt_f (fun q => c39 (q.2 i e19))) ?_
        exact rx_fiZ dX11_isState_43 (zI_01 _) rfl rfl
set_option maxRecDepth 100000 in
set_option maxHeartbeats 4000000 in
theorem c_X11_isState {M : Mem} {n s : Nat} {mk : Int32} (hn : M.1 140 0 = nI n) (hn8 : n ≤ 8) (hs : s < 3000) : Fun yX11_isState cX11_isState 4 (some .boolean) 0 [.ref 140, .int (nI s), .int mk] M (some (.int (zI (isSt M s mk n)))) (M) := by
  refine Fun.of (own := RX11) ([some (.ref 140), some (.int (nI s)), some (.int mk), none]) rfl (by decide +kernel) (Nat.le_of_ble_eq_true rfl) rfl ?_
  refine rx_aload_n (i := 0) dX11_isState_0 rfl rfl ?_
  refine rx_getR 159 (k := 35) fo_X11_74 kl_140 (by decide) ti_11_35 (by decide) rfl dX11_isState_1 ?_
  refine rx_iload_n (i := 1) dX11_isState_4 rfl rfl ?_
  refine rx_ialdN kl_159 (by omega) (by first | decide | omega) dX11_isState_5 ?_
  refine rx_iload_n (i := 2) dX11_isState_6 rfl rfl ?_
  refine rx_icmp_eq (tgt := 12) dX11_isState_7 (by decide) (fun c7 => ?_) (fun c7 => ?_)
  · skip
    refine rx_iconst (0) dX11_isState_12 rfl ?_
    refine rx_istore_n (i := 3) dX11_isState_13 rfl (by decide) rfl rfl ?_
    exact l_X11_isState hn hn8 hs c7 (n + 1) 0 (Nat.zero_le _) (fun j hj => absurd hj (Nat.not_lt_zero _)) (by omega)
  · skip
    refine rx_iconst (0) dX11_isState_10 rfl ?_
    refine rx_top (zI (isSt M s mk n)) (isSt_f (fun q => c7 q.1)) ?_
    exact rx_fiZ dX11_isState_11 (zI_01 _) rfl rfl
/-- the row of o is before that of s -/
def rwL (M : Mem) (o s po ps : Nat) : Bool := if M.1 163 o = M.1 163 s then decide (M.1 164 o < M.1 164 s) else decide (M.1 165 po < M.1 165 ps)
set_option maxRecDepth 100000 in
set_option maxHeartbeats 4000000 in
theorem c_X11_isRowLess {M : Mem} {o s po ps : Nat} (ho : o < 3000) (hs : s < 3000) (hpo : po < 3000) (hps : ps < 3000) (eo : M.1 163 o = nI po) (es : M.1 163 s = nI ps) : Fun yX11_isRowLess cX11_isRowLess 3 (some .boolean) 0 [.ref 140, .int (nI o), .int (nI s)] M (some (.int (zI (rwL M o s po ps)))) (M) := by
  refine Fun.of (own := RX11) ([some (.ref 140), some (.int (nI o)), some (.int (nI s))]) rfl (by decide +kernel) (Nat.le_of_ble_eq_true rfl) rfl ?_
  refine rx_aload_n (i := 0) dX11_isRowLess_0 rfl rfl ?_
  refine rx_getR 163 (k := 39) fo_X11_87 kl_140 (by decide) ti_11_39 (by decide) rfl dX11_isRowLess_1 ?_
  refine rx_iload_n (i := 1) dX11_isRowLess_4 rfl rfl ?_
  refine rx_ialdN kl_163 (by omega) (by first | decide | omega) dX11_isRowLess_5 ?_
  refine rx_aload_n (i := 0) dX11_isRowLess_6 rfl rfl ?_
  refine rx_getR 163 (k := 39) fo_X11_87 kl_140 (by decide) ti_11_39 (by decide) rfl dX11_isRowLess_7 ?_
  refine rx_iload_n (i := 2) dX11_isRowLess_10 rfl rfl ?_
  refine rx_ialdN kl_163 (by omega) (by first | decide | omega) dX11_isRowLess_11 ?_
  refine rx_icmp_eq (tgt := 46) dX11_isRowLess_12 (by decide) (fun c12 => ?_) (fun c12 => ?_)
  · skip
    refine rx_aload_n (i := 0) dX11_isRowLess_46 rfl rfl ?_
    refine rx_getR 164 (k := 40) fo_X11_90 kl_140 (by decide) ti_11_40 (by decide) rfl dX11_isRowLess_47 ?_
    refine rx_iload_n (i := 1) dX11_isRowLess_50 rfl rfl ?_
    refine rx_ialdN kl_164 (by omega) (by first | decide | omega) dX11_isRowLess_51 ?_
    refine rx_aload_n (i := 0) dX11_isRowLess_52 rfl rfl ?_
    refine rx_getR 164 (k := 40) fo_X11_90 kl_140 (by decide) ti_11_40 (by decide) rfl dX11_isRowLess_53 ?_
    refine rx_iload_n (i := 2) dX11_isRowLess_56 rfl rfl ?_
    refine rx_ialdN kl_164 (by omega) (by first | decide | omega) dX11_isRowLess_57 ?_
    refine rx_icmp_ge (tgt := 65) dX11_isRowLess_58 (by decide) (fun c58 => ?_) (fun c58 => ?_)
    · skip
      have f58 := Int32.not_lt.mpr c58
      refine rx_iconst (0) dX11_isRowLess_65 rfl ?_
      refine rx_top (zI (rwL M o s po ps)) (by rw [rwL, if_pos c12, decide_eq_false (Int32.not_lt.mpr c58)]; rfl) ?_
      exact rx_fiZ dX11_isRowLess_66 (zI_01 _) rfl rfl
    · skip
      have f58 := Int32.not_le.mp c58
      refine rx_iconst (1) dX11_isRowLess_61 rfl ?_
      refine rx_top (zI (rwL M o s po ps)) (by rw [rwL, if_pos c12, decide_eq_true (Int32.not_le.mp c58)]; rfl) ?_
      refine rx_goto (tgt := 66) dX11_isRowLess_62 (by decide) ?_
      exact rx_fiZ dX11_isRowLess_66 (zI_01 _) rfl rfl
  · skip
    refine rx_aload_n (i := 0) dX11_isRowLess_15 rfl rfl ?_
    refine rx_getR 165 (k := 41) fo_X11_93 kl_140 (by decide) ti_11_41 (by decide) rfl dX11_isRowLess_16 ?_
    refine rx_aload_n (i := 0) dX11_isRowLess_19 rfl rfl ?_
    refine rx_getR 163 (k := 39) fo_X11_87 kl_140 (by decide) ti_11_39 (by decide) rfl dX11_isRowLess_20 ?_
    refine rx_iload_n (i := 1) dX11_isRowLess_23 rfl rfl ?_
    refine rx_ialdN kl_163 (by omega) (by first | decide | omega) dX11_isRowLess_24 ?_
    refine rx_top (nI po) (eo) ?_
    refine rx_ialdN kl_165 (by omega) (by first | decide | omega) dX11_isRowLess_25 ?_
    refine rx_aload_n (i := 0) dX11_isRowLess_26 rfl rfl ?_
    refine rx_getR 165 (k := 41) fo_X11_93 kl_140 (by decide) ti_11_41 (by decide) rfl dX11_isRowLess_27 ?_
    refine rx_aload_n (i := 0) dX11_isRowLess_30 rfl rfl ?_
    refine rx_getR 163 (k := 39) fo_X11_87 kl_140 (by decide) ti_11_39 (by decide) rfl dX11_isRowLess_31 ?_
    refine rx_iload_n (i := 2) dX11_isRowLess_34 rfl rfl ?_
    refine rx_ialdN kl_163 (by omega) (by first | decide | omega) dX11_isRowLess_35 ?_
    refine rx_top (nI ps) (es) ?_
    refine rx_ialdN kl_165 (by omega) (by first | decide | omega) dX11_isRowLess_36 ?_
    refine rx_icmp_ge (tgt := 44) dX11_isRowLess_37 (by decide) (fun c37 => ?_) (fun c37 => ?_)
    · skip
      have f37 := Int32.not_lt.mpr c37
      refine rx_iconst (0) dX11_isRowLess_44 rfl ?_
      refine rx_top (zI (rwL M o s po ps)) (by rw [rwL, if_neg c12, decide_eq_false (Int32.not_lt.mpr c37)]; rfl) ?_
      exact rx_fiZ dX11_isRowLess_45 (zI_01 _) rfl rfl
    · skip
      have f37 := Int32.not_le.mp c37
      refine rx_iconst (1) dX11_isRowLess_40 rfl ?_
      refine rx_top (zI (rwL M o s po ps)) (by rw [rwL, if_neg c12, decide_eq_true (Int32.not_le.mp c37)]; rfl) ?_
      refine rx_goto (tgt := 45) dX11_isRowLess_41 (by decide) ?_
      exact rx_fiZ dX11_isRowLess_45 (zI_01 _) rfl rfl
/-- a way to t that counts more than the one it has -/
def isLs (M : Mem) (s k t : Nat) (cost : Int32) (p : Nat) : Prop := M.1 163 t = -1 ∨ cost < M.1 162 t ∨ (cost = M.1 162 t ∧ (M.1 165 s < M.1 165 p ∨ (nI s = M.1 163 t ∧ nI k < M.1 164 t)))
def leM (M : Mem) (s k t : Nat) (cost : Int32) : Mem := setI (setI (setI M 162 t cost) 163 t (nI s)) 164 t (nI k)
set_option maxRecDepth 100000 in
set_option maxHeartbeats 4000000 in
theorem c_X11_lead {M : Mem} {s k t p : Nat} {cost : Int32} (hs : s < 3000) (ht : t < 3000) (hp : M.1 163 t = -1 ∨ (p < 3000 ∧ M.1 163 t = nI p)) : Con yX11_lead cX11_lead 6 none 0 [.ref 140, .int (nI s), .int (nI k), .int (nI t), .int cost] M (fun v N => v = none ∧ (isLs M s k t cost p → N = leM M s k t cost) ∧ (¬ isLs M s k t cost p → N = M)) := by
  refine Con.of (own := RX11) (ls := [some (.ref 140), some (.int (nI s)), some (.int (nI k)), some (.int (nI t)), some (.int cost), none]) rfl (by decide +kernel) (Nat.le_of_ble_eq_true rfl) rfl ?_
  refine rx_aload_n (i := 0) dX11_lead_0 rfl rfl ?_
  refine rx_getR 163 (k := 39) fo_X11_87 kl_140 (by decide) ti_11_39 (by decide) rfl dX11_lead_1 ?_
  refine rx_iload_n (i := 3) dX11_lead_4 rfl rfl ?_
  refine rx_ialdN kl_163 (by omega) (by first | decide | omega) dX11_lead_5 ?_
  refine rx_iconst (-1) dX11_lead_6 rfl ?_
  refine rx_icmp_eq (tgt := 72) dX11_lead_7 (by decide) (fun c7 => ?_) (fun c7 => ?_)
  · skip
    refine rx_iconst (1) dX11_lead_72 rfl ?_
    refine rx_goto (tgt := 77) dX11_lead_73 (by decide) ?_
    refine rx_istore (i := 5) dX11_lead_77 (by decide) rfl rfl ?_
    refine rx_iload (i := 5) dX11_lead_79 rfl ?_
    refine rx_if_ne (tgt := 85) dX11_lead_81 (by decide) (fun c81 => ?_) (fun c81 => absurd c81 (by decide))
    refine rx_aload_n (i := 0) dX11_lead_85 rfl rfl ?_
    refine rx_getR 162 (k := 38) fo_X11_84 kl_140 (by decide) ti_11_38 (by decide) rfl dX11_lead_86 ?_
    refine rx_iload_n (i := 3) dX11_lead_89 rfl rfl ?_
    refine rx_iload (i := 4) dX11_lead_90 rfl ?_
    refine rx_iastN kl_162 (by omega) (by first | decide | omega) dX11_lead_92 ?_
    refine rx_aload_n (i := 0) dX11_lead_93 rfl rfl ?_
    refine rx_getR 163 (k := 39) fo_X11_87 kl_140 (by decide) ti_11_39 (by decide) rfl dX11_lead_94 ?_
    refine rx_iload_n (i := 3) dX11_lead_97 rfl rfl ?_
    refine rx_iload_n (i := 1) dX11_lead_98 rfl rfl ?_
    refine rx_iastN kl_163 (by omega) (by first | decide | omega) dX11_lead_99 ?_
    refine rx_aload_n (i := 0) dX11_lead_100 rfl rfl ?_
    refine rx_getR 164 (k := 40) fo_X11_90 kl_140 (by decide) ti_11_40 (by decide) rfl dX11_lead_101 ?_
    refine rx_iload_n (i := 3) dX11_lead_104 rfl rfl ?_
    refine rx_iload_n (i := 2) dX11_lead_105 rfl rfl ?_
    refine rx_iastN kl_164 (by omega) (by first | decide | omega) dX11_lead_106 ?_
    exact rx_vret dX11_lead_107 ⟨rfl, fun _ => rfl, fun q => absurd (by first | exact Or.inl c7 | exact Or.inr (Or.inl c18) | exact Or.inr (Or.inr ⟨c29, Or.inl c49⟩) | exact Or.inr (Or.inr ⟨c29, Or.inr ⟨c59, Int32.not_le.mp c69⟩⟩)) q⟩
  · skip
    obtain ⟨hp1, hp2⟩ := hp.resolve_left c7
    refine rx_iload (i := 4) dX11_lead_10 rfl ?_
    refine rx_aload_n (i := 0) dX11_lead_12 rfl rfl ?_
    refine rx_getR 162 (k := 38) fo_X11_84 kl_140 (by decide) ti_11_38 (by decide) rfl dX11_lead_13 ?_
    refine rx_iload_n (i := 3) dX11_lead_16 rfl rfl ?_
    refine rx_ialdN kl_162 (by omega) (by first | decide | omega) dX11_lead_17 ?_
    refine rx_icmp_lt (tgt := 72) dX11_lead_18 (by decide) (fun c18 => ?_) (fun c18 => ?_)
    · skip
      have f18 := Int32.not_le.mpr c18
      refine rx_iconst (1) dX11_lead_72 rfl ?_
      refine rx_goto (tgt := 77) dX11_lead_73 (by decide) ?_
      refine rx_istore (i := 5) dX11_lead_77 (by decide) rfl rfl ?_
      refine rx_iload (i := 5) dX11_lead_79 rfl ?_
      refine rx_if_ne (tgt := 85) dX11_lead_81 (by decide) (fun c81 => ?_) (fun c81 => absurd c81 (by decide))
      refine rx_aload_n (i := 0) dX11_lead_85 rfl rfl ?_
      refine rx_getR 162 (k := 38) fo_X11_84 kl_140 (by decide) ti_11_38 (by decide) rfl dX11_lead_86 ?_
      refine rx_iload_n (i := 3) dX11_lead_89 rfl rfl ?_
      refine rx_iload (i := 4) dX11_lead_90 rfl ?_
      refine rx_iastN kl_162 (by omega) (by first | decide | omega) dX11_lead_92 ?_
      refine rx_aload_n (i := 0) dX11_lead_93 rfl rfl ?_
      refine rx_getR 163 (k := 39) fo_X11_87 kl_140 (by decide) ti_11_39 (by decide) rfl dX11_lead_94 ?_
      refine rx_iload_n (i := 3) dX11_lead_97 rfl rfl ?_
      refine rx_iload_n (i := 1) dX11_lead_98 rfl rfl ?_
      refine rx_iastN kl_163 (by omega) (by first | decide | omega) dX11_lead_99 ?_
      refine rx_aload_n (i := 0) dX11_lead_100 rfl rfl ?_
      refine rx_getR 164 (k := 40) fo_X11_90 kl_140 (by decide) ti_11_40 (by decide) rfl dX11_lead_101 ?_
      refine rx_iload_n (i := 3) dX11_lead_104 rfl rfl ?_
      refine rx_iload_n (i := 2) dX11_lead_105 rfl rfl ?_
      refine rx_iastN kl_164 (by omega) (by first | decide | omega) dX11_lead_106 ?_
      exact rx_vret dX11_lead_107 ⟨rfl, fun _ => rfl, fun q => absurd (by first | exact Or.inl c7 | exact Or.inr (Or.inl c18) | exact Or.inr (Or.inr ⟨c29, Or.inl c49⟩) | exact Or.inr (Or.inr ⟨c29, Or.inr ⟨c59, Int32.not_le.mp c69⟩⟩)) q⟩
    · skip
      have f18 := Int32.not_lt.mp c18
      refine rx_iload (i := 4) dX11_lead_21 rfl ?_
      refine rx_aload_n (i := 0) dX11_lead_23 rfl rfl ?_
      refine rx_getR 162 (k := 38) fo_X11_84 kl_140 (by decide) ti_11_38 (by decide) rfl dX11_lead_24 ?_
      refine rx_iload_n (i := 3) dX11_lead_27 rfl rfl ?_
      refine rx_ialdN kl_162 (by omega) (by first | decide | omega) dX11_lead_28 ?_
      refine rx_icmp_ne (tgt := 76) dX11_lead_29 (by decide) (fun c29 => ?_) (fun c29 => ?_)
      · skip
        refine rx_iconst (0) dX11_lead_76 rfl ?_
        refine rx_istore (i := 5) dX11_lead_77 (by decide) rfl rfl ?_
        refine rx_iload (i := 5) dX11_lead_79 rfl ?_
        refine rx_if_ne (tgt := 85) dX11_lead_81 (by decide) (fun c81 => absurd c81 (by decide)) (fun c81 => ?_)
        exact rx_vret dX11_lead_84 ⟨rfl, fun q => by
          rcases q with q | q | ⟨q, q2 | ⟨q2, q3⟩⟩ <;> first | exact absurd q c7 | exact absurd q c18 | exact absurd q c29 | exact absurd q2 c49 | exact absurd q2 c59 | exact absurd q3 (Int32.not_lt.mpr c69), fun _ => rfl⟩
      · skip
        refine rx_aload_n (i := 0) dX11_lead_32 rfl rfl ?_
        refine rx_getR 165 (k := 41) fo_X11_93 kl_140 (by decide) ti_11_41 (by decide) rfl dX11_lead_33 ?_
        refine rx_iload_n (i := 1) dX11_lead_36 rfl rfl ?_
        refine rx_ialdN kl_165 (by omega) (by first | decide | omega) dX11_lead_37 ?_
        refine rx_aload_n (i := 0) dX11_lead_38 rfl rfl ?_
        refine rx_getR 165 (k := 41) fo_X11_93 kl_140 (by decide) ti_11_41 (by decide) rfl dX11_lead_39 ?_
        refine rx_aload_n (i := 0) dX11_lead_42 rfl rfl ?_
        refine rx_getR 163 (k := 39) fo_X11_87 kl_140 (by decide) ti_11_39 (by decide) rfl dX11_lead_43 ?_
        refine rx_iload_n (i := 3) dX11_lead_46 rfl rfl ?_
        refine rx_ialdN kl_163 (by omega) (by first | decide | omega) dX11_lead_47 ?_
        refine rx_top (nI p) (hp2) ?_
        refine rx_ialdN kl_165 (by omega) (by first | decide | omega) dX11_lead_48 ?_
        refine rx_icmp_lt (tgt := 72) dX11_lead_49 (by decide) (fun c49 => ?_) (fun c49 => ?_)
        · skip
          have f49 := Int32.not_le.mpr c49
          refine rx_iconst (1) dX11_lead_72 rfl ?_
          refine rx_goto (tgt := 77) dX11_lead_73 (by decide) ?_
          refine rx_istore (i := 5) dX11_lead_77 (by decide) rfl rfl ?_
          refine rx_iload (i := 5) dX11_lead_79 rfl ?_
          refine rx_if_ne (tgt := 85) dX11_lead_81 (by decide) (fun c81 => ?_) (fun c81 => absurd c81 (by decide))
          refine rx_aload_n (i := 0) dX11_lead_85 rfl rfl ?_
          refine rx_getR 162 (k := 38) fo_X11_84 kl_140 (by decide) ti_11_38 (by decide) rfl dX11_lead_86 ?_
          refine rx_iload_n (i := 3) dX11_lead_89 rfl rfl ?_
          refine rx_iload (i := 4) dX11_lead_90 rfl ?_
          refine rx_iastN kl_162 (by omega) (by first | decide | omega) dX11_lead_92 ?_
          refine rx_aload_n (i := 0) dX11_lead_93 rfl rfl ?_
          refine rx_getR 163 (k := 39) fo_X11_87 kl_140 (by decide) ti_11_39 (by decide) rfl dX11_lead_94 ?_
          refine rx_iload_n (i := 3) dX11_lead_97 rfl rfl ?_
          refine rx_iload_n (i := 1) dX11_lead_98 rfl rfl ?_
          refine rx_iastN kl_163 (by omega) (by first | decide | omega) dX11_lead_99 ?_
          refine rx_aload_n (i := 0) dX11_lead_100 rfl rfl ?_
          refine rx_getR 164 (k := 40) fo_X11_90 kl_140 (by decide) ti_11_40 (by decide) rfl dX11_lead_101 ?_
          refine rx_iload_n (i := 3) dX11_lead_104 rfl rfl ?_
          refine rx_iload_n (i := 2) dX11_lead_105 rfl rfl ?_
          refine rx_iastN kl_164 (by omega) (by first | decide | omega) dX11_lead_106 ?_
          exact rx_vret dX11_lead_107 ⟨rfl, fun _ => rfl, fun q => absurd (by first | exact Or.inl c7 | exact Or.inr (Or.inl c18) | exact Or.inr (Or.inr ⟨c29, Or.inl c49⟩) | exact Or.inr (Or.inr ⟨c29, Or.inr ⟨c59, Int32.not_le.mp c69⟩⟩)) q⟩
        · skip
          have f49 := Int32.not_lt.mp c49
          refine rx_iload_n (i := 1) dX11_lead_52 rfl rfl ?_
          refine rx_aload_n (i := 0) dX11_lead_53 rfl rfl ?_
          refine rx_getR 163 (k := 39) fo_X11_87 kl_140 (by decide) ti_11_39 (by decide) rfl dX11_lead_54 ?_
          refine rx_iload_n (i := 3) dX11_lead_57 rfl rfl ?_
          refine rx_ialdN kl_163 (by omega) (by first | decide | omega) dX11_lead_58 ?_
          refine rx_icmp_ne (tgt := 76) dX11_lead_59 (by decide) (fun c59 => ?_) (fun c59 => ?_)
          · skip
            refine rx_iconst (0) dX11_lead_76 rfl ?_
            refine rx_istore (i := 5) dX11_lead_77 (by decide) rfl rfl ?_
            refine rx_iload (i := 5) dX11_lead_79 rfl ?_
            refine rx_if_ne (tgt := 85) dX11_lead_81 (by decide) (fun c81 => absurd c81 (by decide)) (fun c81 => ?_)
            exact rx_vret dX11_lead_84 ⟨rfl, fun q => by
              rcases q with q | q | ⟨q, q2 | ⟨q2, q3⟩⟩ <;> first | exact absurd q c7 | exact absurd q c18 | exact absurd q c29 | exact absurd q2 c49 | exact absurd q2 c59 | exact absurd q3 (Int32.not_lt.mpr c69), fun _ => rfl⟩
          · skip
            refine rx_iload_n (i := 2) dX11_lead_62 rfl rfl ?_
            refine rx_aload_n (i := 0) dX11_lead_63 rfl rfl ?_
            refine rx_getR 164 (k := 40) fo_X11_90 kl_140 (by decide) ti_11_40 (by decide) rfl dX11_lead_64 ?_
            refine rx_iload_n (i := 3) dX11_lead_67 rfl rfl ?_
            refine rx_ialdN kl_164 (by omega) (by first | decide | omega) dX11_lead_68 ?_
            refine rx_icmp_ge (tgt := 76) dX11_lead_69 (by decide) (fun c69 => ?_) (fun c69 => ?_)
            · skip
              have f69 := Int32.not_lt.mpr c69
              refine rx_iconst (0) dX11_lead_76 rfl ?_
              refine rx_istore (i := 5) dX11_lead_77 (by decide) rfl rfl ?_
              refine rx_iload (i := 5) dX11_lead_79 rfl ?_
              refine rx_if_ne (tgt := 85) dX11_lead_81 (by decide) (fun c81 => absurd c81 (by decide)) (fun c81 => ?_)
              exact rx_vret dX11_lead_84 ⟨rfl, fun q => by
                rcases q with q | q | ⟨q, q2 | ⟨q2, q3⟩⟩ <;> first | exact absurd q c7 | exact absurd q c18 | exact absurd q c29 | exact absurd q2 c49 | exact absurd q2 c59 | exact absurd q3 (Int32.not_lt.mpr c69), fun _ => rfl⟩
            · skip
              have f69 := Int32.not_le.mp c69
              refine rx_iconst (1) dX11_lead_72 rfl ?_
              refine rx_goto (tgt := 77) dX11_lead_73 (by decide) ?_
              refine rx_istore (i := 5) dX11_lead_77 (by decide) rfl rfl ?_
              refine rx_iload (i := 5) dX11_lead_79 rfl ?_
              refine rx_if_ne (tgt := 85) dX11_lead_81 (by decide) (fun c81 => ?_) (fun c81 => absurd c81 (by decide))
              refine rx_aload_n (i := 0) dX11_lead_85 rfl rfl ?_
              refine rx_getR 162 (k := 38) fo_X11_84 kl_140 (by decide) ti_11_38 (by decide) rfl dX11_lead_86 ?_
              refine rx_iload_n (i := 3) dX11_lead_89 rfl rfl ?_
              refine rx_iload (i := 4) dX11_lead_90 rfl ?_
              refine rx_iastN kl_162 (by omega) (by first | decide | omega) dX11_lead_92 ?_
              refine rx_aload_n (i := 0) dX11_lead_93 rfl rfl ?_
              refine rx_getR 163 (k := 39) fo_X11_87 kl_140 (by decide) ti_11_39 (by decide) rfl dX11_lead_94 ?_
              refine rx_iload_n (i := 3) dX11_lead_97 rfl rfl ?_
              refine rx_iload_n (i := 1) dX11_lead_98 rfl rfl ?_
              refine rx_iastN kl_163 (by omega) (by first | decide | omega) dX11_lead_99 ?_
              refine rx_aload_n (i := 0) dX11_lead_100 rfl rfl ?_
              refine rx_getR 164 (k := 40) fo_X11_90 kl_140 (by decide) ti_11_40 (by decide) rfl dX11_lead_101 ?_
              refine rx_iload_n (i := 3) dX11_lead_104 rfl rfl ?_
              refine rx_iload_n (i := 2) dX11_lead_105 rfl rfl ?_
              refine rx_iastN kl_164 (by omega) (by first | decide | omega) dX11_lead_106 ?_
              exact rx_vret dX11_lead_107 ⟨rfl, fun _ => rfl, fun q => absurd (by first | exact Or.inl c7 | exact Or.inr (Or.inl c18) | exact Or.inr (Or.inr ⟨c29, Or.inl c49⟩) | exact Or.inr (Or.inr ⟨c29, Or.inr ⟨c59, Int32.not_le.mp c69⟩⟩)) q⟩
