theorem mv_I {M : Mem} {j : Nat} {x : Int32} (h : j ≠ 0 ∧ j ≠ 7 ∧ j ≠ 34 ∧ j ≠ 15 ∧ j ≠ 16) : mv (setI M 140 j x) = mv M := by
  funext c a
  match c with
  | 0 | 1 | 2 | 3 | 4 | 6 | 7 | 8 | 9 | 10 | 11 | 12 | 13 | 14 => exact sI_na (by omega)
  | 15 | 16 | 17 | 18 | 19 => exact sI_ne (by omega)
  | 5 => rfl
  | c + 20 => rfl
def mX : Nat → Nat := fun c => match c with | 12 => 146 | 13 => 158 | 14 => 153 | c => 141 + c
theorem mv_set {M : Mem} {c j : Nat} {x : Int32} (h : c ≤ 14) (h5 : c ≠ 5) : mv (setI M (match c with | 12 => 146 | 13 => 158 | 14 => 153 | 0 => 141 | 1 => 142 | 2 => 143 | 3 => 144 | 4 => 145 | c => 141 + c) j x) = setT (mv M) c j x := by
  funext c' a
  simp only [setT]
  match c, h, h5 with
  | 0, _, _ | 1, _, _ | 2, _, _ | 3, _, _ | 4, _, _ | 6, _, _ | 7, _, _ | 8, _, _ | 9, _, _ | 10, _, _ | 11, _, _ | 12, _, _ | 13, _, _ | 14, _, _ =>
    match c' with
    | 0 | 1 | 2 | 3 | 4 | 6 | 7 | 8 | 9 | 10 | 11 | 12 | 13 | 14 | 15 | 16 | 17 | 18 | 19 => simp [mv, setI]
    | 5 => simp [mv]
    | q + 20 => simp [mv]
def shX (M : Mem) (i g : Nat) (x : Int32) : Mem := setI (setI M 141 i (M.1 141 i - x)) 141 g ((setI M 141 i (M.1 141 i - x)).1 141 g + x)
/-- i has paid k -/
def mM (M : Mem) (o g i k : Nat) : Mem := setI (setI (setI (shX M i g (M.1 149 k)) 146 (8 * o + i) (M.1 146 (8 * o + i) + prT (mv M) i k)) 151 k 1) 152 k (nI i)
theorem mv_shX {M : Mem} {i g : Nat} {x : Int32} : mv (shX M i g x) = shT (mv M) i g x := by
  funext c j
  by_cases hc : c = 0
  · subst hc
    simp [shT, mv, shX, setI, upd]
  · simp only [shT, if_neg hc]
    match c, hc with
    | 1, _ | 2, _ | 3, _ | 4, _ | 6, _ | 7, _ | 8, _ | 9, _ | 10, _ | 11, _ | 12, _ | 13, _ | 14, _ | 15, _ | 16, _ | 17, _ | 18, _ | 19, _ => exact (sI_na (by omega)).trans (sI_na (by omega))
    | 5, _ => rfl
    | c + 20, _ => rfl
theorem mv_mM {M : Mem} {o g i k : Nat} (eo : M.1 147 k = nI o) (eg : M.1 148 k = nI g) (ho : o < 8) (hg : g < 8) : mv (mM M o g i k) = mkT (mv M) i k := by
  have e1 : (mv M 6 k).toNatClampNeg = o := by show (M.1 147 k).toNatClampNeg = o; rw [eo, nI_clamp (by omega)]
  have e2 : (mv M 7 k).toNatClampNeg = g := by show (M.1 148 k).toNatClampNeg = g; rw [eg, nI_clamp (by omega)]
  funext c j
  simp only [mkT, e1, e2]
  match c with
  | 0 =>
    rw [if_pos rfl]
    have h := congrFun (congrFun (mv_shX (M := M) (i := i) (g := g) (x := M.1 149 k)) 0) j
    exact (show mv (mM M o g i k) 0 j = mv (shX M i g (M.1 149 k)) 0 j from ((sI_na (by omega)).trans ((sI_na (by omega)).trans (sI_na (by omega))))).trans h
  | 12 =>
    rw [if_neg (by omega)]
    by_cases h : j = 8 * o + i
    · rw [if_pos ⟨rfl, h⟩, h]
      exact (sI_na (by omega)).trans ((sI_na (by omega)).trans sI_eq)
    · rw [if_neg (fun q => h q.2), if_neg (by omega), if_neg (by omega)]
      exact (sI_na (by omega)).trans ((sI_na (by omega)).trans ((sI_ne (fun q => h q.2)).trans ((sI_na (by omega)).trans (sI_na (by omega)))))
  | 10 =>
    rw [if_neg (by omega), if_neg (by omega)]
    by_cases h : j = k
    · rw [if_pos ⟨rfl, h⟩, h]
      exact (sI_na (by omega)).trans sI_eq
    · rw [if_neg (fun q => h q.2), if_neg (by omega)]
      exact (sI_na (by omega)).trans ((sI_ne (fun q => h q.2)).trans ((sI_na (by omega)).trans ((sI_na (by omega)).trans (sI_na (by omega)))))
  | 11 =>
    rw [if_neg (by omega), if_neg (by omega), if_neg (by omega)]
    by_cases h : j = k
    · rw [if_pos ⟨rfl, h⟩, h]
      exact sI_eq
    · rw [if_neg (fun q => h q.2)]
      exact (sI_ne (fun q => h q.2)).trans ((sI_na (by omega)).trans ((sI_na (by omega)).trans ((sI_na (by omega)).trans (sI_na (by omega)))))
  | 1 | 2 | 3 | 4 | 6 | 7 | 8 | 9 | 13 | 14 | 15 | 16 | 17 | 18 | 19 =>
    rw [if_neg (by omega), if_neg (by omega), if_neg (by omega), if_neg (by omega)]
    exact (sI_na (by omega)).trans ((sI_na (by omega)).trans ((sI_na (by omega)).trans ((sI_na (by omega)).trans (sI_na (by omega)))))
  | 5 => rw [if_neg (by omega), if_neg (by omega), if_neg (by omega), if_neg (by omega)]; rfl
  | c + 20 => rw [if_neg (by omega), if_neg (by omega), if_neg (by omega), if_neg (by omega)]; rfl
set_option maxRecDepth 100000 in
set_option maxHeartbeats 4000000 in
theorem c_X11_make {M : Mem} {i k o g : Nat} (hi : i < 8) (hk : k < 10) (h01 : M.1 143 i = 0 ∨ M.1 143 i = 1) (ho : o < 8) (hg : g < 8) (eo : M.1 147 k = nI o) (eg : M.1 148 k = nI g) : Fun yX11_make cX11_make 4 (some .int) 1 [.ref 140, .int (nI i), .int (nI k)] M (some (.int (prT (mv M) i k))) (mM M o g i k) := by
  refine Fun.of (own := RX11) ([some (.ref 140), some (.int (nI i)), some (.int (nI k)), none]) rfl (by decide +kernel) (Nat.le_of_ble_eq_true rfl) rfl ?_
  refine rx_aload_n (i := 0) dX11_make_0 rfl rfl ?_
  refine rx_iload_n (i := 1) dX11_make_1 rfl rfl ?_
  refine rx_iload_n (i := 2) dX11_make_2 rfl rfl ?_
  refine rx_cvI (ci := 11) mo_X11_priceOf lk_X11_231 (c_X11_priceOf hi hk h01) (by decide) rfl rfl (Nat.le_of_ble_eq_true rfl) kl_140 rfl dX11_make_3 ?_
  refine rx_istore_n (i := 3) dX11_make_6 rfl (by decide) rfl rfl ?_
  refine rx_aload_n (i := 0) dX11_make_7 rfl rfl ?_
  refine rx_getR 141 (k := 1) fo_X11_9 kl_140 (by decide) ti_11_1 (by decide) rfl dX11_make_8 ?_
  refine rx_iload_n (i := 1) dX11_make_11 rfl rfl ?_
  refine rx_dup2_11 dX11_make_12 rfl rfl ?_
  refine rx_ialdN kl_141 (by omega) (by first | decide | omega) dX11_make_13 ?_
  refine rx_aload_n (i := 0) dX11_make_14 rfl rfl ?_
  refine rx_getR 149 (k := 10) fo_X11_35 kl_140 (by decide) ti_11_10 (by decide) rfl dX11_make_15 ?_
  refine rx_iload_n (i := 2) dX11_make_18 rfl rfl ?_
  refine rx_ialdN kl_149 (by omega) (by first | decide | omega) dX11_make_19 ?_
  refine rx_isub dX11_make_20 ?_
  refine rx_iastN kl_141 (by omega) (by first | decide | omega) dX11_make_21 ?_
  refine rx_aload_n (i := 0) dX11_make_22 rfl rfl ?_
  refine rx_getR 141 (k := 1) fo_X11_9 kl_140 (by decide) ti_11_1 (by decide) rfl dX11_make_23 ?_
  refine rx_aload_n (i := 0) dX11_make_26 rfl rfl ?_
  refine rx_getR 148 (k := 9) fo_X11_32 kl_140 (by decide) ti_11_9 (by decide) rfl dX11_make_27 ?_
  refine rx_iload_n (i := 2) dX11_make_30 rfl rfl ?_
  refine rx_ialdN kl_148 (by omega) (by first | decide | omega) dX11_make_31 ?_
  refine rx_top (nI g) eg ?_
  refine rx_dup2_11 dX11_make_32 rfl rfl ?_
  refine rx_ialdN kl_141 (by omega) (by first | decide | omega) dX11_make_33 ?_
  refine rx_aload_n (i := 0) dX11_make_34 rfl rfl ?_
  refine rx_getR 149 (k := 10) fo_X11_35 kl_140 (by decide) ti_11_10 (by decide) rfl dX11_make_35 ?_
  refine rx_iload_n (i := 2) dX11_make_38 rfl rfl ?_
  refine rx_ialdN kl_149 (by omega) (by first | decide | omega) dX11_make_39 ?_
  refine rx_iadd dX11_make_40 ?_
  refine rx_iastN kl_141 (by omega) (by first | decide | omega) dX11_make_41 ?_
  refine rx_aload_n (i := 0) dX11_make_42 rfl rfl ?_
  refine rx_getR 146 (k := 6) fo_X11_26 kl_140 (by decide) ti_11_6 (by decide) rfl dX11_make_43 ?_
  refine rx_bipush (8) dX11_make_46 rfl ?_
  refine rx_aload_n (i := 0) dX11_make_48 rfl rfl ?_
  refine rx_getR 147 (k := 8) fo_X11_29 kl_140 (by decide) ti_11_8 (by decide) rfl dX11_make_49 ?_
  refine rx_iload_n (i := 2) dX11_make_52 rfl rfl ?_
  refine rx_ialdN kl_147 (by omega) (by first | decide | omega) dX11_make_53 ?_
  refine rx_top (nI o) eo ?_
  refine rx_imul dX11_make_54 ?_
  refine rx_iload_n (i := 1) dX11_make_55 rfl rfl ?_
  refine rx_iadd dX11_make_56 ?_
  refine rx_top (nI (8 * o + i)) (by rw [show (8 : Int32) = nI 8 from rfl, pk_mul, nI_add]) ?_
  refine rx_dup2_11 dX11_make_57 rfl rfl ?_
  refine rx_ialdN kl_146 (by omega) (by first | decide | omega) dX11_make_58 ?_
  refine rx_iload_n (i := 3) dX11_make_59 rfl rfl ?_
  refine rx_iadd dX11_make_60 ?_
  refine rx_iastN kl_146 (by omega) (by first | decide | omega) dX11_make_61 ?_
  refine rx_aload_n (i := 0) dX11_make_62 rfl rfl ?_
  refine rx_getR 151 (k := 12) fo_X11_41 kl_140 (by decide) ti_11_12 (by decide) rfl dX11_make_63 ?_
  refine rx_iload_n (i := 2) dX11_make_66 rfl rfl ?_
  refine rx_iconst (1) dX11_make_67 rfl ?_
  refine rx_iastN kl_151 (by omega) (by first | decide | omega) dX11_make_68 ?_
  refine rx_aload_n (i := 0) dX11_make_69 rfl rfl ?_
  refine rx_getR 152 (k := 13) fo_X11_44 kl_140 (by decide) ti_11_13 (by decide) rfl dX11_make_70 ?_
  refine rx_iload_n (i := 2) dX11_make_73 rfl rfl ?_
  refine rx_iload_n (i := 1) dX11_make_74 rfl rfl ?_
  refine rx_iastN kl_152 (by omega) (by first | decide | omega) dX11_make_75 ?_
  refine rx_iload_n (i := 3) dX11_make_76 rfl rfl ?_
  exact rx_fiI dX11_make_77 rfl rfl
/-- the payment of k by i undone -/
def uM (M : Mem) (o g i k : Nat) : Mem :=
  let M1 := setI M 141 i (M.1 141 i + M.1 149 k)
  let M2 := setI M1 141 g (M1.1 141 g - M.1 149 k)
  setI (setI (setI M2 146 (8 * o + i) (M.1 146 (8 * o + i) - prT (mv M) i k)) 151 k 0) 152 k (-1)
/-- only coin, favours, what stands, who paid differ -/
def frC (M N : Mem) : Prop := (∀ a j, a ≠ 141 → a ≠ 146 → a ≠ 151 → a ≠ 152 → N.1 a j = M.1 a j) ∧ N.2 = M.2
set_option maxRecDepth 100000 in
set_option maxHeartbeats 4000000 in
theorem c_X11_unmake {M : Mem} {i k o g : Nat} (hi : i < 8) (hk : k < 10) (h01 : M.1 143 i = 0 ∨ M.1 143 i = 1) (ho : o < 8) (hg : g < 8) (eo : M.1 147 k = nI o) (eg : M.1 148 k = nI g) (ep : M.1 152 k = nI i) : Fun yX11_unmake cX11_unmake 3 none 1 [.ref 140, .int (nI k)] M (none) (uM M o g i k) := by
  refine Fun.of (own := RX11) ([some (.ref 140), some (.int (nI k)), none]) rfl (by decide +kernel) (Nat.le_of_ble_eq_true rfl) rfl ?_
  refine rx_aload_n (i := 0) dX11_unmake_0 rfl rfl ?_
  refine rx_getR 152 (k := 13) fo_X11_44 kl_140 (by decide) ti_11_13 (by decide) rfl dX11_unmake_1 ?_
  refine rx_iload_n (i := 1) dX11_unmake_4 rfl rfl ?_
  refine rx_ialdN kl_152 (by omega) (by first | decide | omega) dX11_unmake_5 ?_
  refine rx_top (nI i) ep ?_
  refine rx_istore_n (i := 2) dX11_unmake_6 rfl (by decide) rfl rfl ?_
  refine rx_aload_n (i := 0) dX11_unmake_7 rfl rfl ?_
  refine rx_getR 141 (k := 1) fo_X11_9 kl_140 (by decide) ti_11_1 (by decide) rfl dX11_unmake_8 ?_
  refine rx_iload_n (i := 2) dX11_unmake_11 rfl rfl ?_
  refine rx_dup2_11 dX11_unmake_12 rfl rfl ?_
  refine rx_ialdN kl_141 (by omega) (by first | decide | omega) dX11_unmake_13 ?_
  refine rx_aload_n (i := 0) dX11_unmake_14 rfl rfl ?_
  refine rx_getR 149 (k := 10) fo_X11_35 kl_140 (by decide) ti_11_10 (by decide) rfl dX11_unmake_15 ?_
  refine rx_iload_n (i := 1) dX11_unmake_18 rfl rfl ?_
  refine rx_ialdN kl_149 (by omega) (by first | decide | omega) dX11_unmake_19 ?_
  refine rx_iadd dX11_unmake_20 ?_
  refine rx_iastN kl_141 (by omega) (by first | decide | omega) dX11_unmake_21 ?_
  refine rx_aload_n (i := 0) dX11_unmake_22 rfl rfl ?_
  refine rx_getR 141 (k := 1) fo_X11_9 kl_140 (by decide) ti_11_1 (by decide) rfl dX11_unmake_23 ?_
  refine rx_aload_n (i := 0) dX11_unmake_26 rfl rfl ?_
  refine rx_getR 148 (k := 9) fo_X11_32 kl_140 (by decide) ti_11_9 (by decide) rfl dX11_unmake_27 ?_
  refine rx_iload_n (i := 1) dX11_unmake_30 rfl rfl ?_
  refine rx_ialdN kl_148 (by omega) (by first | decide | omega) dX11_unmake_31 ?_
  refine rx_top (nI g) eg ?_
  refine rx_dup2_11 dX11_unmake_32 rfl rfl ?_
  refine rx_ialdN kl_141 (by omega) (by first | decide | omega) dX11_unmake_33 ?_
  refine rx_aload_n (i := 0) dX11_unmake_34 rfl rfl ?_
  refine rx_getR 149 (k := 10) fo_X11_35 kl_140 (by decide) ti_11_10 (by decide) rfl dX11_unmake_35 ?_
  refine rx_iload_n (i := 1) dX11_unmake_38 rfl rfl ?_
  refine rx_ialdN kl_149 (by omega) (by first | decide | omega) dX11_unmake_39 ?_
  refine rx_isub dX11_unmake_40 ?_
  refine rx_iastN kl_141 (by omega) (by first | decide | omega) dX11_unmake_41 ?_
  refine rx_aload_n (i := 0) dX11_unmake_42 rfl rfl ?_
  refine rx_getR 146 (k := 6) fo_X11_26 kl_140 (by decide) ti_11_6 (by decide) rfl dX11_unmake_43 ?_
  refine rx_bipush (8) dX11_unmake_46 rfl ?_
  refine rx_aload_n (i := 0) dX11_unmake_48 rfl rfl ?_
  refine rx_getR 147 (k := 8) fo_X11_29 kl_140 (by decide) ti_11_8 (by decide) rfl dX11_unmake_49 ?_
  refine rx_iload_n (i := 1) dX11_unmake_52 rfl rfl ?_
  refine rx_ialdN kl_147 (by omega) (by first | decide | omega) dX11_unmake_53 ?_
  refine rx_top (nI o) eo ?_
  refine rx_imul dX11_unmake_54 ?_
  refine rx_iload_n (i := 2) dX11_unmake_55 rfl rfl ?_
  refine rx_iadd dX11_unmake_56 ?_
  refine rx_top (nI (8 * o + i)) (by rw [show (8 : Int32) = nI 8 from rfl, pk_mul, nI_add]) ?_
  refine rx_dup2_11 dX11_unmake_57 rfl rfl ?_
  refine rx_ialdN kl_146 (by omega) (by first | decide | omega) dX11_unmake_58 ?_
  refine rx_aload_n (i := 0) dX11_unmake_59 rfl rfl ?_
  refine rx_iload_n (i := 2) dX11_unmake_60 rfl rfl ?_
  refine rx_iload_n (i := 1) dX11_unmake_61 rfl rfl ?_
  refine rx_cvI (ci := 11) mo_X11_priceOf lk_X11_231 ((c_X11_priceOf (M := setI (setI M 141 i (M.1 141 i + M.1 149 k)) 141 g ((setI M 141 i (M.1 141 i + M.1 149 k)).1 141 g - M.1 149 k)) hi hk ((by rw [sI_na (by omega), sI_na (by omega)]; exact h01))).conv (v' := some (.int (prT (mv M) i k))) (congrArg (fun q => some (Value.int q)) rfl) rfl) (by decide) rfl rfl (Nat.le_of_ble_eq_true rfl) kl_140 rfl dX11_unmake_62 ?_
  refine rx_isub dX11_unmake_65 ?_
  refine rx_iastN kl_146 (by omega) (by first | decide | omega) dX11_unmake_66 ?_
  refine rx_aload_n (i := 0) dX11_unmake_67 rfl rfl ?_
  refine rx_getR 151 (k := 12) fo_X11_41 kl_140 (by decide) ti_11_12 (by decide) rfl dX11_unmake_68 ?_
  refine rx_iload_n (i := 1) dX11_unmake_71 rfl rfl ?_
  refine rx_iconst (0) dX11_unmake_72 rfl ?_
  refine rx_iastN kl_151 (by omega) (by first | decide | omega) dX11_unmake_73 ?_
  refine rx_aload_n (i := 0) dX11_unmake_74 rfl rfl ?_
  refine rx_getR 152 (k := 13) fo_X11_44 kl_140 (by decide) ti_11_13 (by decide) rfl dX11_unmake_75 ?_
  refine rx_iload_n (i := 1) dX11_unmake_78 rfl rfl ?_
  refine rx_iconst (-1) dX11_unmake_79 rfl ?_
  refine rx_iastN kl_152 (by omega) (by first | decide | omega) dX11_unmake_80 ?_
  exact rx_fiV dX11_unmake_81 rfl
def tkM (M : Mem) (n : Nat) : Mem := (fun a j => if a = 145 ∧ j < n then M.1 141 j - M.1 144 j else M.1 a j, M.2)
theorem tk_0 {M : Mem} : tkM M 0 = M := by
  refine Prod.ext ?_ rfl
  funext a j
  exact if_neg fun q => absurd q.2 (Nat.not_lt_zero _)
theorem tk_o {M : Mem} {n a j : Nat} (h : a ≠ 145) : (tkM M n).1 a j = M.1 a j := if_neg fun q => h q.1
theorem tk_s {M : Mem} {i : Nat} : setI (tkM M i) 145 i (M.1 141 i - M.1 144 i) = tkM M (i + 1) := by
  refine Prod.ext ?_ rfl
  funext a j
  simp only [setI, tkM]
  by_cases ha : a = 145
  · subst ha
    by_cases q : j = i
    · subst q; simp
    · simp [q, show j < i + 1 ↔ j < i by omega]
  · simp [ha]
theorem mv_tk {M : Mem} {n : Nat} : mv (tkM M n) = noonT (mv M) n := by
  funext c j
  simp only [noonT]
  match c with
  | 4 =>
    by_cases q : j < n
    · rw [if_pos ⟨rfl, q⟩]; exact if_pos ⟨rfl, q⟩
    · rw [if_neg (fun z => q z.2)]; exact if_neg (fun z => q z.2)
  | 0 | 1 | 2 | 3 | 6 | 7 | 8 | 9 | 10 | 11 | 12 | 13 | 14 | 15 | 16 | 17 | 18 | 19 => rw [if_neg (by omega)]; exact tk_o (by omega)
  | 5 => rw [if_neg (by omega)]; rfl
  | c + 20 => rw [if_neg (by omega)]; rfl
set_option maxRecDepth 100000 in
set_option maxHeartbeats 4000000 in
theorem l_X11_takeNoon {M : Mem} {n m : Nat} (w : MW M n m) : ∀ (N : Nat) (i : Nat), (i ≤ n) → n - i < N → Reach cX11_takeNoon RX11 2 1 (FQ cX11_takeNoon none none (tkM M n)) 2 [some (.ref 140), some (.int (nI i))] [] (tkM M i) := by
  intro N
  induction N with
  | zero => intro i hi hm; exact absurd ‹_ < 0› (Nat.not_lt_zero _)
  | succ N ih =>
    intro i hi hm
    have ⟨hn, hn8, hm, hm10, hd⟩ := w
    refine rx_iload_n (i := 1) dX11_takeNoon_2 rfl rfl ?_
    refine rx_aload_n (i := 0) dX11_takeNoon_3 rfl rfl ?_
    refine rx_getI (k := 0) fo_X11_132 kl_140 (by decide) ti_11_0 dX11_takeNoon_4 ?_
    refine rx_top (nI n) ((tk_o (by omega)).trans hn) ?_
    refine rx_icmp_ge (tgt := 27) dX11_takeNoon_7 (by decide) (fun c7 => ?_) (fun c7 => ?_)
    · skip
      have f7 := Int32.not_lt.mpr c7
      have e7 : i = n := by have := (nI_leI (by omega) (by omega)).mp c7; omega
      subst e7
      exact rx_fiV dX11_takeNoon_27 rfl
    · skip
      have f7 := Int32.not_le.mp c7
      have e7 : i < n := Nat.lt_of_not_le fun q => c7 (nI_le q (by omega))
      refine rx_aload_n (i := 0) dX11_takeNoon_10 rfl rfl ?_
      refine rx_getR 145 (k := 5) fo_X11_23 kl_140 (by decide) ti_11_5 (by decide) rfl dX11_takeNoon_11 ?_
      refine rx_iload_n (i := 1) dX11_takeNoon_14 rfl rfl ?_
      refine rx_aload_n (i := 0) dX11_takeNoon_15 rfl rfl ?_
      refine rx_iload_n (i := 1) dX11_takeNoon_16 rfl rfl ?_
      refine rx_cvI (ci := 11) mo_X11_counted lk_X11_225 (c_X11_counted (by omega)) (by decide) rfl rfl (Nat.le_of_ble_eq_true rfl) kl_140 rfl dX11_takeNoon_17 ?_
      refine rx_top (M.1 141 i - M.1 144 i) (by rw [tk_o (by omega), tk_o (by omega)]) ?_
      refine rx_iastN kl_145 (by omega) (by first | decide | omega) dX11_takeNoon_20 ?_
      rw [tk_s]
      first | refine rx_iincN (i := 1) dX11_takeNoon_21 rfl (by decide) rfl rfl ?_ | refine rx_iinc (i := 1) dX11_takeNoon_21 rfl rfl (by decide) rfl rfl ?_
      refine rx_goto (tgt := 2) dX11_takeNoon_24 (by decide) ?_
      exact ih (i + 1) (by omega) (by omega)
set_option maxRecDepth 100000 in
set_option maxHeartbeats 4000000 in
theorem c_X11_takeNoon {M : Mem} {n m : Nat} (w : MW M n m) : Fun yX11_takeNoon cX11_takeNoon 2 none 1 [.ref 140] M (none) (tkM M n) := by
  refine Fun.of (own := RX11) ([some (.ref 140), none]) rfl (by decide +kernel) (Nat.le_of_ble_eq_true rfl) rfl ?_
  refine rx_iconst (0) dX11_takeNoon_0 rfl ?_
  refine rx_istore_n (i := 1) dX11_takeNoon_1 rfl (by decide) rfl rfl ?_
  have h := l_X11_takeNoon w (n + 1) 0 (Nat.zero_le _) (by omega)
  rw [tk_0] at h
  exact h
/-- what days change in the model -/
def frD (M N : Mem) : Prop := (∀ a j, ¬ (a = 141 ∨ a = 145 ∨ a = 146 ∨ a = 151 ∨ a = 152 ∨ (a = 140 ∧ (j = 15 ∨ (23 ≤ j ∧ j ≤ 26) ∨ j = 29 ∨ j = 30 ∨ (50 ≤ j ∧ j ≤ 53)))) → N.1 a j = M.1 a j) ∧ N.2.1 = M.2.1
theorem frD.refl {M : Mem} : frD M M := ⟨fun _ _ _ => rfl, rfl⟩
theorem frD.trans {M N K : Mem} (h : frD M N) (h2 : frD N K) : frD M K := ⟨fun a j q => (h2.1 a j q).trans (h.1 a j q), h2.2.trans h.2⟩
theorem frS.D {M N : Mem} (h : frS M N) : frD M N := ⟨fun a j q => h.1 a j (by omega), h.2⟩
theorem frD_I {M : Mem} {a j : Nat} {x : Int32} (h : a = 141 ∨ a = 145 ∨ a = 146 ∨ a = 151 ∨ a = 152 ∨ (a = 140 ∧ (j = 15 ∨ (23 ≤ j ∧ j ≤ 26) ∨ j = 29 ∨ j = 30 ∨ (50 ≤ j ∧ j ≤ 53)))) : frD M (setI M a j x) := ⟨fun b k hb => if_neg (by omega), rfl⟩
theorem frD_mM {M : Mem} {o g i k : Nat} : frD M (mM M o g i k) := (((((frD_I (by omega)).trans (frD_I (by omega))).trans (frD_I (by omega))).trans (frD_I (by omega))).trans (frD_I (by omega)))
theorem frD_tk {M : Mem} {n : Nat} : frD M (tkM M n) := ⟨fun a j h => tk_o (by omega), rfl⟩
theorem frD.MW {M N : Mem} {n m : Nat} (h : frD M N) (w : MW M n m) : MW N n m := w.keep (h.1 _ _ (by omega)) (h.1 _ _ (by omega)) (fun _ _ => h.1 _ _ (by omega)) (fun _ _ => h.1 _ _ (by omega))
theorem frD.MR {M N : Mem} {n m : Nat} {S : Nat → Int32} {z L : Nat} (h : frD M N) (r : MR M n m S z L) : MR N n m S z L :=
  r.keep (h.MW r.1) (funext fun j => h.1 _ _ (by omega)) (h.1 _ _ (by omega)) (funext fun j => h.1 _ _ (by omega)) (h.1 _ _ (by omega))
/-- the model in its days -/
def DR (M : Mem) (s : DS) : Prop := alk s.1 (mv M) ∧ M.1 140 52 = s.2.1 ∧ M.1 140 50 = s.2.2.1 ∧ M.1 140 51 = s.2.2.2.1 ∧ M.1 140 53 = s.2.2.2.2
