/-- the model's town as it is seen -/
def mv (M : Mem) : TT := fun c j => match c with
  | 0 => M.1 141 j | 1 => M.1 142 j | 2 => M.1 143 j | 3 => M.1 144 j | 4 => M.1 145 j | 6 => M.1 147 j | 7 => M.1 148 j | 8 => M.1 149 j | 9 => M.1 150 j | 10 => M.1 151 j | 11 => M.1 152 j
  | 12 => M.1 146 j | 13 => M.1 158 j | 14 => M.1 153 j | 15 => M.1 140 0 | 16 => M.1 140 7 | 17 => M.1 140 34 | 18 => M.1 140 15 | 19 => M.1 140 16 | _ => 0
/-- the model's town as it stands: people n, debts m -/
def MW (M : Mem) (n m : Nat) : Prop := M.1 140 0 = nI n ∧ n ≤ 8 ∧ M.1 140 7 = nI m ∧ m ≤ 10 ∧ ∀ k, k < m → ∃ o g : Nat, o < n ∧ g < n ∧ o ≠ g ∧ M.1 147 k = nI o ∧ M.1 148 k = nI g
theorem MW.keep {M M' : Mem} {n m : Nat} (h : MW M n m) (h1 : M'.1 140 0 = M.1 140 0) (h2 : M'.1 140 7 = M.1 140 7) (h3 : ∀ k, k < m → M'.1 147 k = M.1 147 k) (h4 : ∀ k, k < m → M'.1 148 k = M.1 148 k) : MW M' n m := by
  obtain ⟨a1, a2, a3, a4, a5⟩ := h
  refine ⟨by rw [h1, a1], a2, by rw [h2, a3], a4, fun k hk => ?_⟩
  obtain ⟨o, g, b1, b2, b3, b4, b5⟩ := a5 k hk
  exact ⟨o, g, b1, b2, b3, by rw [h3 k hk, b4], by rw [h4 k hk, b5]⟩
theorem MW.of {M : Mem} {n m : Nat} (h15 : mv M 15 0 = nI n) (h16 : mv M 16 0 = nI m) (hn : n ≤ 8) (hm : m ≤ 10) (hO : OKS (mv M) n m) : MW M n m :=
  ⟨h15, hn, h16, hm, fun k hk => by
    obtain ⟨-, -, o, g, ho, hg, hog, eo, eg⟩ := hO.2.2.2 k hk
    exact ⟨o, g, ho, hg, hog, eo, eg⟩⟩
theorem le_pred {x : Int32} {n : Nat} (hn : n ≤ 3000) : x ≤ nI n - 1 ↔ x < nI n := by
  rw [Int32.le_iff_toInt_le, Int32.lt_iff_toInt_lt, i_sub (by rw [nI_toInt (by omega), i_1]; omega) (by rw [nI_toInt (by omega), i_1]; omega), nI_toInt (by omega), i_1]
  omega
theorem l_0 {x : Int32} : (0 : Int64) ≤ x.toInt64 ↔ 0 ≤ x := by rw [show (0 : Int64) = (0 : Int32).toInt64 from rfl]; exact Int32.toInt64_le
theorem hasb : ∀ (b : Int32) {k : Nat}, k < 32 → ((b >>> (nI k &&& 31)) &&& 1 = 1 ↔ bt b k = true) := by
  intro b k hk
  have h1 : (b >>> (nI k &&& 31)) &&& 1 = if bt b k = true then 1 else 0 := by
    refine Int32.toBitVec_inj.mp (BitVec.eq_of_getLsbD_eq fun i hi => ?_)
    rw [Int32.toBitVec_and, Int32.toBitVec_shiftRight, BitVec.getLsbD_and]
    have es : ((nI k &&& 31).toBitVec.smod 32).toNat = k := (by decide +kernel : ∀ k, k < 32 → ((nI k &&& 31).toBitVec.smod 32).toNat = k) k hk
    rw [BitVec.sshiftRight_eq', BitVec.getLsbD_sshiftRight, es]
    by_cases i0 : i = 0
    · subst i0
      have : (1 : Int32).toBitVec.getLsbD 0 = true := rfl
      rw [this, Bool.and_true]
      have e2 : (!decide (32 ≤ 0) && if k + 0 < 32 then b.toBitVec.getLsbD (k + 0) else b.toBitVec.msb) = bt b k := by
        rw [if_pos (by omega)]; rfl
      rw [e2]
      cases bt b k <;> rfl
    · have e1 : (1 : Int32).toBitVec.getLsbD i = false := by
        show (1#32).getLsbD i = false
        rw [BitVec.getLsbD_one]
        simp [i0]
      rw [e1, Bool.and_false]
      split
      · exact e1.symm
      · exact BitVec.getLsbD_zero.symm
  rw [h1]
  cases bt b k <;> simp
set_option maxRecDepth 100000 in
set_option maxHeartbeats 4000000 in
theorem c_X11_in {M : Mem} {a b c : Int64} : Fun yX11_in cX11_in 6 (some .boolean) 0 [.long a, .long b, .long c] M (some (.int (if b ≤ a ∧ a ≤ c then 1 else 0))) (M) := by
  refine Fun.of (own := RX11) ([some (.long a), none, some (.long b), none, some (.long c), none]) rfl (by decide +kernel) (Nat.le_of_ble_eq_true rfl) rfl ?_
  refine rx_lload_n (i := 0) dX11_in_0 rfl rfl ?_
  refine rx_lload_n (i := 2) dX11_in_1 rfl rfl ?_
  refine rx_lcmp dX11_in_2 ?_
  refine rx_if_lt (tgt := 17) dX11_in_3 (by decide) (fun c3 => ?_) (fun c3 => ?_)
  · skip
    have e3 : ¬ b ≤ a := fun q => Int32.not_lt.mpr ((lg_cmp_ge _ _).mpr q) c3
    refine rx_iconst (0) dX11_in_17 rfl ?_
    exact rx_fiZ dX11_in_18 (by first | exact Or.inl rfl | exact Or.inr rfl) (by simp [*]) rfl
  · skip
    have e3 : b ≤ a := (lg_cmp_ge _ _).mp (Int32.not_lt.mp c3)
    refine rx_lload_n (i := 0) dX11_in_6 rfl rfl ?_
    refine rx_lload (i := 4) dX11_in_7 rfl ?_
    refine rx_lcmp dX11_in_9 ?_
    refine rx_if_gt (tgt := 17) dX11_in_10 (by decide) (fun c10 => ?_) (fun c10 => ?_)
    · skip
      have e10 : ¬ a ≤ c := fun q => Int32.not_lt.mpr ((lg_cmp_le _ _).mpr q) c10
      refine rx_iconst (0) dX11_in_17 rfl ?_
      exact rx_fiZ dX11_in_18 (by first | exact Or.inl rfl | exact Or.inr rfl) (by simp [*]) rfl
    · skip
      have e10 : a ≤ c := (lg_cmp_le _ _).mp (Int32.not_lt.mp c10)
      refine rx_iconst (1) dX11_in_13 rfl ?_
      refine rx_goto (tgt := 18) dX11_in_14 (by decide) ?_
      exact rx_fiZ dX11_in_18 (by first | exact Or.inl rfl | exact Or.inr rfl) (by simp [*]) rfl
set_option maxRecDepth 100000 in
set_option maxHeartbeats 4000000 in
theorem c_X11_has {M : Mem} {b : Int32} {k : Nat} (hk : k < 32) : Fun yX11_has cX11_has 2 (some .boolean) 0 [.int b, .int (nI k)] M (some (.int (zI (bt b k)))) (M) := by
  refine Fun.of (own := RX11) ([some (.int b), some (.int (nI k))]) rfl (by decide +kernel) (Nat.le_of_ble_eq_true rfl) rfl ?_
  refine rx_iload_n (i := 0) dX11_has_0 rfl rfl ?_
  refine rx_iload_n (i := 1) dX11_has_1 rfl rfl ?_
  refine rx_ishr dX11_has_2 ?_
  refine rx_iconst (1) dX11_has_3 rfl ?_
  refine rx_iand dX11_has_4 ?_
  refine rx_iconst (1) dX11_has_5 rfl ?_
  refine rx_icmp_ne (tgt := 13) dX11_has_6 (by decide) (fun c6 => ?_) (fun c6 => ?_)
  · skip
    have e6 : bt b k = false := by cases h : bt b k; rfl; exact absurd ((hasb b hk).mpr h) c6
    refine rx_iconst (0) dX11_has_13 rfl ?_
    exact rx_fiZ dX11_has_14 (by first | exact Or.inl rfl | exact Or.inr rfl) (by rw [e6]; rfl) rfl
  · skip
    have e6 : bt b k = true := (hasb b hk).mp c6
    refine rx_iconst (1) dX11_has_9 rfl ?_
    refine rx_goto (tgt := 14) dX11_has_10 (by decide) ?_
    exact rx_fiZ dX11_has_14 (by first | exact Or.inl rfl | exact Or.inr rfl) (by rw [e6]; rfl) rfl
set_option maxRecDepth 100000 in
set_option maxHeartbeats 4000000 in
theorem c_X11_isOne {M : Mem} {n : Nat} (hn : M.1 140 0 = nI n) (hn8 : n ≤ 3000) {x : Int32} : Fun yX11_isOne cX11_isOne 2 (some .boolean) 1 [.ref 140, .int x] M (some (.int (if 0 ≤ x ∧ x < nI n then 1 else 0))) (M) := by
  refine Fun.of (own := RX11) ([some (.ref 140), some (.int x)]) rfl (by decide +kernel) (Nat.le_of_ble_eq_true rfl) rfl ?_
  refine rx_iload_n (i := 1) dX11_isOne_0 rfl rfl ?_
  refine rx_i2l dX11_isOne_1 rfl ?_
  skip
  refine rx_lconst (0) dX11_isOne_2 rfl ?_
  refine rx_aload_n (i := 0) dX11_isOne_3 rfl rfl ?_
  refine rx_getI (k := 0) fo_X11_132 kl_140 (by decide) ti_11_0 dX11_isOne_4 ?_
  refine rx_top (nI n) hn ?_
  refine rx_iconst (1) dX11_isOne_7 rfl ?_
  refine rx_isub dX11_isOne_8 ?_
  refine rx_i2l dX11_isOne_9 rfl ?_
  refine rx_csI mo_X11_in lk_X11_135 (c_X11_in (a := x.toInt64) (b := 0) (c := (nI n - 1).toInt64)) (by decide) rfl rfl (Nat.le_of_ble_eq_true rfl) dX11_isOne_10 ?_
  refine rx_top (if 0 ≤ x ∧ x < nI n then 1 else 0) (by simp only [l_0, Int32.toInt64_le, le_pred hn8]) ?_
  exact rx_fiZ dX11_isOne_13 (by split; exact Or.inr rfl; exact Or.inl rfl) rfl rfl
set_option maxRecDepth 100000 in
set_option maxHeartbeats 4000000 in
theorem c_X11_isDebt {M : Mem} {n : Nat} (hn : M.1 140 7 = nI n) (hn8 : n ≤ 3000) {x : Int32} : Fun yX11_isDebt cX11_isDebt 2 (some .boolean) 1 [.ref 140, .int x] M (some (.int (if 0 ≤ x ∧ x < nI n then 1 else 0))) (M) := by
  refine Fun.of (own := RX11) ([some (.ref 140), some (.int x)]) rfl (by decide +kernel) (Nat.le_of_ble_eq_true rfl) rfl ?_
  refine rx_iload_n (i := 1) dX11_isDebt_0 rfl rfl ?_
  refine rx_i2l dX11_isDebt_1 rfl ?_
  skip
  refine rx_lconst (0) dX11_isDebt_2 rfl ?_
  refine rx_aload_n (i := 0) dX11_isDebt_3 rfl rfl ?_
  refine rx_getI (k := 7) fo_X11_139 kl_140 (by decide) ti_11_7 dX11_isDebt_4 ?_
  refine rx_top (nI n) hn ?_
  refine rx_iconst (1) dX11_isDebt_7 rfl ?_
  refine rx_isub dX11_isDebt_8 ?_
  refine rx_i2l dX11_isDebt_9 rfl ?_
  refine rx_csI mo_X11_in lk_X11_135 (c_X11_in (a := x.toInt64) (b := 0) (c := (nI n - 1).toInt64)) (by decide) rfl rfl (Nat.le_of_ble_eq_true rfl) dX11_isDebt_10 ?_
  refine rx_top (if 0 ≤ x ∧ x < nI n then 1 else 0) (by simp only [l_0, Int32.toInt64_le, le_pred hn8]) ?_
  exact rx_fiZ dX11_isDebt_13 (by split; exact Or.inr rfl; exact Or.inl rfl) rfl rfl
set_option maxRecDepth 100000 in
set_option maxHeartbeats 4000000 in
theorem c_X11_isOpen {M : Mem} {m : Nat} (hm : M.1 140 7 = nI m) (hm10 : m ≤ 10) {x : Int32} : Fun yX11_isOpen cX11_isOpen 2 (some .boolean) 2 [.ref 140, .int x] M (some (.int (if (0 ≤ x ∧ x < nI m) ∧ M.1 151 x.toNatClampNeg = 0 then 1 else 0))) (M) := by
  refine Fun.of (own := RX11) ([some (.ref 140), some (.int x)]) rfl (by decide +kernel) (Nat.le_of_ble_eq_true rfl) rfl ?_
  refine rx_aload_n (i := 0) dX11_isOpen_0 rfl rfl ?_
  refine rx_iload_n (i := 1) dX11_isOpen_1 rfl rfl ?_
  refine rx_cvI (ci := 11) mo_X11_isDebt lk_X11_142 (c_X11_isDebt hm (by omega)) (by decide) rfl rfl (Nat.le_of_ble_eq_true rfl) kl_140 rfl dX11_isOpen_2 ?_
  refine rx_if_eq (tgt := 21) dX11_isOpen_5 (by decide) (fun c5 => ?_) (fun c5 => ?_)
  · skip
    have e5 : ¬ (0 ≤ x ∧ x < nI m) := fun q => absurd (if_pos q) (by rw [c5]; decide)
    refine rx_iconst (0) dX11_isOpen_21 rfl ?_
    exact rx_fiZ dX11_isOpen_22 (by first | exact Or.inl rfl | exact Or.inr rfl) (by simp [*]) rfl
  · skip
    have e5 : 0 ≤ x ∧ x < nI m := Decidable.byContradiction fun q => c5 (if_neg q)
    obtain ⟨k, hk, rfl⟩ := nI_of (Int32.not_lt.mpr e5.1)
    have hkm : k < m := (nI_ltI hk (by omega)).mp e5.2
    have hc := nI_clamp hk
    refine rx_aload_n (i := 0) dX11_isOpen_8 rfl rfl ?_
    refine rx_getR 151 (k := 12) fo_X11_41 kl_140 (by decide) ti_11_12 (by decide) rfl dX11_isOpen_9 ?_
    refine rx_iload_n (i := 1) dX11_isOpen_12 rfl rfl ?_
    refine rx_ialdN kl_151 (by omega) (by first | decide | omega) dX11_isOpen_13 ?_
    refine rx_if_ne (tgt := 21) dX11_isOpen_14 (by decide) (fun c14 => ?_) (fun c14 => ?_)
    · skip
      have e14 : ¬ M.1 151 (nI k).toNatClampNeg = 0 := by rw [hc]; exact c14
      refine rx_iconst (0) dX11_isOpen_21 rfl ?_
      exact rx_fiZ dX11_isOpen_22 (by first | exact Or.inl rfl | exact Or.inr rfl) (by simp [*]) rfl
    · skip
      have e14 : M.1 151 (nI k).toNatClampNeg = 0 := by rw [hc]; exact c14
      refine rx_iconst (1) dX11_isOpen_17 rfl ?_
      refine rx_goto (tgt := 22) dX11_isOpen_18 (by decide) ?_
      exact rx_fiZ dX11_isOpen_22 (by first | exact Or.inl rfl | exact Or.inr rfl) (by simp [*]) rfl
set_option maxRecDepth 100000 in
set_option maxHeartbeats 4000000 in
theorem c_X11_counted {M : Mem} {i : Nat} (hi : i < 8) : Fun yX11_counted cX11_counted 2 (some .int) 0 [.ref 140, .int (nI i)] M (some (.int (M.1 141 i - M.1 144 i))) (M) := by
  refine Fun.of (own := RX11) ([some (.ref 140), some (.int (nI i))]) rfl (by decide +kernel) (Nat.le_of_ble_eq_true rfl) rfl ?_
  refine rx_aload_n (i := 0) dX11_counted_0 rfl rfl ?_
  refine rx_getR 141 (k := 1) fo_X11_9 kl_140 (by decide) ti_11_1 (by decide) rfl dX11_counted_1 ?_
  refine rx_iload_n (i := 1) dX11_counted_4 rfl rfl ?_
  refine rx_ialdN kl_141 (by omega) (by first | decide | omega) dX11_counted_5 ?_
  refine rx_aload_n (i := 0) dX11_counted_6 rfl rfl ?_
  refine rx_getR 144 (k := 4) fo_X11_20 kl_140 (by decide) ti_11_4 (by decide) rfl dX11_counted_7 ?_
  refine rx_iload_n (i := 1) dX11_counted_10 rfl rfl ?_
  refine rx_ialdN kl_144 (by omega) (by first | decide | omega) dX11_counted_11 ?_
  refine rx_isub dX11_counted_12 ?_
  exact rx_fiI dX11_counted_13 rfl rfl
set_option maxRecDepth 100000 in
set_option maxHeartbeats 4000000 in
theorem c_X11_thrown {M : Mem} : Fun yX11_thrown cX11_thrown 1 (some .int) 0 [.ref 140] M (some (.int (M.1 140 21))) (M) := by
  refine Fun.of (own := RX11) ([some (.ref 140)]) rfl (by decide +kernel) (Nat.le_of_ble_eq_true rfl) rfl ?_
  refine rx_aload_n (i := 0) dX11_thrown_0 rfl rfl ?_
  refine rx_getI (k := 21) fo_X11_126 kl_140 (by decide) ti_11_21 dX11_thrown_1 ?_
  exact rx_fiI dX11_thrown_4 rfl rfl
set_option maxRecDepth 100000 in
set_option maxHeartbeats 4000000 in
theorem c_X11_lost {M : Mem} : Fun yX11_lost cX11_lost 1 (some .int) 0 [.ref 140] M (some (.int 0)) (setI M 140 21 1) := by
  refine Fun.of (own := RX11) ([some (.ref 140)]) rfl (by decide +kernel) (Nat.le_of_ble_eq_true rfl) rfl ?_
  refine rx_aload_n (i := 0) dX11_lost_0 rfl rfl ?_
  refine rx_iconst (1) dX11_lost_1 rfl ?_
  refine rx_putI (k := 21) fo_X11_126 fn_11_21 kl_140 (by decide) ty_11_21 dX11_lost_2 ?_
  refine rx_iconst (0) dX11_lost_5 rfl ?_
  exact rx_fiI dX11_lost_6 rfl rfl
/-- a number told -/
def mt (M : Mem) (s : Nat) (v : Int64) : Mem := setI (setJ M 155 s v) 140 20 (nI (s + 1))
set_option maxRecDepth 100000 in
set_option maxHeartbeats 4000000 in
theorem c_X11_tell {M : Mem} {s : Nat} (hs : M.1 140 20 = nI s) (h : s < 16) {v : Int64} : Fun yX11_tell cX11_tell 3 none 0 [.ref 140, .long v] M (none) (mt M s v) := by
  refine Fun.of (own := RX11) ([some (.ref 140), some (.long v), none]) rfl (by decide +kernel) (Nat.le_of_ble_eq_true rfl) rfl ?_
  refine rx_aload_n (i := 0) dX11_tell_0 rfl rfl ?_
  refine rx_getR 155 (k := 19) fo_X11_58 kl_140 (by decide) ti_11_19 (by decide) rfl dX11_tell_1 ?_
  refine rx_aload_n (i := 0) dX11_tell_4 rfl rfl ?_
  refine rx_getI (k := 20) fo_X11_129 kl_140 (by decide) ti_11_20 dX11_tell_5 ?_
  refine rx_top (nI s) hs ?_
  refine rx_lload_n (i := 1) dX11_tell_8 rfl rfl ?_
  refine rx_lastN kl_155 (by omega) (by first | decide | omega) dX11_tell_9 ?_
  refine rx_aload_n (i := 0) dX11_tell_10 rfl rfl ?_
  refine rx_dup dX11_tell_11 rfl ?_
  refine rx_getI (k := 20) fo_X11_129 kl_140 (by decide) ti_11_20 dX11_tell_12 ?_
  refine rx_top (nI s) hs ?_
  refine rx_iconst (1) dX11_tell_15 rfl ?_
  refine rx_iadd dX11_tell_16 ?_
  rw [nI_1]
  refine rx_putI (k := 20) fo_X11_129 fn_11_20 kl_140 (by decide) ty_11_20 dX11_tell_17 ?_
  exact rx_fiV dX11_tell_20 rfl
set_option maxRecDepth 100000 in
set_option maxHeartbeats 4000000 in
theorem c_X11_priceOf {M : Mem} {i k : Nat} (hi : i < 8) (hk : k < 10) (h01 : M.1 143 i = 0 ∨ M.1 143 i = 1) : Fun yX11_priceOf cX11_priceOf 3 (some .int) 0 [.ref 140, .int (nI i), .int (nI k)] M (some (.int (prT (mv M) i k))) (M) := by
  refine Fun.of (own := RX11) ([some (.ref 140), some (.int (nI i)), some (.int (nI k))]) rfl (by decide +kernel) (Nat.le_of_ble_eq_true rfl) rfl ?_
  refine rx_aload_n (i := 0) dX11_priceOf_0 rfl rfl ?_
  refine rx_getR 143 (k := 3) fo_X11_16 kl_140 (by decide) ti_11_3 (by decide) rfl dX11_priceOf_1 ?_
  refine rx_iload_n (i := 1) dX11_priceOf_4 rfl rfl ?_
  refine rx_zaldN kl_143 (by omega) (by first | decide | omega) dX11_priceOf_5 ?_
  refine rx_if_eq (tgt := 13) dX11_priceOf_6 (by decide) (fun c6 => ?_) (fun c6 => ?_)
  · skip
    have e6 : prT (mv M) i k = M.1 149 k + M.1 149 k * M.1 142 i / 100 := if_neg (fun q => by rw [show mv M 2 i = M.1 143 i from rfl, c6] at q; exact absurd q (by decide))
    refine rx_aload_n (i := 0) dX11_priceOf_13 rfl rfl ?_
    refine rx_getR 149 (k := 10) fo_X11_35 kl_140 (by decide) ti_11_10 (by decide) rfl dX11_priceOf_14 ?_
    refine rx_iload_n (i := 2) dX11_priceOf_17 rfl rfl ?_
    refine rx_ialdN kl_149 (by omega) (by first | decide | omega) dX11_priceOf_18 ?_
    refine rx_aload_n (i := 0) dX11_priceOf_19 rfl rfl ?_
    refine rx_getR 149 (k := 10) fo_X11_35 kl_140 (by decide) ti_11_10 (by decide) rfl dX11_priceOf_20 ?_
    refine rx_iload_n (i := 2) dX11_priceOf_23 rfl rfl ?_
    refine rx_ialdN kl_149 (by omega) (by first | decide | omega) dX11_priceOf_24 ?_
    refine rx_aload_n (i := 0) dX11_priceOf_25 rfl rfl ?_
    refine rx_getR 142 (k := 2) fo_X11_13 kl_140 (by decide) ti_11_2 (by decide) rfl dX11_priceOf_26 ?_
    refine rx_iload_n (i := 1) dX11_priceOf_29 rfl rfl ?_
    refine rx_ialdN kl_142 (by omega) (by first | decide | omega) dX11_priceOf_30 ?_
    refine rx_imul dX11_priceOf_31 ?_
    refine rx_bipush (100) dX11_priceOf_32 rfl ?_
    refine rx_idiv dX11_priceOf_34 (by decide) ?_
    refine rx_iadd dX11_priceOf_35 ?_
    exact rx_fiI dX11_priceOf_36 (by rw [e6]) rfl
  · skip
    have e6 : prT (mv M) i k = 0 := if_pos (h01.resolve_left c6)
    refine rx_iconst (0) dX11_priceOf_9 rfl ?_
    refine rx_goto (tgt := 36) dX11_priceOf_10 (by decide) ?_
    exact rx_fiI dX11_priceOf_36 (by rw [e6]) rfl
theorem or_0 (x : Int32) : x ||| 0 = x := by
  apply b_ext
  intro i hi
  rw [b_or, b_0, Bool.or_false]
theorem zI_n {b : Bool} (h : ¬ zI b = 0) : b = true := Decidable.byContradiction fun q => h (zI_0.mpr (by simpa using q))
set_option maxRecDepth 100000 in
set_option maxHeartbeats 4000000 in
theorem l_X11_openOf {M : Mem} {n m : Nat} (w : MW M n m) {p : Int32} : ∀ (N : Nat) (i : Nat) (s : Int32), (i ≤ m) → (s = fsum (fun k => if M.1 151 k = 0 ∧ M.1 147 k = p then M.1 149 k else 0) i) → m - i < N → Reach cX11_openOf RX11 4 0 (FQ cX11_openOf (some .int) (some (.int (fsum (fun k => if M.1 151 k = 0 ∧ M.1 147 k = p then M.1 149 k else 0) m))) M) 4 [some (.ref 140), some (.int p), some (.int s), some (.int (nI i))] [] (M) := by
  intro N
  induction N with
  | zero => intro i s hi hs hm; exact absurd ‹_ < 0› (Nat.not_lt_zero _)
  | succ N ih =>
    intro i s hi hs hm
    have ⟨hn, hn8, hm, hm10, hd⟩ := w
    refine rx_iload_n (i := 3) dX11_openOf_4 rfl rfl ?_
    refine rx_aload_n (i := 0) dX11_openOf_5 rfl rfl ?_
    refine rx_getI (k := 7) fo_X11_139 kl_140 (by decide) ti_11_7 dX11_openOf_6 ?_
    refine rx_top (nI m) hm ?_
    refine rx_icmp_ge (tgt := 50) dX11_openOf_9 (by decide) (fun c9 => ?_) (fun c9 => ?_)
    · skip
      have f9 := Int32.not_lt.mpr c9
      have e9 : i = m := by have := (nI_leI (by omega) (by omega)).mp c9; omega
      subst e9
      refine rx_iload_n (i := 2) dX11_openOf_50 rfl rfl ?_
      exact rx_fiI dX11_openOf_51 hs rfl
    · skip
      have f9 := Int32.not_le.mp c9
      have e9 : i < m := Nat.lt_of_not_le fun q => c9 (nI_le q (by omega))
      refine rx_iload_n (i := 2) dX11_openOf_12 rfl rfl ?_
      refine rx_aload_n (i := 0) dX11_openOf_13 rfl rfl ?_
      refine rx_getR 151 (k := 12) fo_X11_41 kl_140 (by decide) ti_11_12 (by decide) rfl dX11_openOf_14 ?_
      refine rx_iload_n (i := 3) dX11_openOf_17 rfl rfl ?_
      refine rx_ialdN kl_151 (by omega) (by first | decide | omega) dX11_openOf_18 ?_
      refine rx_if_ne (tgt := 41) dX11_openOf_19 (by decide) (fun c19 => ?_) (fun c19 => ?_)
      · skip
        refine rx_iconst (0) dX11_openOf_41 rfl ?_
        refine rx_iadd dX11_openOf_42 ?_
        refine rx_istore_n (i := 2) dX11_openOf_43 rfl (by decide) rfl rfl ?_
        first | refine rx_iincN (i := 3) dX11_openOf_44 rfl (by decide) rfl rfl ?_ | refine rx_iinc (i := 3) dX11_openOf_44 rfl rfl (by decide) rfl rfl ?_
        refine rx_goto (tgt := 4) dX11_openOf_47 (by decide) ?_
        exact ih (i + 1) _ (by omega) (by rw [hs]; simp only [fsum]; rw [if_neg (fun q => c19 q.1)]) (by omega)
      · skip
        refine rx_aload_n (i := 0) dX11_openOf_22 rfl rfl ?_
        refine rx_getR 147 (k := 8) fo_X11_29 kl_140 (by decide) ti_11_8 (by decide) rfl dX11_openOf_23 ?_
        refine rx_iload_n (i := 3) dX11_openOf_26 rfl rfl ?_
        refine rx_ialdN kl_147 (by omega) (by first | decide | omega) dX11_openOf_27 ?_
        refine rx_iload_n (i := 1) dX11_openOf_28 rfl rfl ?_
        refine rx_icmp_ne (tgt := 41) dX11_openOf_29 (by decide) (fun c29 => ?_) (fun c29 => ?_)
        · skip
          refine rx_iconst (0) dX11_openOf_41 rfl ?_
          refine rx_iadd dX11_openOf_42 ?_
          refine rx_istore_n (i := 2) dX11_openOf_43 rfl (by decide) rfl rfl ?_
          first | refine rx_iincN (i := 3) dX11_openOf_44 rfl (by decide) rfl rfl ?_ | refine rx_iinc (i := 3) dX11_openOf_44 rfl rfl (by decide) rfl rfl ?_
          refine rx_goto (tgt := 4) dX11_openOf_47 (by decide) ?_
          exact ih (i + 1) _ (by omega) (by rw [hs]; simp only [fsum]; rw [if_neg (fun q => c29 q.2)]) (by omega)
        · skip
          refine rx_aload_n (i := 0) dX11_openOf_32 rfl rfl ?_
          refine rx_getR 149 (k := 10) fo_X11_35 kl_140 (by decide) ti_11_10 (by decide) rfl dX11_openOf_33 ?_
          refine rx_iload_n (i := 3) dX11_openOf_36 rfl rfl ?_
          refine rx_ialdN kl_149 (by omega) (by first | decide | omega) dX11_openOf_37 ?_
          refine rx_goto (tgt := 42) dX11_openOf_38 (by decide) ?_
          refine rx_iadd dX11_openOf_42 ?_
          refine rx_istore_n (i := 2) dX11_openOf_43 rfl (by decide) rfl rfl ?_
          first | refine rx_iincN (i := 3) dX11_openOf_44 rfl (by decide) rfl rfl ?_ | refine rx_iinc (i := 3) dX11_openOf_44 rfl rfl (by decide) rfl rfl ?_
          refine rx_goto (tgt := 4) dX11_openOf_47 (by decide) ?_
          exact ih (i + 1) _ (by omega) (by rw [hs]; simp only [fsum]; rw [if_pos ⟨c19, c29⟩]) (by omega)
set_option maxRecDepth 100000 in
set_option maxHeartbeats 4000000 in
theorem c_X11_openOf {M : Mem} {n m : Nat} (w : MW M n m) {p : Int32} : Fun yX11_openOf cX11_openOf 4 (some .int) 0 [.ref 140, .int p] M (some (.int (fsum (fun k => if M.1 151 k = 0 ∧ M.1 147 k = p then M.1 149 k else 0) m))) (M) := by
  refine Fun.of (own := RX11) ([some (.ref 140), some (.int p), none, none]) rfl (by decide +kernel) (Nat.le_of_ble_eq_true rfl) rfl ?_
  refine rx_iconst (0) dX11_openOf_0 rfl ?_
  refine rx_istore_n (i := 2) dX11_openOf_1 rfl (by decide) rfl rfl ?_
  refine rx_iconst (0) dX11_openOf_2 rfl ?_
  refine rx_istore_n (i := 3) dX11_openOf_3 rfl (by decide) rfl rfl ?_
  have hm10 := w.2.2.2.1
  exact l_X11_openOf w (m + 1) 0 0 (by omega) rfl (by omega)
set_option maxRecDepth 100000 in
set_option maxHeartbeats 4000000 in
theorem l_X11_openTo {M : Mem} {n m : Nat} (w : MW M n m) {p : Int32} : ∀ (N : Nat) (i : Nat) (s : Int32), (i ≤ m) → (s = fsum (fun k => if M.1 151 k = 0 ∧ M.1 148 k = p then M.1 149 k else 0) i) → m - i < N → Reach cX11_openTo RX11 4 0 (FQ cX11_openTo (some .int) (some (.int (fsum (fun k => if M.1 151 k = 0 ∧ M.1 148 k = p then M.1 149 k else 0) m))) M) 4 [some (.ref 140), some (.int p), some (.int s), some (.int (nI i))] [] (M) := by
  intro N
  induction N with
  | zero => intro i s hi hs hm; exact absurd ‹_ < 0› (Nat.not_lt_zero _)
  | succ N ih =>
    intro i s hi hs hm
    have ⟨hn, hn8, hm, hm10, hd⟩ := w
    refine rx_iload_n (i := 3) dX11_openTo_4 rfl rfl ?_
    refine rx_aload_n (i := 0) dX11_openTo_5 rfl rfl ?_
    refine rx_getI (k := 7) fo_X11_139 kl_140 (by decide) ti_11_7 dX11_openTo_6 ?_
    refine rx_top (nI m) hm ?_
    refine rx_icmp_ge (tgt := 50) dX11_openTo_9 (by decide) (fun c9 => ?_) (fun c9 => ?_)
    · skip
      have f9 := Int32.not_lt.mpr c9
      have e9 : i = m := by have := (nI_leI (by omega) (by omega)).mp c9; omega
      subst e9
      refine rx_iload_n (i := 2) dX11_openTo_50 rfl rfl ?_
      exact rx_fiI dX11_openTo_51 hs rfl
    · skip
      have f9 := Int32.not_le.mp c9
      have e9 : i < m := Nat.lt_of_not_le fun q => c9 (nI_le q (by omega))
      refine rx_iload_n (i := 2) dX11_openTo_12 rfl rfl ?_
      refine rx_aload_n (i := 0) dX11_openTo_13 rfl rfl ?_
      refine rx_getR 151 (k := 12) fo_X11_41 kl_140 (by decide) ti_11_12 (by decide) rfl dX11_openTo_14 ?_
      refine rx_iload_n (i := 3) dX11_openTo_17 rfl rfl ?_
      refine rx_ialdN kl_151 (by omega) (by first | decide | omega) dX11_openTo_18 ?_
      refine rx_if_ne (tgt := 41) dX11_openTo_19 (by decide) (fun c19 => ?_) (fun c19 => ?_)
      · skip
        refine rx_iconst (0) dX11_openTo_41 rfl ?_
        refine rx_iadd dX11_openTo_42 ?_
        refine rx_istore_n (i := 2) dX11_openTo_43 rfl (by decide) rfl rfl ?_
        first | refine rx_iincN (i := 3) dX11_openTo_44 rfl (by decide) rfl rfl ?_ | refine rx_iinc (i := 3) dX11_openTo_44 rfl rfl (by decide) rfl rfl ?_
        refine rx_goto (tgt := 4) dX11_openTo_47 (by decide) ?_
        exact ih (i + 1) _ (by omega) (by rw [hs]; simp only [fsum]; rw [if_neg (fun q => c19 q.1)]) (by omega)
      · skip
        refine rx_aload_n (i := 0) dX11_openTo_22 rfl rfl ?_
        refine rx_getR 148 (k := 9) fo_X11_32 kl_140 (by decide) ti_11_9 (by decide) rfl dX11_openTo_23 ?_
        refine rx_iload_n (i := 3) dX11_openTo_26 rfl rfl ?_
        refine rx_ialdN kl_148 (by omega) (by first | decide | omega) dX11_openTo_27 ?_
        refine rx_iload_n (i := 1) dX11_openTo_28 rfl rfl ?_
        refine rx_icmp_ne (tgt := 41) dX11_openTo_29 (by decide) (fun c29 => ?_) (fun c29 => ?_)
        · skip
          refine rx_iconst (0) dX11_openTo_41 rfl ?_
          refine rx_iadd dX11_openTo_42 ?_
          refine rx_istore_n (i := 2) dX11_openTo_43 rfl (by decide) rfl rfl ?_
          first | refine rx_iincN (i := 3) dX11_openTo_44 rfl (by decide) rfl rfl ?_ | refine rx_iinc (i := 3) dX11_openTo_44 rfl rfl (by decide) rfl rfl ?_
          refine rx_goto (tgt := 4) dX11_openTo_47 (by decide) ?_
          exact ih (i + 1) _ (by omega) (by rw [hs]; simp only [fsum]; rw [if_neg (fun q => c29 q.2)]) (by omega)
        · skip
          refine rx_aload_n (i := 0) dX11_openTo_32 rfl rfl ?_
          refine rx_getR 149 (k := 10) fo_X11_35 kl_140 (by decide) ti_11_10 (by decide) rfl dX11_openTo_33 ?_
          refine rx_iload_n (i := 3) dX11_openTo_36 rfl rfl ?_
          refine rx_ialdN kl_149 (by omega) (by first | decide | omega) dX11_openTo_37 ?_
          refine rx_goto (tgt := 42) dX11_openTo_38 (by decide) ?_
          refine rx_iadd dX11_openTo_42 ?_
          refine rx_istore_n (i := 2) dX11_openTo_43 rfl (by decide) rfl rfl ?_
          first | refine rx_iincN (i := 3) dX11_openTo_44 rfl (by decide) rfl rfl ?_ | refine rx_iinc (i := 3) dX11_openTo_44 rfl rfl (by decide) rfl rfl ?_
          refine rx_goto (tgt := 4) dX11_openTo_47 (by decide) ?_
          exact ih (i + 1) _ (by omega) (by rw [hs]; simp only [fsum]; rw [if_pos ⟨c19, c29⟩]) (by omega)
set_option maxRecDepth 100000 in
set_option maxHeartbeats 4000000 in
theorem c_X11_openTo {M : Mem} {n m : Nat} (w : MW M n m) {p : Int32} : Fun yX11_openTo cX11_openTo 4 (some .int) 0 [.ref 140, .int p] M (some (.int (fsum (fun k => if M.1 151 k = 0 ∧ M.1 148 k = p then M.1 149 k else 0) m))) (M) := by
  refine Fun.of (own := RX11) ([some (.ref 140), some (.int p), none, none]) rfl (by decide +kernel) (Nat.le_of_ble_eq_true rfl) rfl ?_
  refine rx_iconst (0) dX11_openTo_0 rfl ?_
  refine rx_istore_n (i := 2) dX11_openTo_1 rfl (by decide) rfl rfl ?_
  refine rx_iconst (0) dX11_openTo_2 rfl ?_
  refine rx_istore_n (i := 3) dX11_openTo_3 rfl (by decide) rfl rfl ?_
  have hm10 := w.2.2.2.1
  exact l_X11_openTo w (m + 1) 0 0 (by omega) rfl (by omega)
set_option maxRecDepth 100000 in
set_option maxHeartbeats 4000000 in
theorem l_X11_favoursOwed {M : Mem} {n m : Nat} (w : MW M n m) {p : Nat} (hp : p < n) : ∀ (N : Nat) (i : Nat) (s : Int32), (i ≤ n) → (s = fsum (fun j => M.1 146 (8 * j + p)) i) → n - i < N → Reach cX11_favoursOwed RX11 4 0 (FQ cX11_favoursOwed (some .int) (some (.int (fsum (fun j => M.1 146 (8 * j + p)) n))) M) 4 [some (.ref 140), some (.int (nI p)), some (.int s), some (.int (nI i))] [] (M) := by
  intro N
  induction N with
  | zero => intro i s hi hs hm; exact absurd ‹_ < 0› (Nat.not_lt_zero _)
  | succ N ih =>
    intro i s hi hs hm
    have ⟨hn, hn8, hm, hm10, hd⟩ := w
    refine rx_iload_n (i := 3) dX11_favoursOwed_4 rfl rfl ?_
    refine rx_aload_n (i := 0) dX11_favoursOwed_5 rfl rfl ?_
    refine rx_getI (k := 0) fo_X11_132 kl_140 (by decide) ti_11_0 dX11_favoursOwed_6 ?_
    refine rx_top (nI n) hn ?_
    refine rx_icmp_ge (tgt := 32) dX11_favoursOwed_9 (by decide) (fun c9 => ?_) (fun c9 => ?_)
    · skip
      have f9 := Int32.not_lt.mpr c9
      have e9 : i = n := by have := (nI_leI (by omega) (by omega)).mp c9; omega
      subst e9
      refine rx_iload_n (i := 2) dX11_favoursOwed_32 rfl rfl ?_
      exact rx_fiI dX11_favoursOwed_33 hs rfl
    · skip
      have f9 := Int32.not_le.mp c9
      have e9 : i < n := Nat.lt_of_not_le fun q => c9 (nI_le q (by omega))
      refine rx_iload_n (i := 2) dX11_favoursOwed_12 rfl rfl ?_
      refine rx_aload_n (i := 0) dX11_favoursOwed_13 rfl rfl ?_
      refine rx_getR 146 (k := 6) fo_X11_26 kl_140 (by decide) ti_11_6 (by decide) rfl dX11_favoursOwed_14 ?_
      refine rx_bipush (8) dX11_favoursOwed_17 rfl ?_
      refine rx_iload_n (i := 3) dX11_favoursOwed_19 rfl rfl ?_
      refine rx_imul dX11_favoursOwed_20 ?_
      refine rx_iload_n (i := 1) dX11_favoursOwed_21 rfl rfl ?_
      refine rx_iadd dX11_favoursOwed_22 ?_
      refine rx_top (nI (8 * i + p)) (by rw [show (8 : Int32) = nI 8 from rfl, pk_mul, nI_add]) ?_
      refine rx_ialdN kl_146 (by omega) (by first | decide | omega) dX11_favoursOwed_23 ?_
      refine rx_iadd dX11_favoursOwed_24 ?_
      refine rx_istore_n (i := 2) dX11_favoursOwed_25 rfl (by decide) rfl rfl ?_
      first | refine rx_iincN (i := 3) dX11_favoursOwed_26 rfl (by decide) rfl rfl ?_ | refine rx_iinc (i := 3) dX11_favoursOwed_26 rfl rfl (by decide) rfl rfl ?_
      refine rx_goto (tgt := 4) dX11_favoursOwed_29 (by decide) ?_
      exact ih (i + 1) _ (by omega) (by rw [hs]; rfl) (by omega)
set_option maxRecDepth 100000 in
set_option maxHeartbeats 4000000 in
theorem c_X11_favoursOwed {M : Mem} {n m : Nat} (w : MW M n m) {p : Nat} (hp : p < n) : Fun yX11_favoursOwed cX11_favoursOwed 4 (some .int) 0 [.ref 140, .int (nI p)] M (some (.int (fsum (fun j => M.1 146 (8 * j + p)) n))) (M) := by
  refine Fun.of (own := RX11) ([some (.ref 140), some (.int (nI p)), none, none]) rfl (by decide +kernel) (Nat.le_of_ble_eq_true rfl) rfl ?_
  refine rx_iconst (0) dX11_favoursOwed_0 rfl ?_
  refine rx_istore_n (i := 2) dX11_favoursOwed_1 rfl (by decide) rfl rfl ?_
  refine rx_iconst (0) dX11_favoursOwed_2 rfl ?_
  refine rx_istore_n (i := 3) dX11_favoursOwed_3 rfl (by decide) rfl rfl ?_
  have hn8 := w.2.1
  exact l_X11_favoursOwed w hp (n + 1) 0 0 (by omega) rfl (by omega)
set_option maxRecDepth 100000 in
set_option maxHeartbeats 4000000 in
theorem l_X11_favoursOwing {M : Mem} {n m : Nat} (w : MW M n m) {p : Nat} (hp : p < n) : ∀ (N : Nat) (i : Nat) (s : Int32), (i ≤ n) → (s = fsum (fun j => M.1 146 (8 * p + j)) i) → n - i < N → Reach cX11_favoursOwing RX11 4 0 (FQ cX11_favoursOwing (some .int) (some (.int (fsum (fun j => M.1 146 (8 * p + j)) n))) M) 4 [some (.ref 140), some (.int (nI p)), some (.int s), some (.int (nI i))] [] (M) := by
  intro N
  induction N with
  | zero => intro i s hi hs hm; exact absurd ‹_ < 0› (Nat.not_lt_zero _)
  | succ N ih =>
    intro i s hi hs hm
    have ⟨hn, hn8, hm, hm10, hd⟩ := w
    refine rx_iload_n (i := 3) dX11_favoursOwing_4 rfl rfl ?_
    refine rx_aload_n (i := 0) dX11_favoursOwing_5 rfl rfl ?_
    refine rx_getI (k := 0) fo_X11_132 kl_140 (by decide) ti_11_0 dX11_favoursOwing_6 ?_
    refine rx_top (nI n) hn ?_
    refine rx_icmp_ge (tgt := 32) dX11_favoursOwing_9 (by decide) (fun c9 => ?_) (fun c9 => ?_)
    · skip
      have f9 := Int32.not_lt.mpr c9
      have e9 : i = n := by have := (nI_leI (by omega) (by omega)).mp c9; omega
      subst e9
      refine rx_iload_n (i := 2) dX11_favoursOwing_32 rfl rfl ?_
      exact rx_fiI dX11_favoursOwing_33 hs rfl
    · skip
      have f9 := Int32.not_le.mp c9
      have e9 : i < n := Nat.lt_of_not_le fun q => c9 (nI_le q (by omega))
      refine rx_iload_n (i := 2) dX11_favoursOwing_12 rfl rfl ?_
      refine rx_aload_n (i := 0) dX11_favoursOwing_13 rfl rfl ?_
      refine rx_getR 146 (k := 6) fo_X11_26 kl_140 (by decide) ti_11_6 (by decide) rfl dX11_favoursOwing_14 ?_
      refine rx_bipush (8) dX11_favoursOwing_17 rfl ?_
      refine rx_iload_n (i := 1) dX11_favoursOwing_19 rfl rfl ?_
      refine rx_imul dX11_favoursOwing_20 ?_
      refine rx_iload_n (i := 3) dX11_favoursOwing_21 rfl rfl ?_
      refine rx_iadd dX11_favoursOwing_22 ?_
      refine rx_top (nI (8 * p + i)) (by rw [show (8 : Int32) = nI 8 from rfl, pk_mul, nI_add]) ?_
      refine rx_ialdN kl_146 (by omega) (by first | decide | omega) dX11_favoursOwing_23 ?_
      refine rx_iadd dX11_favoursOwing_24 ?_
      refine rx_istore_n (i := 2) dX11_favoursOwing_25 rfl (by decide) rfl rfl ?_
      first | refine rx_iincN (i := 3) dX11_favoursOwing_26 rfl (by decide) rfl rfl ?_ | refine rx_iinc (i := 3) dX11_favoursOwing_26 rfl rfl (by decide) rfl rfl ?_
      refine rx_goto (tgt := 4) dX11_favoursOwing_29 (by decide) ?_
      exact ih (i + 1) _ (by omega) (by rw [hs]; rfl) (by omega)
set_option maxRecDepth 100000 in
set_option maxHeartbeats 4000000 in
theorem c_X11_favoursOwing {M : Mem} {n m : Nat} (w : MW M n m) {p : Nat} (hp : p < n) : Fun yX11_favoursOwing cX11_favoursOwing 4 (some .int) 0 [.ref 140, .int (nI p)] M (some (.int (fsum (fun j => M.1 146 (8 * p + j)) n))) (M) := by
  refine Fun.of (own := RX11) ([some (.ref 140), some (.int (nI p)), none, none]) rfl (by decide +kernel) (Nat.le_of_ble_eq_true rfl) rfl ?_
  refine rx_iconst (0) dX11_favoursOwing_0 rfl ?_
  refine rx_istore_n (i := 2) dX11_favoursOwing_1 rfl (by decide) rfl rfl ?_
  refine rx_iconst (0) dX11_favoursOwing_2 rfl ?_
  refine rx_istore_n (i := 3) dX11_favoursOwing_3 rfl (by decide) rfl rfl ?_
  have hn8 := w.2.1
  exact l_X11_favoursOwing w hp (n + 1) 0 0 (by omega) rfl (by omega)
set_option maxRecDepth 100000 in
set_option maxHeartbeats 4000000 in
theorem c_X11_onList {M : Mem} {i : Nat} (hi : i < 8) : Fun yX11_onList cX11_onList 2 (some .int) 1 [.ref 140, .int (nI i)] M (some (.int (onT (mv M) i))) (M) := by
  refine Fun.of (own := RX11) ([some (.ref 140), some (.int (nI i))]) rfl (by decide +kernel) (Nat.le_of_ble_eq_true rfl) rfl ?_
  refine rx_aload_n (i := 0) dX11_onList_0 rfl rfl ?_
  refine rx_getR 153 (k := 14) fo_X11_47 kl_140 (by decide) ti_11_14 (by decide) rfl dX11_onList_1 ?_
  refine rx_iconst (2) dX11_onList_4 rfl ?_
  refine rx_ialdN (k := 2) kl_153 (by omega) (by first | decide | omega) dX11_onList_5 ?_
  refine rx_iconst (1) dX11_onList_6 rfl ?_
  refine rx_icmp_ne (tgt := 19) dX11_onList_7 (by decide) (fun c7 => ?_) (fun c7 => ?_)
  · skip
    have e7 : onT (mv M) i = M.1 141 i - M.1 144 i := if_neg c7
    refine rx_aload_n (i := 0) dX11_onList_19 rfl rfl ?_
    refine rx_iload_n (i := 1) dX11_onList_20 rfl rfl ?_
    refine rx_cvI (ci := 11) mo_X11_counted lk_X11_225 (c_X11_counted hi) (by decide) rfl rfl (Nat.le_of_ble_eq_true rfl) kl_140 rfl dX11_onList_21 ?_
    exact rx_fiI dX11_onList_24 (by rw [e7]) rfl
  · skip
    have e7 : onT (mv M) i = M.1 145 i := if_pos c7
    refine rx_aload_n (i := 0) dX11_onList_10 rfl rfl ?_
    refine rx_getR 145 (k := 5) fo_X11_23 kl_140 (by decide) ti_11_5 (by decide) rfl dX11_onList_11 ?_
    refine rx_iload_n (i := 1) dX11_onList_14 rfl rfl ?_
    refine rx_ialdN kl_145 (by omega) (by first | decide | omega) dX11_onList_15 ?_
    refine rx_goto (tgt := 24) dX11_onList_16 (by decide) ?_
    exact rx_fiI dX11_onList_24 (by rw [e7]) rfl
set_option maxRecDepth 100000 in
set_option maxHeartbeats 4000000 in
theorem l_X11_dueBy {M : Mem} {n m : Nat} (w : MW M n m) {p : Int32} : ∀ (N : Nat) (i : Nat) (s : Int32), (i ≤ m) → (s = fbor (fun k => decide (M.1 151 k = 0) && decide (M.1 150 k ≤ p)) i) → m - i < N → Reach cX11_dueBy RX11 4 0 (FQ cX11_dueBy (some .int) (some (.int (fbor (fun k => decide (M.1 151 k = 0) && decide (M.1 150 k ≤ p)) m))) M) 4 [some (.ref 140), some (.int p), some (.int s), some (.int (nI i))] [] (M) := by
  intro N
  induction N with
  | zero => intro i s hi hs hm; exact absurd ‹_ < 0› (Nat.not_lt_zero _)
  | succ N ih =>
    intro i s hi hs hm
    have ⟨hn, hn8, hm, hm10, hd⟩ := w
    refine rx_iload_n (i := 3) dX11_dueBy_4 rfl rfl ?_
    refine rx_aload_n (i := 0) dX11_dueBy_5 rfl rfl ?_
    refine rx_getI (k := 7) fo_X11_139 kl_140 (by decide) ti_11_7 dX11_dueBy_6 ?_
    refine rx_top (nI m) hm ?_
    refine rx_icmp_ge (tgt := 47) dX11_dueBy_9 (by decide) (fun c9 => ?_) (fun c9 => ?_)
    · skip
      have f9 := Int32.not_lt.mpr c9
      have e9 : i = m := by have := (nI_leI (by omega) (by omega)).mp c9; omega
      subst e9
      refine rx_iload_n (i := 2) dX11_dueBy_47 rfl rfl ?_
      exact rx_fiI dX11_dueBy_48 hs rfl
    · skip
      have f9 := Int32.not_le.mp c9
      have e9 : i < m := Nat.lt_of_not_le fun q => c9 (nI_le q (by omega))
      refine rx_iload_n (i := 2) dX11_dueBy_12 rfl rfl ?_
      refine rx_aload_n (i := 0) dX11_dueBy_13 rfl rfl ?_
      refine rx_getR 151 (k := 12) fo_X11_41 kl_140 (by decide) ti_11_12 (by decide) rfl dX11_dueBy_14 ?_
      refine rx_iload_n (i := 3) dX11_dueBy_17 rfl rfl ?_
      refine rx_ialdN kl_151 (by omega) (by first | decide | omega) dX11_dueBy_18 ?_
      refine rx_if_ne (tgt := 38) dX11_dueBy_19 (by decide) (fun c19 => ?_) (fun c19 => ?_)
      · skip
        refine rx_iconst (0) dX11_dueBy_38 rfl ?_
        refine rx_ior dX11_dueBy_39 ?_
        refine rx_istore_n (i := 2) dX11_dueBy_40 rfl (by decide) rfl rfl ?_
        first | refine rx_iincN (i := 3) dX11_dueBy_41 rfl (by decide) rfl rfl ?_ | refine rx_iinc (i := 3) dX11_dueBy_41 rfl rfl (by decide) rfl rfl ?_
        refine rx_goto (tgt := 4) dX11_dueBy_44 (by decide) ?_
        exact ih (i + 1) _ (by omega) (by rw [hs]; simp only [fbor]; rw [if_neg (by simp [c19]), or_0]) (by omega)
      · skip
        refine rx_aload_n (i := 0) dX11_dueBy_22 rfl rfl ?_
        refine rx_getR 150 (k := 11) fo_X11_38 kl_140 (by decide) ti_11_11 (by decide) rfl dX11_dueBy_23 ?_
        refine rx_iload_n (i := 3) dX11_dueBy_26 rfl rfl ?_
        refine rx_ialdN kl_150 (by omega) (by first | decide | omega) dX11_dueBy_27 ?_
        refine rx_iload_n (i := 1) dX11_dueBy_28 rfl rfl ?_
        refine rx_icmp_gt (tgt := 38) dX11_dueBy_29 (by decide) (fun c29 => ?_) (fun c29 => ?_)
        · skip
          have f29 : ¬ M.1 150 i ≤ p := Int32.not_le.mpr c29
          have c29 := f29
          refine rx_iconst (0) dX11_dueBy_38 rfl ?_
          refine rx_ior dX11_dueBy_39 ?_
          refine rx_istore_n (i := 2) dX11_dueBy_40 rfl (by decide) rfl rfl ?_
          first | refine rx_iincN (i := 3) dX11_dueBy_41 rfl (by decide) rfl rfl ?_ | refine rx_iinc (i := 3) dX11_dueBy_41 rfl rfl (by decide) rfl rfl ?_
          refine rx_goto (tgt := 4) dX11_dueBy_44 (by decide) ?_
          exact ih (i + 1) _ (by omega) (by rw [hs]; simp only [fbor]; rw [if_neg (by simp [c29]), or_0]) (by omega)
        · skip
          have f29 : M.1 150 i ≤ p := Int32.not_lt.mp c29
          refine rx_iconst (1) dX11_dueBy_32 rfl ?_
          refine rx_iload_n (i := 3) dX11_dueBy_33 rfl rfl ?_
          refine rx_ishl dX11_dueBy_34 ?_
          refine rx_goto (tgt := 39) dX11_dueBy_35 (by decide) ?_
          refine rx_ior dX11_dueBy_39 ?_
          refine rx_istore_n (i := 2) dX11_dueBy_40 rfl (by decide) rfl rfl ?_
          first | refine rx_iincN (i := 3) dX11_dueBy_41 rfl (by decide) rfl rfl ?_ | refine rx_iinc (i := 3) dX11_dueBy_41 rfl rfl (by decide) rfl rfl ?_
          refine rx_goto (tgt := 4) dX11_dueBy_44 (by decide) ?_
          exact ih (i + 1) _ (by omega) (by rw [hs]; simp only [fbor]; rw [if_pos (by simp [c19, f29])]; rfl) (by omega)
set_option maxRecDepth 100000 in
set_option maxHeartbeats 4000000 in
theorem c_X11_dueBy {M : Mem} {n m : Nat} (w : MW M n m) {p : Int32} : Fun yX11_dueBy cX11_dueBy 4 (some .int) 0 [.ref 140, .int p] M (some (.int (thV (mv M) m p))) (M) := by
  refine Fun.of (own := RX11) ([some (.ref 140), some (.int p), none, none]) rfl (by decide +kernel) (Nat.le_of_ble_eq_true rfl) rfl ?_
  refine rx_iconst (0) dX11_dueBy_0 rfl ?_
  refine rx_istore_n (i := 2) dX11_dueBy_1 rfl (by decide) rfl rfl ?_
  refine rx_iconst (0) dX11_dueBy_2 rfl ?_
  refine rx_istore_n (i := 3) dX11_dueBy_3 rfl (by decide) rfl rfl ?_
  have hm10 := w.2.2.2.1
  exact l_X11_dueBy w (m + 1) 0 0 (by omega) rfl (by omega)
set_option maxRecDepth 100000 in
set_option maxHeartbeats 4000000 in
theorem l_X11_sumOf {M : Mem} {n m : Nat} (w : MW M n m) {b : Int32} : ∀ (N : Nat) (i : Nat) (s : Int32), (i ≤ m) → (s = fsum (fun k => if bt b k = true then M.1 149 k else 0) i) → m - i < N → Reach cX11_sumOf RX11 4 1 (FQ cX11_sumOf (some .int) (some (.int (fsum (fun k => if bt b k = true then M.1 149 k else 0) m))) M) 4 [some (.ref 140), some (.int b), some (.int s), some (.int (nI i))] [] (M) := by
  intro N
  induction N with
  | zero => intro i s hi hs hm; exact absurd ‹_ < 0› (Nat.not_lt_zero _)
  | succ N ih =>
    intro i s hi hs hm
    have ⟨hn, hn8, hm, hm10, hd⟩ := w
    refine rx_iload_n (i := 3) dX11_sumOf_4 rfl rfl ?_
    refine rx_aload_n (i := 0) dX11_sumOf_5 rfl rfl ?_
    refine rx_getI (k := 7) fo_X11_139 kl_140 (by decide) ti_11_7 dX11_sumOf_6 ?_
    refine rx_top (nI m) hm ?_
    refine rx_icmp_ge (tgt := 39) dX11_sumOf_9 (by decide) (fun c9 => ?_) (fun c9 => ?_)
    · skip
      have f9 := Int32.not_lt.mpr c9
      have e9 : i = m := by have := (nI_leI (by omega) (by omega)).mp c9; omega
      subst e9
      refine rx_iload_n (i := 2) dX11_sumOf_39 rfl rfl ?_
      exact rx_fiI dX11_sumOf_40 hs rfl
    · skip
      have f9 := Int32.not_le.mp c9
      have e9 : i < m := Nat.lt_of_not_le fun q => c9 (nI_le q (by omega))
      refine rx_iload_n (i := 2) dX11_sumOf_12 rfl rfl ?_
      refine rx_iload_n (i := 1) dX11_sumOf_13 rfl rfl ?_
      refine rx_iload_n (i := 3) dX11_sumOf_14 rfl rfl ?_
      refine rx_csI mo_X11_has lk_X11_291 (c_X11_has (by omega)) (by decide) rfl rfl (Nat.le_of_ble_eq_true rfl) dX11_sumOf_15 ?_
      refine rx_if_eq (tgt := 30) dX11_sumOf_18 (by decide) (fun c18 => ?_) (fun c18 => ?_)
      · skip
        have e18 := zI_0.mp c18
        refine rx_iconst (0) dX11_sumOf_30 rfl ?_
        refine rx_iadd dX11_sumOf_31 ?_
        refine rx_istore_n (i := 2) dX11_sumOf_32 rfl (by decide) rfl rfl ?_
        first | refine rx_iincN (i := 3) dX11_sumOf_33 rfl (by decide) rfl rfl ?_ | refine rx_iinc (i := 3) dX11_sumOf_33 rfl rfl (by decide) rfl rfl ?_
        refine rx_goto (tgt := 4) dX11_sumOf_36 (by decide) ?_
        exact ih (i + 1) _ (by omega) (by rw [hs]; simp only [fsum]; rw [if_neg (by rw [e18]; decide)]) (by omega)
      · skip
        have e18 := zI_n c18
        refine rx_aload_n (i := 0) dX11_sumOf_21 rfl rfl ?_
        refine rx_getR 149 (k := 10) fo_X11_35 kl_140 (by decide) ti_11_10 (by decide) rfl dX11_sumOf_22 ?_
        refine rx_iload_n (i := 3) dX11_sumOf_25 rfl rfl ?_
        refine rx_ialdN kl_149 (by omega) (by first | decide | omega) dX11_sumOf_26 ?_
        refine rx_goto (tgt := 31) dX11_sumOf_27 (by decide) ?_
        refine rx_iadd dX11_sumOf_31 ?_
        refine rx_istore_n (i := 2) dX11_sumOf_32 rfl (by decide) rfl rfl ?_
        first | refine rx_iincN (i := 3) dX11_sumOf_33 rfl (by decide) rfl rfl ?_ | refine rx_iinc (i := 3) dX11_sumOf_33 rfl rfl (by decide) rfl rfl ?_
        refine rx_goto (tgt := 4) dX11_sumOf_36 (by decide) ?_
        exact ih (i + 1) _ (by omega) (by rw [hs]; simp only [fsum]; rw [if_pos e18]) (by omega)
set_option maxRecDepth 100000 in
set_option maxHeartbeats 4000000 in
theorem c_X11_sumOf {M : Mem} {n m : Nat} (w : MW M n m) {b : Int32} : Fun yX11_sumOf cX11_sumOf 4 (some .int) 1 [.ref 140, .int b] M (some (.int (sumT (mv M) m b))) (M) := by
  refine Fun.of (own := RX11) ([some (.ref 140), some (.int b), none, none]) rfl (by decide +kernel) (Nat.le_of_ble_eq_true rfl) rfl ?_
  refine rx_iconst (0) dX11_sumOf_0 rfl ?_
  refine rx_istore_n (i := 2) dX11_sumOf_1 rfl (by decide) rfl rfl ?_
  refine rx_iconst (0) dX11_sumOf_2 rfl ?_
  refine rx_istore_n (i := 3) dX11_sumOf_3 rfl (by decide) rfl rfl ?_
  have hm10 := w.2.2.2.1
  exact l_X11_sumOf w (m + 1) 0 0 (by omega) rfl (by omega)
set_option maxRecDepth 100000 in
set_option maxHeartbeats 4000000 in
theorem l_X11_countedOf {M : Mem} {n m : Nat} (w : MW M n m) {b : Int32} : ∀ (N : Nat) (i : Nat) (s : Int32), (i ≤ n) → (s = fsum (fun k => if bt b k = true then M.1 141 k - M.1 144 k else 0) i) → n - i < N → Reach cX11_countedOf RX11 4 1 (FQ cX11_countedOf (some .int) (some (.int (fsum (fun k => if bt b k = true then M.1 141 k - M.1 144 k else 0) n))) M) 4 [some (.ref 140), some (.int b), some (.int s), some (.int (nI i))] [] (M) := by
  intro N
  induction N with
  | zero => intro i s hi hs hm; exact absurd ‹_ < 0› (Nat.not_lt_zero _)
  | succ N ih =>
    intro i s hi hs hm
    have ⟨hn, hn8, hm, hm10, hd⟩ := w
    refine rx_iload_n (i := 3) dX11_countedOf_4 rfl rfl ?_
    refine rx_aload_n (i := 0) dX11_countedOf_5 rfl rfl ?_
    refine rx_getI (k := 0) fo_X11_132 kl_140 (by decide) ti_11_0 dX11_countedOf_6 ?_
    refine rx_top (nI n) hn ?_
    refine rx_icmp_ge (tgt := 38) dX11_countedOf_9 (by decide) (fun c9 => ?_) (fun c9 => ?_)
    · skip
      have f9 := Int32.not_lt.mpr c9
      have e9 : i = n := by have := (nI_leI (by omega) (by omega)).mp c9; omega
      subst e9
      refine rx_iload_n (i := 2) dX11_countedOf_38 rfl rfl ?_
      exact rx_fiI dX11_countedOf_39 hs rfl
    · skip
      have f9 := Int32.not_le.mp c9
      have e9 : i < n := Nat.lt_of_not_le fun q => c9 (nI_le q (by omega))
      refine rx_iload_n (i := 2) dX11_countedOf_12 rfl rfl ?_
      refine rx_iload_n (i := 1) dX11_countedOf_13 rfl rfl ?_
      refine rx_iload_n (i := 3) dX11_countedOf_14 rfl rfl ?_
      refine rx_csI mo_X11_has lk_X11_291 (c_X11_has (by omega)) (by decide) rfl rfl (Nat.le_of_ble_eq_true rfl) dX11_countedOf_15 ?_
      refine rx_if_eq (tgt := 29) dX11_countedOf_18 (by decide) (fun c18 => ?_) (fun c18 => ?_)
      · skip
        have e18 := zI_0.mp c18
        refine rx_iconst (0) dX11_countedOf_29 rfl ?_
        refine rx_iadd dX11_countedOf_30 ?_
        refine rx_istore_n (i := 2) dX11_countedOf_31 rfl (by decide) rfl rfl ?_
        first | refine rx_iincN (i := 3) dX11_countedOf_32 rfl (by decide) rfl rfl ?_ | refine rx_iinc (i := 3) dX11_countedOf_32 rfl rfl (by decide) rfl rfl ?_
        refine rx_goto (tgt := 4) dX11_countedOf_35 (by decide) ?_
        exact ih (i + 1) _ (by omega) (by rw [hs]; simp only [fsum]; rw [if_neg (by rw [e18]; decide)]) (by omega)
      · skip
        have e18 := zI_n c18
        refine rx_aload_n (i := 0) dX11_countedOf_21 rfl rfl ?_
        refine rx_iload_n (i := 3) dX11_countedOf_22 rfl rfl ?_
        refine rx_cvI (ci := 11) mo_X11_counted lk_X11_225 (c_X11_counted (by omega)) (by decide) rfl rfl (Nat.le_of_ble_eq_true rfl) kl_140 rfl dX11_countedOf_23 ?_
        refine rx_goto (tgt := 30) dX11_countedOf_26 (by decide) ?_
        refine rx_iadd dX11_countedOf_30 ?_
        refine rx_istore_n (i := 2) dX11_countedOf_31 rfl (by decide) rfl rfl ?_
        first | refine rx_iincN (i := 3) dX11_countedOf_32 rfl (by decide) rfl rfl ?_ | refine rx_iinc (i := 3) dX11_countedOf_32 rfl rfl (by decide) rfl rfl ?_
        refine rx_goto (tgt := 4) dX11_countedOf_35 (by decide) ?_
        exact ih (i + 1) _ (by omega) (by rw [hs]; simp only [fsum]; rw [if_pos e18]) (by omega)
set_option maxRecDepth 100000 in
set_option maxHeartbeats 4000000 in
theorem c_X11_countedOf {M : Mem} {n m : Nat} (w : MW M n m) {b : Int32} : Fun yX11_countedOf cX11_countedOf 4 (some .int) 1 [.ref 140, .int b] M (some (.int (fsum (fun k => if bt b k = true then mv M 0 k - mv M 3 k else 0) n))) (M) := by
  refine Fun.of (own := RX11) ([some (.ref 140), some (.int b), none, none]) rfl (by decide +kernel) (Nat.le_of_ble_eq_true rfl) rfl ?_
  refine rx_iconst (0) dX11_countedOf_0 rfl ?_
  refine rx_istore_n (i := 2) dX11_countedOf_1 rfl (by decide) rfl rfl ?_
  refine rx_iconst (0) dX11_countedOf_2 rfl ?_
  refine rx_istore_n (i := 3) dX11_countedOf_3 rfl (by decide) rfl rfl ?_
  have hn8 := w.2.1
  exact l_X11_countedOf w (n + 1) 0 0 (by omega) rfl (by omega)
