theorem lw_min {T : TT} : ∀ {i : Nat} {x : Nat}, x < i → onT T (lwF T i) ≤ onT T x
  | 0, x, h => absurd h (Nat.not_lt_zero _)
  | i + 1, x, h => by
    rw [lwF]
    by_cases q : x = i
    · subst q
      split
      · exact Int32.le_refl _
      · next z => exact Int32.not_lt.mp z
    · have := lw_min (T := T) (i := i) (x := x) (by omega)
      split
      · next z => exact Int32.le_trans (Int32.le_of_lt z) this
      · exact this
/-- the bits of those who have the least of the first i -/
def lwBi (T : TT) (i : Nat) : Int32 := fbor (fun x => decide (onT T x = onT T (lwF T i))) i
theorem lwBi_lt {T : TT} {i : Nat} (hi : i ≤ 32) (h : onT T i < onT T (lwF T i)) : lwBi T (i + 1) = (0 ||| bit i) := by
  have e : lwF T (i + 1) = i := if_pos h
  unfold lwBi
  simp only [fbor]
  rw [e, if_pos (decide_eq_true rfl), show fbor (fun x => decide (onT T x = onT T i)) i = 0 from (fbor_0 hi).mpr fun k hk => decide_eq_false fun z => by
    have := lw_min (T := T) (i := i) hk
    rw [z] at this
    exact absurd h (Int32.not_lt.mpr this)]
theorem lwBi_eq {T : TT} {i : Nat} (h : ¬ onT T i < onT T (lwF T i)) (h2 : onT T i = onT T (lwF T i)) : lwBi T (i + 1) = (lwBi T i ||| bit i) := by
  have e : lwF T (i + 1) = lwF T i := if_neg h
  unfold lwBi
  simp only [fbor]
  rw [e, if_pos (decide_eq_true h2)]
theorem lwBi_ne {T : TT} {i : Nat} (h : ¬ onT T i < onT T (lwF T i)) (h2 : ¬ onT T i = onT T (lwF T i)) : lwBi T (i + 1) = lwBi T i := by
  have e : lwF T (i + 1) = lwF T i := if_neg h
  unfold lwBi
  simp only [fbor]
  rw [e, if_neg (fun q => h2 (of_decide_eq_true q))]
set_option maxRecDepth 100000 in
set_option maxHeartbeats 4000000 in
theorem l_X10_lowest {M : Mem} {n m : Nat} (w : TW M 28 n m) : ∀ (N : Nat) (i : Nat) (b : Int32), (i ≤ n) → (b = lwBi (view M 28) i) → n - i < N → Reach cX10_lowest RX10 4 2 (RetQ cX10_lowest (some .int) (fun v N => v = some (.int (nI (lwF (view M 28) n))) ∧ fcR M N ∧ row2C N (lwB (view M 28) n).toInt64 (lwD (view M 28) n m).toInt64)) 26 [some (.ref 0), some (.int (nI (lwF (view M 28) i))), some (.int b), some (.int (nI i))] [] (mkL M 28 n) := by
  intro N
  induction N with
  | zero => intro i b hi hb hm; exact absurd ‹_ < 0› (Nat.not_lt_zero _)
  | succ N ih =>
    intro i b hi hb hm
    have ⟨hn, hn8, hm, hm10, hd⟩ := w
    have wL : TW (mkL M 28 n) 28 n m := w.keep (mkL_o (by omega)) (mkL_o (by omega)) (fun _ _ => mkL_o (by omega)) (fun _ _ => mkL_o (by omega))
    have hnL : (mkL M 28 n).1 28 15 = nI n := wL.1
    subst hb
    refine rx_iload_n (i := 3) dX10_lowest_26 rfl rfl ?_
    refine rx_aload_n (i := 0) dX10_lowest_27 rfl rfl ?_
    refine rx_getR 28 (k := 2) fo_X10_26 kl_0 (by decide) ti_10_2 (by decide) rfl dX10_lowest_28 ?_
    refine rx_getI (k := 15) fo_X10_184 kl_28 (by decide) ti_8_15 dX10_lowest_31 ?_
    refine rx_top (nI n) (hnL) ?_
    refine rx_icmp_ge (tgt := 95) dX10_lowest_34 (by decide) (fun c34 => ?_) (fun c34 => ?_)
    · skip
      have f34 := Int32.not_lt.mpr c34
      have e34 : i = n := by have := (nI_leI (by omega) (by omega)).mp c34; omega
      subst e34
      refine rx_aload_n (i := 0) dX10_lowest_95 rfl rfl ?_
      refine rx_getR 4 (k := 1) fo_X10_19 kl_0 (by decide) ti_10_1 (by decide) rfl dX10_lowest_96 ?_
      refine rx_iload_n (i := 2) dX10_lowest_99 rfl rfl ?_
      refine rx_i2l dX10_lowest_100 rfl ?_
      refine rx_aload_n (i := 0) dX10_lowest_101 rfl rfl ?_
      refine rx_getR 28 (k := 2) fo_X10_26 kl_0 (by decide) ti_10_2 (by decide) rfl dX10_lowest_102 ?_
      refine rx_iload_n (i := 2) dX10_lowest_105 rfl rfl ?_
      refine rx_cvI (ci := 8) mo_X8_openDebtsOf lk_X10_378 (c_X8_openDebtsOf it28 wL) (by decide) rfl rfl (Nat.le_of_ble_eq_true rfl) kl_28 rfl dX10_lowest_106 ?_
      refine rx_top (lwD (view M 28) i m) (by unfold lwD; exact fbor_congr fun k _ => by rw [mkL_o (by omega), mkL_o (by omega)]; rfl) ?_
      refine rx_i2l dX10_lowest_109 rfl ?_
      refine rx_cvN (ci := 7) mo_X7_tell_ lk_X10_221 c_X7_tell_ (by decide) rfl rfl (Nat.le_of_ble_eq_true rfl) kl_4 rfl dX10_lowest_110 ?_
      refine rx_iload_n (i := 1) dX10_lowest_113 rfl rfl ?_
      exact rx_iret dX10_lowest_114 ⟨rfl, fcK_L.1.trans fcR_r2, r2_row⟩
    · skip
      have f34 := Int32.not_le.mp c34
      have e34 : i < n := Nat.lt_of_not_le fun q => c34 (nI_le q (by omega))
      have hlw : lwF (view M 28) i < n := by
        rcases Nat.eq_zero_or_pos i with q | q
        · rw [q]; show 0 < n; omega
        · have := lwF_lt (T := (view M 28)) q; omega
      refine rx_aload_n (i := 0) dX10_lowest_37 rfl rfl ?_
      refine rx_getR 28 (k := 2) fo_X10_26 kl_0 (by decide) ti_10_2 (by decide) rfl dX10_lowest_38 ?_
      refine rx_getR 34 (k := 5) fo_X10_141 kl_28 (by decide) ti_8_5 (by decide) rfl dX10_lowest_41 ?_
      refine rx_iload_n (i := 3) dX10_lowest_44 rfl rfl ?_
      refine rx_ialdN kl_34 (by omega) (by first | decide | omega) dX10_lowest_45 ?_
      refine rx_top (onT (view M 28) i) ((mkL_l e34).trans onL_T) ?_
      refine rx_aload_n (i := 0) dX10_lowest_46 rfl rfl ?_
      refine rx_getR 28 (k := 2) fo_X10_26 kl_0 (by decide) ti_10_2 (by decide) rfl dX10_lowest_47 ?_
      refine rx_getR 34 (k := 5) fo_X10_141 kl_28 (by decide) ti_8_5 (by decide) rfl dX10_lowest_50 ?_
      refine rx_iload_n (i := 1) dX10_lowest_53 rfl rfl ?_
      refine rx_ialdN kl_34 (by omega) (by first | decide | omega) dX10_lowest_54 ?_
      refine rx_top (onT (view M 28) (lwF (view M 28) i)) ((mkL_l hlw).trans onL_T) ?_
      refine rx_icmp_ge (tgt := 62) dX10_lowest_55 (by decide) (fun c55 => ?_) (fun c55 => ?_)
      · skip
        have g55 : ¬ onT (view M 28) i < onT (view M 28) (lwF (view M 28) i) := Int32.not_lt.mpr c55
        have e55 : lwF (view M 28) (i + 1) = lwF (view M 28) i := if_neg g55
        refine rx_aload_n (i := 0) dX10_lowest_62 rfl rfl ?_
        refine rx_getR 28 (k := 2) fo_X10_26 kl_0 (by decide) ti_10_2 (by decide) rfl dX10_lowest_63 ?_
        refine rx_getR 34 (k := 5) fo_X10_141 kl_28 (by decide) ti_8_5 (by decide) rfl dX10_lowest_66 ?_
        refine rx_iload_n (i := 3) dX10_lowest_69 rfl rfl ?_
        refine rx_ialdN kl_34 (by omega) (by first | decide | omega) dX10_lowest_70 ?_
        refine rx_top (onT (view M 28) i) ((mkL_l e34).trans onL_T) ?_
        refine rx_aload_n (i := 0) dX10_lowest_71 rfl rfl ?_
        refine rx_getR 28 (k := 2) fo_X10_26 kl_0 (by decide) ti_10_2 (by decide) rfl dX10_lowest_72 ?_
        refine rx_getR 34 (k := 5) fo_X10_141 kl_28 (by decide) ti_8_5 (by decide) rfl dX10_lowest_75 ?_
        refine rx_iload_n (i := 1) dX10_lowest_78 rfl rfl ?_
        refine rx_ialdN kl_34 (by omega) (by first | decide | omega) dX10_lowest_79 ?_
        refine rx_top (onT (view M 28) (lwF (view M 28) (i + 1))) (by first | (rw [e55]; exact (mkL_l e34).trans onL_T) | (rw [e55]; exact (mkL_l hlw).trans onL_T)) ?_
        refine rx_icmp_ne (tgt := 89) dX10_lowest_80 (by decide) (fun c80 => ?_) (fun c80 => ?_)
        · skip
          first | refine rx_iincN (i := 3) dX10_lowest_89 rfl (by decide) rfl rfl ?_ | refine rx_iinc (i := 3) dX10_lowest_89 rfl rfl (by decide) rfl rfl ?_
          refine rx_goto (tgt := 26) dX10_lowest_92 (by decide) ?_
          have hx := ih (i + 1) (lwBi (view M 28) i) (by omega) (lwBi_ne g55 (by rw [e55] at c80; exact c80)).symm (by omega)
          rw [e55] at hx
          exact hx
        · skip
          refine rx_iload_n (i := 2) dX10_lowest_83 rfl rfl ?_
          refine rx_iconst (1) dX10_lowest_84 rfl ?_
          refine rx_iload_n (i := 3) dX10_lowest_85 rfl rfl ?_
          refine rx_ishl dX10_lowest_86 ?_
          refine rx_ior dX10_lowest_87 ?_
          refine rx_istore_n (i := 2) dX10_lowest_88 rfl (by decide) rfl rfl ?_
          first | refine rx_iincN (i := 3) dX10_lowest_89 rfl (by decide) rfl rfl ?_ | refine rx_iinc (i := 3) dX10_lowest_89 rfl rfl (by decide) rfl rfl ?_
          refine rx_goto (tgt := 26) dX10_lowest_92 (by decide) ?_
          have hx := ih (i + 1) _ (by omega) (lwBi_eq g55 (by rw [e55] at c80; exact c80)).symm (by omega)
          rw [e55] at hx
          exact hx
      · skip
        have g55 : onT (view M 28) i < onT (view M 28) (lwF (view M 28) i) := Int32.not_le.mp c55
        have e55 : lwF (view M 28) (i + 1) = i := if_pos g55
        refine rx_iload_n (i := 3) dX10_lowest_58 rfl rfl ?_
        refine rx_istore_n (i := 1) dX10_lowest_59 rfl (by decide) rfl rfl ?_
        refine rx_iconst (0) dX10_lowest_60 rfl ?_
        refine rx_istore_n (i := 2) dX10_lowest_61 rfl (by decide) rfl rfl ?_
        refine rx_aload_n (i := 0) dX10_lowest_62 rfl rfl ?_
        refine rx_getR 28 (k := 2) fo_X10_26 kl_0 (by decide) ti_10_2 (by decide) rfl dX10_lowest_63 ?_
        refine rx_getR 34 (k := 5) fo_X10_141 kl_28 (by decide) ti_8_5 (by decide) rfl dX10_lowest_66 ?_
        refine rx_iload_n (i := 3) dX10_lowest_69 rfl rfl ?_
        refine rx_ialdN kl_34 (by omega) (by first | decide | omega) dX10_lowest_70 ?_
        refine rx_top (onT (view M 28) i) ((mkL_l e34).trans onL_T) ?_
        refine rx_aload_n (i := 0) dX10_lowest_71 rfl rfl ?_
        refine rx_getR 28 (k := 2) fo_X10_26 kl_0 (by decide) ti_10_2 (by decide) rfl dX10_lowest_72 ?_
        refine rx_getR 34 (k := 5) fo_X10_141 kl_28 (by decide) ti_8_5 (by decide) rfl dX10_lowest_75 ?_
        refine rx_iload_n (i := 1) dX10_lowest_78 rfl rfl ?_
        refine rx_ialdN kl_34 (by omega) (by first | decide | omega) dX10_lowest_79 ?_
        refine rx_top (onT (view M 28) (lwF (view M 28) (i + 1))) (by first | (rw [e55]; exact (mkL_l e34).trans onL_T) | (rw [e55]; exact (mkL_l hlw).trans onL_T)) ?_
        refine rx_icmp_ne (tgt := 89) dX10_lowest_80 (by decide) (fun c80 => ?_) (fun c80 => ?_)
        · skip
          first | refine rx_iincN (i := 3) dX10_lowest_89 rfl (by decide) rfl rfl ?_ | refine rx_iinc (i := 3) dX10_lowest_89 rfl rfl (by decide) rfl rfl ?_
          refine rx_goto (tgt := 26) dX10_lowest_92 (by decide) ?_
          exact absurd (by rw [e55]) c80
        · skip
          refine rx_iload_n (i := 2) dX10_lowest_83 rfl rfl ?_
          refine rx_iconst (1) dX10_lowest_84 rfl ?_
          refine rx_iload_n (i := 3) dX10_lowest_85 rfl rfl ?_
          refine rx_ishl dX10_lowest_86 ?_
          refine rx_ior dX10_lowest_87 ?_
          refine rx_istore_n (i := 2) dX10_lowest_88 rfl (by decide) rfl rfl ?_
          first | refine rx_iincN (i := 3) dX10_lowest_89 rfl (by decide) rfl rfl ?_ | refine rx_iinc (i := 3) dX10_lowest_89 rfl rfl (by decide) rfl rfl ?_
          refine rx_goto (tgt := 26) dX10_lowest_92 (by decide) ?_
          have hx := ih (i + 1) _ (by omega) (lwBi_lt (by omega) g55).symm (by omega)
          rw [e55] at hx
          exact hx
set_option maxRecDepth 100000 in
set_option maxHeartbeats 4000000 in
theorem c_X10_lowest {M : Mem} {n m : Nat} (w : TW M 28 n m) (hn0 : 0 < n) : Con yX10_lowest cX10_lowest 4 (some .int) 2 [.ref 0] M (fun v N => v = some (.int (nI (lwF (view M 28) n))) ∧ fcR M N ∧ row2C N (lwB (view M 28) n).toInt64 (lwD (view M 28) n m).toInt64) := by
  refine Con.of (own := RX10) (ls := [some (.ref 0), none, none, none]) rfl (by decide +kernel) (Nat.le_of_ble_eq_true rfl) rfl ?_
  have ⟨hn, hn8, hm, hm10, hd⟩ := w
  refine rx_aload_n (i := 0) dX10_lowest_0 rfl rfl ?_
  refine rx_getR 28 (k := 2) fo_X10_26 kl_0 (by decide) ti_10_2 (by decide) rfl dX10_lowest_1 ?_
  refine rx_getI (k := 15) fo_X10_184 kl_28 (by decide) ti_8_15 dX10_lowest_4 ?_
  refine rx_top (nI n) (hn) ?_
  refine rx_if_ne (tgt := 13) dX10_lowest_7 (by decide) (fun c7 => ?_) (fun c7 => ?_)
  · skip
    refine rx_aload_n (i := 0) dX10_lowest_13 rfl rfl ?_
    refine rx_getR 28 (k := 2) fo_X10_26 kl_0 (by decide) ti_10_2 (by decide) rfl dX10_lowest_14 ?_
    refine rx_cvN (ci := 8) mo_X8_makeList lk_X10_138 (c_X8_makeList it28 w) (by decide) rfl rfl (Nat.le_of_ble_eq_true rfl) kl_28 rfl dX10_lowest_17 ?_
    refine rx_iconst (0) dX10_lowest_20 rfl ?_
    refine rx_istore_n (i := 1) dX10_lowest_21 rfl (by decide) rfl rfl ?_
    refine rx_iconst (0) dX10_lowest_22 rfl ?_
    refine rx_istore_n (i := 2) dX10_lowest_23 rfl (by decide) rfl rfl ?_
    refine rx_iconst (0) dX10_lowest_24 rfl ?_
    refine rx_istore_n (i := 3) dX10_lowest_25 rfl (by decide) rfl rfl ?_
    exact l_X10_lowest w (n + 1) 0 0 (Nat.zero_le _) rfl (by omega)
  · skip
    exact absurd c7 (nI_ne0 hn0 (by omega))
    skip
set_option maxRecDepth 100000 in
set_option maxHeartbeats 4000000 in
theorem c_X10_lowest_no {M : Mem} (hn : M.1 28 15 = 0) : Fun yX10_lowest cX10_lowest 4 (some .int) 2 [.ref 0] M (some (.int (-2))) (M) := by
  refine Fun.of (own := RX10) ([some (.ref 0), none, none, none]) rfl (by decide +kernel) (Nat.le_of_ble_eq_true rfl) rfl ?_
  refine rx_aload_n (i := 0) dX10_lowest_0 rfl rfl ?_
  refine rx_getR 28 (k := 2) fo_X10_26 kl_0 (by decide) ti_10_2 (by decide) rfl dX10_lowest_1 ?_
  refine rx_getI (k := 15) fo_X10_184 kl_28 (by decide) ti_8_15 dX10_lowest_4 ?_
  refine rx_if_ne (tgt := 13) dX10_lowest_7 (by decide) (fun c7 => ?_) (fun c7 => ?_)
  · skip
    exact absurd hn c7
    skip
  · skip
    refine rx_bipush (-2) dX10_lowest_10 rfl ?_
    exact rx_fiI dX10_lowest_12 rfl rfl
theorem nsm_max {c : Nat → Nat} : ∀ {n : Nat} {i : Nat}, i < n → c i ≤ mxN c n
  | 0, i, h => absurd h (Nat.not_lt_zero _)
  | n + 1, i, h => by
    simp only [mxN]
    by_cases q : i = n
    · subst q; omega
    · have := nsm_max (c := c) (n := n) (i := i) (by omega); omega
theorem mnN_min {c : Nat → Nat} : ∀ {n : Nat} {i : Nat}, i < n → mnN c n ≤ c i
  | 0, i, h => absurd h (Nat.not_lt_zero _)
  | n + 1, i, h => by
    simp only [mnN]
    by_cases q : i = n
    · subst q; omega
    · have := mnN_min (c := c) (n := n) (i := i) (by omega); omega
theorem fsum_nI {f : Nat → Int32} {c : Nat → Nat} : ∀ {n : Nat}, (∀ i, i < n → f i = nI (c i)) → fsum f n = nI (nsm c n)
  | 0, _ => rfl
  | n + 1, h => by simp only [fsum, nsm]; rw [fsum_nI (n := n) (fun i hi => h i (by omega)), h n (by omega), nI_add]
/-- Euclid: the product of both halves in a step -/
theorem gcd_half {g l : Nat} (h0 : l ≠ 0) (h : l ≤ g) : l * (g % l) * 2 ≤ g * l := by
  have h1 : g % l < l := Nat.mod_lt _ (Nat.pos_of_ne_zero h0)
  have h2 := Nat.div_add_mod g l
  have h3 : 1 ≤ g / l := (Nat.one_le_div_iff (Nat.pos_of_ne_zero h0)).mpr h
  have h4 : l * 1 ≤ l * (g / l) := Nat.mul_le_mul_left _ h3
  have h5 : g % l * 2 ≤ g := by omega
  rw [Nat.mul_assoc, Nat.mul_comm g l]
  exact Nat.mul_le_mul_left _ h5
def gcK (i g l : Nat) : Prop := (i = 0 ∧ g < 2 ^ 62 ∧ l < 2 ^ 62) ∨ (i ≠ 0 ∧ l ≤ g ∧ g < 2 ^ 62 ∧ g * l * 2 ^ i < 2 ^ 200)
theorem gcK.lt {i g l : Nat} (h : gcK i g l) : g < 2 ^ 63 ∧ l < 2 ^ 63 := by
  rcases h with ⟨_, a, b⟩ | ⟨_, a, b, _⟩ <;> omega
theorem gcK.few {i g l : Nat} (h : gcK i g l) (h0 : l ≠ 0) : i < 200 := by
  rcases h with ⟨a, _, _⟩ | ⟨_, a, b, c⟩
  · omega
  · have h1 : 1 ≤ g * l := Nat.mul_pos (by omega) (by omega)
    have h2 : 1 * 2 ^ i ≤ g * l * 2 ^ i := Nat.mul_le_mul_right _ h1
    rw [Nat.one_mul] at h2
    exact (Nat.pow_lt_pow_iff_right (by omega : 1 < 2)).mp (Nat.lt_of_le_of_lt h2 c)
theorem gcK.next {i g l : Nat} (h : gcK i g l) (h0 : l ≠ 0) : gcK (i + 1) l (g % l) := by
  have h1 : g % l < l := Nat.mod_lt _ (Nat.pos_of_ne_zero h0)
  rcases h with ⟨a, b, c⟩ | ⟨_, a, b, c⟩
  · subst a
    refine Or.inr ⟨by omega, by omega, c, ?_⟩
    have h2 : l * (g % l) ≤ 2 ^ 62 * 2 ^ 62 := Nat.mul_le_mul (by omega) (by omega)
    have h3 : l * (g % l) * 2 ^ (0 + 1) ≤ 2 ^ 62 * 2 ^ 62 * 2 := Nat.mul_le_mul_right _ h2
    exact Nat.lt_of_le_of_lt h3 (by decide)
  · refine Or.inr ⟨by omega, by omega, by omega, ?_⟩
    have h2 := gcd_half h0 a
    rw [show 2 ^ (i + 1) = 2 * 2 ^ i from by rw [Nat.pow_succ, Nat.mul_comm], ← Nat.mul_assoc]
    exact Nat.lt_of_le_of_lt (Nat.mul_le_mul_right _ h2) c
set_option maxRecDepth 100000 in
set_option maxHeartbeats 4000000 in
theorem l_X10_commonMeasure {M : Mem} {G : Nat} {a b : Int64} : ∀ (N : Nat) (i : Nat) (g : Nat) (l : Nat), (gcK i g l) → (Nat.gcd g l = G) → (i ≤ 1000) → 1001 - i < N → Reach cX10_commonMeasure RX10 11 0 (FQ cX10_commonMeasure (some .long) (some (.long (lN G))) M) 9 [some (.long a), none, some (.long b), none, some (.long (lN g)), none, some (.long (lN l)), none, some (.int (nI i)), none, none] [] (M) := by
  intro N
  induction N with
  | zero => intro i g l hk hG hi hm; exact absurd ‹_ < 0› (Nat.not_lt_zero _)
  | succ N ih =>
    intro i g l hk hG hi hm
    refine rx_iload (i := 8) dX10_commonMeasure_9 rfl ?_
    refine rx_sipush (1000) dX10_commonMeasure_11 rfl ?_
    refine rx_top (nI 1000) (rfl) ?_
    refine rx_icmp_ge (tgt := 45) dX10_commonMeasure_14 (by decide) (fun c14 => ?_) (fun c14 => ?_)
    · skip
      have e14 : l = 0 := Decidable.byContradiction fun q => by
        have h1 := hk.few q
        have h2 := (nI_leI (by omega) (by omega)).mp c14
        omega
      refine rx_lload (i := 4) dX10_commonMeasure_45 rfl ?_
      exact rx_fiL dX10_commonMeasure_47 (by rw [← hG, e14, Nat.gcd_zero_right]) rfl
    · skip
      have e14 : i < 1000 := Nat.lt_of_not_le fun q => c14 (nI_le q (by omega))
      refine rx_lload (i := 6) dX10_commonMeasure_17 rfl ?_
      refine rx_lconst (0) dX10_commonMeasure_19 rfl ?_
      refine rx_lcmp dX10_commonMeasure_20 ?_
      refine rx_if_eq (tgt := 45) dX10_commonMeasure_21 (by decide) (fun c21 => ?_) (fun c21 => ?_)
      · skip
        have e14 : l = 0 := (pk_lEQ (b := 0) hk.lt.2 (by omega)).mp ((lg_cmp_eq _ _).mp c21)
        refine rx_lload (i := 4) dX10_commonMeasure_45 rfl ?_
        exact rx_fiL dX10_commonMeasure_47 (by rw [← hG, e14, Nat.gcd_zero_right]) rfl
      · skip
        have e21 : l ≠ 0 := fun q => c21 ((lg_cmp_eq _ _).mpr (by rw [q]; rfl))
        refine rx_lload (i := 4) dX10_commonMeasure_24 rfl ?_
        refine rx_lload (i := 6) dX10_commonMeasure_26 rfl ?_
        refine rx_lrem dX10_commonMeasure_28 (fun q => e21 ((pk_lEQ (b := 0) hk.lt.2 (by omega)).mp q)) ?_
        rw [pk_lRem hk.lt.1 (Nat.pos_of_ne_zero e21) hk.lt.2]
        refine rx_lstore (i := 9) dX10_commonMeasure_29 (by decide) rfl rfl ?_
        refine rx_lload (i := 6) dX10_commonMeasure_31 rfl ?_
        refine rx_lstore (i := 4) dX10_commonMeasure_33 (by decide) rfl rfl ?_
        refine rx_lload (i := 9) dX10_commonMeasure_35 rfl ?_
        refine rx_lstore (i := 6) dX10_commonMeasure_37 (by decide) rfl rfl ?_
        first | refine rx_iincN (i := 8) dX10_commonMeasure_39 rfl (by decide) rfl rfl ?_ | refine rx_iinc (i := 8) dX10_commonMeasure_39 rfl rfl (by decide) rfl rfl ?_
        refine rx_goto (tgt := 9) dX10_commonMeasure_42 (by decide) ?_
        refine rx_drop 9 ?_
        exact ih (i + 1) l (g % l) (hk.next e21) (by rw [← gcd_st]; exact hG) (by omega) (by omega)
set_option maxRecDepth 100000 in
set_option maxHeartbeats 4000000 in
theorem c_X10_commonMeasure {M : Mem} {a b : Nat} (ha : a < 2 ^ 62) (hb : b < 2 ^ 62) : Fun yX10_commonMeasure cX10_commonMeasure 11 (some .long) 0 [.long (lN a), .long (lN b)] M (some (.long (lN (Nat.gcd a b)))) (M) := by
  refine Fun.of (own := RX10) ([some (.long (lN a)), none, some (.long (lN b)), none, none, none, none, none, none, none, none]) rfl (by decide +kernel) (Nat.le_of_ble_eq_true rfl) rfl ?_
  refine rx_lload_n (i := 0) dX10_commonMeasure_0 rfl rfl ?_
  refine rx_lstore (i := 4) dX10_commonMeasure_1 (by decide) rfl rfl ?_
  refine rx_lload_n (i := 2) dX10_commonMeasure_3 rfl rfl ?_
  refine rx_lstore (i := 6) dX10_commonMeasure_4 (by decide) rfl rfl ?_
  refine rx_iconst (0) dX10_commonMeasure_6 rfl ?_
  refine rx_istore (i := 8) dX10_commonMeasure_7 (by decide) rfl rfl ?_
  exact l_X10_commonMeasure 1002 0 a b (Or.inl ⟨rfl, ha, hb⟩) rfl (by omega) (by omega)
set_option maxRecDepth 100000 in
set_option maxHeartbeats 4000000 in
theorem c_X10_tellFraction {M : Mem} {a b : Nat} (ha : a < 2 ^ 62) (hb : b < 2 ^ 62) (hb0 : 0 < b) : Fun yX10_tellFraction cX10_tellFraction 7 none 2 [.ref 0, .long (lN a), .long (lN b)] M (none) (r2M M (lN (a / Nat.gcd a b)) (lN (b / Nat.gcd a b))) := by
  refine Fun.of (own := RX10) ([some (.ref 0), some (.long (lN a)), none, some (.long (lN b)), none, none, none]) rfl (by decide +kernel) (Nat.le_of_ble_eq_true rfl) rfl ?_
  have hg0 : 0 < Nat.gcd a b := Nat.gcd_pos_of_pos_right _ hb0
  have hg1 : Nat.gcd a b ≤ b := Nat.gcd_le_right _ hb0
  have hnz : ¬ lN (Nat.gcd a b) = 0 := fun q => absurd ((pk_lEQ (b := 0) (by omega) (by omega)).mp q) (by omega)
  refine rx_lload_n (i := 1) dX10_tellFraction_0 rfl rfl ?_
  refine rx_lload_n (i := 3) dX10_tellFraction_1 rfl rfl ?_
  refine rx_csL mo_X10_commonMeasure lk_X10_414 (c_X10_commonMeasure ha hb) (by decide) rfl rfl (Nat.le_of_ble_eq_true rfl) dX10_tellFraction_2 ?_
  refine rx_lstore (i := 5) dX10_tellFraction_5 (by decide) rfl rfl ?_
  refine rx_lload (i := 5) dX10_tellFraction_7 rfl ?_
  refine rx_lconst (0) dX10_tellFraction_9 rfl ?_
  refine rx_lcmp dX10_tellFraction_10 ?_
  refine rx_if_le (tgt := 29) dX10_tellFraction_11 (by decide) (fun c11 => ?_) (fun c11 => ?_)
  · skip
    exact absurd ((lg_cmp_le _ _).mp c11) (Int64.not_le.mpr ((lN_pos (by omega)).mpr hg0))
    skip
  · skip
    refine rx_aload_n (i := 0) dX10_tellFraction_14 rfl rfl ?_
    refine rx_getR 4 (k := 1) fo_X10_19 kl_0 (by decide) ti_10_1 (by decide) rfl dX10_tellFraction_15 ?_
    refine rx_lload_n (i := 1) dX10_tellFraction_18 rfl rfl ?_
    refine rx_lload (i := 5) dX10_tellFraction_19 rfl ?_
    refine rx_ldiv dX10_tellFraction_21 hnz ?_
    rw [pk_lDiv (by omega) hg0 (by omega)]
    refine rx_lload_n (i := 3) dX10_tellFraction_22 rfl rfl ?_
    refine rx_lload (i := 5) dX10_tellFraction_23 rfl ?_
    refine rx_ldiv dX10_tellFraction_25 hnz ?_
    rw [pk_lDiv (by omega) hg0 (by omega)]
    refine rx_cvN (ci := 7) mo_X7_tell_ lk_X10_221 c_X7_tell_ (by decide) rfl rfl (Nat.le_of_ble_eq_true rfl) kl_4 rfl dX10_tellFraction_26 ?_
    exact rx_fiV dX10_tellFraction_29 rfl
set_option maxRecDepth 100000 in
set_option maxHeartbeats 4000000 in
theorem l_X10_spread_b {M : Mem} {n m : Nat} (w : TW M 28 n m) {c : Nat → Nat} (hc : ∀ i, i < n → M.1 29 i = nI (c i) ∧ c i ≤ 8000) {QQ : Nat → List (Option Value) → List Value → Mem → Prop} {a : Nat} (ha : a < n) {s0 s1 s2 : Int32} {p0 : Nat} (K : Reach cX10_spread RX10 8 3 QQ 132 [some (.ref 0), some (.int s0), some (.long (lN (p0 + nsm (fun b => dff (c a) (c b)) a))), none, some (.int s1), some (.int s2), some (.int (nI a)), some (.int (nI a))] [] M) : ∀ (N : Nat) (b : Nat) (p : Int64), (b ≤ a) → (p = lN (p0 + nsm (fun b => dff (c a) (c b)) b)) → a - b < N → Reach cX10_spread RX10 8 3 (QQ) 91 [some (.ref 0), some (.int s0), some (.long p), none, some (.int s1), some (.int s2), some (.int (nI a)), some (.int (nI b))] [] (M) := by
  intro N
  induction N with
  | zero => intro b p hb hp hm; exact absurd ‹_ < 0› (Nat.not_lt_zero _)
  | succ N ih =>
    intro b p hb hp hm
    have ⟨hn, hn8, hm, hm10, hd⟩ := w
    subst hp
    refine rx_iload (i := 7) dX10_spread_91 rfl ?_
    refine rx_iload (i := 6) dX10_spread_93 rfl ?_
    refine rx_icmp_ge (tgt := 132) dX10_spread_95 (by decide) (fun c95 => ?_) (fun c95 => ?_)
    · skip
      have f95 := Int32.not_lt.mpr c95
      have e95 : b = a := by have := (nI_leI (by omega) (by omega)).mp c95; omega
      subst e95
      exact K
    · skip
      have f95 := Int32.not_le.mp c95
      have e95 : b < a := Nat.lt_of_not_le fun q => c95 (nI_le q (by omega))
      have hca := hc a ha
      have hcb := hc b (by omega)
      refine rx_lload_n (i := 2) dX10_spread_98 rfl rfl ?_
      refine rx_aload_n (i := 0) dX10_spread_99 rfl rfl ?_
      refine rx_getR 28 (k := 2) fo_X10_26 kl_0 (by decide) ti_10_2 (by decide) rfl dX10_spread_100 ?_
      refine rx_getR 29 (k := 0) fo_X10_126 kl_28 (by decide) ti_8_0 (by decide) rfl dX10_spread_103 ?_
      refine rx_iload (i := 6) dX10_spread_106 rfl ?_
      refine rx_ialdN kl_29 (by omega) (by first | decide | omega) dX10_spread_108 ?_
      refine rx_top (nI (c a)) (hca.1) ?_
      refine rx_aload_n (i := 0) dX10_spread_109 rfl rfl ?_
      refine rx_getR 28 (k := 2) fo_X10_26 kl_0 (by decide) ti_10_2 (by decide) rfl dX10_spread_110 ?_
      refine rx_getR 29 (k := 0) fo_X10_126 kl_28 (by decide) ti_8_0 (by decide) rfl dX10_spread_113 ?_
      refine rx_iload (i := 7) dX10_spread_116 rfl ?_
      refine rx_ialdN kl_29 (by omega) (by first | decide | omega) dX10_spread_118 ?_
      refine rx_top (nI (c b)) (hcb.1) ?_
      refine rx_isub dX10_spread_119 ?_
      refine rx_mabs (y := 0) (List.mem_of_getElem? (i := 1249) (by decide +kernel)) (by decide) (Nat.le_of_ble_eq_true rfl) dX10_spread_120 ?_
      refine rx_top (nI (dff (c a) (c b))) (abs_d hca.2 hcb.2) ?_
      refine rx_i2l dX10_spread_123 rfl ?_
      have hdf : dff (c a) (c b) ≤ 8000 := by unfold dff; split <;> omega
      rw [nI_l (by omega)]
      refine rx_ladd dX10_spread_124 ?_
      rw [lN_add]
      refine rx_lstore_n (i := 2) dX10_spread_125 rfl (by decide) rfl rfl ?_
      first | refine rx_iincN (i := 7) dX10_spread_126 rfl (by decide) rfl rfl ?_ | refine rx_iinc (i := 7) dX10_spread_126 rfl rfl (by decide) rfl rfl ?_
      refine rx_goto (tgt := 91) dX10_spread_129 (by decide) ?_
      exact ih (b + 1) _ (by omega) (by rw [Nat.add_assoc]; rfl) (by omega)
set_option maxRecDepth 100000 in
set_option maxHeartbeats 4000000 in
theorem l_X10_spread_a {M : Mem} {n m : Nat} (w : TW M 28 n m) {c : Nat → Nat} (hc : ∀ i, i < n → M.1 29 i = nI (c i) ∧ c i ≤ 8000) {QQ : Nat → List (Option Value) → List Value → Mem → Prop} {s0 : Int32} (hn0 : 0 < n) (K : Reach cX10_spread RX10 8 3 QQ 138 [some (.ref 0), some (.int s0), some (.long (lN (aprt c n))), none, some (.int (nI (mxN c n))), some (.int (nI (mnN c n))), none, none] [] M) : ∀ (N : Nat) (a : Nat) (p : Int64) (s1 : Int32) (s2 : Int32), (a ≤ n) → (p = lN (aprt c a)) → (s1 = nI (max (c 0) (mxN c a))) → (s2 = nI (min (c 0) (mnN c a))) → n - a < N → Reach cX10_spread RX10 8 3 (QQ) 42 [some (.ref 0), some (.int s0), some (.long p), none, some (.int s1), some (.int s2), some (.int (nI a)), none] [] (M) := by
  intro N
  induction N with
  | zero => intro a p s1 s2 ha hp h1 h2 hm; exact absurd ‹_ < 0› (Nat.not_lt_zero _)
  | succ N ih =>
    intro a p s1 s2 ha hp h1 h2 hm
    have ⟨hn, hn8, hm, hm10, hd⟩ := w
    subst hp
    subst h1
    subst h2
    refine rx_iload (i := 6) dX10_spread_42 rfl ?_
    refine rx_aload_n (i := 0) dX10_spread_44 rfl rfl ?_
    refine rx_getR 28 (k := 2) fo_X10_26 kl_0 (by decide) ti_10_2 (by decide) rfl dX10_spread_45 ?_
    refine rx_getI (k := 15) fo_X10_184 kl_28 (by decide) ti_8_15 dX10_spread_48 ?_
    refine rx_top (nI n) (hn) ?_
    refine rx_icmp_ge (tgt := 138) dX10_spread_51 (by decide) (fun c51 => ?_) (fun c51 => ?_)
    · skip
      have f51 := Int32.not_lt.mpr c51
      have e51 : a = n := by have := (nI_leI (by omega) (by omega)).mp c51; omega
      subst e51
      rw [Nat.max_eq_right (nsm_max hn0), Nat.min_eq_right (mnN_min hn0)]
      refine rx_drop 6 ?_
      exact K
    · skip
      have f51 := Int32.not_le.mp c51
      have e51 : a < n := Nat.lt_of_not_le fun q => c51 (nI_le q (by omega))
      have hca := hc a e51
      have hc0 := hc 0 hn0
      have hmx := mxN_le (f := c) (K := 8000) (n := a) (fun i hi => (hc i (by omega)).2)
      have hmn := mnN_le (f := c) (n := a)
      refine rx_iload (i := 4) dX10_spread_54 rfl ?_
      refine rx_aload_n (i := 0) dX10_spread_56 rfl rfl ?_
      refine rx_getR 28 (k := 2) fo_X10_26 kl_0 (by decide) ti_10_2 (by decide) rfl dX10_spread_57 ?_
      refine rx_getR 29 (k := 0) fo_X10_126 kl_28 (by decide) ti_8_0 (by decide) rfl dX10_spread_60 ?_
      refine rx_iload (i := 6) dX10_spread_63 rfl ?_
      refine rx_ialdN kl_29 (by omega) (by first | decide | omega) dX10_spread_65 ?_
      refine rx_top (nI (c a)) (hca.1) ?_
      refine rx_mmax (List.mem_of_getElem? (i := 756) (by decide +kernel)) (by decide) (Nat.le_of_ble_eq_true rfl) dX10_spread_66 ?_
      refine rx_top (nI (max (c 0) (mxN c (a + 1)))) ((mx2 (by omega) (by omega)).trans (by rw [Nat.max_assoc]; rfl)) ?_
      refine rx_istore (i := 4) dX10_spread_69 (by decide) rfl rfl ?_
      refine rx_iload (i := 5) dX10_spread_71 rfl ?_
      refine rx_aload_n (i := 0) dX10_spread_73 rfl rfl ?_
      refine rx_getR 28 (k := 2) fo_X10_26 kl_0 (by decide) ti_10_2 (by decide) rfl dX10_spread_74 ?_
      refine rx_getR 29 (k := 0) fo_X10_126 kl_28 (by decide) ti_8_0 (by decide) rfl dX10_spread_77 ?_
      refine rx_iload (i := 6) dX10_spread_80 rfl ?_
      refine rx_ialdN kl_29 (by omega) (by first | decide | omega) dX10_spread_82 ?_
      refine rx_top (nI (c a)) (hca.1) ?_
      refine rx_mmin (List.mem_of_getElem? (i := 755) (by decide +kernel)) (by decide) (Nat.le_of_ble_eq_true rfl) dX10_spread_83 ?_
      refine rx_top (nI (min (c 0) (mnN c (a + 1)))) ((mn2 (by omega) (by omega)).trans (by rw [Nat.min_assoc]; rfl)) ?_
      refine rx_istore (i := 5) dX10_spread_86 (by decide) rfl rfl ?_
      refine rx_iconst (0) dX10_spread_88 rfl ?_
      refine rx_istore (i := 7) dX10_spread_89 (by decide) rfl rfl ?_
      refine l_X10_spread_b w hc e51 (p0 := aprt c a) ?_ (a + 1) 0 _ (Nat.zero_le _) rfl (by omega)
      refine rx_iincN (i := 6) dX10_spread_132 rfl (by decide) rfl rfl ?_
      refine rx_goto (tgt := 42) dX10_spread_135 (by decide) ?_
      refine rx_drop 7 ?_
      exact ih (a + 1) _ _ _ (by omega) rfl rfl rfl (by omega)
def row4C (N : Mem) (a b c d : Int64) : Prop := N.1 4 1 = 4 ∧ N.2.1 5 0 = a ∧ N.2.1 5 1 = b ∧ N.2.1 5 2 = c ∧ N.2.1 5 3 = d
theorem r4_row {M : Mem} {a b c d : Int64} : row4C (adR (adR (r2M M a b) 2 c) 3 d) a b c d := by simp [row4C, r2M, adR, setI, setJ]; rfl
set_option maxRecDepth 100000 in
set_option maxHeartbeats 4000000 in
theorem c_X10_spread {M : Mem} {n m : Nat} (w : TW M 28 n m) {c : Nat → Nat} (hc : ∀ i, i < n → M.1 29 i = nI (c i) ∧ c i ≤ 8000) : Con yX10_spread cX10_spread 8 (some .int) 3 [.ref 0] M (fun v N => (nsm c n = 0 ∧ v = some (.int (-2)) ∧ N = M) ∨ (nsm c n ≠ 0 ∧ v = some (.int 0) ∧ fcR M N ∧ row4C N (lN (aprt c n / Nat.gcd (aprt c n) (n * nsm c n))) (lN (n * nsm c n / Nat.gcd (aprt c n) (n * nsm c n))) (nI (mxN c n)).toInt64 (nI (mnN c n)).toInt64)) := by
  refine Con.of (own := RX10) (ls := [some (.ref 0), none, none, none, none, none, none, none]) rfl (by decide +kernel) (Nat.le_of_ble_eq_true rfl) rfl ?_
  have ⟨hn, hn8, hm, hm10, hd⟩ := w
  have hsm : nsm c n ≤ 64000 := Nat.le_trans (nsm_le (fun i hi => (hc i hi).2)) (by omega)
  have hap : aprt c n ≤ 8 * 64000 := Nat.le_trans (nsm_le (K := 64000) (fun a ha => Nat.le_trans (nsm_le (K := 8000) (fun b hb => by unfold dff; have := (hc a ha).2; have := (hc b (by omega)).2; split <;> omega)) (by omega))) (Nat.mul_le_mul_right _ hn8)
  refine rx_aload_n (i := 0) dX10_spread_0 rfl rfl ?_
  refine rx_getR 28 (k := 2) fo_X10_26 kl_0 (by decide) ti_10_2 (by decide) rfl dX10_spread_1 ?_
  refine rx_cvI (ci := 8) mo_X8_allCoin lk_X10_405 (c_X8_allCoin it28 w) (by decide) rfl rfl (Nat.le_of_ble_eq_true rfl) kl_28 rfl dX10_spread_4 ?_
  refine rx_top (nI (nsm c n)) (fsum_nI fun i hi => (hc i hi).1) ?_
  refine rx_istore_n (i := 1) dX10_spread_7 rfl (by decide) rfl rfl ?_
  refine rx_iload_n (i := 1) dX10_spread_8 rfl rfl ?_
  refine rx_if_ne (tgt := 15) dX10_spread_9 (by decide) (fun c9 => ?_) (fun c9 => ?_)
  · skip
    have e9 : nsm c n ≠ 0 := fun q => c9 (by rw [q]; rfl)
    have hn1 : 0 < n := by
      rcases Nat.eq_zero_or_pos n with q | q
      · rw [q] at e9; exact absurd rfl e9
      · exact q
    have hc0 := hc 0 hn1
    have hpos : 0 < n * nsm c n := Nat.mul_pos hn1 (Nat.pos_of_ne_zero e9)
    have hmul : n * nsm c n ≤ 8 * 64000 := Nat.mul_le_mul hn8 hsm
    refine rx_lconst (0) dX10_spread_15 rfl ?_
    refine rx_lstore_n (i := 2) dX10_spread_16 rfl (by decide) rfl rfl ?_
    refine rx_aload_n (i := 0) dX10_spread_17 rfl rfl ?_
    refine rx_getR 28 (k := 2) fo_X10_26 kl_0 (by decide) ti_10_2 (by decide) rfl dX10_spread_18 ?_
    refine rx_getR 29 (k := 0) fo_X10_126 kl_28 (by decide) ti_8_0 (by decide) rfl dX10_spread_21 ?_
    refine rx_iconst (0) dX10_spread_24 rfl ?_
    refine rx_ialdN (k := 0) kl_29 (by omega) (by first | decide | omega) dX10_spread_25 ?_
    refine rx_top (nI (max (c 0) (mxN c 0))) (hc0.1.trans (by rw [show mxN c 0 = 0 from rfl, Nat.max_eq_left (Nat.zero_le _)])) ?_
    refine rx_istore (i := 4) dX10_spread_26 (by decide) rfl rfl ?_
    refine rx_aload_n (i := 0) dX10_spread_28 rfl rfl ?_
    refine rx_getR 28 (k := 2) fo_X10_26 kl_0 (by decide) ti_10_2 (by decide) rfl dX10_spread_29 ?_
    refine rx_getR 29 (k := 0) fo_X10_126 kl_28 (by decide) ti_8_0 (by decide) rfl dX10_spread_32 ?_
    refine rx_iconst (0) dX10_spread_35 rfl ?_
    refine rx_ialdN (k := 0) kl_29 (by omega) (by first | decide | omega) dX10_spread_36 ?_
    refine rx_top (nI (min (c 0) (mnN c 0))) (hc0.1.trans (by rw [show mnN c 0 = 1000000000 from rfl, Nat.min_eq_left (by omega)])) ?_
    refine rx_istore (i := 5) dX10_spread_37 (by decide) rfl rfl ?_
    refine rx_iconst (0) dX10_spread_39 rfl ?_
    refine rx_istore (i := 6) dX10_spread_40 (by decide) rfl rfl ?_
    refine l_X10_spread_a w hc hn1 ?_ (n + 1) 0 0 _ _ (Nat.zero_le _) rfl rfl rfl (by omega)
    refine rx_aload_n (i := 0) dX10_spread_138 rfl rfl ?_
    refine rx_lload_n (i := 2) dX10_spread_139 rfl rfl ?_
    refine rx_aload_n (i := 0) dX10_spread_140 rfl rfl ?_
    refine rx_getR 28 (k := 2) fo_X10_26 kl_0 (by decide) ti_10_2 (by decide) rfl dX10_spread_141 ?_
    refine rx_getI (k := 15) fo_X10_184 kl_28 (by decide) ti_8_15 dX10_spread_144 ?_
    refine rx_top (nI n) (hn) ?_
    refine rx_i2l dX10_spread_147 rfl ?_
    refine rx_topL (lN n) (nI_l (by omega)) ?_
    refine rx_iload_n (i := 1) dX10_spread_148 rfl rfl ?_
    refine rx_i2l dX10_spread_149 rfl ?_
    refine rx_topL (lN (nsm c n)) (nI_l (by omega)) ?_
    refine rx_lmul dX10_spread_150 ?_
    rw [lN_mul]
    refine rx_cvN (ci := 10) mo_X10_tellFraction lk_X10_411 (c_X10_tellFraction (by omega) (by omega) hpos) (by decide) rfl rfl (Nat.le_of_ble_eq_true rfl) kl_0 rfl dX10_spread_151 ?_
    refine rx_aload_n (i := 0) dX10_spread_154 rfl rfl ?_
    refine rx_getR 4 (k := 1) fo_X10_19 kl_0 (by decide) ti_10_1 (by decide) rfl dX10_spread_155 ?_
    refine rx_iload (i := 4) dX10_spread_158 rfl ?_
    refine rx_i2l dX10_spread_160 rfl ?_
    refine rx_cvN (ci := 7) mo_X7_add lk_X10_330 (c_X7_add (s := 2) (by rw [show (2 : Nat) = 1 + 1 from rfl]; exact sI_eq) (by omega)) (by decide) rfl rfl (Nat.le_of_ble_eq_true rfl) kl_4 rfl dX10_spread_161 ?_
    refine rx_aload_n (i := 0) dX10_spread_164 rfl rfl ?_
    refine rx_getR 4 (k := 1) fo_X10_19 kl_0 (by decide) ti_10_1 (by decide) rfl dX10_spread_165 ?_
    refine rx_iload (i := 5) dX10_spread_168 rfl ?_
    refine rx_i2l dX10_spread_170 rfl ?_
    refine rx_cvN (ci := 7) mo_X7_add lk_X10_330 (c_X7_add (s := 3) (by rw [show (3 : Nat) = 2 + 1 from rfl]; exact sI_eq) (by omega)) (by decide) rfl rfl (Nat.le_of_ble_eq_true rfl) kl_4 rfl dX10_spread_171 ?_
    refine rx_iconst (0) dX10_spread_174 rfl ?_
    exact rx_iret dX10_spread_175 (Or.inr ⟨e9, rfl, fcR_r2.trans (fcR_ad.trans fcR_ad), r4_row⟩)
  · skip
    have e9 : nsm c n = 0 := Decidable.byContradiction fun q => nI_ne0 (Nat.pos_of_ne_zero q) (by omega) c9
    refine rx_bipush (-2) dX10_spread_12 rfl ?_
    exact rx_iret dX10_spread_14 (Or.inl ⟨e9, rfl, rfl⟩)
