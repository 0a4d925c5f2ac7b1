/-- the state of the rule's reader -/
abbrev RSt : Type := (Nat → Int32) × Nat × (Nat → Int32) × Nat × (Nat → Int32) × Nat × Nat × Int32
def rMs (M : Mem) (s : RSt) : Mem := rM M s.1 s.2.1 s.2.2.1 s.2.2.2.1 s.2.2.2.2.1 s.2.2.2.2.2.1 s.2.2.2.2.2.2.1 s.2.2.2.2.2.2.2
/-- a sign where a thing is wanted -/
def thS (x : Int32) (s : RSt) : Bool × RSt := match s with
  | (St, z, Wt, nw, Cp, dp, dg, wt) =>
    if x = 45 then (true, St, z, upd Wt nw 2007, nw + 1, Cp, dp, dg, wt)
    else if x = 40 then (if dp < 4 then (true, St, z, upd Wt nw 2008, nw + 1, upd Cp (dp + 1) 0, dp + 1, dg, wt) else (false, St, z, Wt, nw, Cp, dp, dg, wt))
    else if strIx 0 x < 0 ∧ dig x = false then (false, St, z, Wt, nw, Cp, dp, dg, wt)
    else (true, upd St z (if dig x = true then x - 48 else 1000 + strIx 0 x), z + 1, Wt, nw, Cp, dp, (if dig x = true then 1 else 0), 0)
/-- a sign behind a thing -/
def beS (x : Int32) (s : RSt) : Bool × RSt := match s with
  | (St, z, Wt, nw, Cp, dp, dg, wt) =>
    if dig x = true then (if 1 ≤ dg ∧ dg ≤ 2 then (true, upd St (z - 1) (St (z - 1) * 10 + (x - 48)), z, Wt, nw, Cp, dp, dg + 1, wt) else (false, St, z, Wt, nw, Cp, dp, dg, wt))
    else if x = 41 then (if 1 ≤ dp then (true, (stl 1 Wt nw St z).1, (stl 1 Wt nw St z).2.1, Wt, (stl 1 Wt nw St z).2.2 - 1, Cp, dp - 1, 0, wt) else (false, St, z, Wt, nw, Cp, dp, 0, wt))
    else if strIx 1 x < 0 ∨ (strIx 1 x < 3 ∧ ¬ Cp dp = 0) then (false, St, z, Wt, nw, Cp, dp, 0, wt)
    else (true, (stl (strg (2000 + strIx 1 x)) Wt nw St z).1, (stl (strg (2000 + strIx 1 x)) Wt nw St z).2.1, upd Wt (stl (strg (2000 + strIx 1 x)) Wt nw St z).2.2 (2000 + strIx 1 x), (stl (strg (2000 + strIx 1 x)) Wt nw St z).2.2 + 1, upd Cp dp (if ¬ Cp dp = 0 ∨ strIx 1 x < 3 then 1 else 0), dp, 0, 1)
/-- what stays true of it behind i signs -/
def rOK (i : Nat) (s : RSt) : Prop := s.2.1 + s.2.2.2.1 ≤ i ∧ s.2.2.2.2.2.1 ≤ 4 ∧ s.2.2.2.2.2.2.1 ≤ 3 ∧ (1 ≤ s.2.2.2.2.2.2.1 → 1 ≤ s.2.1) ∧ (s.2.2.2.2.2.2.2 = 0 ∨ s.2.2.2.2.2.2.2 = 1)
theorem thS_ok {x : Int32} {i : Nat} {s : RSt} (h : rOK i s) (hw : s.2.2.2.2.2.2.2 = 1) : rOK (i + 1) (thS x s).2 := by
  obtain ⟨St, z, Wt, nw, Cp, dp, dg, wt⟩ := s
  obtain ⟨h1, h2, h3, h4, h5⟩ := h
  simp only at h1 h2 h3 h4 h5
  simp only [thS]
  split
  · exact ⟨by simp only; omega, h2, h3, h4, h5⟩
  · split
    · split
      · exact ⟨by simp only; omega, by simp only; omega, h3, h4, h5⟩
      · exact ⟨by simp only; omega, h2, h3, h4, h5⟩
    · split
      · exact ⟨by simp only; omega, h2, h3, h4, h5⟩
      · exact ⟨by simp only; omega, h2, by simp only; split <;> omega, by simp only; omega, Or.inl rfl⟩
theorem beS_ok {x : Int32} {i : Nat} {s : RSt} (h : rOK i s) : rOK (i + 1) (beS x s).2 := by
  obtain ⟨St, z, Wt, nw, Cp, dp, dg, wt⟩ := s
  obtain ⟨h1, h2, h3, h4, h5⟩ := h
  simp only at h1 h2 h3 h4 h5
  have hs1 := stl_le (least := 1) (Wt := Wt) (n := nw) (St := St) (z := z)
  have hs2 := stl_le (least := strg (2000 + strIx 1 x)) (Wt := Wt) (n := nw) (St := St) (z := z)
  simp only [beS]
  split
  · split
    · next c => exact ⟨by simp only; omega, h2, by simp only; omega, by simp only; omega, h5⟩
    · exact ⟨by simp only; omega, h2, h3, h4, h5⟩
  · split
    · split
      · exact ⟨by simp only; omega, by simp only; omega, by simp only; omega, by simp only; omega, h5⟩
      · exact ⟨by simp only; omega, h2, by simp only; omega, by simp only; omega, h5⟩
    · split
      · exact ⟨by simp only; omega, h2, by simp only; omega, by simp only; omega, h5⟩
      · exact ⟨by simp only; omega, h2, by simp only; omega, by simp only; omega, Or.inr rfl⟩
theorem i2c_id {x : Int32} (h0 : 0 ≤ x) (h1 : x ≤ 255) : (x.toUInt32 % 65536).toInt32 = x := by
  obtain ⟨k, hk, rfl⟩ := nI_of (Int32.not_lt.mpr h0)
  have hk2 : k ≤ 255 := (nI_leI (b := 255) hk (by omega)).mp h1
  exact (by decide +kernel : ∀ k, k ≤ 255 → ((nI k).toUInt32 % 65536).toInt32 = nI k) k hk2
theorem strIx_le : ∀ i, i < 2 → ∀ k, k ≤ 255 → -1 ≤ strIx i (nI k) ∧ strIx i (nI k) ≤ 7 := by decide +kernel
set_option maxRecDepth 100000 in
set_option maxHeartbeats 4000000 in
theorem c_X4_start {M : Mem} : Fun yX4_start cX4_start 1 none 0 [.ref 10] M (none) (rM M (M.1 11) 0 (M.1 12) 0 (upd (M.1 13) 0 0) 0 0 1) := by
  refine Fun.of (own := RX4) ([some (.ref 10)]) rfl (by decide +kernel) (Nat.le_of_ble_eq_true rfl) rfl ?_
  refine rx_aload_n (i := 0) dX4_start_0 rfl rfl ?_
  refine rx_iconst (0) dX4_start_1 rfl ?_
  refine rx_putI (k := 3) fo_X4_60 fn_4_3 kl_10 (by decide) ty_4_3 dX4_start_2 ?_
  refine rx_aload_n (i := 0) dX4_start_5 rfl rfl ?_
  refine rx_iconst (0) dX4_start_6 rfl ?_
  refine rx_putI (k := 4) fo_X4_63 fn_4_4 kl_10 (by decide) ty_4_4 dX4_start_7 ?_
  refine rx_aload_n (i := 0) dX4_start_10 rfl rfl ?_
  refine rx_iconst (0) dX4_start_11 rfl ?_
  refine rx_putI (k := 5) fo_X4_52 fn_4_5 kl_10 (by decide) ty_4_5 dX4_start_12 ?_
  refine rx_aload_n (i := 0) dX4_start_15 rfl rfl ?_
  refine rx_iconst (0) dX4_start_16 rfl ?_
  refine rx_putI (k := 6) fo_X4_66 fn_4_6 kl_10 (by decide) ty_4_6 dX4_start_17 ?_
  refine rx_aload_n (i := 0) dX4_start_20 rfl rfl ?_
  refine rx_iconst (1) dX4_start_21 rfl ?_
  refine rx_putZ (k := 7) fo_X4_41 fn_4_7 kl_10 (by decide) ty_4_7 (by first | exact Or.inl rfl | exact Or.inr rfl) dX4_start_22 ?_
  refine rx_aload_n (i := 0) dX4_start_25 rfl rfl ?_
  refine rx_getR 13 (k := 2) fo_X4_18 kl_10 (by decide) ti_4_2 (by decide) rfl dX4_start_26 ?_
  refine rx_iconst (0) dX4_start_29 rfl ?_
  refine rx_iconst (0) dX4_start_30 rfl ?_
  refine rx_zastN (k := 0) kl_13 (by omega) (by first | decide | omega) (by first | exact Or.inl rfl | exact Or.inr rfl) dX4_start_31 ?_
  exact rx_fiV dX4_start_32 (by
    refine Prod.ext ?_ rfl
    funext a j
    simp only [setI, rM, upd]
    by_cases h13 : a = 13
    · subst h13; simp
    · by_cases h10 : a = 10
      · subst h10
        by_cases j3 : j = 3
        · subst j3; rfl
        · by_cases j4 : j = 4
          · subst j4; rfl
          · by_cases j5 : j = 5
            · subst j5; rfl
            · by_cases j6 : j = 6
              · subst j6; rfl
              · by_cases j7 : j = 7
                · subst j7; rfl
                · simp [j3, j4, j5, j6, j7]
      · by_cases h11 : a = 11
        · subst h11; simp
        · by_cases h12 : a = 12
          · subst h12; simp
          · simp [h10, h11, h12, h13])
set_option maxRecDepth 100000 in
set_option maxHeartbeats 4000000 in
theorem c_X4_takesThing {M : Mem} {St : Nat → Int32} {z : Nat} {Wt : Nat → Int32} {nw : Nat} {Cp : Nat → Int32} {dp dg : Nat} {wt : Int32} {x : Int32} (h0 : 0 ≤ x) (h1 : x ≤ 255) {i : Nat} (hi : i < 40) (hr : rOK i (St, z, Wt, nw, Cp, dp, dg, wt)) : Fun yX4_takesThing cX4_takesThing 4 (some .boolean) 7 [.ref 10, .int x] (rM M St z Wt nw Cp dp dg wt) (some (.int (zI (thS x (St, z, Wt, nw, Cp, dp, dg, wt)).1))) (rMs M (thS x (St, z, Wt, nw, Cp, dp, dg, wt)).2) := by
  refine Fun.of (own := RX4) ([some (.ref 10), some (.int x), none, none]) rfl (by decide +kernel) (Nat.le_of_ble_eq_true rfl) rfl ?_
  obtain ⟨g1, g2, g3, g4, g5⟩ := id hr
  simp only at g1 g2 g3 g4 g5
  obtain ⟨r0, hr0⟩ : ∃ r0, thS x (St, z, Wt, nw, Cp, dp, dg, wt) = r0 := ⟨_, rfl⟩
  rw [hr0]
  simp only [thS] at hr0
  refine rx_iload_n (i := 1) dX4_takesThing_0 rfl rfl ?_
  refine rx_bipush (45) dX4_takesThing_1 rfl ?_
  refine rx_icmp_ne (tgt := 15) dX4_takesThing_3 (by decide) (fun c3 => ?_) (fun c3 => ?_)
  · skip
    rw [if_neg c3] at hr0
    refine rx_iload_n (i := 1) dX4_takesThing_15 rfl rfl ?_
    refine rx_bipush (40) dX4_takesThing_16 rfl ?_
    refine rx_icmp_ne (tgt := 26) dX4_takesThing_18 (by decide) (fun c18 => ?_) (fun c18 => ?_)
    · skip
      rw [if_neg c18] at hr0
      refine rx_ldsA dX4_takesThing_26 ?_
      refine rx_iload_n (i := 1) dX4_takesThing_28 rfl rfl ?_
      refine rx_i2c dX4_takesThing_29 rfl ?_
      refine rx_top x (i2c_id h0 h1) ?_
      refine rx_ctI (i := 0) mo_J0_indexOf_0f7a4 lk_X4_78 (c_J0_indexOf_0f7a4 (i := 0) (by decide) h0 h1) (by decide) rfl rfl (Nat.le_of_ble_eq_true rfl) (by decide) rfl dX4_takesThing_30 ?_
      refine rx_istore_n (i := 2) dX4_takesThing_33 rfl (by decide) rfl rfl ?_
      refine rx_iload_n (i := 1) dX4_takesThing_34 rfl rfl ?_
      refine rx_csI mo_X9_isDigit lk_X4_83 c_X9_isDigit (by decide) rfl rfl (Nat.le_of_ble_eq_true rfl) dX4_takesThing_35 ?_
      refine rx_istore_n (i := 3) dX4_takesThing_38 rfl (by decide) rfl rfl ?_
      refine rx_iload_n (i := 2) dX4_takesThing_39 rfl rfl ?_
      refine rx_if_ge (tgt := 49) dX4_takesThing_40 (by decide) (fun c40 => ?_) (fun c40 => ?_)
      · skip
        have f40 := Int32.not_lt.mpr c40
        have e40 : ¬ strIx 0 x < 0 := f40
        rw [if_neg (fun q => e40 q.1)] at hr0
        subst hr0
        refine rx_aload_n (i := 0) dX4_takesThing_49 rfl rfl ?_
        refine rx_iload_n (i := 3) dX4_takesThing_50 rfl rfl ?_
        refine rx_if_eq (tgt := 61) dX4_takesThing_51 (by decide) (fun c51 => ?_) (fun c51 => ?_)
        · skip
          have e51 : dig x = false := zI_0.mp c51
          refine rx_sipush (1000) dX4_takesThing_61 rfl ?_
          refine rx_iload_n (i := 2) dX4_takesThing_64 rfl rfl ?_
          refine rx_iadd dX4_takesThing_65 ?_
          refine rx_cvN (ci := 4) mo_X4_put lk_X4_88 (c_X4_put (by omega)) (by decide) rfl rfl (Nat.le_of_ble_eq_true rfl) kl_10 rfl dX4_takesThing_66 ?_
          refine rx_aload_n (i := 0) dX4_takesThing_69 rfl rfl ?_
          refine rx_iload_n (i := 3) dX4_takesThing_70 rfl rfl ?_
          refine rx_if_eq (tgt := 78) dX4_takesThing_71 (by decide) (fun c71 => ?_) (fun c71 => absurd c51 c71)
          refine rx_iconst (0) dX4_takesThing_78 rfl ?_
          refine rx_top (nI 0) rfl ?_
          refine rx_putI (k := 6) fo_X4_66 fn_4_6 kl_10 (by decide) ty_4_6 dX4_takesThing_79 ?_
          rw [rM_dg]
          refine rx_aload_n (i := 0) dX4_takesThing_82 rfl rfl ?_
          refine rx_iconst (0) dX4_takesThing_83 rfl ?_
          refine rx_putZ (k := 7) fo_X4_41 fn_4_7 kl_10 (by decide) ty_4_7 (by first | exact Or.inl rfl | exact Or.inr rfl) dX4_takesThing_84 ?_
          rw [rM_wt]
          refine rx_iconst (1) dX4_takesThing_87 rfl ?_
          exact rx_fiZ dX4_takesThing_88 (Or.inr rfl) rfl (by simp only [rMs, e51]; rfl)
        · skip
          have e51 : dig x = true := Decidable.byContradiction fun q => c51 (zI_0.mpr (by simpa using q))
          refine rx_iload_n (i := 1) dX4_takesThing_54 rfl rfl ?_
          refine rx_bipush (48) dX4_takesThing_55 rfl ?_
          refine rx_isub dX4_takesThing_57 ?_
          refine rx_goto (tgt := 66) dX4_takesThing_58 (by decide) ?_
          refine rx_cvN (ci := 4) mo_X4_put lk_X4_88 (c_X4_put (by omega)) (by decide) rfl rfl (Nat.le_of_ble_eq_true rfl) kl_10 rfl dX4_takesThing_66 ?_
          refine rx_aload_n (i := 0) dX4_takesThing_69 rfl rfl ?_
          refine rx_iload_n (i := 3) dX4_takesThing_70 rfl rfl ?_
          refine rx_if_eq (tgt := 78) dX4_takesThing_71 (by decide) (fun c71 => absurd c71 c51) (fun c71 => ?_)
          refine rx_iconst (1) dX4_takesThing_74 rfl ?_
          refine rx_top (nI 1) rfl ?_
          refine rx_goto (tgt := 79) dX4_takesThing_75 (by decide) ?_
          refine rx_putI (k := 6) fo_X4_66 fn_4_6 kl_10 (by decide) ty_4_6 dX4_takesThing_79 ?_
          rw [rM_dg]
          refine rx_aload_n (i := 0) dX4_takesThing_82 rfl rfl ?_
          refine rx_iconst (0) dX4_takesThing_83 rfl ?_
          refine rx_putZ (k := 7) fo_X4_41 fn_4_7 kl_10 (by decide) ty_4_7 (by first | exact Or.inl rfl | exact Or.inr rfl) dX4_takesThing_84 ?_
          rw [rM_wt]
          refine rx_iconst (1) dX4_takesThing_87 rfl ?_
          exact rx_fiZ dX4_takesThing_88 (Or.inr rfl) rfl (by simp only [rMs, e51]; rfl)
      · skip
        have f40 := Int32.not_le.mp c40
        have e40 : strIx 0 x < 0 := f40
        refine rx_iload_n (i := 3) dX4_takesThing_43 rfl rfl ?_
        refine rx_if_ne (tgt := 49) dX4_takesThing_44 (by decide) (fun c44 => ?_) (fun c44 => ?_)
        · skip
          have e44 : dig x = true := Decidable.byContradiction fun q => c44 (zI_0.mpr (by simpa using q))
          rw [if_neg (fun q => by rw [e44] at q; exact absurd q.2 (by decide))] at hr0
          subst hr0
          refine rx_aload_n (i := 0) dX4_takesThing_49 rfl rfl ?_
          refine rx_iload_n (i := 3) dX4_takesThing_50 rfl rfl ?_
          refine rx_if_eq (tgt := 61) dX4_takesThing_51 (by decide) (fun c51 => ?_) (fun c51 => ?_)
          · skip
            have e51 : dig x = false := zI_0.mp c51
            refine rx_sipush (1000) dX4_takesThing_61 rfl ?_
            refine rx_iload_n (i := 2) dX4_takesThing_64 rfl rfl ?_
            refine rx_iadd dX4_takesThing_65 ?_
            refine rx_cvN (ci := 4) mo_X4_put lk_X4_88 (c_X4_put (by omega)) (by decide) rfl rfl (Nat.le_of_ble_eq_true rfl) kl_10 rfl dX4_takesThing_66 ?_
            refine rx_aload_n (i := 0) dX4_takesThing_69 rfl rfl ?_
            refine rx_iload_n (i := 3) dX4_takesThing_70 rfl rfl ?_
            refine rx_if_eq (tgt := 78) dX4_takesThing_71 (by decide) (fun c71 => ?_) (fun c71 => absurd c51 c71)
            refine rx_iconst (0) dX4_takesThing_78 rfl ?_
            refine rx_top (nI 0) rfl ?_
            refine rx_putI (k := 6) fo_X4_66 fn_4_6 kl_10 (by decide) ty_4_6 dX4_takesThing_79 ?_
            rw [rM_dg]
            refine rx_aload_n (i := 0) dX4_takesThing_82 rfl rfl ?_
            refine rx_iconst (0) dX4_takesThing_83 rfl ?_
            refine rx_putZ (k := 7) fo_X4_41 fn_4_7 kl_10 (by decide) ty_4_7 (by first | exact Or.inl rfl | exact Or.inr rfl) dX4_takesThing_84 ?_
            rw [rM_wt]
            refine rx_iconst (1) dX4_takesThing_87 rfl ?_
            exact rx_fiZ dX4_takesThing_88 (Or.inr rfl) rfl (by simp only [rMs, e51]; rfl)
          · skip
            have e51 : dig x = true := Decidable.byContradiction fun q => c51 (zI_0.mpr (by simpa using q))
            refine rx_iload_n (i := 1) dX4_takesThing_54 rfl rfl ?_
            refine rx_bipush (48) dX4_takesThing_55 rfl ?_
            refine rx_isub dX4_takesThing_57 ?_
            refine rx_goto (tgt := 66) dX4_takesThing_58 (by decide) ?_
            refine rx_cvN (ci := 4) mo_X4_put lk_X4_88 (c_X4_put (by omega)) (by decide) rfl rfl (Nat.le_of_ble_eq_true rfl) kl_10 rfl dX4_takesThing_66 ?_
            refine rx_aload_n (i := 0) dX4_takesThing_69 rfl rfl ?_
            refine rx_iload_n (i := 3) dX4_takesThing_70 rfl rfl ?_
            refine rx_if_eq (tgt := 78) dX4_takesThing_71 (by decide) (fun c71 => absurd c71 c51) (fun c71 => ?_)
            refine rx_iconst (1) dX4_takesThing_74 rfl ?_
            refine rx_top (nI 1) rfl ?_
            refine rx_goto (tgt := 79) dX4_takesThing_75 (by decide) ?_
            refine rx_putI (k := 6) fo_X4_66 fn_4_6 kl_10 (by decide) ty_4_6 dX4_takesThing_79 ?_
            rw [rM_dg]
            refine rx_aload_n (i := 0) dX4_takesThing_82 rfl rfl ?_
            refine rx_iconst (0) dX4_takesThing_83 rfl ?_
            refine rx_putZ (k := 7) fo_X4_41 fn_4_7 kl_10 (by decide) ty_4_7 (by first | exact Or.inl rfl | exact Or.inr rfl) dX4_takesThing_84 ?_
            rw [rM_wt]
            refine rx_iconst (1) dX4_takesThing_87 rfl ?_
            exact rx_fiZ dX4_takesThing_88 (Or.inr rfl) rfl (by simp only [rMs, e51]; rfl)
        · skip
          have e44 : dig x = false := zI_0.mp c44
          rw [if_pos ⟨e40, e44⟩] at hr0
          subst hr0
          refine rx_iconst (0) dX4_takesThing_47 rfl ?_
          exact rx_fiZ dX4_takesThing_48 (Or.inl rfl) rfl rfl
    · skip
      rw [if_pos c18] at hr0
      by_cases hdp : dp < 4
      · skip
        rw [if_pos hdp] at hr0
        subst hr0
        refine rx_aload_n (i := 0) dX4_takesThing_21 rfl rfl ?_
        refine rx_cvI (ci := 4) mo_X4_opens lk_X4_72 (c_X4_opens hdp (by omega)) (by decide) rfl rfl (Nat.le_of_ble_eq_true rfl) kl_10 rfl dX4_takesThing_22 ?_
        exact rx_fiZ dX4_takesThing_25 (Or.inr rfl) rfl rfl
      · skip
        rw [if_neg hdp] at hr0
        subst hr0
        refine rx_aload_n (i := 0) dX4_takesThing_21 rfl rfl ?_
        refine rx_cvI (ci := 4) mo_X4_opens lk_X4_72 (c_X4_opens_no (by omega)) (by decide) rfl rfl (Nat.le_of_ble_eq_true rfl) kl_10 rfl dX4_takesThing_22 ?_
        exact rx_fiZ dX4_takesThing_25 (Or.inl rfl) rfl rfl
  · skip
    rw [if_pos c3] at hr0
    subst hr0
    refine rx_aload_n (i := 0) dX4_takesThing_6 rfl rfl ?_
    refine rx_sipush (2007) dX4_takesThing_7 rfl ?_
    refine rx_cvN (ci := 4) mo_X4_await lk_X4_69 (c_X4_await (by omega)) (by decide) rfl rfl (Nat.le_of_ble_eq_true rfl) kl_10 rfl dX4_takesThing_10 ?_
    refine rx_iconst (1) dX4_takesThing_13 rfl ?_
    exact rx_fiZ dX4_takesThing_14 (Or.inr rfl) rfl rfl
