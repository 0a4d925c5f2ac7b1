set_option maxRecDepth 100000 in
set_option maxHeartbeats 4000000 in
theorem c_X4_takesBehind {M : Mem} {St : Nat → Int32} {z : Nat} {Wt : Nat → Int32} {nw : Nat} {Cp : Nat → Int32} {dp dg : Nat} {wt : Int32} {x : Int32} (h0 : 0 ≤ x) (h1 : x ≤ 255) {i : Nat} (hi : i < 40) (hr : rOK i (St, z, Wt, nw, Cp, dp, dg, wt)) : Fun yX4_takesBehind cX4_takesBehind 4 (some .boolean) 7 [.ref 10, .int x] (rM M St z Wt nw Cp dp dg wt) (some (.int (zI (beS x (St, z, Wt, nw, Cp, dp, dg, wt)).1))) (rMs M (beS x (St, z, Wt, nw, Cp, dp, dg, wt)).2) := by
  refine Fun.of (own := RX4) ([some (.ref 10), some (.int x), none, none]) rfl (by decide +kernel) (Nat.le_of_ble_eq_true rfl) rfl ?_
  obtain ⟨g1, g2, g3, g4, g5⟩ := id hr
  simp only at g1 g2 g3 g4 g5
  obtain ⟨r0, hr0⟩ : ∃ r0, beS x (St, z, Wt, nw, Cp, dp, dg, wt) = r0 := ⟨_, rfl⟩
  rw [hr0]
  simp only [beS] at hr0
  refine rx_iload_n (i := 1) dX4_takesBehind_0 rfl rfl ?_
  refine rx_csI mo_X9_isDigit lk_X4_83 c_X9_isDigit (by decide) rfl rfl (Nat.le_of_ble_eq_true rfl) dX4_takesBehind_1 ?_
  refine rx_if_eq (tgt := 16) dX4_takesBehind_4 (by decide) (fun c4 => ?_) (fun c4 => ?_)
  · skip
    have e4 : dig x = false := zI_0.mp c4
    rw [if_neg (fun q => by rw [e4] at q; exact absurd q (by decide))] at hr0
    refine rx_aload_n (i := 0) dX4_takesBehind_16 rfl rfl ?_
    refine rx_iconst (0) dX4_takesBehind_17 rfl ?_
    refine rx_top (nI 0) rfl ?_
    refine rx_putI (k := 6) fo_X4_66 fn_4_6 kl_10 (by decide) ty_4_6 dX4_takesBehind_18 ?_
    rw [rM_dg]
    refine rx_iload_n (i := 1) dX4_takesBehind_21 rfl rfl ?_
    refine rx_bipush (41) dX4_takesBehind_22 rfl ?_
    refine rx_icmp_ne (tgt := 32) dX4_takesBehind_24 (by decide) (fun c24 => ?_) (fun c24 => ?_)
    · skip
      rw [if_neg c24] at hr0
      refine rx_ldsB dX4_takesBehind_32 ?_
      refine rx_iload_n (i := 1) dX4_takesBehind_34 rfl rfl ?_
      refine rx_i2c dX4_takesBehind_35 rfl ?_
      refine rx_top x (i2c_id h0 h1) ?_
      refine rx_ctI (i := 1) mo_J0_indexOf_0f7a4 lk_X4_78 (c_J0_indexOf_0f7a4 (i := 1) (by decide) h0 h1) (by decide) rfl rfl (Nat.le_of_ble_eq_true rfl) (by decide) rfl dX4_takesBehind_36 ?_
      refine rx_istore_n (i := 2) dX4_takesBehind_39 rfl (by decide) rfl rfl ?_
      refine rx_iload_n (i := 2) dX4_takesBehind_40 rfl rfl ?_
      refine rx_if_lt (tgt := 53) dX4_takesBehind_41 (by decide) (fun c41 => ?_) (fun c41 => ?_)
      · skip
        have f41 := Int32.not_le.mpr c41
        rw [if_pos (Or.inl c41)] at hr0
        subst hr0
        refine rx_iconst (0) dX4_takesBehind_53 rfl ?_
        refine rx_istore_n (i := 3) dX4_takesBehind_54 rfl (by decide) rfl rfl ?_
        refine rx_iload_n (i := 2) dX4_takesBehind_55 rfl rfl ?_
        refine rx_if_lt (tgt := 75) dX4_takesBehind_56 (by decide) (fun c56 => ?_) (fun c56 => absurd c41 c56)
        refine rx_iconst (0) dX4_takesBehind_75 rfl ?_
        exact rx_fiZ dX4_takesBehind_76 (Or.inl rfl) rfl rfl
      · skip
        have f41 := Int32.not_lt.mp c41
        refine rx_iload_n (i := 2) dX4_takesBehind_44 rfl rfl ?_
        refine rx_iconst (3) dX4_takesBehind_45 rfl ?_
        refine rx_icmp_ge (tgt := 53) dX4_takesBehind_46 (by decide) (fun c46 => ?_) (fun c46 => ?_)
        · skip
          have f46 := Int32.not_lt.mpr c46
          have e46 := f46
          rw [if_neg (fun q => q.elim c41 (fun q => f46 q.1))] at hr0
          refine rx_iconst (0) dX4_takesBehind_53 rfl ?_
          refine rx_istore_n (i := 3) dX4_takesBehind_54 rfl (by decide) rfl rfl ?_
          refine rx_iload_n (i := 2) dX4_takesBehind_55 rfl rfl ?_
          refine rx_if_lt (tgt := 75) dX4_takesBehind_56 (by decide) (fun c56 => absurd c56 c41) (fun c56 => ?_)
          refine rx_iload_n (i := 3) dX4_takesBehind_59 rfl rfl ?_
          refine rx_if_eq (tgt := 77) dX4_takesBehind_60 (by decide) (fun c60 => ?_) (fun c60 => absurd c60 (by decide))
          refine rx_aload_n (i := 0) dX4_takesBehind_77 rfl rfl ?_
          refine rx_getR 13 (k := 2) fo_X4_18 kl_10 (by decide) ti_4_2 (by decide) rfl dX4_takesBehind_78 ?_
          refine rx_aload_n (i := 0) dX4_takesBehind_81 rfl rfl ?_
          refine rx_getI (k := 5) fo_X4_52 kl_10 (by decide) ti_4_5 dX4_takesBehind_82 ?_
          refine rx_top (nI dp) rR_dp ?_
          refine rx_aload_n (i := 0) dX4_takesBehind_85 rfl rfl ?_
          refine rx_getR 13 (k := 2) fo_X4_18 kl_10 (by decide) ti_4_2 (by decide) rfl dX4_takesBehind_86 ?_
          refine rx_aload_n (i := 0) dX4_takesBehind_89 rfl rfl ?_
          refine rx_getI (k := 5) fo_X4_52 kl_10 (by decide) ti_4_5 dX4_takesBehind_90 ?_
          refine rx_top (nI dp) rR_dp ?_
          refine rx_zaldN kl_13 (by omega) (by first | decide | omega) dX4_takesBehind_93 ?_
          refine rx_top (Cp dp) rR_Cp ?_
          refine rx_if_ne (tgt := 101) dX4_takesBehind_94 (by decide) (fun c94 => ?_) (fun c94 => ?_)
          · skip
            rw [if_pos (Or.inl c94)] at hr0
            refine rx_iconst (1) dX4_takesBehind_101 rfl ?_
            refine rx_goto (tgt := 106) dX4_takesBehind_102 (by decide) ?_
            refine rx_zastN kl_13 (by omega) (by first | decide | omega) (by first | exact Or.inl rfl | exact Or.inr rfl) dX4_takesBehind_106 ?_
            rw [rM_Cp]
            refine rx_aload_n (i := 0) dX4_takesBehind_107 rfl rfl ?_
            refine rx_sipush (2000) dX4_takesBehind_108 rfl ?_
            refine rx_iload_n (i := 2) dX4_takesBehind_111 rfl rfl ?_
            refine rx_iadd dX4_takesBehind_112 ?_
            refine rx_csI mo_X4_strength lk_X4_99 c_X4_strength (by decide) rfl rfl (Nat.le_of_ble_eq_true rfl) dX4_takesBehind_113 ?_
            refine rx_cvN (ci := 4) mo_X4_settle lk_X4_56 (c_X4_settle (by omega)) (by decide) rfl rfl (Nat.le_of_ble_eq_true rfl) kl_10 rfl dX4_takesBehind_116 ?_
            have hs := (stl_le (least := strg (2000 + strIx 1 x)) (Wt := Wt) (n := nw) (St := St) (z := z)).2
            refine rx_aload_n (i := 0) dX4_takesBehind_119 rfl rfl ?_
            refine rx_sipush (2000) dX4_takesBehind_120 rfl ?_
            refine rx_iload_n (i := 2) dX4_takesBehind_123 rfl rfl ?_
            refine rx_iadd dX4_takesBehind_124 ?_
            refine rx_cvN (ci := 4) mo_X4_await lk_X4_69 (c_X4_await (by omega)) (by decide) rfl rfl (Nat.le_of_ble_eq_true rfl) kl_10 rfl dX4_takesBehind_125 ?_
            refine rx_aload_n (i := 0) dX4_takesBehind_128 rfl rfl ?_
            refine rx_iconst (1) dX4_takesBehind_129 rfl ?_
            refine rx_putZ (k := 7) fo_X4_41 fn_4_7 kl_10 (by decide) ty_4_7 (by first | exact Or.inl rfl | exact Or.inr rfl) dX4_takesBehind_130 ?_
            rw [rM_wt]
            refine rx_iconst (1) dX4_takesBehind_133 rfl ?_
            subst hr0
            exact rx_fiZ dX4_takesBehind_134 (Or.inr rfl) rfl rfl
          · skip
            first | rw [if_pos (Or.inr e46)] at hr0 | rw [if_neg (fun q => q.elim (fun q => q c94) e46)] at hr0
            refine rx_iload_n (i := 3) dX4_takesBehind_97 rfl rfl ?_
            refine rx_if_eq (tgt := 105) dX4_takesBehind_98 (by decide) (fun c98 => ?_) (fun c98 => absurd c98 (by decide))
            refine rx_iconst (0) dX4_takesBehind_105 rfl ?_
            refine rx_zastN kl_13 (by omega) (by first | decide | omega) (by first | exact Or.inl rfl | exact Or.inr rfl) dX4_takesBehind_106 ?_
            rw [rM_Cp]
            refine rx_aload_n (i := 0) dX4_takesBehind_107 rfl rfl ?_
            refine rx_sipush (2000) dX4_takesBehind_108 rfl ?_
            refine rx_iload_n (i := 2) dX4_takesBehind_111 rfl rfl ?_
            refine rx_iadd dX4_takesBehind_112 ?_
            refine rx_csI mo_X4_strength lk_X4_99 c_X4_strength (by decide) rfl rfl (Nat.le_of_ble_eq_true rfl) dX4_takesBehind_113 ?_
            refine rx_cvN (ci := 4) mo_X4_settle lk_X4_56 (c_X4_settle (by omega)) (by decide) rfl rfl (Nat.le_of_ble_eq_true rfl) kl_10 rfl dX4_takesBehind_116 ?_
            have hs := (stl_le (least := strg (2000 + strIx 1 x)) (Wt := Wt) (n := nw) (St := St) (z := z)).2
            refine rx_aload_n (i := 0) dX4_takesBehind_119 rfl rfl ?_
            refine rx_sipush (2000) dX4_takesBehind_120 rfl ?_
            refine rx_iload_n (i := 2) dX4_takesBehind_123 rfl rfl ?_
            refine rx_iadd dX4_takesBehind_124 ?_
            refine rx_cvN (ci := 4) mo_X4_await lk_X4_69 (c_X4_await (by omega)) (by decide) rfl rfl (Nat.le_of_ble_eq_true rfl) kl_10 rfl dX4_takesBehind_125 ?_
            refine rx_aload_n (i := 0) dX4_takesBehind_128 rfl rfl ?_
            refine rx_iconst (1) dX4_takesBehind_129 rfl ?_
            refine rx_putZ (k := 7) fo_X4_41 fn_4_7 kl_10 (by decide) ty_4_7 (by first | exact Or.inl rfl | exact Or.inr rfl) dX4_takesBehind_130 ?_
            rw [rM_wt]
            refine rx_iconst (1) dX4_takesBehind_133 rfl ?_
            subst hr0
            exact rx_fiZ dX4_takesBehind_134 (Or.inr rfl) rfl rfl
        · skip
          have f46 := Int32.not_le.mp c46
          have e46 := f46
          refine rx_iconst (1) dX4_takesBehind_49 rfl ?_
          refine rx_goto (tgt := 54) dX4_takesBehind_50 (by decide) ?_
          refine rx_istore_n (i := 3) dX4_takesBehind_54 rfl (by decide) rfl rfl ?_
          refine rx_iload_n (i := 2) dX4_takesBehind_55 rfl rfl ?_
          refine rx_if_lt (tgt := 75) dX4_takesBehind_56 (by decide) (fun c56 => absurd c56 c41) (fun c56 => ?_)
          refine rx_iload_n (i := 3) dX4_takesBehind_59 rfl rfl ?_
          refine rx_if_eq (tgt := 77) dX4_takesBehind_60 (by decide) (fun c60 => absurd c60 (by decide)) (fun c60 => ?_)
          refine rx_aload_n (i := 0) dX4_takesBehind_63 rfl rfl ?_
          refine rx_getR 13 (k := 2) fo_X4_18 kl_10 (by decide) ti_4_2 (by decide) rfl dX4_takesBehind_64 ?_
          refine rx_aload_n (i := 0) dX4_takesBehind_67 rfl rfl ?_
          refine rx_getI (k := 5) fo_X4_52 kl_10 (by decide) ti_4_5 dX4_takesBehind_68 ?_
          refine rx_top (nI dp) rR_dp ?_
          refine rx_zaldN kl_13 (by omega) (by first | decide | omega) dX4_takesBehind_71 ?_
          refine rx_top (Cp dp) rR_Cp ?_
          refine rx_if_eq (tgt := 77) dX4_takesBehind_72 (by decide) (fun c72 => ?_) (fun c72 => ?_)
          · skip
            rw [if_neg (fun q => q.elim c41 (fun q => q.2 c72))] at hr0
            refine rx_aload_n (i := 0) dX4_takesBehind_77 rfl rfl ?_
            refine rx_getR 13 (k := 2) fo_X4_18 kl_10 (by decide) ti_4_2 (by decide) rfl dX4_takesBehind_78 ?_
            refine rx_aload_n (i := 0) dX4_takesBehind_81 rfl rfl ?_
            refine rx_getI (k := 5) fo_X4_52 kl_10 (by decide) ti_4_5 dX4_takesBehind_82 ?_
            refine rx_top (nI dp) rR_dp ?_
            refine rx_aload_n (i := 0) dX4_takesBehind_85 rfl rfl ?_
            refine rx_getR 13 (k := 2) fo_X4_18 kl_10 (by decide) ti_4_2 (by decide) rfl dX4_takesBehind_86 ?_
            refine rx_aload_n (i := 0) dX4_takesBehind_89 rfl rfl ?_
            refine rx_getI (k := 5) fo_X4_52 kl_10 (by decide) ti_4_5 dX4_takesBehind_90 ?_
            refine rx_top (nI dp) rR_dp ?_
            refine rx_zaldN kl_13 (by omega) (by first | decide | omega) dX4_takesBehind_93 ?_
            refine rx_top (Cp dp) rR_Cp ?_
            refine rx_if_ne (tgt := 101) dX4_takesBehind_94 (by decide) (fun c94 => ?_) (fun c94 => ?_)
            · skip
              rw [if_pos (Or.inl c94)] at hr0
              refine rx_iconst (1) dX4_takesBehind_101 rfl ?_
              refine rx_goto (tgt := 106) dX4_takesBehind_102 (by decide) ?_
              refine rx_zastN kl_13 (by omega) (by first | decide | omega) (by first | exact Or.inl rfl | exact Or.inr rfl) dX4_takesBehind_106 ?_
              rw [rM_Cp]
              refine rx_aload_n (i := 0) dX4_takesBehind_107 rfl rfl ?_
              refine rx_sipush (2000) dX4_takesBehind_108 rfl ?_
              refine rx_iload_n (i := 2) dX4_takesBehind_111 rfl rfl ?_
              refine rx_iadd dX4_takesBehind_112 ?_
              refine rx_csI mo_X4_strength lk_X4_99 c_X4_strength (by decide) rfl rfl (Nat.le_of_ble_eq_true rfl) dX4_takesBehind_113 ?_
              refine rx_cvN (ci := 4) mo_X4_settle lk_X4_56 (c_X4_settle (by omega)) (by decide) rfl rfl (Nat.le_of_ble_eq_true rfl) kl_10 rfl dX4_takesBehind_116 ?_
              have hs := (stl_le (least := strg (2000 + strIx 1 x)) (Wt := Wt) (n := nw) (St := St) (z := z)).2
              refine rx_aload_n (i := 0) dX4_takesBehind_119 rfl rfl ?_
              refine rx_sipush (2000) dX4_takesBehind_120 rfl ?_
              refine rx_iload_n (i := 2) dX4_takesBehind_123 rfl rfl ?_
              refine rx_iadd dX4_takesBehind_124 ?_
              refine rx_cvN (ci := 4) mo_X4_await lk_X4_69 (c_X4_await (by omega)) (by decide) rfl rfl (Nat.le_of_ble_eq_true rfl) kl_10 rfl dX4_takesBehind_125 ?_
              refine rx_aload_n (i := 0) dX4_takesBehind_128 rfl rfl ?_
              refine rx_iconst (1) dX4_takesBehind_129 rfl ?_
              refine rx_putZ (k := 7) fo_X4_41 fn_4_7 kl_10 (by decide) ty_4_7 (by first | exact Or.inl rfl | exact Or.inr rfl) dX4_takesBehind_130 ?_
              rw [rM_wt]
              refine rx_iconst (1) dX4_takesBehind_133 rfl ?_
              subst hr0
              exact rx_fiZ dX4_takesBehind_134 (Or.inr rfl) rfl rfl
            · skip
              first | rw [if_pos (Or.inr e46)] at hr0 | rw [if_neg (fun q => q.elim (fun q => q c94) e46)] at hr0
              refine rx_iload_n (i := 3) dX4_takesBehind_97 rfl rfl ?_
              refine rx_if_eq (tgt := 105) dX4_takesBehind_98 (by decide) (fun c98 => absurd c98 (by decide)) (fun c98 => ?_)
              refine rx_iconst (1) dX4_takesBehind_101 rfl ?_
              refine rx_goto (tgt := 106) dX4_takesBehind_102 (by decide) ?_
              refine rx_zastN kl_13 (by omega) (by first | decide | omega) (by first | exact Or.inl rfl | exact Or.inr rfl) dX4_takesBehind_106 ?_
              rw [rM_Cp]
              refine rx_aload_n (i := 0) dX4_takesBehind_107 rfl rfl ?_
              refine rx_sipush (2000) dX4_takesBehind_108 rfl ?_
              refine rx_iload_n (i := 2) dX4_takesBehind_111 rfl rfl ?_
              refine rx_iadd dX4_takesBehind_112 ?_
              refine rx_csI mo_X4_strength lk_X4_99 c_X4_strength (by decide) rfl rfl (Nat.le_of_ble_eq_true rfl) dX4_takesBehind_113 ?_
              refine rx_cvN (ci := 4) mo_X4_settle lk_X4_56 (c_X4_settle (by omega)) (by decide) rfl rfl (Nat.le_of_ble_eq_true rfl) kl_10 rfl dX4_takesBehind_116 ?_
              have hs := (stl_le (least := strg (2000 + strIx 1 x)) (Wt := Wt) (n := nw) (St := St) (z := z)).2
              refine rx_aload_n (i := 0) dX4_takesBehind_119 rfl rfl ?_
              refine rx_sipush (2000) dX4_takesBehind_120 rfl ?_
              refine rx_iload_n (i := 2) dX4_takesBehind_123 rfl rfl ?_
              refine rx_iadd dX4_takesBehind_124 ?_
              refine rx_cvN (ci := 4) mo_X4_await lk_X4_69 (c_X4_await (by omega)) (by decide) rfl rfl (Nat.le_of_ble_eq_true rfl) kl_10 rfl dX4_takesBehind_125 ?_
              refine rx_aload_n (i := 0) dX4_takesBehind_128 rfl rfl ?_
              refine rx_iconst (1) dX4_takesBehind_129 rfl ?_
              refine rx_putZ (k := 7) fo_X4_41 fn_4_7 kl_10 (by decide) ty_4_7 (by first | exact Or.inl rfl | exact Or.inr rfl) dX4_takesBehind_130 ?_
              rw [rM_wt]
              refine rx_iconst (1) dX4_takesBehind_133 rfl ?_
              subst hr0
              exact rx_fiZ dX4_takesBehind_134 (Or.inr rfl) rfl rfl
          · skip
            rw [if_pos (Or.inr ⟨e46, c72⟩)] at hr0
            subst hr0
            refine rx_iconst (0) dX4_takesBehind_75 rfl ?_
            exact rx_fiZ dX4_takesBehind_76 (Or.inl rfl) rfl rfl
    · skip
      rw [if_pos c24] at hr0
      refine rx_aload_n (i := 0) dX4_takesBehind_27 rfl rfl ?_
      by_cases hdp : 1 ≤ dp
      · skip
        rw [if_pos hdp] at hr0
        subst hr0
        refine rx_cvI (ci := 4) mo_X4_closes lk_X4_94 (c_X4_closes hdp g2 (by omega)) (by decide) rfl rfl (Nat.le_of_ble_eq_true rfl) kl_10 rfl dX4_takesBehind_28 ?_
        exact rx_fiZ dX4_takesBehind_31 (Or.inr rfl) rfl rfl
      · skip
        rw [if_neg hdp] at hr0
        subst hr0
        refine rx_cvI (ci := 4) mo_X4_closes lk_X4_94 (c_X4_closes_no (by omega)) (by decide) rfl rfl (Nat.le_of_ble_eq_true rfl) kl_10 rfl dX4_takesBehind_28 ?_
        exact rx_fiZ dX4_takesBehind_31 (Or.inl rfl) rfl rfl
  · skip
    have e4 : dig x = true := Decidable.byContradiction fun q => c4 (zI_0.mpr (by simpa using q))
    rw [if_pos e4] at hr0
    refine rx_aload_n (i := 0) dX4_takesBehind_7 rfl rfl ?_
    refine rx_iload_n (i := 1) dX4_takesBehind_8 rfl rfl ?_
    refine rx_bipush (48) dX4_takesBehind_9 rfl ?_
    refine rx_isub dX4_takesBehind_11 ?_
    by_cases hdg : 1 ≤ dg ∧ dg ≤ 2
    · skip
      rw [if_pos hdg] at hr0
      subst hr0
      refine rx_cvI (ci := 4) mo_X4_lengthens lk_X4_91 (c_X4_lengthens hdg (g4 hdg.1) (by omega)) (by decide) rfl rfl (Nat.le_of_ble_eq_true rfl) kl_10 rfl dX4_takesBehind_12 ?_
      exact rx_fiZ dX4_takesBehind_15 (Or.inr rfl) rfl rfl
    · skip
      rw [if_neg hdg] at hr0
      subst hr0
      refine rx_cvI (ci := 4) mo_X4_lengthens lk_X4_91 (c_X4_lengthens_no (by omega)) (by decide) rfl rfl (Nat.le_of_ble_eq_true rfl) kl_10 rfl dX4_takesBehind_12 ?_
      exact rx_fiZ dX4_takesBehind_15 (Or.inl rfl) rfl rfl
/-- a sign of the rule -/
def rst (x : Int32) (s : RSt) : Bool × RSt := if s.2.2.2.2.2.2.2 = 0 then beS x s else thS x s
theorem rst_ok {x : Int32} {i : Nat} {s : RSt} (h : rOK i s) : rOK (i + 1) (rst x s).2 := by
  unfold rst
  split
  · exact beS_ok h
  · next c => exact thS_ok h (h.2.2.2.2.resolve_left c)
/-- n signs of the rule from i on: (all taken, where it ended, the state) -/
def rrn (sg : Nat → Int32) : Nat → Nat → RSt → Bool × Nat × RSt
  | 0, i, s => (true, i, s)
  | n + 1, i, s => if (rst (sg i) s).1 = true then rrn sg n (i + 1) (rst (sg i) s).2 else (false, i, (rst (sg i) s).2)
theorem rrn_ok {sg : Nat → Int32} : ∀ {n i : Nat} {s : RSt}, rOK i s → (rrn sg n i s).1 = true → rOK (i + n) (rrn sg n i s).2.2
  | 0, _, _, h, _ => h
  | n + 1, i, s, h, hb => by
    simp only [rrn] at hb ⊢
    split at hb
    · next c =>
      rw [if_pos c, show i + (n + 1) = i + 1 + n by omega]
      exact rrn_ok (rst_ok h) hb
    · exact absurd (show false = true from hb) (by decide)
def rS0 (M : Mem) : RSt := (M.1 11, 0, M.1 12, 0, upd (M.1 13) 0 0, 0, 0, 1)
/-- what the reading of a rule answers -/
def rrV (r : Bool × Nat × RSt) (L lim : Nat) : Int32 :=
  if r.1 = true then (if L > lim ∨ ¬ (lim = 0 ∨ (r.2.2.2.2.2.2.2.2.2 = 0 ∧ r.2.2.2.2.2.2.2.1 = 0)) then -1 - nI lim else 0) else -1 - nI r.2.1
def rrS (r : Bool × Nat × RSt) (L lim : Nat) : RSt :=
  if r.1 = true ∧ ¬ (L > lim ∨ ¬ (lim = 0 ∨ (r.2.2.2.2.2.2.2.2.2 = 0 ∧ r.2.2.2.2.2.2.2.1 = 0))) then
    ((stl 1 r.2.2.2.2.1 r.2.2.2.2.2.1 r.2.2.1 r.2.2.2.1).1, (stl 1 r.2.2.2.2.1 r.2.2.2.2.2.1 r.2.2.1 r.2.2.2.1).2.1, r.2.2.2.2.1, (stl 1 r.2.2.2.2.1 r.2.2.2.2.2.1 r.2.2.1 r.2.2.2.1).2.2, r.2.2.2.2.2.2)
  else r.2.2
theorem mn1 {a b : Nat} (ha : a < 2 ^ 31) (hb : b < 2 ^ 31) : (if nI a < nI b then nI a else nI b) = nI (min a b) := by
  by_cases h : a < b
  · rw [if_pos (nI_lt h hb), Nat.min_eq_left (by omega)]
  · rw [if_neg (nI_nlt (by omega) ha), Nat.min_eq_right (by omega)]
theorem nI_0' {a : Nat} (ha : a < 2 ^ 31) (h : nI a = 0) : a = 0 := by
  have := (nI_leI (a := a) (b := 0) ha (by omega)).mp (by rw [h]; decide)
  omega
theorem rMs_o {M : Mem} {s : RSt} {a k : Nat} (h : a < 10 ∨ 13 < a) : (rMs M s).1 a k = M.1 a k := rR_o h
section
variable {St : Nat → Int32} {z : Nat} {Wt : Nat → Int32} {nw : Nat} {Cp : Nat → Int32} {dp dg : Nat} {wt : Int32} {L lim : Nat}
theorem rrV_bad (h : L > lim ∨ ¬ (lim = 0 ∨ (wt = 0 ∧ dp = 0))) : rrV (true, lim, (St, z, Wt, nw, Cp, dp, dg, wt)) L lim = -1 - nI lim := (if_pos rfl).trans (if_pos h)
theorem rrS_bad (h : L > lim ∨ ¬ (lim = 0 ∨ (wt = 0 ∧ dp = 0))) : rrS (true, lim, (St, z, Wt, nw, Cp, dp, dg, wt)) L lim = (St, z, Wt, nw, Cp, dp, dg, wt) := if_neg (fun q => q.2 h)
theorem rrV_ok (h : ¬ L > lim) (h2 : lim = 0 ∨ (wt = 0 ∧ dp = 0)) : rrV (true, lim, (St, z, Wt, nw, Cp, dp, dg, wt)) L lim = 0 := (if_pos rfl).trans (if_neg (fun q => q.elim h (fun q => q h2)))
theorem rrS_ok (h : ¬ L > lim) (h2 : lim = 0 ∨ (wt = 0 ∧ dp = 0)) : rrS (true, lim, (St, z, Wt, nw, Cp, dp, dg, wt)) L lim = ((stl 1 Wt nw St z).1, (stl 1 Wt nw St z).2.1, Wt, (stl 1 Wt nw St z).2.2, Cp, dp, dg, wt) := if_pos ⟨rfl, fun q => q.elim h (fun q => q h2)⟩
end
set_option maxRecDepth 100000 in
set_option maxHeartbeats 4000000 in
theorem l_X4_read {M : Mem} {L lim : Nat} (hL : M.1 2 1 = nI L) (hl80 : L ≤ 80) (hlL : lim ≤ L) (hl40 : lim ≤ 40) (hsg : ∀ j, j < L → 0 ≤ M.1 3 j ∧ M.1 3 j ≤ 255) {res : Bool × Nat × RSt} : ∀ (N : Nat) (i : Nat) (s : RSt), (i ≤ lim) → (rOK i s) → (rrn (M.1 3) (lim - i) i s = res) → lim - i < N → Reach cX4_read RX4 6 8 (FQ cX4_read (some .int) (some (.int (rrV res L lim))) (rMs M (rrS res L lim))) 16 [some (.ref 10), some (.ref 2), some (.int (nI lim)), some (.int (nI i)), none, none] [] (rMs M s) := by
  intro N
  induction N with
  | zero => intro i s hi hr he hm; exact absurd ‹_ < 0› (Nat.not_lt_zero _)
  | succ N ih =>
    intro i s hi hr he hm
    obtain ⟨St, z, Wt, nw, Cp, dp, dg, wt⟩ := s
    show Reach _ _ _ _ _ _ _ _ (rM M St z Wt nw Cp dp dg wt)
    refine rx_iload_n (i := 3) dX4_read_16 rfl rfl ?_
    refine rx_iload_n (i := 2) dX4_read_17 rfl rfl ?_
    refine rx_icmp_ge (tgt := 67) dX4_read_18 (by decide) (fun c18 => ?_) (fun c18 => ?_)
    · skip
      have f18 := Int32.not_lt.mpr c18
      have e18 : i = lim := by have := (nI_leI (by omega) (by omega)).mp c18; omega
      subst e18
      rw [Nat.sub_self] at he
      simp only [rrn] at he
      subst he
      refine rx_aload_n (i := 1) dX4_read_67 rfl rfl ?_
      refine rx_cvI (ci := 6) mo_X6_length lk_X4_25 c_X6_length (by decide) rfl rfl (Nat.le_of_ble_eq_true rfl) kl_2 rfl dX4_read_68 ?_
      refine rx_top (nI L) ((rR_o (by decide)).trans hL) ?_
      refine rx_iload_n (i := 2) dX4_read_71 rfl rfl ?_
      refine rx_icmp_le (tgt := 79) dX4_read_72 (by decide) (fun c72 => ?_) (fun c72 => ?_)
      · skip
        have f72 := Int32.not_lt.mpr c72
        have e72 : ¬ L > i := Nat.not_lt.mpr ((nI_leI (by omega) (by omega)).mp c72)
        refine rx_iconst (0) dX4_read_79 rfl ?_
        refine rx_istore_n (i := 3) dX4_read_80 rfl (by decide) rfl rfl ?_
        refine rx_iload_n (i := 2) dX4_read_81 rfl rfl ?_
        refine rx_if_eq (tgt := 99) dX4_read_82 (by decide) (fun c82 => ?_) (fun c82 => ?_)
        · skip
          have e82 : i = 0 := nI_0' (by omega) c82
          have hg : i = 0 ∨ (wt = 0 ∧ dp = 0) := Or.inl e82
          refine rx_iconst (1) dX4_read_99 rfl ?_
          refine rx_goto (tgt := 104) dX4_read_100 (by decide) ?_
          refine rx_istore (i := 4) dX4_read_104 (by decide) rfl rfl ?_
          refine rx_iload_n (i := 3) dX4_read_106 rfl rfl ?_
          refine rx_if_ne (tgt := 115) dX4_read_107 (by decide) (fun c107 => absurd c107 (by decide)) (fun c107 => ?_)
          refine rx_iload (i := 4) dX4_read_110 rfl ?_
          refine rx_if_ne (tgt := 119) dX4_read_112 (by decide) (fun c112 => ?_) (fun c112 => absurd c112 (by decide))
          refine rx_aload_n (i := 0) dX4_read_119 rfl rfl ?_
          refine rx_iconst (1) dX4_read_120 rfl ?_
          refine rx_cvN (ci := 4) mo_X4_settle lk_X4_56 (c_X4_settle (show z + nw ≤ 40 by have := hr.1; simp only at this; omega)) (by decide) rfl rfl (Nat.le_of_ble_eq_true rfl) kl_10 rfl dX4_read_121 ?_
          refine rx_iconst (0) dX4_read_124 rfl ?_
          rw [rrV_ok e72 hg, rrS_ok e72 hg]
          exact rx_fiI dX4_read_125 rfl rfl
        · skip
          have e82 : ¬ i = 0 := fun q => c82 (by rw [q]; rfl)
          refine rx_aload_n (i := 0) dX4_read_85 rfl rfl ?_
          refine rx_getI (k := 7) fo_X4_41 kl_10 (by decide) ti_4_7 dX4_read_86 ?_
          refine rx_top (wt) rR_wt ?_
          refine rx_if_ne (tgt := 103) dX4_read_89 (by decide) (fun c89 => ?_) (fun c89 => ?_)
          · skip
            have hb : L > i ∨ ¬ (i = 0 ∨ (wt = 0 ∧ dp = 0)) := Or.inr (fun q => q.elim e82 (fun q => c89 q.1))
            refine rx_iconst (0) dX4_read_103 rfl ?_
            refine rx_istore (i := 4) dX4_read_104 (by decide) rfl rfl ?_
            refine rx_iload_n (i := 3) dX4_read_106 rfl rfl ?_
            refine rx_if_ne (tgt := 115) dX4_read_107 (by decide) (fun c107 => absurd c107 (by decide)) (fun c107 => ?_)
            refine rx_iload (i := 4) dX4_read_110 rfl ?_
            refine rx_if_ne (tgt := 119) dX4_read_112 (by decide) (fun c112 => absurd c112 (by decide)) (fun c112 => ?_)
            refine rx_iconst (-1) dX4_read_115 rfl ?_
            refine rx_iload_n (i := 2) dX4_read_116 rfl rfl ?_
            refine rx_isub dX4_read_117 ?_
            rw [rrV_bad hb, rrS_bad hb]
            exact rx_fiI dX4_read_118 rfl rfl
          · skip
            refine rx_aload_n (i := 0) dX4_read_92 rfl rfl ?_
            refine rx_getI (k := 5) fo_X4_52 kl_10 (by decide) ti_4_5 dX4_read_93 ?_
            refine rx_top (nI dp) rR_dp ?_
            refine rx_if_ne (tgt := 103) dX4_read_96 (by decide) (fun c96 => ?_) (fun c96 => ?_)
            · skip
              have hb : L > i ∨ ¬ (i = 0 ∨ (wt = 0 ∧ dp = 0)) := Or.inr (fun q => q.elim e82 (fun q => c96 (by rw [q.2]; rfl)))
              refine rx_iconst (0) dX4_read_103 rfl ?_
              refine rx_istore (i := 4) dX4_read_104 (by decide) rfl rfl ?_
              refine rx_iload_n (i := 3) dX4_read_106 rfl rfl ?_
              refine rx_if_ne (tgt := 115) dX4_read_107 (by decide) (fun c107 => absurd c107 (by decide)) (fun c107 => ?_)
              refine rx_iload (i := 4) dX4_read_110 rfl ?_
              refine rx_if_ne (tgt := 119) dX4_read_112 (by decide) (fun c112 => absurd c112 (by decide)) (fun c112 => ?_)
              refine rx_iconst (-1) dX4_read_115 rfl ?_
              refine rx_iload_n (i := 2) dX4_read_116 rfl rfl ?_
              refine rx_isub dX4_read_117 ?_
              rw [rrV_bad hb, rrS_bad hb]
              exact rx_fiI dX4_read_118 rfl rfl
            · skip
              have hg : i = 0 ∨ (wt = 0 ∧ dp = 0) := Or.inr ⟨c89, nI_0' (by have := hr.2.1; simp only at this; omega) c96⟩
              refine rx_iconst (1) dX4_read_99 rfl ?_
              refine rx_goto (tgt := 104) dX4_read_100 (by decide) ?_
              refine rx_istore (i := 4) dX4_read_104 (by decide) rfl rfl ?_
              refine rx_iload_n (i := 3) dX4_read_106 rfl rfl ?_
              refine rx_if_ne (tgt := 115) dX4_read_107 (by decide) (fun c107 => absurd c107 (by decide)) (fun c107 => ?_)
              refine rx_iload (i := 4) dX4_read_110 rfl ?_
              refine rx_if_ne (tgt := 119) dX4_read_112 (by decide) (fun c112 => ?_) (fun c112 => absurd c112 (by decide))
              refine rx_aload_n (i := 0) dX4_read_119 rfl rfl ?_
              refine rx_iconst (1) dX4_read_120 rfl ?_
              refine rx_cvN (ci := 4) mo_X4_settle lk_X4_56 (c_X4_settle (show z + nw ≤ 40 by have := hr.1; simp only at this; omega)) (by decide) rfl rfl (Nat.le_of_ble_eq_true rfl) kl_10 rfl dX4_read_121 ?_
              refine rx_iconst (0) dX4_read_124 rfl ?_
              rw [rrV_ok e72 hg, rrS_ok e72 hg]
              exact rx_fiI dX4_read_125 rfl rfl
      · skip
        have f72 := Int32.not_le.mp c72
        have e72 : L > i := Nat.not_le.mp fun q => c72 (nI_le q (by omega))
        have hb : L > i ∨ ¬ (i = 0 ∨ (wt = 0 ∧ dp = 0)) := Or.inl e72
        refine rx_iconst (1) dX4_read_75 rfl ?_
        refine rx_goto (tgt := 80) dX4_read_76 (by decide) ?_
        refine rx_istore_n (i := 3) dX4_read_80 rfl (by decide) rfl rfl ?_
        refine rx_iload_n (i := 2) dX4_read_81 rfl rfl ?_
        refine rx_if_eq (tgt := 99) dX4_read_82 (by decide) (fun c82 => ?_) (fun c82 => ?_)
        · skip
          have e82 : i = 0 := nI_0' (by omega) c82
          have hg : i = 0 ∨ (wt = 0 ∧ dp = 0) := Or.inl e82
          refine rx_iconst (1) dX4_read_99 rfl ?_
          refine rx_goto (tgt := 104) dX4_read_100 (by decide) ?_
          refine rx_istore (i := 4) dX4_read_104 (by decide) rfl rfl ?_
          refine rx_iload_n (i := 3) dX4_read_106 rfl rfl ?_
          refine rx_if_ne (tgt := 115) dX4_read_107 (by decide) (fun c107 => ?_) (fun c107 => absurd c107 (by decide))
          refine rx_iconst (-1) dX4_read_115 rfl ?_
          refine rx_iload_n (i := 2) dX4_read_116 rfl rfl ?_
          refine rx_isub dX4_read_117 ?_
          rw [rrV_bad hb, rrS_bad hb]
          exact rx_fiI dX4_read_118 rfl rfl
        · skip
          have e82 : ¬ i = 0 := fun q => c82 (by rw [q]; rfl)
          refine rx_aload_n (i := 0) dX4_read_85 rfl rfl ?_
          refine rx_getI (k := 7) fo_X4_41 kl_10 (by decide) ti_4_7 dX4_read_86 ?_
          refine rx_top (wt) rR_wt ?_
          refine rx_if_ne (tgt := 103) dX4_read_89 (by decide) (fun c89 => ?_) (fun c89 => ?_)
          · skip
            have hb : L > i ∨ ¬ (i = 0 ∨ (wt = 0 ∧ dp = 0)) := Or.inr (fun q => q.elim e82 (fun q => c89 q.1))
            refine rx_iconst (0) dX4_read_103 rfl ?_
            refine rx_istore (i := 4) dX4_read_104 (by decide) rfl rfl ?_
            refine rx_iload_n (i := 3) dX4_read_106 rfl rfl ?_
            refine rx_if_ne (tgt := 115) dX4_read_107 (by decide) (fun c107 => ?_) (fun c107 => absurd c107 (by decide))
            refine rx_iconst (-1) dX4_read_115 rfl ?_
            refine rx_iload_n (i := 2) dX4_read_116 rfl rfl ?_
            refine rx_isub dX4_read_117 ?_
            rw [rrV_bad hb, rrS_bad hb]
            exact rx_fiI dX4_read_118 rfl rfl
          · skip
            refine rx_aload_n (i := 0) dX4_read_92 rfl rfl ?_
            refine rx_getI (k := 5) fo_X4_52 kl_10 (by decide) ti_4_5 dX4_read_93 ?_
            refine rx_top (nI dp) rR_dp ?_
            refine rx_if_ne (tgt := 103) dX4_read_96 (by decide) (fun c96 => ?_) (fun c96 => ?_)
            · skip
              have hb : L > i ∨ ¬ (i = 0 ∨ (wt = 0 ∧ dp = 0)) := Or.inr (fun q => q.elim e82 (fun q => c96 (by rw [q.2]; rfl)))
              refine rx_iconst (0) dX4_read_103 rfl ?_
              refine rx_istore (i := 4) dX4_read_104 (by decide) rfl rfl ?_
              refine rx_iload_n (i := 3) dX4_read_106 rfl rfl ?_
              refine rx_if_ne (tgt := 115) dX4_read_107 (by decide) (fun c107 => ?_) (fun c107 => absurd c107 (by decide))
              refine rx_iconst (-1) dX4_read_115 rfl ?_
              refine rx_iload_n (i := 2) dX4_read_116 rfl rfl ?_
              refine rx_isub dX4_read_117 ?_
              rw [rrV_bad hb, rrS_bad hb]
              exact rx_fiI dX4_read_118 rfl rfl
            · skip
              have hg : i = 0 ∨ (wt = 0 ∧ dp = 0) := Or.inr ⟨c89, nI_0' (by have := hr.2.1; simp only at this; omega) c96⟩
              refine rx_iconst (1) dX4_read_99 rfl ?_
              refine rx_goto (tgt := 104) dX4_read_100 (by decide) ?_
              refine rx_istore (i := 4) dX4_read_104 (by decide) rfl rfl ?_
              refine rx_iload_n (i := 3) dX4_read_106 rfl rfl ?_
              refine rx_if_ne (tgt := 115) dX4_read_107 (by decide) (fun c107 => ?_) (fun c107 => absurd c107 (by decide))
              refine rx_iconst (-1) dX4_read_115 rfl ?_
              refine rx_iload_n (i := 2) dX4_read_116 rfl rfl ?_
              refine rx_isub dX4_read_117 ?_
              rw [rrV_bad hb, rrS_bad hb]
              exact rx_fiI dX4_read_118 rfl rfl
    · skip
      have f18 := Int32.not_le.mp c18
      have e18 : i < lim := Nat.not_le.mp fun q => c18 (nI_le q (by omega))
      obtain ⟨k, hk⟩ : ∃ k, lim - i = k + 1 := ⟨lim - i - 1, by omega⟩
      rw [hk] at he
      simp only [rrn] at he
      obtain ⟨r1, hr1⟩ : ∃ r1, rst (M.1 3 i) (St, z, Wt, nw, Cp, dp, dg, wt) = r1 := ⟨_, rfl⟩
      have ho : rOK (i + 1) r1.2 := hr1 ▸ rst_ok hr
      rw [hr1] at he
      refine rx_aload_n (i := 1) dX4_read_21 rfl rfl ?_
      refine rx_iload_n (i := 3) dX4_read_22 rfl rfl ?_
      refine rx_cvI (ci := 6) mo_X6_at lk_X4_37 ((c_X6_at (L := L) ((rR_o (by decide)).trans hL) (by omega) (by omega)).conv (by rw [rR_o (by decide)]) rfl) (by decide) rfl rfl (Nat.le_of_ble_eq_true rfl) kl_2 rfl dX4_read_23 ?_
      refine rx_istore (i := 4) dX4_read_26 (by decide) rfl rfl ?_
      refine rx_aload_n (i := 0) dX4_read_28 rfl rfl ?_
      refine rx_getI (k := 7) fo_X4_41 kl_10 (by decide) ti_4_7 dX4_read_29 ?_
      refine rx_top (wt) rR_wt ?_
      refine rx_if_eq (tgt := 44) dX4_read_32 (by decide) (fun c32 => ?_) (fun c32 => ?_)
      · skip
        rw [show rst (M.1 3 i) (St, z, Wt, nw, Cp, dp, dg, wt) = beS (M.1 3 i) (St, z, Wt, nw, Cp, dp, dg, wt) from if_pos c32] at hr1
        refine rx_aload_n (i := 0) dX4_read_44 rfl rfl ?_
        refine rx_iload (i := 4) dX4_read_45 rfl ?_
        refine rx_cvI (ci := 4) mo_X4_takesBehind lk_X4_49 (c_X4_takesBehind (hsg i (by omega)).1 (hsg i (by omega)).2 (show i < 40 by omega) hr) (by decide) rfl rfl (Nat.le_of_ble_eq_true rfl) kl_10 rfl dX4_read_47 ?_
        rw [hr1]
        refine rx_istore (i := 5) dX4_read_50 (by decide) rfl rfl ?_
        refine rx_iload (i := 5) dX4_read_52 rfl ?_
        refine rx_if_ne (tgt := 61) dX4_read_54 (by decide) (fun c54 => ?_) (fun c54 => ?_)
        · skip
          have e54 : r1.1 = true := Decidable.byContradiction fun q => c54 (zI_0.mpr (by simpa using q))
          rw [if_pos e54] at he
          first | refine rx_iincN (i := 3) dX4_read_61 rfl (by decide) rfl rfl ?_ | refine rx_iinc (i := 3) dX4_read_61 rfl rfl (by decide) rfl rfl ?_
          refine rx_goto (tgt := 16) dX4_read_64 (by decide) ?_
          refine rx_drop 4 ?_
          refine rx_drop 5 ?_
          exact ih (i + 1) r1.2 (by omega) ho (by rw [show lim - (i + 1) = k by omega]; exact he) (by omega)
        · skip
          have e54 : r1.1 = false := zI_0.mp c54
          rw [if_neg (fun q => by rw [e54] at q; exact absurd q (by decide))] at he
          subst he
          refine rx_iconst (-1) dX4_read_57 rfl ?_
          refine rx_iload_n (i := 3) dX4_read_58 rfl rfl ?_
          refine rx_isub dX4_read_59 ?_
          exact rx_fiI dX4_read_60 rfl rfl
      · skip
        rw [show rst (M.1 3 i) (St, z, Wt, nw, Cp, dp, dg, wt) = thS (M.1 3 i) (St, z, Wt, nw, Cp, dp, dg, wt) from if_neg c32] at hr1
        refine rx_aload_n (i := 0) dX4_read_35 rfl rfl ?_
        refine rx_iload (i := 4) dX4_read_36 rfl ?_
        refine rx_cvI (ci := 4) mo_X4_takesThing lk_X4_45 (c_X4_takesThing (hsg i (by omega)).1 (hsg i (by omega)).2 (show i < 40 by omega) hr) (by decide) rfl rfl (Nat.le_of_ble_eq_true rfl) kl_10 rfl dX4_read_38 ?_
        rw [hr1]
        refine rx_goto (tgt := 50) dX4_read_41 (by decide) ?_
        refine rx_istore (i := 5) dX4_read_50 (by decide) rfl rfl ?_
        refine rx_iload (i := 5) dX4_read_52 rfl ?_
        refine rx_if_ne (tgt := 61) dX4_read_54 (by decide) (fun c54 => ?_) (fun c54 => ?_)
        · skip
          have e54 : r1.1 = true := Decidable.byContradiction fun q => c54 (zI_0.mpr (by simpa using q))
          rw [if_pos e54] at he
          first | refine rx_iincN (i := 3) dX4_read_61 rfl (by decide) rfl rfl ?_ | refine rx_iinc (i := 3) dX4_read_61 rfl rfl (by decide) rfl rfl ?_
          refine rx_goto (tgt := 16) dX4_read_64 (by decide) ?_
          refine rx_drop 4 ?_
          refine rx_drop 5 ?_
          exact ih (i + 1) r1.2 (by omega) ho (by rw [show lim - (i + 1) = k by omega]; exact he) (by omega)
        · skip
          have e54 : r1.1 = false := zI_0.mp c54
          rw [if_neg (fun q => by rw [e54] at q; exact absurd q (by decide))] at he
          subst he
          refine rx_iconst (-1) dX4_read_57 rfl ?_
          refine rx_iload_n (i := 3) dX4_read_58 rfl rfl ?_
          refine rx_isub dX4_read_59 ?_
          exact rx_fiI dX4_read_60 rfl rfl
set_option maxRecDepth 100000 in
set_option maxHeartbeats 4000000 in
theorem c_X4_read {M : Mem} {L : Nat} (hL : M.1 2 1 = nI L) (hl80 : L ≤ 80) (hsg : ∀ j, j < L → 0 ≤ M.1 3 j ∧ M.1 3 j ≤ 255) : Fun yX4_read cX4_read 6 (some .int) 8 [.ref 10, .ref 2] M (some (.int (rrV (rrn (M.1 3) (min L 40) 0 (rS0 M)) L (min L 40)))) (rMs M (rrS (rrn (M.1 3) (min L 40) 0 (rS0 M)) L (min L 40))) := by
  refine Fun.of (own := RX4) ([some (.ref 10), some (.ref 2), none, none, none, none]) rfl (by decide +kernel) (Nat.le_of_ble_eq_true rfl) rfl ?_
  refine rx_aload_n (i := 0) dX4_read_0 rfl rfl ?_
  refine rx_cvN (ci := 4) mo_X4_start lk_X4_22 c_X4_start (by decide) rfl rfl (Nat.le_of_ble_eq_true rfl) kl_10 rfl dX4_read_1 ?_
  refine rx_bipush (40) dX4_read_4 rfl ?_
  refine rx_aload_n (i := 1) dX4_read_6 rfl rfl ?_
  refine rx_cvI (ci := 6) mo_X6_length lk_X4_25 c_X6_length (by decide) rfl rfl (Nat.le_of_ble_eq_true rfl) kl_2 rfl dX4_read_7 ?_
  refine rx_top (nI L) ((rR_o (by decide)).trans hL) ?_
  refine rx_mmin (List.mem_of_getElem? (i := 611) (by decide +kernel)) (by decide) (Nat.le_of_ble_eq_true rfl) dX4_read_10 ?_
  refine rx_top (nI (min L 40)) (mn1 (a := L) (b := 40) (by omega) (by omega)) ?_
  refine rx_istore_n (i := 2) dX4_read_13 rfl (by decide) rfl rfl ?_
  refine rx_iconst (0) dX4_read_14 rfl ?_
  refine rx_istore_n (i := 3) dX4_read_15 rfl (by decide) rfl rfl ?_
  exact l_X4_read hL hl80 (Nat.min_le_left _ _) (Nat.min_le_right _ _) hsg (min L 40 + 1) 0 (rS0 M) (Nat.zero_le _) ⟨Nat.le_refl _, Nat.zero_le _, Nat.zero_le _, fun h => absurd h (show ¬ 1 ≤ 0 by decide), Or.inr rfl⟩ (by rw [Nat.sub_zero]) (by omega)
