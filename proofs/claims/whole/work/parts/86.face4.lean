theorem l_X10_sheet0 {M : Mem} {n : Nat} {x y f st b en : Int32} (hn : M.1 28 15 = nI n) (hn8 : n ≤ 8) (hen : ∀ i, i < 8 → (en ≤ nI i ↔ x = 3 ∨ y ≤ nI i)) {QQ : Nat → List (Option Value) → List Value → Mem → Prop} (K : Reach cX10_sheet RX10 9 2 QQ 135 [some (.ref 0), some (.int x), some (.int y), some (.int f), some (.int st), some (.int b), some (.int en), some (.int (fsum (shE x y f st) n)), none] [] (shcM M x y f st n)) : Reach cX10_sheet RX10 9 2 QQ 59 [some (.ref 0), some (.int x), some (.int y), some (.int f), some (.int st), some (.int b), some (.int en), some (.int 0), some (.int 0)] [] M := by
  have h := l_X10_sheet hn hn8 hen K (n + 1) 0 0 (Nat.zero_le _) rfl (by omega)
  rw [shc_0] at h
  exact h
set_option maxRecDepth 100000 in
set_option maxHeartbeats 4000000 in
theorem c_X10_sheet {M : Mem} {n : Nat} {x y f st : Int32} (hn : M.1 28 15 = nI n) (hn8 : n ≤ 8) (hx : 0 ≤ x ∧ x ≤ 3) (hy : y ≤ 8) (hz : x = 3 ∨ 0 ≤ y) : Fun yX10_sheet cX10_sheet 9 (some .int) 2 [.ref 0, .int x, .int y, .int f, .int st] M (some (.int (if x = 3 then -3 else fsum (shE x y f st) n))) (setI (shcM M x y f st n) 0 14 0) := by
  refine Fun.of (own := RX10) ([some (.ref 0), some (.int x), some (.int y), some (.int f), some (.int st), none, none, none, none]) rfl (by decide +kernel) (Nat.le_of_ble_eq_true rfl) rfl ?_
  refine rx_iload_n (i := 1) dX10_sheet_0 rfl rfl ?_
  refine rx_if_lt (tgt := 15) dX10_sheet_1 (by decide) (fun c1 => ?_) (fun c1 => ?_)
  · skip
    have f1 := Int32.not_le.mpr c1
    exact absurd c1 (Int32.not_lt.mpr hx.1)
    skip
  · skip
    have f1 := Int32.not_lt.mp c1
    refine rx_iload_n (i := 1) dX10_sheet_4 rfl rfl ?_
    refine rx_iconst (3) dX10_sheet_5 rfl ?_
    refine rx_icmp_gt (tgt := 15) dX10_sheet_6 (by decide) (fun c6 => ?_) (fun c6 => ?_)
    · skip
      have f6 := Int32.not_le.mpr c6
      exact absurd c6 (Int32.not_lt.mpr hx.2)
      skip
    · skip
      have f6 := Int32.not_lt.mp c6
      refine rx_iload_n (i := 2) dX10_sheet_9 rfl rfl ?_
      refine rx_bipush (8) dX10_sheet_10 rfl ?_
      refine rx_icmp_le (tgt := 17) dX10_sheet_12 (by decide) (fun c12 => ?_) (fun c12 => ?_)
      · skip
        have f12 := Int32.not_lt.mpr c12
        refine rx_iload_n (i := 1) dX10_sheet_17 rfl rfl ?_
        refine rx_iconst (3) dX10_sheet_18 rfl ?_
        refine rx_icmp_ne (tgt := 26) dX10_sheet_19 (by decide) (fun c19 => ?_) (fun c19 => ?_)
        · skip
          have e3 : ¬ x = 3 := c19
          refine rx_iconst (0) dX10_sheet_26 rfl ?_
          refine rx_istore (i := 5) dX10_sheet_27 (by decide) rfl rfl ?_
          refine rx_iload_n (i := 2) dX10_sheet_29 rfl rfl ?_
          refine rx_if_ge (tgt := 41) dX10_sheet_30 (by decide) (fun c30 => ?_) (fun c30 => ?_)
          · skip
            have f30 := Int32.not_lt.mpr c30
            refine rx_iload (i := 5) dX10_sheet_41 rfl ?_
            refine rx_if_eq (tgt := 50) dX10_sheet_43 (by decide) (fun c43 => ?_) (fun c43 => absurd c43 (by decide))
            refine rx_iload_n (i := 2) dX10_sheet_50 rfl rfl ?_
            refine rx_istore (i := 6) dX10_sheet_51 (by decide) rfl rfl ?_
            refine rx_iconst (0) dX10_sheet_53 rfl ?_
            refine rx_istore (i := 7) dX10_sheet_54 (by decide) rfl rfl ?_
            refine rx_iconst (0) dX10_sheet_56 rfl ?_
            refine rx_istore (i := 8) dX10_sheet_57 (by decide) rfl rfl ?_
            refine l_X10_sheet0 hn hn8 (by first | exact fun i hi => ⟨fun _ => Or.inl e3, fun _ => nI_pos' (by omega)⟩ | exact fun i hi => ⟨Or.inr, fun q => q.resolve_left e3⟩) ?_
            refine rx_aload_n (i := 0) dX10_sheet_135 rfl rfl ?_
            refine rx_cvN (ci := 10) mo_X10_forgetPayments lk_X10_110 c_X10_forgetPayments (by decide) rfl rfl (Nat.le_of_ble_eq_true rfl) kl_0 rfl dX10_sheet_136 ?_
            refine rx_iload (i := 5) dX10_sheet_139 rfl ?_
            refine rx_if_eq (tgt := 149) dX10_sheet_141 (by decide) (fun c141 => ?_) (fun c141 => ?_)
            · skip
              have q141 := c141
              refine rx_iload (i := 7) dX10_sheet_149 rfl ?_
              first | exact absurd q141 (by decide) | exact absurd rfl q141 | exact rx_fiI dX10_sheet_151 (if_pos e3).symm rfl | exact rx_fiI dX10_sheet_151 (if_neg e3).symm rfl
            · skip
              have q141 := c141
              refine rx_bipush (-3) dX10_sheet_144 rfl ?_
              refine rx_goto (tgt := 151) dX10_sheet_146 (by decide) ?_
              first | exact absurd q141 (by decide) | exact absurd rfl q141 | exact rx_fiI dX10_sheet_151 (if_pos e3).symm rfl | exact rx_fiI dX10_sheet_151 (if_neg e3).symm rfl
          · skip
            have f30 := Int32.not_le.mp c30
            refine rx_iload (i := 5) dX10_sheet_33 rfl ?_
            refine rx_if_ne (tgt := 41) dX10_sheet_35 (by decide) (fun c35 => absurd c35 (by decide)) (fun c35 => ?_)
            exact absurd (hz.resolve_left e3) (by first | exact c30 | exact Int32.not_le.mpr c30)
        · skip
          have e3 : x = 3 := c19
          refine rx_iconst (1) dX10_sheet_22 rfl ?_
          refine rx_goto (tgt := 27) dX10_sheet_23 (by decide) ?_
          refine rx_istore (i := 5) dX10_sheet_27 (by decide) rfl rfl ?_
          refine rx_iload_n (i := 2) dX10_sheet_29 rfl rfl ?_
          refine rx_if_ge (tgt := 41) dX10_sheet_30 (by decide) (fun c30 => ?_) (fun c30 => ?_)
          · skip
            have f30 := Int32.not_lt.mpr c30
            refine rx_iload (i := 5) dX10_sheet_41 rfl ?_
            refine rx_if_eq (tgt := 50) dX10_sheet_43 (by decide) (fun c43 => absurd c43 (by decide)) (fun c43 => ?_)
            refine rx_iconst (0) dX10_sheet_46 rfl ?_
            refine rx_goto (tgt := 51) dX10_sheet_47 (by decide) ?_
            refine rx_istore (i := 6) dX10_sheet_51 (by decide) rfl rfl ?_
            refine rx_iconst (0) dX10_sheet_53 rfl ?_
            refine rx_istore (i := 7) dX10_sheet_54 (by decide) rfl rfl ?_
            refine rx_iconst (0) dX10_sheet_56 rfl ?_
            refine rx_istore (i := 8) dX10_sheet_57 (by decide) rfl rfl ?_
            refine l_X10_sheet0 hn hn8 (by first | exact fun i hi => ⟨fun _ => Or.inl e3, fun _ => nI_pos' (by omega)⟩ | exact fun i hi => ⟨Or.inr, fun q => q.resolve_left e3⟩) ?_
            refine rx_aload_n (i := 0) dX10_sheet_135 rfl rfl ?_
            refine rx_cvN (ci := 10) mo_X10_forgetPayments lk_X10_110 c_X10_forgetPayments (by decide) rfl rfl (Nat.le_of_ble_eq_true rfl) kl_0 rfl dX10_sheet_136 ?_
            refine rx_iload (i := 5) dX10_sheet_139 rfl ?_
            refine rx_if_eq (tgt := 149) dX10_sheet_141 (by decide) (fun c141 => ?_) (fun c141 => ?_)
            · skip
              have q141 := c141
              refine rx_iload (i := 7) dX10_sheet_149 rfl ?_
              first | exact absurd q141 (by decide) | exact absurd rfl q141 | exact rx_fiI dX10_sheet_151 (if_pos e3).symm rfl | exact rx_fiI dX10_sheet_151 (if_neg e3).symm rfl
            · skip
              have q141 := c141
              refine rx_bipush (-3) dX10_sheet_144 rfl ?_
              refine rx_goto (tgt := 151) dX10_sheet_146 (by decide) ?_
              first | exact absurd q141 (by decide) | exact absurd rfl q141 | exact rx_fiI dX10_sheet_151 (if_pos e3).symm rfl | exact rx_fiI dX10_sheet_151 (if_neg e3).symm rfl
          · skip
            have f30 := Int32.not_le.mp c30
            refine rx_iload (i := 5) dX10_sheet_33 rfl ?_
            refine rx_if_ne (tgt := 41) dX10_sheet_35 (by decide) (fun c35 => ?_) (fun c35 => absurd c35 (by decide))
            refine rx_iload (i := 5) dX10_sheet_41 rfl ?_
            refine rx_if_eq (tgt := 50) dX10_sheet_43 (by decide) (fun c43 => absurd c43 (by decide)) (fun c43 => ?_)
            refine rx_iconst (0) dX10_sheet_46 rfl ?_
            refine rx_goto (tgt := 51) dX10_sheet_47 (by decide) ?_
            refine rx_istore (i := 6) dX10_sheet_51 (by decide) rfl rfl ?_
            refine rx_iconst (0) dX10_sheet_53 rfl ?_
            refine rx_istore (i := 7) dX10_sheet_54 (by decide) rfl rfl ?_
            refine rx_iconst (0) dX10_sheet_56 rfl ?_
            refine rx_istore (i := 8) dX10_sheet_57 (by decide) rfl rfl ?_
            refine l_X10_sheet0 hn hn8 (by first | exact fun i hi => ⟨fun _ => Or.inl e3, fun _ => nI_pos' (by omega)⟩ | exact fun i hi => ⟨Or.inr, fun q => q.resolve_left e3⟩) ?_
            refine rx_aload_n (i := 0) dX10_sheet_135 rfl rfl ?_
            refine rx_cvN (ci := 10) mo_X10_forgetPayments lk_X10_110 c_X10_forgetPayments (by decide) rfl rfl (Nat.le_of_ble_eq_true rfl) kl_0 rfl dX10_sheet_136 ?_
            refine rx_iload (i := 5) dX10_sheet_139 rfl ?_
            refine rx_if_eq (tgt := 149) dX10_sheet_141 (by decide) (fun c141 => ?_) (fun c141 => ?_)
            · skip
              have q141 := c141
              refine rx_iload (i := 7) dX10_sheet_149 rfl ?_
              first | exact absurd q141 (by decide) | exact absurd rfl q141 | exact rx_fiI dX10_sheet_151 (if_pos e3).symm rfl | exact rx_fiI dX10_sheet_151 (if_neg e3).symm rfl
            · skip
              have q141 := c141
              refine rx_bipush (-3) dX10_sheet_144 rfl ?_
              refine rx_goto (tgt := 151) dX10_sheet_146 (by decide) ?_
              first | exact absurd q141 (by decide) | exact absurd rfl q141 | exact rx_fiI dX10_sheet_151 (if_pos e3).symm rfl | exact rx_fiI dX10_sheet_151 (if_neg e3).symm rfl
      · skip
        have f12 := Int32.not_le.mp c12
        exact absurd hy c12
        skip
