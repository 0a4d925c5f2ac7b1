set_option maxRecDepth 100000 in
set_option maxHeartbeats 4000000 in
theorem c_X10_sheet_no {M : Mem} {x y f st : Int32} (hx : ¬ ((0 ≤ x ∧ x ≤ 3) ∧ y ≤ 8)) : Fun yX10_sheet cX10_sheet 9 (some .int) 2 [.ref 0, .int x, .int y, .int f, .int st] M (some (.int (-1))) (M) := by
  refine Fun.of (own := RX10) ([some (.ref 0), some (.int x), some (.int y), some (.int f), some (.int st), none, none, none, none]) rfl (by decide +kernel) (Nat.le_of_ble_eq_true rfl) rfl ?_
  refine rx_iload_n (i := 1) dX10_sheet_0 rfl rfl ?_
  refine rx_if_lt (tgt := 15) dX10_sheet_1 (by decide) (fun c1 => ?_) (fun c1 => ?_)
  · skip
    have f1 := Int32.not_le.mpr c1
    refine rx_iconst (-1) dX10_sheet_15 rfl ?_
    exact rx_fiI dX10_sheet_16 rfl rfl
  · skip
    have f1 := Int32.not_lt.mp c1
    refine rx_iload_n (i := 1) dX10_sheet_4 rfl rfl ?_
    refine rx_iconst (3) dX10_sheet_5 rfl ?_
    refine rx_icmp_gt (tgt := 15) dX10_sheet_6 (by decide) (fun c6 => ?_) (fun c6 => ?_)
    · skip
      have f6 := Int32.not_le.mpr c6
      refine rx_iconst (-1) dX10_sheet_15 rfl ?_
      exact rx_fiI dX10_sheet_16 rfl rfl
    · skip
      have f6 := Int32.not_lt.mp c6
      refine rx_iload_n (i := 2) dX10_sheet_9 rfl rfl ?_
      refine rx_bipush (8) dX10_sheet_10 rfl ?_
      refine rx_icmp_le (tgt := 17) dX10_sheet_12 (by decide) (fun c12 => ?_) (fun c12 => ?_)
      · skip
        have f12 := Int32.not_lt.mpr c12
        exact absurd ⟨⟨f1, f6⟩, c12⟩ hx
        skip
      · skip
        have f12 := Int32.not_le.mp c12
        refine rx_iconst (-1) dX10_sheet_15 rfl ?_
        exact rx_fiI dX10_sheet_16 rfl rfl
set_option maxRecDepth 100000 in
set_option maxHeartbeats 4000000 in
theorem c_X10_sheet_not {M : Mem} {x y f st : Int32} (hx : 0 ≤ x ∧ x < 3) (hy : y < 0) : Fun yX10_sheet cX10_sheet 9 (some .int) 2 [.ref 0, .int x, .int y, .int f, .int st] M (some (.int (-2))) (M) := by
  refine Fun.of (own := RX10) ([some (.ref 0), some (.int x), some (.int y), some (.int f), some (.int st), none, none, none, none]) rfl (by decide +kernel) (Nat.le_of_ble_eq_true rfl) rfl ?_
  refine rx_iload_n (i := 1) dX10_sheet_0 rfl rfl ?_
  refine rx_if_lt (tgt := 15) dX10_sheet_1 (by decide) (fun c1 => ?_) (fun c1 => ?_)
  · skip
    have f1 := Int32.not_le.mpr c1
    exact absurd c1 (Int32.not_lt.mpr hx.1)
    skip
  · skip
    have f1 := Int32.not_lt.mp c1
    refine rx_iload_n (i := 1) dX10_sheet_4 rfl rfl ?_
    refine rx_iconst (3) dX10_sheet_5 rfl ?_
    refine rx_icmp_gt (tgt := 15) dX10_sheet_6 (by decide) (fun c6 => ?_) (fun c6 => ?_)
    · skip
      have f6 := Int32.not_le.mpr c6
      exact (Int32.lt_irrefl (Int32.lt_trans hx.2 c6)).elim
      skip
    · skip
      have f6 := Int32.not_lt.mp c6
      refine rx_iload_n (i := 2) dX10_sheet_9 rfl rfl ?_
      refine rx_bipush (8) dX10_sheet_10 rfl ?_
      refine rx_icmp_le (tgt := 17) dX10_sheet_12 (by decide) (fun c12 => ?_) (fun c12 => ?_)
      · skip
        have f12 := Int32.not_lt.mpr c12
        refine rx_iload_n (i := 1) dX10_sheet_17 rfl rfl ?_
        refine rx_iconst (3) dX10_sheet_18 rfl ?_
        refine rx_icmp_ne (tgt := 26) dX10_sheet_19 (by decide) (fun c19 => ?_) (fun c19 => ?_)
        · skip
          refine rx_iconst (0) dX10_sheet_26 rfl ?_
          refine rx_istore (i := 5) dX10_sheet_27 (by decide) rfl rfl ?_
          refine rx_iload_n (i := 2) dX10_sheet_29 rfl rfl ?_
          refine rx_if_ge (tgt := 41) dX10_sheet_30 (by decide) (fun c30 => ?_) (fun c30 => ?_)
          · skip
            have f30 := Int32.not_lt.mpr c30
            exact absurd hy (Int32.not_lt.mpr c30)
            skip
          · skip
            have f30 := Int32.not_le.mp c30
            refine rx_iload (i := 5) dX10_sheet_33 rfl ?_
            refine rx_if_ne (tgt := 41) dX10_sheet_35 (by decide) (fun c35 => absurd c35 (by decide)) (fun c35 => ?_)
            refine rx_bipush (-2) dX10_sheet_38 rfl ?_
            exact rx_fiI dX10_sheet_40 rfl rfl
        · skip
          exact absurd hx.2 (by rw [c19]; decide)
          skip
      · skip
        have f12 := Int32.not_le.mp c12
        exact absurd (Int32.le_of_lt (Int32.lt_trans hy (show (0 : Int32) < 8 by decide))) c12
        skip
