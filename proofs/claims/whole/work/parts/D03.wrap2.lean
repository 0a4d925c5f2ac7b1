set_option maxRecDepth 100000 in
set_option maxHeartbeats 4000000 in
theorem w_of_ok {M : Mem} {V : Option Value → Mem → Prop} {x y : Int32} (hC : Con yX10_of cX10_of 3 (some .int) 2 [.ref 0, .int x, .int y] M V) (hV : ∀ v N, V v N → ∃ a : Int32, v = some (.int a)) : Wr yL_of cL_of 5 7 [(0, 10, 13, 13)] [.ref 0, .int x, .int y, .ref 176] M (fun k M' => k = 0 ∧ ∃ a : Int32, ∃ N, V (some (.int a)) N ∧ M' = setJ N 176 0 a.toInt64) := by
  refine Wr.of (ls := [some (.ref 0), some (.int x), some (.int y), some (.ref 176), none]) rfl (by decide +kernel) (Nat.le_of_ble_eq_true rfl) rfl ?_
  refine rx_aload_n (i := 3) dL_of_0 rfl rfl ?_
  refine rx_iconst (nI 0) dL_of_1 rfl ?_
  refine rx_aload_n (i := 0) dL_of_2 rfl rfl ?_
  refine rx_iload_n (i := 1) dL_of_3 rfl rfl ?_
  refine rx_iload_n (i := 2) dL_of_4 rfl rfl ?_
  refine rx_callV (ci := 10) mo_X10_of lk_L_7 hC (by decide) rfl rfl (Nat.le_of_ble_eq_true rfl) kl_0 rfl dL_of_5 (fun v N hv => ?_)
  obtain ⟨a, rfl⟩ := hV v N hv
  refine rx_i2l dL_of_8 rfl ?_
  refine rx_lastN (id := 176) (n := 1) (k := 0) rfl (by decide) (by decide) dL_of_9 ?_
  refine rx_goto (tgt := 17) dL_of_10 (by decide) ?_
  refine rx_iconst (0) dL_of_17 rfl ?_
  exact Reach.here ⟨0, rfl, ⟨rfl, a, N, hv, rfl⟩, dL_of_18⟩
set_option maxRecDepth 100000 in
set_option maxHeartbeats 4000000 in
theorem w_of_no {M : Mem} {x y : Int32} (hT : Thr yX10_of cX10_of 3 (some .int) 6 [.ref 0, .int x, .int y] M) : Wr yL_of cL_of 5 7 [(0, 10, 13, 13)] [.ref 0, .int x, .int y, .ref 176] M (fun k M' => k = 1 ∧ M' = M) := by
  refine Wr.thr (ls := [some (.ref 0), some (.int x), some (.int y), some (.ref 176), none]) (pcv := 5) (As' := [.int x, .int y]) (rest := [.int (nI 0), .ref 176]) rfl (by decide +kernel) (Nat.le_of_ble_eq_true rfl) rfl ?_ mo_X10_of (List.mem_of_getElem? (i := 1288) (by decide +kernel)) hT (by decide) rfl (Nat.le_of_ble_eq_true rfl) rfl dL_of_5 rfl (Or.inl ⟨4, dL_of_13, by decide, rfl⟩) dL_of_15 dL_of_16
  refine rx_aload_n (i := 3) dL_of_0 rfl rfl ?_
  refine rx_iconst (nI 0) dL_of_1 rfl ?_
  refine rx_aload_n (i := 0) dL_of_2 rfl rfl ?_
  refine rx_iload_n (i := 1) dL_of_3 rfl rfl ?_
  refine rx_iload_n (i := 2) dL_of_4 rfl rfl ?_
  exact Reach.here ⟨rfl, rfl, rfl⟩
set_option maxRecDepth 100000 in
set_option maxHeartbeats 4000000 in
theorem w_debt_ok {M : Mem} {V : Option Value → Mem → Prop} {x y : Int32} (hC : Con yX10_debt cX10_debt 3 (some .int) 1 [.ref 0, .int x, .int y] M V) (hV : ∀ v N, V v N → ∃ a : Int32, v = some (.int a)) : Wr yL_debt cL_debt 5 7 [(0, 10, 13, 13)] [.ref 0, .int x, .int y, .ref 176] M (fun k M' => k = 0 ∧ ∃ a : Int32, ∃ N, V (some (.int a)) N ∧ M' = setJ N 176 0 a.toInt64) := by
  refine Wr.of (ls := [some (.ref 0), some (.int x), some (.int y), some (.ref 176), none]) rfl (by decide +kernel) (Nat.le_of_ble_eq_true rfl) rfl ?_
  refine rx_aload_n (i := 3) dL_debt_0 rfl rfl ?_
  refine rx_iconst (nI 0) dL_debt_1 rfl ?_
  refine rx_aload_n (i := 0) dL_debt_2 rfl rfl ?_
  refine rx_iload_n (i := 1) dL_debt_3 rfl rfl ?_
  refine rx_iload_n (i := 2) dL_debt_4 rfl rfl ?_
  refine rx_callV (ci := 10) mo_X10_debt lk_L_15 hC (by decide) rfl rfl (Nat.le_of_ble_eq_true rfl) kl_0 rfl dL_debt_5 (fun v N hv => ?_)
  obtain ⟨a, rfl⟩ := hV v N hv
  refine rx_i2l dL_debt_8 rfl ?_
  refine rx_lastN (id := 176) (n := 1) (k := 0) rfl (by decide) (by decide) dL_debt_9 ?_
  refine rx_goto (tgt := 17) dL_debt_10 (by decide) ?_
  refine rx_iconst (0) dL_debt_17 rfl ?_
  exact Reach.here ⟨0, rfl, ⟨rfl, a, N, hv, rfl⟩, dL_debt_18⟩
set_option maxRecDepth 100000 in
set_option maxHeartbeats 4000000 in
theorem w_debt_no {M : Mem} {x y : Int32} (hT : Thr yX10_debt cX10_debt 3 (some .int) 6 [.ref 0, .int x, .int y] M) : Wr yL_debt cL_debt 5 7 [(0, 10, 13, 13)] [.ref 0, .int x, .int y, .ref 176] M (fun k M' => k = 1 ∧ M' = M) := by
  refine Wr.thr (ls := [some (.ref 0), some (.int x), some (.int y), some (.ref 176), none]) (pcv := 5) (As' := [.int x, .int y]) (rest := [.int (nI 0), .ref 176]) rfl (by decide +kernel) (Nat.le_of_ble_eq_true rfl) rfl ?_ mo_X10_debt (List.mem_of_getElem? (i := 1366) (by decide +kernel)) hT (by decide) rfl (Nat.le_of_ble_eq_true rfl) rfl dL_debt_5 rfl (Or.inl ⟨4, dL_debt_13, by decide, rfl⟩) dL_debt_15 dL_debt_16
  refine rx_aload_n (i := 3) dL_debt_0 rfl rfl ?_
  refine rx_iconst (nI 0) dL_debt_1 rfl ?_
  refine rx_aload_n (i := 0) dL_debt_2 rfl rfl ?_
  refine rx_iload_n (i := 1) dL_debt_3 rfl rfl ?_
  refine rx_iload_n (i := 2) dL_debt_4 rfl rfl ?_
  exact Reach.here ⟨rfl, rfl, rfl⟩
set_option maxRecDepth 100000 in
set_option maxHeartbeats 4000000 in
theorem w_pays_ok {M : Mem} {V : Option Value → Mem → Prop} {x y z : Int32} (hC : Con yX10_pays cX10_pays 4 (some .int) 7 [.ref 0, .int x, .int y, .int z] M V) (hV : ∀ v N, V v N → ∃ a : Int32, v = some (.int a)) : Wr yL_pays cL_pays 6 8 [(0, 12, 15, 13)] [.ref 0, .int x, .int y, .int z, .ref 176] M (fun k M' => k = 0 ∧ ∃ a : Int32, ∃ N, V (some (.int a)) N ∧ M' = setJ N 176 0 a.toInt64) := by
  refine Wr.of (ls := [some (.ref 0), some (.int x), some (.int y), some (.int z), some (.ref 176), none]) rfl (by decide +kernel) (Nat.le_of_ble_eq_true rfl) rfl ?_
  refine rx_aload (i := 4) dL_pays_0 rfl ?_
  refine rx_iconst (nI 0) dL_pays_2 rfl ?_
  refine rx_aload_n (i := 0) dL_pays_3 rfl rfl ?_
  refine rx_iload_n (i := 1) dL_pays_4 rfl rfl ?_
  refine rx_iload_n (i := 2) dL_pays_5 rfl rfl ?_
  refine rx_iload_n (i := 3) dL_pays_6 rfl rfl ?_
  refine rx_callV (ci := 10) mo_X10_pays lk_L_18 hC (by decide) rfl rfl (Nat.le_of_ble_eq_true rfl) kl_0 rfl dL_pays_7 (fun v N hv => ?_)
  obtain ⟨a, rfl⟩ := hV v N hv
  refine rx_i2l dL_pays_10 rfl ?_
  refine rx_lastN (id := 176) (n := 1) (k := 0) rfl (by decide) (by decide) dL_pays_11 ?_
  refine rx_goto (tgt := 19) dL_pays_12 (by decide) ?_
  refine rx_iconst (0) dL_pays_19 rfl ?_
  exact Reach.here ⟨0, rfl, ⟨rfl, a, N, hv, rfl⟩, dL_pays_20⟩
set_option maxRecDepth 100000 in
set_option maxHeartbeats 4000000 in
theorem w_pays_no {M : Mem} {x y z : Int32} (hT : Thr yX10_pays cX10_pays 4 (some .int) 7 [.ref 0, .int x, .int y, .int z] M) : Wr yL_pays cL_pays 6 8 [(0, 12, 15, 13)] [.ref 0, .int x, .int y, .int z, .ref 176] M (fun k M' => k = 1 ∧ M' = M) := by
  refine Wr.thr (ls := [some (.ref 0), some (.int x), some (.int y), some (.int z), some (.ref 176), none]) (pcv := 7) (As' := [.int x, .int y, .int z]) (rest := [.int (nI 0), .ref 176]) rfl (by decide +kernel) (Nat.le_of_ble_eq_true rfl) rfl ?_ mo_X10_pays (List.mem_of_getElem? (i := 1373) (by decide +kernel)) hT (by decide) rfl (Nat.le_of_ble_eq_true rfl) rfl dL_pays_7 rfl (Or.inl ⟨5, dL_pays_15, by decide, rfl⟩) dL_pays_17 dL_pays_18
  refine rx_aload (i := 4) dL_pays_0 rfl ?_
  refine rx_iconst (nI 0) dL_pays_2 rfl ?_
  refine rx_aload_n (i := 0) dL_pays_3 rfl rfl ?_
  refine rx_iload_n (i := 1) dL_pays_4 rfl rfl ?_
  refine rx_iload_n (i := 2) dL_pays_5 rfl rfl ?_
  refine rx_iload_n (i := 3) dL_pays_6 rfl rfl ?_
  exact Reach.here ⟨rfl, rfl, rfl⟩
set_option maxRecDepth 100000 in
set_option maxHeartbeats 4000000 in
theorem w_row_ok {M : Mem} {V : Option Value → Mem → Prop} {x : Int32} (hC : Con yX10_row cX10_row 2 (some .long) 0 [.ref 0, .int x] M V) (hV : ∀ v N, V v N → ∃ a : Int64, v = some (.long a)) : Wr yL_row cL_row 4 7 [(0, 8, 11, 13)] [.ref 0, .int x, .ref 176] M (fun k M' => k = 0 ∧ ∃ a : Int64, ∃ N, V (some (.long a)) N ∧ M' = setJ N 176 0 a) := by
  refine Wr.of (ls := [some (.ref 0), some (.int x), some (.ref 176), none]) rfl (by decide +kernel) (Nat.le_of_ble_eq_true rfl) rfl ?_
  refine rx_aload_n (i := 2) dL_row_0 rfl rfl ?_
  refine rx_iconst (nI 0) dL_row_1 rfl ?_
  refine rx_aload_n (i := 0) dL_row_2 rfl rfl ?_
  refine rx_iload_n (i := 1) dL_row_3 rfl rfl ?_
  refine rx_callV (ci := 10) mo_X10_row lk_L_22 hC (by decide) rfl rfl (Nat.le_of_ble_eq_true rfl) kl_0 rfl dL_row_4 (fun v N hv => ?_)
  obtain ⟨a, rfl⟩ := hV v N hv
  refine rx_lastN (id := 176) (n := 1) (k := 0) rfl (by decide) (by decide) dL_row_7 ?_
  refine rx_goto (tgt := 14) dL_row_8 (by decide) ?_
  refine rx_iconst (0) dL_row_14 rfl ?_
  exact Reach.here ⟨0, rfl, ⟨rfl, a, N, hv, rfl⟩, dL_row_15⟩
set_option maxRecDepth 100000 in
set_option maxHeartbeats 4000000 in
theorem w_row_no {M : Mem} {x : Int32} (hT : Thr yX10_row cX10_row 2 (some .long) 6 [.ref 0, .int x] M) : Wr yL_row cL_row 4 7 [(0, 8, 11, 13)] [.ref 0, .int x, .ref 176] M (fun k M' => k = 1 ∧ M' = M) := by
  refine Wr.thr (ls := [some (.ref 0), some (.int x), some (.ref 176), none]) (pcv := 4) (As' := [.int x]) (rest := [.int (nI 0), .ref 176]) rfl (by decide +kernel) (Nat.le_of_ble_eq_true rfl) rfl ?_ mo_X10_row (List.mem_of_getElem? (i := 1384) (by decide +kernel)) hT (by decide) rfl (Nat.le_of_ble_eq_true rfl) rfl dL_row_4 rfl (Or.inr ⟨3, dL_row_11, by decide, rfl⟩) dL_row_12 dL_row_13
  refine rx_aload_n (i := 2) dL_row_0 rfl rfl ?_
  refine rx_iconst (nI 0) dL_row_1 rfl ?_
  refine rx_aload_n (i := 0) dL_row_2 rfl rfl ?_
  refine rx_iload_n (i := 1) dL_row_3 rfl rfl ?_
  exact Reach.here ⟨rfl, rfl, rfl⟩
