set_option maxRecDepth 20000 in
theorem ug_X0 : ∀ w ∈ wsX00, w ∈ gtbl := by
  intro w hw
  have e : wsX00 = ([445, 447, 449, 451, 453] : List Nat).filterMap (fun i => lw_tbl[i]?) := by decide +kernel
  have hg : wsX00.all goodWord = true := by decide +kernel
  have h1 := hw
  rw [e] at h1
  obtain ⟨i, -, hi⟩ := List.mem_filterMap.mp h1
  exact gt_in (List.mem_of_getElem? hi) (List.all_eq_true.mp hg w hw)
set_option maxRecDepth 20000 in
theorem ug_X1 : ∀ w ∈ wsX10, w ∈ gtbl := by
  intro w hw
  have e : wsX10 = ([345, 347, 349] : List Nat).filterMap (fun i => lw_tbl[i]?) := by decide +kernel
  have hg : wsX10.all goodWord = true := by decide +kernel
  have h1 := hw
  rw [e] at h1
  obtain ⟨i, -, hi⟩ := List.mem_filterMap.mp h1
  exact gt_in (List.mem_of_getElem? hi) (List.all_eq_true.mp hg w hw)
set_option maxRecDepth 20000 in
theorem ug_X2 : ∀ w ∈ wsX20, w ∈ gtbl := by
  intro w hw
  have e : wsX20 = ([423, 425, 427] : List Nat).filterMap (fun i => lw_tbl[i]?) := by decide +kernel
  have hg : wsX20.all goodWord = true := by decide +kernel
  have h1 := hw
  rw [e] at h1
  obtain ⟨i, -, hi⟩ := List.mem_filterMap.mp h1
  exact gt_in (List.mem_of_getElem? hi) (List.all_eq_true.mp hg w hw)
set_option maxRecDepth 20000 in
theorem ug_X3 : ∀ w ∈ wsX30, w ∈ gtbl := by
  intro w hw
  have e : wsX30 = ([291, 293, 295] : List Nat).filterMap (fun i => lw_tbl[i]?) := by decide +kernel
  have hg : wsX30.all goodWord = true := by decide +kernel
  have h1 := hw
  rw [e] at h1
  obtain ⟨i, -, hi⟩ := List.mem_filterMap.mp h1
  exact gt_in (List.mem_of_getElem? hi) (List.all_eq_true.mp hg w hw)
set_option maxRecDepth 20000 in
theorem ug_X4 : ∀ w ∈ wsX40, w ∈ gtbl := by
  intro w hw
  have e : wsX40 = ([314, 316, 318, 320, 322, 324, 326, 328] : List Nat).filterMap (fun i => lw_tbl[i]?) := by decide +kernel
  have hg : wsX40.all goodWord = true := by decide +kernel
  have h1 := hw
  rw [e] at h1
  obtain ⟨i, -, hi⟩ := List.mem_filterMap.mp h1
  exact gt_in (List.mem_of_getElem? hi) (List.all_eq_true.mp hg w hw)
set_option maxRecDepth 20000 in
theorem ug_X5 : ∀ w ∈ wsX50, w ∈ gtbl := by
  intro w hw
  have e : wsX50 = ([381, 383, 385, 387, 389, 391, 393, 395, 397, 399, 401, 403, 405, 407, 409] : List Nat).filterMap (fun i => lw_tbl[i]?) := by decide +kernel
  have hg : wsX50.all goodWord = true := by decide +kernel
  have h1 := hw
  rw [e] at h1
  obtain ⟨i, -, hi⟩ := List.mem_filterMap.mp h1
  exact gt_in (List.mem_of_getElem? hi) (List.all_eq_true.mp hg w hw)
set_option maxRecDepth 20000 in
theorem ug_X6 : ∀ w ∈ wsX60, w ∈ gtbl := by
  intro w hw
  have e : wsX60 = ([136, 138] : List Nat).filterMap (fun i => lw_tbl[i]?) := by decide +kernel
  have hg : wsX60.all goodWord = true := by decide +kernel
  have h1 := hw
  rw [e] at h1
  obtain ⟨i, -, hi⟩ := List.mem_filterMap.mp h1
  exact gt_in (List.mem_of_getElem? hi) (List.all_eq_true.mp hg w hw)
set_option maxRecDepth 20000 in
theorem ug_X7 : ∀ w ∈ wsX70, w ∈ gtbl := by
  intro w hw
  have e : wsX70 = ([152, 154] : List Nat).filterMap (fun i => lw_tbl[i]?) := by decide +kernel
  have hg : wsX70.all goodWord = true := by decide +kernel
  have h1 := hw
  rw [e] at h1
  obtain ⟨i, -, hi⟩ := List.mem_filterMap.mp h1
  exact gt_in (List.mem_of_getElem? hi) (List.all_eq_true.mp hg w hw)
set_option maxRecDepth 20000 in
theorem ug_X8 : ∀ w ∈ wsX80, w ∈ gtbl := by
  intro w hw
  have e : wsX80 = ([228, 230, 232, 234, 236, 238, 240, 242, 244, 246, 248, 250, 252, 254, 256, 258, 260, 262, 264, 266] : List Nat).filterMap (fun i => lw_tbl[i]?) := by decide +kernel
  have hg : wsX80.all goodWord = true := by decide +kernel
  have h1 := hw
  rw [e] at h1
  obtain ⟨i, -, hi⟩ := List.mem_filterMap.mp h1
  exact gt_in (List.mem_of_getElem? hi) (List.all_eq_true.mp hg w hw)
set_option maxRecDepth 20000 in
theorem ug_X9 : ∀ w ∈ wsX90, w ∈ gtbl := by
  intro w hw
  have e : wsX90 = ([277, 279] : List Nat).filterMap (fun i => lw_tbl[i]?) := by decide +kernel
  have hg : wsX90.all goodWord = true := by decide +kernel
  have h1 := hw
  rw [e] at h1
  obtain ⟨i, -, hi⟩ := List.mem_filterMap.mp h1
  exact gt_in (List.mem_of_getElem? hi) (List.all_eq_true.mp hg w hw)
set_option maxRecDepth 20000 in
theorem ug_X10 : ∀ w ∈ wsX100, w ∈ gtbl := by
  intro w hw
  have e : wsX100 = ([473, 475, 477, 479, 481, 483, 485, 487, 489, 491, 493, 495, 497, 499, 501, 503, 505] : List Nat).filterMap (fun i => lw_tbl[i]?) := by decide +kernel
  have hg : wsX100.all goodWord = true := by decide +kernel
  have h1 := hw
  rw [e] at h1
  obtain ⟨i, -, hi⟩ := List.mem_filterMap.mp h1
  exact gt_in (List.mem_of_getElem? hi) (List.all_eq_true.mp hg w hw)
set_option maxRecDepth 20000 in
theorem ug_X11 : ∀ w ∈ wsX110, w ∈ gtbl := by
  intro w hw
  have e : wsX110 = ([1454, 1456, 1458, 1460, 1462, 1464, 1466, 1468, 1470, 1472, 1474, 1476, 1478, 1480, 1482, 1484, 1486, 1488, 1490, 1492, 1494, 1496, 1498, 1500, 1502, 1504, 1506, 1508, 1510, 1512, 1514, 1516, 1518, 1520, 1522, 1524, 1526, 1528, 1530, 1532, 1534, 1536, 1538, 1540, 1542, 1544, 1546, 1548, 1550, 1552, 1554, 1556, 1558, 1560, 1562, 1564, 1566, 1568, 1570] : List Nat).filterMap (fun i => lw_tbl[i]?) := by decide +kernel
  have hg : wsX110.all goodWord = true := by decide +kernel
  have h1 := hw
  rw [e] at h1
  obtain ⟨i, -, hi⟩ := List.mem_filterMap.mp h1
  exact gt_in (List.mem_of_getElem? hi) (List.all_eq_true.mp hg w hw)
theorem cls_ok : ∀ (ci : Nat) (C : String) (T : u_T) (N : Nat), vwCl[ci]? = some (C, T, N) → (∀ w ∈ u_ws C T N, w ∈ gtbl) ∧ (∀ k, k < N → parseFieldDescriptor (T k).2.2.1 = some (tyOf ci k)) ∧ (∀ a, a < N → ∀ b, b < N → a ≠ b → (T a).2.1 ≠ (T b).2.1) := by
  intro ci C T N h
  match ci, h with
  | 0, h => cases h; exact ⟨ug_X0, tyX0_ok, nmX0⟩
  | 1, h => cases h; exact ⟨ug_X1, tyX1_ok, nmX1⟩
  | 2, h => cases h; exact ⟨ug_X2, tyX2_ok, nmX2⟩
  | 3, h => cases h; exact ⟨ug_X3, tyX3_ok, nmX3⟩
  | 4, h => cases h; exact ⟨ug_X4, tyX4_ok, nmX4⟩
  | 5, h => cases h; exact ⟨ug_X5, tyX5_ok, nmX5⟩
  | 6, h => cases h; exact ⟨ug_X6, tyX6_ok, nmX6⟩
  | 7, h => cases h; exact ⟨ug_X7, tyX7_ok, nmX7⟩
  | 8, h => cases h; exact ⟨ug_X8, tyX8_ok, nmX8⟩
  | 9, h => cases h; exact ⟨ug_X9, tyX9_ok, nmX9⟩
  | 10, h => cases h; exact ⟨ug_X10, tyX10_ok, nmX10⟩
  | 11, h => cases h; exact ⟨ug_X11, tyX11_ok, nmX11⟩
  | n + 12, h => simp [vwCl] at h

def FldOK (own : String) (idx ci k : Nat) : Prop := ∃ (C : String) (T : u_T) (N : Nat), vwCl[ci]? = some (C, T, N) ∧ k < N ∧ (Cond.fieldLink own idx (T k).1 (T k).2.1 (T k).2.2.1 ∈ lw_tbl ∨ ∃ host, Cond.fieldLinkNest own idx (T k).1 (T k).2.1 (T k).2.2.1 host ∈ lw_tbl)
def FinNo (ci k : Nat) : Prop := ∀ (C : String) (T : u_T) (N : Nat), vwCl[ci]? = some (C, T, N) → (T k).2.2.2 = false
section RM
variable {cc : ByteArray} {own : String} {nL d : Nat} {Q : Nat → List (Option Value) → List Value → Mem → Prop} {pc : Nat} {ls : List (Option Value)} {st : List Value} {M : Mem}
theorem va_getF {p : Program} {l : Launch} {e : Env} {R : Room} {s : State} {m : MethodId} {args : Array Value} {below : List Frame} {meth : Method} {c : Code} {H : Heap} {cells slots : Nat} {locs : List Loc} {Z : State → Prop} {D : va_G} {cA : Nat → ClassId} {ad : Nat → Nat} {A : Nat → Prop} {lr : Array Slot} {idx ci k id N : Nat} {v : Value} {rest : List Value} (C : Cx p R s m args meth c cc own nL d D cA ad A cells slots) (hP : va_P D vwCl (wsOf ad cA M) H) (hf : FldOK own idx ci k) (hk : kd id = (10 + ci, N)) (hkN : k < N) (hv : fvl ad M id ci k = v) (hdg : decode cc pc = .ok (.getfield idx, 3))
    (kk : W p l e R s m args below meth c H locs cells slots Z (F0 m (pc + 3) lr (v :: rest))) : W p l e R s m args below meth c H locs cells slots Z (F0 m pc lr (.ref (ad id) :: rest)) := by
  obtain ⟨hx, hb, hml, hown, hts, hlk, hK, hinj, hA, hX, -⟩ := C
  obtain ⟨C', T, N', e1, e2, e4⟩ := hf
  have hid : id < NID := kd_lt (by rw [hk]; have := (List.getElem?_eq_some_iff.mp e1).1; simp only [vwCl, List.length] at this; omega)
  have he : (wsOf ad cA M)[id]? = some (ad id, .inr (ci, (List.range N).map (fvl ad M id ci))) := by rw [ws_get hid, cell_O hk]
  have hv' : ((List.range N).map (fvl ad M id ci))[k]? = some v := by simp [hkN, hv]
  obtain ⟨hin, -, -⟩ := cls_ok ci C' T N' e1
  rcases e4 with h | ⟨host, h⟩
  · exact va_get hx hb hts hin hown hK hP id he e1 k e2 (hts _ (gt_in h rfl)) (fun _ h9 => h9) hv' hdg kk
  · exact va_getN hx hb hts hin hown hK hP id he e1 k e2 (va_Nw.use rfl (hX.1 _ h rfl)) (fun _ h9 => h9) hv' hdg kk
theorem rx_getI {idx id ci k N : Nat} (hf : FldOK own idx ci k) (hk : kd id = (10 + ci, N)) (hkN : k < N) (hr : isIf (tyOf ci k) = true) (hdg : decode cc pc = .ok (.getfield idx, 3)) (k0 : Reach cc own nL d Q (pc + 3) ls (.int (M.1 id k) :: st) M) : Reach cc own nL d Q pc ls (.ref id :: st) M := by
  intro p l e R s m args below meth c H locs cells slots Z D cA ad A lr C hP hS hL kk
  exact va_getF C hP hf hk hkN (by simp only [fvl, if_pos hr]; rfl) hdg (k0 p l e R s m args below meth c H locs cells slots Z D cA ad A lr C hP hS hL kk)
theorem rx_getR {idx id ci k N : Nat} (j : Nat) (hf : FldOK own idx ci k) (hk : kd id = (10 + ci, N)) (hkN : k < N) (hr : isIf (tyOf ci k) = false) (hne : ¬ (id = 140 ∧ k = 22)) (ht : rfT id k = j) (hdg : decode cc pc = .ok (.getfield idx, 3)) (k0 : Reach cc own nL d Q (pc + 3) ls (.ref j :: st) M) : Reach cc own nL d Q pc ls (.ref id :: st) M := by
  intro p l e R s m args below meth c H locs cells slots Z D cA ad A lr C hP hS hL kk
  exact va_getF C hP hf hk hkN (by simp only [fvl, hr, if_neg hne, ht]; rfl) hdg (k0 p l e R s m args below meth c H locs cells slots Z D cA ad A lr C hP hS hL kk)
/-- PaidByPoorerModel.read, where it isn't null -/
theorem rx_getRd {idx : Nat} (j : Nat) (hf : FldOK own idx 11 22) (hj : M.2.2 = j) (h0 : j ≠ 0) (hdg : decode cc pc = .ok (.getfield idx, 3)) (k0 : Reach cc own nL d Q (pc + 3) ls (.ref j :: st) M) : Reach cc own nL d Q pc ls (.ref 140 :: st) M := by
  intro p l e R s m args below meth c H locs cells slots Z D cA ad A lr C hP hS hL kk
  subst hj
  exact va_getF (id := 140) (N := 59) C hP hf rfl (by decide) (by simp only [fvl, show isIf (tyOf 11 22) = false from rfl, if_neg h0]; rfl) hdg (k0 p l e R s m args below meth c H locs cells slots Z D cA ad A lr C hP hS hL kk)
theorem put_F {p : Program} {l : Launch} {e : Env} {R : Room} {s : State} {m : MethodId} {args : Array Value} {below : List Frame} {meth : Method} {c : Code} {H : Heap} {cells slots : Nat} {locs : List Loc} {Z : State → Prop} {D : va_G} {cA : Nat → ClassId} {ad : Nat → Nat} {A : Nat → Prop} {lr : Array Slot} {idx ci k id N : Nat} {v : Value} {rest : List Value} {M' : Mem} (C : Cx p R s m args meth c cc own nL d D cA ad A cells slots) (hP : va_P D vwCl (wsOf ad cA M) H) (hS : va_S A s.heap H locs) (hf : FldOK own idx ci k) (hfin : FinNo ci k) (hk : kd id = (10 + ci, N)) (hkN : k < N) (hn : narrow (tyOf ci k) v = v) (hfit : fits (tyOf ci k) v = true) (hv : fvl ad M' id ci k = v)
    (hv2 : ∀ j, j ≠ k → fvl ad M' id ci j = fvl ad M id ci j) (hM : ∀ j, j ≠ id → cellOf ad cA M' j = cellOf ad cA M j) (hdg : decode cc pc = .ok (.putfield idx, 3))
    (kk : ∀ (H1 : Heap) (locs1 : List Loc), va_P D vwCl (wsOf ad cA M') H1 → va_S A s.heap H1 locs1 → W p l e R s m args below meth c H1 locs1 cells slots Z (F0 m (pc + 3) lr rest)) : W p l e R s m args below meth c H locs cells slots Z (F0 m pc lr (v :: .ref (ad id) :: rest)) := by
  obtain ⟨hx, hb, hml, hown, hts, hlk, hK, hinj, hA, hX, -⟩ := C
  obtain ⟨C', T, N', e1, e2, e4⟩ := hf
  have hid : id < NID := kd_lt (by rw [hk]; have := (List.getElem?_eq_some_iff.mp e1).1; simp only [vwCl, List.length] at this; omega)
  have he : (wsOf ad cA M)[id]? = some (ad id, .inr (ci, (List.range N).map (fvl ad M id ci))) := by rw [ws_get hid, cell_O hk]
  obtain ⟨hin, hty, hnm⟩ := cls_ok ci C' T N' e1
  have hlen : k < ((List.range N).map (fvl ad M id ci)).length := by simpa using hkN
  have hcell : cellOf ad cA M' id = .inr (ci, ((List.range N).map (fvl ad M id ci)).set k v) := by
    rw [cell_O hk]
    congr 2
    refine List.ext_getElem? fun j => ?_
    rw [List.getElem?_set]
    by_cases hj : k = j
    · subst hj
      rw [if_pos rfl, if_pos hlen]
      simp [hkN, hv]
    · rw [if_neg hj]
      by_cases hjN : j < N
      · simp [hjN, hv2 j (fun q => hj q.symm)]
      · simp [hjN]
  have hset := ws_set (cA := cA) hid hcell hM
  have hD : va_D A (wsOf ad cA M) := ws_D hinj hA
  rcases e4 with h | ⟨host, h⟩
  · exact va_put hx hb hts hin (tyOf ci) hty hnm hown hK hP hD hS id he e1 k e2 (hts _ (gt_in h rfl)) (fun _ h9 => h9) (hfin _ _ _ e1) (hty k e2) hn hfit hlen hdg (fun H1 locs1 hP1 _ hS1 => kk H1 locs1 (hset ▸ hP1) hS1)
  · exact va_putN hx hb hts hin (tyOf ci) hty hnm hown hK hP hD hS id he e1 k e2 (va_Nw.use rfl (hX.1 _ h rfl)) (fun _ h9 => h9) (hfin _ _ _ e1) (hty k e2) hn hfit hlen hdg (fun H1 locs1 hP1 _ hS1 => kk H1 locs1 (hset ▸ hP1) hS1)
theorem fvl_setI {ad : Nat → Nat} {i ci k : Nat} {x : Int32} (hr : isIf (tyOf ci k) = true) : fvl ad (setI M i k x) i ci k = .int x := by simp [fvl, hr, setI]
theorem fvl_setI2 {ad : Nat → Nat} {i ci k j : Nat} {x : Int32} (h : j ≠ k) : fvl ad (setI M i k x) i ci j = fvl ad M i ci j := by
  unfold fvl
  split
  · simp [setI, h]
  · rfl
theorem cell_setI {ad : Nat → Nat} {cA : Nat → ClassId} {i k j : Nat} {x : Int32} (h : j ≠ i) : cellOf ad cA (setI M i k x) j = cellOf ad cA M j := cell_ne (setI_ne h) rfl rfl
theorem rx_putI {idx id ci k N : Nat} {x : Int32} (hf : FldOK own idx ci k) (hfin : FinNo ci k) (hk : kd id = (10 + ci, N)) (hkN : k < N) (hr : tyOf ci k = .int) (hdg : decode cc pc = .ok (.putfield idx, 3)) (k0 : Reach cc own nL d Q (pc + 3) ls st (setI M id k x)) : Reach cc own nL d Q pc ls (.int x :: .ref id :: st) M := by
  intro p l e R s m args below meth c H locs cells slots Z D cA ad A lr C hP hS hL kk
  exact put_F C hP hS hf hfin hk hkN (by rw [hr]; rfl) (by rw [hr]; rfl) (fvl_setI (by rw [hr]; rfl)) (fun j hj => fvl_setI2 hj) (fun j hj => cell_setI hj) hdg (fun H1 locs1 hP1 hS1 => k0 p l e R s m args below meth c H1 locs1 cells slots Z D cA ad A lr C hP1 hS1 hL kk)
theorem nz_bool {x : Int32} (h : x = 0 ∨ x = 1) : narrow .boolean (.int x) = .int x ∧ fits .boolean (.int x) = true := by rcases h with rfl | rfl <;> exact ⟨rfl, rfl⟩
theorem rx_putZ {idx id ci k N : Nat} {x : Int32} (hf : FldOK own idx ci k) (hfin : FinNo ci k) (hk : kd id = (10 + ci, N)) (hkN : k < N) (hr : tyOf ci k = .boolean) (hz : x = 0 ∨ x = 1) (hdg : decode cc pc = .ok (.putfield idx, 3)) (k0 : Reach cc own nL d Q (pc + 3) ls st (setI M id k x)) : Reach cc own nL d Q pc ls (.int x :: .ref id :: st) M := by
  intro p l e R s m args below meth c H locs cells slots Z D cA ad A lr C hP hS hL kk
  exact put_F C hP hS hf hfin hk hkN (by rw [hr]; exact (nz_bool hz).1) (by rw [hr]; exact (nz_bool hz).2) (fvl_setI (by rw [hr]; rfl)) (fun j hj => fvl_setI2 hj) (fun j hj => cell_setI hj) hdg (fun H1 locs1 hP1 hS1 => k0 p l e R s m args below meth c H1 locs1 cells slots Z D cA ad A lr C hP1 hS1 hL kk)
/-- PaidByPoorerModel.read becomes another array -/
theorem rx_putRd {idx j : Nat} (hf : FldOK own idx 11 22) (hfin : FinNo 11 22) (h0 : j ≠ 0) (hdg : decode cc pc = .ok (.putfield idx, 3)) (k0 : Reach cc own nL d Q (pc + 3) ls st (setR M j)) : Reach cc own nL d Q pc ls (.ref j :: .ref 140 :: st) M := by
  intro p l e R s m args below meth c H locs cells slots Z D cA ad A lr C hP hS hL kk
  have hf2 : ∀ k, k ≠ 22 → fvl ad (setR M j) 140 11 k = fvl ad M 140 11 k := fun k hk => by simp [fvl, setR, hk]
  have hcl : ∀ i, i ≠ 140 → cellOf ad cA (setR M j) i = cellOf ad cA M i := fun i hi => by
    have e : fvl ad (setR M j) i ((kd i).1 - 10) = fvl ad M i ((kd i).1 - 10) := funext fun k => by simp [fvl, setR, hi]
    simp only [cellOf, e]; rfl
  exact put_F (id := 140) (N := 59) (M' := setR M j) C hP hS hf hfin rfl (by decide) rfl rfl (by simp [fvl, setR, h0, show isIf (tyOf 11 22) = false from rfl]; rfl) hf2 hcl hdg (fun H1 locs1 hP1 hS1 => k0 p l e R s m args below meth c H1 locs1 cells slots Z D cA ad A lr C hP1 hS1 hL kk)

theorem rx_iald {id n : Nat} {i : Int32} (hk : kd id = (0, n)) (hin : vp_in i n) (hdg : decode cc pc = .ok (.iaload, 1)) (k0 : Reach cc own nL d Q (pc + 1) ls (.int (M.1 id i.toNatClampNeg) :: st) M) : Reach cc own nL d Q pc ls (.int i :: .ref id :: st) M := by
  intro p l e R s m args below meth c H locs cells slots Z D cA ad A lr C hP hS hL kk
  exact va_iald C.1 C.2.1 C.2.2.2.2.2.2.1 hP id 0 (by rw [ws_get (kd_lt (by rw [hk]; show 0 < 99; decide)), cell_I hk]) rfl hin hdg (k0 p l e R s m args below meth c H locs cells slots Z D cA ad A lr C hP hS hL kk)
theorem rx_lald {id n : Nat} {i : Int32} (hk : kd id = (1, n)) (hin : vp_in i n) (hdg : decode cc pc = .ok (.laload, 1)) (k0 : Reach cc own nL d Q (pc + 1) ls (.long (M.2.1 id i.toNatClampNeg) :: st) M) : Reach cc own nL d Q pc ls (.int i :: .ref id :: st) M := by
  intro p l e R s m args below meth c H locs cells slots Z D cA ad A lr C hP hS hL kk
  exact va_lald C.1 C.2.1 C.2.2.2.2.2.2.1 hP id 1 (by rw [ws_get (kd_lt (by rw [hk]; show 1 < 99; decide)), cell_J hk]) rfl hin hdg (k0 p l e R s m args below meth c H locs cells slots Z D cA ad A lr C hP hS hL kk)
theorem rx_bald {id n : Nat} {i : Int32} (hk : kd id = (2, n)) (hin : vp_in i n) (hdg : decode cc pc = .ok (.baload, 1)) (k0 : Reach cc own nL d Q (pc + 1) ls (.int (M.1 id i.toNatClampNeg) :: st) M) : Reach cc own nL d Q pc ls (.int i :: .ref id :: st) M := by
  intro p l e R s m args below meth c H locs cells slots Z D cA ad A lr C hP hS hL kk
  exact va_bald C.1 C.2.1 C.2.2.2.2.2.2.1 hP id 2 (by rw [ws_get (kd_lt (by rw [hk]; show 2 < 99; decide)), cell_B hk]) rfl hin hdg (k0 p l e R s m args below meth c H locs cells slots Z D cA ad A lr C hP hS hL kk)
theorem rx_zald {id n : Nat} {i : Int32} (hk : kd id = (3, n)) (hin : vp_in i n) (hdg : decode cc pc = .ok (.baload, 1)) (k0 : Reach cc own nL d Q (pc + 1) ls (.int (M.1 id i.toNatClampNeg) :: st) M) : Reach cc own nL d Q pc ls (.int i :: .ref id :: st) M := by
  intro p l e R s m args below meth c H locs cells slots Z D cA ad A lr C hP hS hL kk
  exact va_zald C.1 C.2.1 C.2.2.2.2.2.2.1 hP id 3 (by rw [ws_get (kd_lt (by rw [hk]; show 3 < 99; decide)), cell_Z hk]) rfl hin hdg (k0 p l e R s m args below meth c H locs cells slots Z D cA ad A lr C hP hS hL kk)
theorem rx_iast {id n : Nat} {i : Int32} {x : Int32} (hk : kd id = (0, n)) (hin : vp_in i n) (hdg : decode cc pc = .ok (.iastore, 1)) (k0 : Reach cc own nL d Q (pc + 1) ls st (setI M id i.toNatClampNeg x)) : Reach cc own nL d Q pc ls (.int x :: .int i :: .ref id :: st) M := by
  intro p l e R s m args below meth c H locs cells slots Z D cA ad A lr C hP hS hL kk
  have hid : id < NID := kd_lt (by rw [hk]; show 0 < 99; decide)
  have hD : va_D A (wsOf ad cA M) := ws_D C.2.2.2.2.2.2.2.1 C.2.2.2.2.2.2.2.2.1
  have hset := ws_set (ad := ad) (cA := cA) (M := M) (M' := setI M id i.toNatClampNeg x) hid (by rw [cell_I hk, setI_eq]) (fun j hj => cell_ne (setI_ne hj) rfl rfl)
  exact va_iast C.1 C.2.1 C.2.2.2.2.2.2.1 hP hD hS id 0 (by rw [ws_get hid, cell_I hk]) rfl hin hdg (fun H1 locs1 hP1 _ hS1 => k0 p l e R s m args below meth c H1 locs1 cells slots Z D cA ad A lr C (hset ▸ hP1) hS1 hL kk)
theorem rx_last {id n : Nat} {i : Int32} {x : Int64} (hk : kd id = (1, n)) (hin : vp_in i n) (hdg : decode cc pc = .ok (.lastore, 1)) (k0 : Reach cc own nL d Q (pc + 1) ls st (setJ M id i.toNatClampNeg x)) : Reach cc own nL d Q pc ls (.long x :: .int i :: .ref id :: st) M := by
  intro p l e R s m args below meth c H locs cells slots Z D cA ad A lr C hP hS hL kk
  have hid : id < NID := kd_lt (by rw [hk]; show 1 < 99; decide)
  have hD : va_D A (wsOf ad cA M) := ws_D C.2.2.2.2.2.2.2.1 C.2.2.2.2.2.2.2.2.1
  have hset := ws_set (ad := ad) (cA := cA) (M := M) (M' := setJ M id i.toNatClampNeg x) hid (by rw [cell_J hk, setJ_eq]) (fun j hj => cell_ne rfl (setJ_ne hj) rfl)
  exact va_last C.1 C.2.1 C.2.2.2.2.2.2.1 hP hD hS id 1 (by rw [ws_get hid, cell_J hk]) rfl hin hdg (fun H1 locs1 hP1 _ hS1 => k0 p l e R s m args below meth c H1 locs1 cells slots Z D cA ad A lr C (hset ▸ hP1) hS1 hL kk)
theorem rx_bast {id n : Nat} {i : Int32} {x : Int32} (hk : kd id = (2, n)) (hin : vp_in i n) (hdg : decode cc pc = .ok (.bastore, 1)) (k0 : Reach cc own nL d Q (pc + 1) ls st (setI M id i.toNatClampNeg (vp_nar .byte x))) : Reach cc own nL d Q pc ls (.int x :: .int i :: .ref id :: st) M := by
  intro p l e R s m args below meth c H locs cells slots Z D cA ad A lr C hP hS hL kk
  have hid : id < NID := kd_lt (by rw [hk]; show 2 < 99; decide)
  have hD : va_D A (wsOf ad cA M) := ws_D C.2.2.2.2.2.2.2.1 C.2.2.2.2.2.2.2.2.1
  have hset := ws_set (ad := ad) (cA := cA) (M := M) (M' := setI M id i.toNatClampNeg (vp_nar .byte x)) hid (by rw [cell_B hk, setI_eq]) (fun j hj => cell_ne (setI_ne hj) rfl rfl)
  exact va_bast C.1 C.2.1 C.2.2.2.2.2.2.1 hP hD hS id 2 (by rw [ws_get hid, cell_B hk]) rfl hin hdg (fun H1 locs1 hP1 _ hS1 => k0 p l e R s m args below meth c H1 locs1 cells slots Z D cA ad A lr C (hset ▸ hP1) hS1 hL kk)
theorem rx_zast {id n : Nat} {i : Int32} {x : Int32} (hk : kd id = (3, n)) (hin : vp_in i n) (hz : x = 0 ∨ x = 1) (hdg : decode cc pc = .ok (.bastore, 1)) (k0 : Reach cc own nL d Q (pc + 1) ls st (setI M id i.toNatClampNeg x)) : Reach cc own nL d Q pc ls (.int x :: .int i :: .ref id :: st) M := by
  intro p l e R s m args below meth c H locs cells slots Z D cA ad A lr C hP hS hL kk
  have hid : id < NID := kd_lt (by rw [hk]; show 3 < 99; decide)
  have hD : va_D A (wsOf ad cA M) := ws_D C.2.2.2.2.2.2.2.1 C.2.2.2.2.2.2.2.2.1
  have hset := ws_set (ad := ad) (cA := cA) (M := M) (M' := setI M id i.toNatClampNeg x) hid (by rw [cell_Z hk, setI_eq]) (fun j hj => cell_ne (setI_ne hj) rfl rfl)
  have hz' : vp_nar .boolean x = x := by rcases hz with rfl | rfl <;> rfl
  exact va_zast C.1 C.2.1 C.2.2.2.2.2.2.1 hP hD hS id 3 (by rw [ws_get hid, cell_Z hk]) rfl hin hdg (fun H1 locs1 hP1 _ hS1 => k0 p l e R s m args below meth c H1 locs1 cells slots Z D cA ad A lr C (by rw [hz', hset] at hP1; exact hP1) hS1 hL kk)

theorem rx_alen {id tg n : Nat} {ty : FieldType} (hk : kd id = (tg, n)) (ht : tg < 4) (hdg : decode cc pc = .ok (.arraylength, 1)) (k0 : Reach cc own nL d Q (pc + 1) ls (.int (nI n) :: st) M) : Reach cc own nL d Q pc ls (.ref id :: st) M := by
  intro p l e R s m args below meth c H locs cells slots Z D cA ad A lr C hP hS hL kk
  have hid : id < NID := kd_lt (by rw [hk]; show tg < 99; omega)
  rcases (show tg = 0 ∨ tg = 1 ∨ tg = 2 ∨ tg = 3 by omega) with rfl | rfl | rfl | rfl
  · exact va_alen C.1 C.2.1 C.2.2.2.2.2.2.1 hP id 0 (show (wsOf ad cA M)[id]? = some (ad id, .inl (cA 0, (n, .inl (M.1 id)))) from by rw [ws_get hid, cell_I hk]) rfl (v := nI n) rfl hdg (k0 p l e R s m args below meth c H locs cells slots Z D cA ad A lr C hP hS hL kk)
  · exact va_alen C.1 C.2.1 C.2.2.2.2.2.2.1 hP id 1 (show (wsOf ad cA M)[id]? = some (ad id, .inl (cA 1, (n, .inr (.inl (M.2.1 id))))) from by rw [ws_get hid, cell_J hk]) rfl (v := nI n) rfl hdg (k0 p l e R s m args below meth c H locs cells slots Z D cA ad A lr C hP hS hL kk)
  · exact va_alen C.1 C.2.1 C.2.2.2.2.2.2.1 hP id 2 (show (wsOf ad cA M)[id]? = some (ad id, .inl (cA 2, (n, .inl (M.1 id)))) from by rw [ws_get hid, cell_B hk]) rfl (v := nI n) rfl hdg (k0 p l e R s m args below meth c H locs cells slots Z D cA ad A lr C hP hS hL kk)
  · exact va_alen C.1 C.2.1 C.2.2.2.2.2.2.1 hP id 3 (show (wsOf ad cA M)[id]? = some (ad id, .inl (cA 3, (n, .inl (M.1 id)))) from by rw [ws_get hid, cell_Z hk]) rfl (v := nI n) rfl hdg (k0 p l e R s m args below meth c H locs cells slots Z D cA ad A lr C hP hS hL kk)
theorem rx_ldc {idx : Nat} {v : Int32} (hw : Cond.constant own idx v ∈ lw_tbl) (hdg : decode cc pc = .ok (.ldc idx, 2)) (k0 : Reach cc own nL d Q (pc + 2) ls (.int v :: st) M) : Reach cc own nL d Q pc ls st M := by
  intro p l e R s m args below meth c H locs cells slots Z D cA ad A lr C hP hS hL kk
  exact lv_ldc C.1 C.2.1 C.2.2.2.1 (C.2.2.2.2.1 _ (gt_in hw rfl)) hdg (k0 p l e R s m args below meth c H locs cells slots Z D cA ad A lr C hP hS hL kk)
theorem rx_ldcw {idx : Nat} {v : Int32} (hw : Cond.constant own idx v ∈ lw_tbl) (hdg : decode cc pc = .ok (.ldc_w idx, 3)) (k0 : Reach cc own nL d Q (pc + 3) ls (.int v :: st) M) : Reach cc own nL d Q pc ls st M := by
  intro p l e R s m args below meth c H locs cells slots Z D cA ad A lr C hP hS hL kk
  exact lv_ldcw C.1 C.2.1 C.2.2.2.1 (C.2.2.2.2.1 _ (gt_in hw rfl)) hdg (k0 p l e R s m args below meth c H locs cells slots Z D cA ad A lr C hP hS hL kk)
theorem rx_ldc2 {idx : Nat} {v : Int64} (hw : Cond.constantLong own idx v ∈ lw_tbl) (hdg : decode cc pc = .ok (.ldc2_w idx, 3)) (k0 : Reach cc own nL d Q (pc + 3) ls (.long v :: st) M) : Reach cc own nL d Q pc ls st M := by
  intro p l e R s m args below meth c H locs cells slots Z D cA ad A lr C hP hS hL kk
  exact lv_ldc2 C.1 C.2.1 C.2.2.2.1 (C.2.2.2.2.1 _ (gt_in hw rfl)) hdg (k0 p l e R s m args below meth c H locs cells slots Z D cA ad A lr C hP hS hL kk)
end RM
/-! contracts -/
def rmD (d : Nat) : Room := { frames := d, cells := 0, slots := 0, locals := 64 * d }
def Con (y : MethodName) (b : ByteArray) (nL : Nat) (ret : Option FieldType) (d : Nat) (As : List Value) (M : Mem) (P : Option Value → Mem → Prop) : Prop :=
  ∀ (l : Launch) (D : va_G) (cA : Nat → ClassId) (ad : Nat → Nat), injAd ad →
    Met l y (.code y b nL ret :: gtbl) (rmD d) (va_Pc (As.map (rv ad)) (fun U => va_P D vwCl (wsOf ad cA M) U.heap ∧ va_K D vwCl (tysOf cA) U ∧ SX ad (inW ad) U U.heap))
      (fun _ st o t => (∃ (v : Option Value) (M' : Mem), o = .returned (v.map (rv ad)) ∧ P v M' ∧ va_P D vwCl (wsOf ad cA M') t.heap) ∧ va_F (inW ad) st t) 0 0 (inW ad)
def RetOK (b : ByteArray) (ret : Option FieldType) (pc : Nat) (v : Option Value) : Prop := match ret with
  | none => v = none ∧ decode b pc = .ok (.return_, 1)
  | some .int => ∃ x : Int32, v = some (.int x) ∧ decode b pc = .ok (.ireturn, 1)
  | some .boolean => ∃ x : Int32, v = some (.int x) ∧ (x = 0 ∨ x = 1) ∧ decode b pc = .ok (.ireturn, 1)
  | some .long => ∃ x : Int64, v = some (.long x) ∧ decode b pc = .ok (.lreturn, 1)
  | some .byte => ∃ x : Int32, v = some (.int x) ∧ narrow .byte (.int x) = .int x ∧ decode b pc = .ok (.ireturn, 1)
  | _ => False
def RetQ (b : ByteArray) (ret : Option FieldType) (P : Option Value → Mem → Prop) : Nat → List (Option Value) → List Value → Mem → Prop := fun pc _ st M' => ∃ v : Option Value, st = v.toList ∧ P v M' ∧ RetOK b ret pc v
theorem entL_has {ad : Nat → Nat} : ∀ (As : List Value) (o n i : Nat) (v : Value), (entL As ++ List.replicate n none)[i]? = some (some v) → (o + i, rv ad v) ∈ lv_args o (As.map (rv ad)) := by
  intro As
  induction As with
  | nil =>
    intro o n i v h
    exfalso
    simp [entL, List.getElem?_replicate] at h
  | cons u us ih =>
    intro o n i v h
    simp only [List.map_cons, lv_args, rv_cat]
    simp only [entL] at h
    by_cases hc : u.category = 2
    · rw [if_pos hc] at h ⊢
      match i, h with
      | 0, h => simp at h; subst h; exact List.mem_cons_self
      | 1, h => simp at h
      | i + 2, h =>
        have h' : (entL us ++ List.replicate n none)[i]? = some (some v) := by simpa using h
        have := ih (o + 2) n i v h'
        rw [show o + (i + 2) = o + 2 + i by omega]
        exact List.mem_cons_of_mem _ this
    · rw [if_neg hc] at h ⊢
      match i, h with
      | 0, h => simp at h; subst h; exact List.mem_cons_self
      | i + 1, h =>
        have h' : (entL us ++ List.replicate n none)[i]? = some (some v) := by simpa using h
        have := ih (o + 1) n i v h'
        rw [show o + (i + 1) = o + 1 + i by omega]
        exact List.mem_cons_of_mem _ this
theorem entL_len {ad : Nat → Nat} : ∀ As : List Value, (lg_sl (As.map (rv ad))).length = (entL As).length := by
  intro As
  induction As with
  | nil => rfl
  | cons u us ih =>
    have e : lg_sl ((u :: us).map (rv ad)) = (if (rv ad u).category = 2 then [.val (rv ad u), .second] else [.val (rv ad u)]) ++ lg_sl (us.map (rv ad)) := by simp [lg_sl]
    rw [e, rv_cat, List.length_append, ih]
    simp only [entL]
    split <;> simp <;> omega
theorem Con.of {y : MethodName} {b : ByteArray} {nL : Nat} {ret : Option FieldType} {d : Nat} {As : List Value} {M : Mem} {P : Option Value → Mem → Prop} {own : String} {ls : List (Option Value)} (ho : y.cls = own) (hy : plainName y.cls = true) (hs : (entL As).length ≤ nL) (hls : entL As ++ List.replicate (nL - (entL As).length) none = ls)
    (h : Reach b own nL d (RetQ b ret P) 0 ls [] M) : Con y b nL ret d As M P := by
  intro l D cA ad hi
  subst hls
  subst ho
  refine Met.ofW (cc := b) (maxL := nL) (ret := ret) hy rfl ?_
  intro p e s m args below meth c s₁ B hml hv
  obtain ⟨rfl, hP, hK, hX⟩ := hv
  have hts := atoms_spec (ws := .code y b nL ret :: gtbl) B.pre
  have hown : s.vm.findClass y.cls = some m.cls := findClass_of_methodNamed B.named
  have hr := B.returns
  have hlk := B.notSynchronized
  have hl := lv_entry (As.map (rv ad)) (n := nL) (by rw [entL_len]; exact hs)
  rw [lg_entry_eq]
  have hL : hasL ad nL (entL As ++ List.replicate (nL - (entL As).length) none) ((lg_sl (As.map (rv ad)) ++ List.replicate (nL - (lg_sl (As.map (rv ad))).length) Slot.unset).toArray) :=
    ⟨_, hl, fun i v hv => by have := entL_has (ad := ad) As 0 _ i v hv; rwa [Nat.zero_add] at this⟩
  refine h p l e (rmD d) s m _ below meth c s.heap [] 0 0 _ D cA ad (inW ad) _ ⟨B.exec, B.bytes, hml, hown, fun w hw => hts w (List.mem_cons_of_mem _ hw), hlk, hK, hi, fun i h => ⟨i, h, rfl⟩, hX, ⟨Nat.le_refl _, Nat.le_refl _⟩, Nat.le_refl _, Nat.le_refl _⟩ hP va_S.rf hL ?_
  intro pc' ls' st' M' H' locs' lr' hq hP' hS' hL'
  obtain ⟨v, rfl, hp, hro⟩ := hq
  match ret, hro with
  | none, hro =>
    obtain ⟨rfl, hdg⟩ := hro
    exact W.vret B.exec B.bytes hr (fun t ht hW => ⟨⟨none, M', rfl, hp, by rw [ht]; exact hP'⟩, hS'.F ht⟩) hS'.2.2 hdg hlk
  | some .int, hro =>
    obtain ⟨x, rfl, hdg⟩ := hro
    exact W.iret B.exec B.bytes hr (fun t ht hW => ⟨⟨some (.int x), M', rfl, hp, by rw [ht]; exact hP'⟩, hS'.F ht⟩) hS'.2.2 hdg hlk
  | some .boolean, hro =>
    obtain ⟨x, rfl, hz, hdg⟩ := hro
    exact W.zret B.exec B.bytes hr (nz_bool hz).1 (fun t ht hW => ⟨⟨some (.int x), M', rfl, hp, by rw [ht]; exact hP'⟩, hS'.F ht⟩) hS'.2.2 hdg hlk
  | some .byte, hro =>
    obtain ⟨x, rfl, hz, hdg⟩ := hro
    exact W.zret B.exec B.bytes hr hz (fun t ht hW => ⟨⟨some (.int x), M', rfl, hp, by rw [ht]; exact hP'⟩, hS'.F ht⟩) hS'.2.2 hdg hlk
  | some .long, hro =>
    obtain ⟨x, rfl, hdg⟩ := hro
    exact W.lret B.exec B.bytes hr (fun t ht hW => ⟨⟨some (.long x), M', rfl, hp, by rw [ht]; exact hP'⟩, hS'.F ht⟩) hS'.2.2 hdg hlk
theorem Con.mono {y : MethodName} {b : ByteArray} {nL : Nat} {ret : Option FieldType} {d : Nat} {As : List Value} {M : Mem} {P P' : Option Value → Mem → Prop} (h : Con y b nL ret d As M P) (hp : ∀ v M', P v M' → P' v M') : Con y b nL ret d As M P' := by
  intro l D cA ad hi
  exact MetFree.mono (h l D cA ad hi) (fun _ _ h => h) (fun _ _ _ _ _ _ => trivial) (fun a st o t _ hq => ⟨⟨by obtain ⟨⟨v, M', h1, h2, h3⟩, -⟩ := hq.1; exact ⟨v, M', h1, hp v M' h2, h3⟩, hq.1.2⟩, hq.2⟩)
/-! calls -/
def LnkOK (own : String) (idx : Nat) (y : MethodName) : Prop := Cond.methodLink own idx y ∈ lw_tbl ∨ ∃ host, Cond.methodLinkNest own idx y host ∈ lw_tbl
def MthB (y : MethodName) (b : ByteArray) (nL : Nat) (ret : Option FieldType) (n : Nat) : Prop :=
  Cond.code y b nL ret ∈ lw_tbl ∧ Cond.initialized y.cls ∈ lw_tbl ∧ (y.cls ≠ "java/lang/invoke/MethodHandle" ∧ y.cls ≠ "java/lang/invoke/VarHandle" ∧ (parseMethodDescriptor y.desc).map (fun d => d.parameters.length) = some n) ∧ nL ≤ 40
def MthV (y : MethodName) (b : ByteArray) (nL : Nat) (ret : Option FieldType) (n : Nat) : Prop := MthB y b nL ret n ∧ Cond.instanceMethod y ∈ lw_tbl ∧ Cond.selects y.cls y y ∈ lw_tbl
def MthS (y : MethodName) (b : ByteArray) (nL : Nat) (ret : Option FieldType) (n : Nat) : Prop := MthB y b nL ret n ∧ Cond.static y ∈ lw_tbl
theorem gt_code {y : MethodName} {b : ByteArray} {nL : Nat} {ret : Option FieldType} (h : Cond.code y b nL ret ∈ lw_tbl) : GoodIn gtbl (.code y b nL ret :: gtbl) := by
  intro w hw
  rcases List.mem_cons.mp hw with rfl | hw
  · exact ⟨gt_in h rfl, good_of_word rfl⟩
  · exact gt_good w hw
theorem Pc_blind {As : List Value} {ad : Nat → Nat} {cA : Nat → ClassId} {D : va_G} {M : Mem} : FrameBlind (va_Pc (As.map (rv ad)) (fun U => va_P D vwCl (wsOf ad cA M) U.heap ∧ va_K D vwCl (tysOf cA) U ∧ SX ad (inW ad) U U.heap)) := by
  intro a U g mk h
  obtain ⟨h1, h2, h3, h4⟩ := h
  exact ⟨h1, h2, va_K.moved (u := U) (U := U.calling g mk a) (Vm.Alike.refl U.vm) h3, SX.same (u := U) (U := U.calling g mk a) rfl h4⟩
section RC
variable {cc : ByteArray} {own : String} {nL d : Nat} {Q : Nat → List (Option Value) → List Value → Mem → Prop} {pc : Nat} {ls : List (Option Value)} {st : List Value} {M : Mem}
theorem rx_after {p : Program} {l : Launch} {e : Env} {R : Room} {s : State} {m : MethodId} {args : Array Value} {below : List Frame} {meth : Method} {c : Code} {H : Heap} {cells slots : Nat} {locs : List Loc} {Z : State → Prop} {D : va_G} {cA : Nat → ClassId} {ad : Nat → Nat} {A : Nat → Prop} {lr : Array Slot} {rest : List Value} {st0 : List Value} {P : Option Value → Mem → Prop}
    (C : Cx p R s m args meth c cc own nL d D cA ad A cells slots) (hS : va_S A s.heap H locs) (hL : hasL ad nL ls lr)
    (hr : va_Run p l e R s m args below meth c H locs cells slots 0 0 (F0 m pc lr st0) (rest.map (rv ad)) (fun st o t => (∃ (v : Option Value) (M' : Mem), o = .returned (v.map (rv ad)) ∧ P v M' ∧ va_P D vwCl (wsOf ad cA M') t.heap) ∧ va_F (inW ad) st t) (inW ad))
    (kk0 : ∀ v M', P v M' → Reach cc own nL d Q (pc + 3) ls (v.toList ++ rest) M')
    (kk : ∀ (pc' : Nat) (ls' : List (Option Value)) (st' : List Value) (M' : Mem) (H' : Heap) (locs' : List Loc) (lr' : Array Slot), Q pc' ls' st' M' → va_P D vwCl (wsOf ad cA M') H' → va_S A s.heap H' locs' → hasL ad nL ls' lr' → W p l e R s m args below meth c H' locs' cells slots Z (F0 m pc' lr' (st'.map (rv ad)))) :
    W p l e R s m args below meth c H locs cells slots Z (F0 m pc lr st0) := by
  intro T hT X
  obtain ⟨v, st₀, t, T', L, h0, X', hLf, e1, e2, ⟨⟨v', M', ho, hp, hP'⟩, hz, hk⟩, stp⟩ := hr T hT X
  rw [h0] at hz hk
  have hA : ∀ i, i < NID → A (ad i) := C.2.2.2.2.2.2.2.2.1
  have hvv : v = v'.map (rv ad) := by injection ho
  subst hvv
  have hS' : va_S A s.heap T'.heap (locs ++ L) := ⟨Nat.le_trans hS.1 (by rw [e1]; exact hz), fun q h1 h2 => by
      rw [e1, hk q (Nat.lt_of_lt_of_le h1 hS.1) (fun z => by obtain ⟨i, hi, rfl⟩ := z; exact h2 (hA i hi))]; exact hS.2.1 q h1 h2, fun q hq => by
      rcases List.mem_append.mp hq with h | h
      · exact hS.2.2 q h
      · obtain ⟨i, hi, e⟩ := hLf q h
        rw [e]; exact hA i hi⟩
  obtain ⟨t2, a1, b1⟩ := kk0 v' M' hp p l e R s m args below meth c T'.heap (locs ++ L) cells slots Z D cA ad A lr C (by rw [e1]; exact hP') hS' hL kk T' rfl X'
  refine ⟨t2, stp t2 ?_, b1⟩
  have e3 : (v'.toList ++ rest).map (rv ad) = (v'.map (rv ad)).toList ++ rest.map (rv ad) := by cases v' <;> simp
  rw [e3] at a1
  exact a1
theorem rx_callV {y : MethodName} {b' : ByteArray} {nL' n d' r idx ci N : Nat} {ret : Option FieldType} {As rest st0 : List Value} {P : Option Value → Mem → Prop} (hm : MthV y b' nL' ret n) (hl : LnkOK own idx y) (h : Con y b' nL' ret d' (.ref r :: As) M P) (hd : d' + 1 ≤ d) (hst : As.reverse ++ .ref r :: rest = st0) (hn : As.length = n) (hW : (rest.map Value.category).sum ≤ 8) (hk : kd r = (10 + ci, N)) (hC : (vwCl[ci]?).map (·.1) = some y.cls) (hdg : decode cc pc = .ok (.invokevirtual idx, 3))
    (kk0 : ∀ v M', P v M' → Reach cc own nL d Q (pc + 3) ls (v.toList ++ rest) M') : Reach cc own nL d Q pc ls st0 M := by
  intro p l e R s m args below meth c H locs cells slots Z D cA ad A lr C hP hS hL kk
  subst hst
  obtain ⟨hx, hb, hml, hown, hts, hlk, hK, hinj, hA, hX, hR, hc1, hc2⟩ := id C
  obtain ⟨⟨m1, m2, m3, m4⟩, m5, m6⟩ := hm
  have hXH : SX ad (inW ad) s H := (hX.kept (fun a ha hna => hS.2.1 a ha hna)).narrow (fun q hq => by obtain ⟨i, hi, rfl⟩ := hq; exact hA i hi)
  have hin : kd r = (10 + ci, N) := hk
  obtain ⟨qc, e1, e1'⟩ := Option.map_eq_some_iff.mp hC
  have hid : r < NID := kd_lt (by rw [hk]; have := (List.getElem?_eq_some_iff.mp e1).1; simp only [vwCl, List.length] at this; omega)
  have hrecv := va_recv hK hP e1 (q0 := r) (a := ad r) (by rw [ws_get hid, cell_O hk])
  rw [e1'] at hrecv
  have hpre : PreV s H y.cls (ad r) (va_Pc ((Value.ref r :: As).map (rv ad)) (fun U => va_P D vwCl (wsOf ad cA M) U.heap ∧ va_K D vwCl (tysOf cA) U ∧ SX ad (inW ad) U U.heap)) (As.map (rv ad)) :=
    ⟨Pc_blind, hrecv, fun U hU hWm => ⟨rfl, by rw [hU]; exact hP, va_K.moved hWm.alike hK, by rw [hU]; exact hXH.warm hWm⟩⟩
  have hroom : (rmD d').frames + 1 ≤ R.frames ∧ 8 + (nL' + 11) + (rmD d').locals ≤ R.locals := by
    refine ⟨Nat.le_trans hd hR.1, Nat.le_trans ?_ hR.2⟩
    show 8 + (nL' + 11) + 64 * d' ≤ 64 * d
    omega
  have hsz : lr.size = nL := by obtain ⟨lv, g1, -⟩ := hL; exact g1.1
  have hstk : (As.reverse ++ Value.ref r :: rest).map (rv ad) = (As.map (rv ad)).reverse ++ .ref (ad r) :: rest.map (rv ad) := by simp [rv]
  have hcat : ((rest.map (rv ad)).map fun v => v.category).sum ≤ 8 := by
    rw [List.map_map]
    have : (fun v : Value => v.category) ∘ rv ad = Value.category := funext fun v => rv_cat ad v
    rw [this]; exact hW
  rw [hstk]
  rcases hl with h1 | ⟨host, h1⟩
  · exact rx_after (P := P) C hS hL (va_runV (As := As.map (rv ad)) (rest := rest.map (rv ad)) ⟨hx, hb, hml, hown, hts⟩ (h l D cA ad hinj) ⟨callB_of n hts (gt_code m1) rfl rfl rfl (hts _ (gt_in m2 rfl)) (hts _ (gt_in h1 rfl)) m3 hroom, hts _ (gt_in m5 rfl), hts _ (gt_in m6 rfl)⟩ hpre rfl (by simpa using hn) hsz rfl (lv_room hcat) hdg ⟨hc1, hc2⟩) kk0 kk
  · exact rx_after (P := P) C hS hL (va_runVN (As := As.map (rv ad)) (rest := rest.map (rv ad)) ⟨hx, hb, hml, hown, hts⟩ (h l D cA ad hinj) ⟨va_cnB n hts (gt_code m1) rfl rfl rfl (hX.1 _ h1 rfl) (hts _ (gt_in m2 rfl)) m3 hroom, hts _ (gt_in m5 rfl), hts _ (gt_in m6 rfl)⟩ hpre rfl (by simpa using hn) hsz rfl (lv_room hcat) hdg ⟨hc1, hc2⟩) kk0 kk
theorem rx_callS {y : MethodName} {b' : ByteArray} {nL' n d' idx : Nat} {ret : Option FieldType} {As rest st0 : List Value} {P : Option Value → Mem → Prop} (hm : MthS y b' nL' ret n) (hl : LnkOK own idx y) (h : Con y b' nL' ret d' As M P) (hd : d' + 1 ≤ d) (hst : As.reverse ++ rest = st0) (hn : As.length = n) (hW : (rest.map Value.category).sum ≤ 8) (hdg : decode cc pc = .ok (.invokestatic idx, 3))
    (kk0 : ∀ v M', P v M' → Reach cc own nL d Q (pc + 3) ls (v.toList ++ rest) M') : Reach cc own nL d Q pc ls st0 M := by
  intro p l e R s m args below meth c H locs cells slots Z D cA ad A lr C hP hS hL kk
  subst hst
  obtain ⟨hx, hb, hml, hown, hts, hlk, hK, hinj, hA, hX, hR, hc1, hc2⟩ := id C
  obtain ⟨⟨m1, m2, m3, m4⟩, m5⟩ := hm
  have hXH : SX ad (inW ad) s H := (hX.kept (fun a ha hna => hS.2.1 a ha hna)).narrow (fun q hq => by obtain ⟨i, hi, rfl⟩ := hq; exact hA i hi)
  have hpre : PreS s H (va_Pc (As.map (rv ad)) (fun U => va_P D vwCl (wsOf ad cA M) U.heap ∧ va_K D vwCl (tysOf cA) U ∧ SX ad (inW ad) U U.heap)) (As.map (rv ad)) :=
    ⟨Pc_blind, fun U hU hWm => ⟨rfl, by rw [hU]; exact hP, va_K.moved hWm.alike hK, by rw [hU]; exact hXH.warm hWm⟩⟩
  have hroom : (rmD d').frames + 1 ≤ R.frames ∧ 8 + (nL' + 11) + (rmD d').locals ≤ R.locals := by
    refine ⟨Nat.le_trans hd hR.1, Nat.le_trans ?_ hR.2⟩
    show 8 + (nL' + 11) + 64 * d' ≤ 64 * d
    omega
  have hsz : lr.size = nL := by obtain ⟨lv, g1, -⟩ := hL; exact g1.1
  have hstk : (As.reverse ++ rest).map (rv ad) = (As.map (rv ad)).reverse ++ rest.map (rv ad) := by simp
  have hcat : ((rest.map (rv ad)).map fun v => v.category).sum ≤ 8 := by
    rw [List.map_map]
    have : (fun v : Value => v.category) ∘ rv ad = Value.category := funext fun v => rv_cat ad v
    rw [this]; exact hW
  rw [hstk]
  rcases hl with h1 | ⟨host, h1⟩
  · exact rx_after (P := P) C hS hL (va_runS (As := As.map (rv ad)) (rest := rest.map (rv ad)) ⟨hx, hb, hml, hown, hts⟩ (h l D cA ad hinj) ⟨callB_of n hts (gt_code m1) rfl rfl rfl (hts _ (gt_in m2 rfl)) (hts _ (gt_in h1 rfl)) m3 hroom, hts _ (gt_in m5 rfl)⟩ hpre rfl (by simpa using hn) hsz rfl (lv_room hcat) hdg ⟨hc1, hc2⟩) kk0 kk
  · exact rx_after (P := P) C hS hL (va_runSN (As := As.map (rv ad)) (rest := rest.map (rv ad)) ⟨hx, hb, hml, hown, hts⟩ (h l D cA ad hinj) ⟨va_cnB n hts (gt_code m1) rfl rfl rfl (hX.1 _ h1 rfl) (hts _ (gt_in m2 rfl)) m3 hroom, hts _ (gt_in m5 rfl), trivial⟩ hpre rfl (by simpa using hn) hsz rfl (lv_room hcat) hdg ⟨hc1, hc2⟩) kk0 kk
end RC

