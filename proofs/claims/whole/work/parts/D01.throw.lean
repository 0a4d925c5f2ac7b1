/-! WHERE THE CLASS THROWS -/
def nse : String := "java/util/NoSuchElementException"
def nsN : List String := ["java/lang/RuntimeException", "java/lang/Exception"]
def isCD : Cond → Bool
  | .castable _ _ => true
  | .declares _ => true
  | _ => false
def CDOK (U : State) : Prop := ∀ w, w ∈ lw_tbl → isCD w = true → va_Nw w U
theorem CDOK.warm {s U : State} (hW : s.WarmedH U.vm) (h : CDOK s) : CDOK U := by
  intro w hw hn
  have h1 := h w hw hn
  cases w <;> first | exact va_Nw.warmC hW h1 | exact va_Nw.warmD hW h1 | exact absurd hn (by simp [isCD])
theorem CDOK.same {u U : State} (hv : U.vm = u.vm) (h : CDOK u) : CDOK U := by
  intro w hw hn
  have h1 := h w hw hn
  cases w <;> first | exact va_Nw.same rfl hv.symm h1 | exact absurd hn (by simp [isCD])
theorem CDOK.use {U : State} (h : CDOK U) {w : Cond} (hw : w ∈ lw_tbl) (hn : isCD w = true) {A : Array Value} : w.before A U = true := by
  have h1 := h w hw hn
  cases w <;> first | exact va_Nw.use rfl h1 | exact absurd hn (by simp [isCD])
/-- what Throwable's statics are -/
def ZX (A : Nat → Prop) (U : State) (H : Heap) : Prop := vx_Zq Bundle.tN "UNASSIGNED_STACK" Bundle.steD A U H ∧ vx_Zq Bundle.tN "SUPPRESSED_SENTINEL" Bundle.listD A U H ∧ CDOK U
theorem ZX.warm {A : Nat → Prop} {s U : State} {H : Heap} (hW : s.WarmedH U.vm) (h : ZX A s H) : ZX A U H := ⟨h.1.moved hW.alike, h.2.1.moved hW.alike, h.2.2.warm hW⟩
theorem ZX.same {A : Nat → Prop} {u U : State} {H : Heap} (hv : U.vm = u.vm) (h : ZX A u H) : ZX A U H := ⟨h.1.moved (by rw [hv]; exact Vm.Alike.refl _), h.2.1.moved (by rw [hv]; exact Vm.Alike.refl _), h.2.2.same hv⟩
theorem ZX.kept {A : Nat → Prop} {U : State} {H H1 : Heap} (h : ZX A U H) (hq : ∀ a : Nat, a < H.size → ¬ A a → H1[a]? = H[a]?) : ZX A U H1 := ⟨h.1.kept hq, h.2.1.kept hq, h.2.2⟩
theorem ZX.narrow {A B : Nat → Prop} {U : State} {H : Heap} (h : ZX A U H) (hAB : ∀ q, B q → A q) : ZX B U H := ⟨h.1.narrow hAB, h.2.1.narrow hAB, h.2.2⟩
def thrAt (b : ByteArray) (pc : Nat) : Prop := decode b pc = .ok (.new 123, 3) ∧ decode b (pc + 3) = .ok (.dup, 1) ∧ decode b (pc + 4) = .ok (.invokespecial 125, 3) ∧ decode b (pc + 7) = .ok (.athrow, 1)
/-- a call that throws, and changes nothing -/
def Thr (y : MethodName) (b : ByteArray) (nL : Nat) (ret : Option FieldType) (d : Nat) (As : List Value) (M : Mem) : Prop :=
  ∀ (l : Launch) (D : va_G) (cA : Nat → ClassId) (ad : Nat → Nat), l.stackTraces = false → injAd ad →
    vx_Met l y (.code y b nL ret :: gtbl) { frames := d, cells := 1, slots := 6, locals := 64 * d } (va_Pc (As.map (rv ad)) (fun U => va_P D vwCl (wsOf ad cA M) U.heap ∧ va_K D vwCl (tysOf cA) U ∧ SX ad (inW ad) U U.heap ∧ ZX (inW ad) U U.heap))
      (fun _ _ _ _ => False) (fun E st t => E = nse ∧ va_P D vwCl (wsOf ad cA M) t.heap ∧ va_F (inW ad) st t) 1 6 (inW ad)
set_option maxRecDepth 20000 in
theorem th_in : ∀ w ∈ vx_at0 RX10 125 nse nsN, w ∈ lw_tbl := by decide +kernel
theorem th_ok : ∀ w ∈ Cond.classLink RX10 123 nse :: Cond.initialized nse :: vx_at0 RX10 125 nse nsN, vx_ot w = true := by decide +kernel
theorem th_gd : (vx_at0 RX10 125 nse nsN).all (fun w => goodWord w || isCD w) = true := by decide +kernel
theorem Thr.of {y : MethodName} {b : ByteArray} {nL : Nat} {ret : Option FieldType} {d : Nat} {As : List Value} {M : Mem} {ls : List (Option Value)} (ho : y.cls = RX10) (hy : plainName y.cls = true) (hs : (entL As).length ≤ nL) (hls : entL As ++ List.replicate (nL - (entL As).length) none = ls) (hd : 6 ≤ d)
    (h : Reach b RX10 nL d (fun pc _ st M' => thrAt b pc ∧ st = [] ∧ M' = M) 0 ls [] M) : Thr y b nL ret d As M := by
  intro l D cA ad hl hi
  subst hls
  refine vx_ofW (cc := b) (maxL := nL) (ret := ret) hy rfl ?_
  intro p e s m args below meth c s₁ B hml hex hv
  obtain ⟨rfl, hP, hK, hX, hZ⟩ := hv
  have hts := atoms_spec (ws := .code y b nL ret :: gtbl) B.pre
  have hown : s.vm.findClass RX10 = some m.cls := by rw [← ho]; exact findClass_of_methodNamed B.named
  have hlk := B.notSynchronized
  have hl2 := lv_entry (As.map (rv ad)) (n := nL) (by rw [entL_len]; exact hs)
  rw [lg_entry_eq]
  have hL : hasL ad nL (entL As ++ List.replicate (nL - (entL As).length) none) ((lg_sl (As.map (rv ad)) ++ List.replicate (nL - (lg_sl (As.map (rv ad))).length) Slot.unset).toArray) :=
    ⟨_, hl2, fun i v hv => by have := entL_has (ad := ad) As 0 _ i v hv; rwa [Nat.zero_add] at this⟩
  refine h p l e _ s m _ below meth c s.heap [] 0 0 _ D cA ad (inW ad) _ ⟨B.exec, B.bytes, hml, hown, fun w hw => hts w (List.mem_cons_of_mem _ hw), hlk, hK, hi, fun i h => ⟨i, h, rfl⟩, hX, ⟨Nat.le_refl _, Nat.le_refl _⟩, Nat.zero_le _, Nat.zero_le _⟩ hP va_S.rf hL ?_
  intro pc' ls' st' M' H' locs' lr' hq hP' hS' hL'
  obtain ⟨⟨d0, d3, d4, d7⟩, rfl, rfl⟩ := hq
  have hsz : lr'.size = c.maxLocals := by obtain ⟨lv, g1, -⟩ := hL'; rw [hml]; exact g1.1
  have gw : ∀ w, w ∈ lw_tbl → goodWord w = true → w.before (As.map (rv ad)).toArray s = true := fun w h1 h2 => hts w (List.mem_cons_of_mem _ (gt_in h1 h2))
  exact vx_throw0 (own := RX10) (cls := nse) (names := nsN) (ik := 123) (ic := 125) B.exec B.bytes hl hown (by decide +kernel) (by decide +kernel) (gw _ (List.mem_of_getElem? (i := 1292) (by decide +kernel)) rfl) (gw _ (by decide +kernel) rfl) (fun w hw => (Bool.or_eq_true _ _ ▸ List.all_eq_true.mp th_gd w hw).elim (fun z => gw w (th_in w hw) z) (fun z => hZ.2.2.use (th_in w hw) z)) th_ok hZ.1 hZ.2.1 hS' hsz d0 d3 d4 d7 (fun x hx => (hex x hx).elim) (show 2 + 3 < d by omega) (show 0 + (13 * (2 + 1) + 42) ≤ 64 * d by omega) (Nat.le_refl _) (Nat.le_refl _) hlk
    (fun t hW hz hk => ⟨rfl, va_P.kept hP' (fun k q hq => hk q.1 (hP' k q hq).lt), ⟨Nat.le_trans hS'.1 hz, fun q h1 h2 => (hk q (Nat.lt_of_lt_of_le h1 hS'.1)).trans (hS'.2.1 q h1 h2)⟩⟩) hS'.2.2 (Nat.le_refl _) (Nat.le_refl _)
theorem x_out8 {x : Int32} {k : Nat} (hk : k < 1000) (h : ¬ (0 ≤ x ∧ x ≤ nI k)) : x.toInt < 0 ∨ (k : Int) < x.toInt := by
  rw [i_le, i_le, i_0, nI_toInt (by omega)] at h
  omega
theorem ite10 {p : Prop} [Decidable p] (h : ¬ (if p then (1 : Int32) else 0) = 0) : p := by
  by_cases q : p
  · exact q
  · rw [if_neg q] at h; exact absurd rfl h
set_option maxRecDepth 100000 in
set_option maxHeartbeats 4000000 in
theorem t_X10_of {M : Mem} {n m : Nat} (w : TW M 28 n m) {y x : Int32} (hx : ¬ ((0 ≤ y ∧ y < nI n) ∧ 0 ≤ x ∧ x ≤ 8)) : Thr yX10_of cX10_of 3 (some .int) 6 [.ref 0, .int y, .int x] M := by
  refine Thr.of (ls := [some (.ref 0), some (.int y), some (.int x)]) rfl (by decide +kernel) (Nat.le_of_ble_eq_true rfl) rfl (by decide) ?_
  have ⟨hn, hn8, hm, hm10, hd⟩ := w
  refine rx_aload_n (i := 0) dX10_of_0 rfl rfl ?_
  refine rx_getR 28 (k := 2) fo_X10_26 kl_0 (by decide) ti_10_2 (by decide) rfl dX10_of_1 ?_
  refine rx_iload_n (i := 1) dX10_of_4 rfl rfl ?_
  refine rx_cvI (ci := 8) mo_X8_isPerson lk_X10_120 (c_X8_isPerson it28) (by decide) rfl rfl (Nat.le_of_ble_eq_true rfl) kl_28 rfl dX10_of_5 ?_
  refine rx_if_ne (tgt := 19) dX10_of_8 (by decide) (fun c8 => ?_) (fun c8 => ?_)
  · have h1 := ite10 c8
    rw [hn] at h1
    have hx2 : ¬ (0 ≤ x ∧ x ≤ 8) := fun z => hx ⟨h1, z⟩
    have hx3 := x_out8 (k := 8) (by omega) hx2
    refine rx_iload_n (i := 2) dX10_of_19 rfl rfl ?_
    refine rx_tableOut (tgt := 165) dX10_of_20 hx3 (by decide) ?_
    exact Reach.here ⟨⟨dX10_of_165, dX10_of_168, dX10_of_169, dX10_of_172⟩, rfl, rfl⟩
  · exact Reach.here ⟨⟨dX10_of_11, dX10_of_14, dX10_of_15, dX10_of_18⟩, rfl, rfl⟩
set_option maxRecDepth 100000 in
set_option maxHeartbeats 4000000 in
theorem t_X10_debt {M : Mem} {n m : Nat} (w : TW M 28 n m) {y x : Int32} (hx : ¬ ((0 ≤ y ∧ y < nI m) ∧ 0 ≤ x ∧ x ≤ 5)) : Thr yX10_debt cX10_debt 3 (some .int) 6 [.ref 0, .int y, .int x] M := by
  refine Thr.of (ls := [some (.ref 0), some (.int y), some (.int x)]) rfl (by decide +kernel) (Nat.le_of_ble_eq_true rfl) rfl (by decide) ?_
  have ⟨hn, hn8, hm, hm10, hd⟩ := w
  refine rx_aload_n (i := 0) dX10_debt_0 rfl rfl ?_
  refine rx_getR 28 (k := 2) fo_X10_26 kl_0 (by decide) ti_10_2 (by decide) rfl dX10_debt_1 ?_
  refine rx_iload_n (i := 1) dX10_debt_4 rfl rfl ?_
  refine rx_cvI (ci := 8) mo_X8_isDebt lk_X10_157 (c_X8_isDebt it28) (by decide) rfl rfl (Nat.le_of_ble_eq_true rfl) kl_28 rfl dX10_debt_5 ?_
  refine rx_if_ne (tgt := 19) dX10_debt_8 (by decide) (fun c8 => ?_) (fun c8 => ?_)
  · have h1 := ite10 c8
    rw [hm] at h1
    have hx2 : ¬ (0 ≤ x ∧ x ≤ 5) := fun z => hx ⟨h1, z⟩
    have hx3 := x_out8 (k := 5) (by omega) hx2
    refine rx_iload_n (i := 2) dX10_debt_19 rfl rfl ?_
    refine rx_tableOut (tgt := 120) dX10_debt_20 hx3 (by decide) ?_
    exact Reach.here ⟨⟨dX10_debt_120, dX10_debt_123, dX10_debt_124, dX10_debt_127⟩, rfl, rfl⟩
  · exact Reach.here ⟨⟨dX10_debt_11, dX10_debt_14, dX10_debt_15, dX10_debt_18⟩, rfl, rfl⟩
set_option maxRecDepth 100000 in
set_option maxHeartbeats 4000000 in
theorem t_X10_row {M : Mem} {s : Nat} (hs : M.1 4 1 = nI s) {x : Int32} (hx : ¬ (0 ≤ x ∧ x < nI s)) : Thr yX10_row cX10_row 2 (some .long) 6 [.ref 0, .int x] M := by
  refine Thr.of (ls := [some (.ref 0), some (.int x)]) rfl (by decide +kernel) (Nat.le_of_ble_eq_true rfl) rfl (by decide) ?_
  refine rx_iload_n (i := 1) dX10_row_0 rfl rfl ?_
  refine rx_if_lt (tgt := 15) dX10_row_1 (by decide) (fun c1 => ?_) (fun c1 => ?_)
  · exact Reach.here ⟨⟨dX10_row_15, dX10_row_18, dX10_row_19, dX10_row_22⟩, rfl, rfl⟩
  · refine rx_iload_n (i := 1) dX10_row_4 rfl rfl ?_
    refine rx_aload_n (i := 0) dX10_row_5 rfl rfl ?_
    refine rx_getR 4 (k := 1) fo_X10_19 kl_0 (by decide) ti_10_1 (by decide) rfl dX10_row_6 ?_
    refine rx_getI (k := 1) fo_X10_441 kl_4 (by decide) ti_7_1 dX10_row_9 ?_
    refine rx_top (nI s) (hs) ?_
    refine rx_icmp_lt (tgt := 23) dX10_row_12 (by decide) (fun c12 => ?_) (fun c12 => ?_)
    · exact absurd ⟨Int32.not_lt.mp c1, c12⟩ hx
    · exact Reach.here ⟨⟨dX10_row_15, dX10_row_18, dX10_row_19, dX10_row_22⟩, rfl, rfl⟩
set_option maxRecDepth 100000 in
set_option maxHeartbeats 4000000 in
theorem t_X10_pays {M : Mem} {n m : Nat} (w : TW M 28 n m) {y v z : Int32} (hx : ¬ ((0 ≤ y ∧ y < nI n) ∧ (0 ≤ v ∧ v ≤ M.1 29 y.toNatClampNeg) ∧ 0 ≤ z ∧ z ≤ 60)) : Thr yX10_pays cX10_pays 4 (some .int) 7 [.ref 0, .int y, .int v, .int z] M := by
  refine Thr.of (ls := [some (.ref 0), some (.int y), some (.int v), some (.int z)]) rfl (by decide +kernel) (Nat.le_of_ble_eq_true rfl) rfl (by decide) ?_
  have ⟨hn, hn8, hm, hm10, hd⟩ := w
  refine rx_aload_n (i := 0) dX10_pays_0 rfl rfl ?_
  refine rx_getR 28 (k := 2) fo_X10_26 kl_0 (by decide) ti_10_2 (by decide) rfl dX10_pays_1 ?_
  refine rx_iload_n (i := 1) dX10_pays_4 rfl rfl ?_
  refine rx_cvI (ci := 8) mo_X8_isPerson lk_X10_120 (c_X8_isPerson it28) (by decide) rfl rfl (Nat.le_of_ble_eq_true rfl) kl_28 rfl dX10_pays_5 ?_
  refine rx_if_eq (tgt := 35) dX10_pays_8 (by decide) (fun c8 => ?_) (fun c8 => ?_)
  · exact Reach.here ⟨⟨dX10_pays_35, dX10_pays_38, dX10_pays_39, dX10_pays_42⟩, rfl, rfl⟩
  · have h1 := ite10 c8
    rw [hn] at h1
    obtain ⟨i, hi, rfl⟩ := rngI h1 (by omega)
    rw [nI_clamp (by omega)] at hx
    refine rx_iload_n (i := 2) dX10_pays_11 rfl rfl ?_
    refine rx_if_lt (tgt := 35) dX10_pays_12 (by decide) (fun c12 => ?_) (fun c12 => ?_)
    · exact Reach.here ⟨⟨dX10_pays_35, dX10_pays_38, dX10_pays_39, dX10_pays_42⟩, rfl, rfl⟩
    · refine rx_iload_n (i := 2) dX10_pays_15 rfl rfl ?_
      refine rx_aload_n (i := 0) dX10_pays_16 rfl rfl ?_
      refine rx_getR 28 (k := 2) fo_X10_26 kl_0 (by decide) ti_10_2 (by decide) rfl dX10_pays_17 ?_
      refine rx_getR 29 (k := 0) fo_X10_126 kl_28 (by decide) ti_8_0 (by decide) rfl dX10_pays_20 ?_
      refine rx_iload_n (i := 1) dX10_pays_23 rfl rfl ?_
      refine rx_ialdN kl_29 (by omega) (by first | decide | omega) dX10_pays_24 ?_
      refine rx_icmp_gt (tgt := 35) dX10_pays_25 (by decide) (fun c25 => ?_) (fun c25 => ?_)
      · exact Reach.here ⟨⟨dX10_pays_35, dX10_pays_38, dX10_pays_39, dX10_pays_42⟩, rfl, rfl⟩
      · refine rx_iload_n (i := 3) dX10_pays_28 rfl rfl ?_
        refine rx_csI mo_X10_isSpan lk_X10_381 c_X10_isSpan (by decide) rfl rfl (Nat.le_of_ble_eq_true rfl) dX10_pays_29 ?_
        refine rx_if_ne (tgt := 43) dX10_pays_32 (by decide) (fun c32 => ?_) (fun c32 => ?_)
        · exact absurd ⟨h1, ⟨Int32.not_lt.mp c12, Int32.not_lt.mp c25⟩, ite10 c32⟩ hx
        · exact Reach.here ⟨⟨dX10_pays_35, dX10_pays_38, dX10_pays_39, dX10_pays_42⟩, rfl, rfl⟩
