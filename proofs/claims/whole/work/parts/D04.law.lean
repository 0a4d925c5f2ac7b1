/-! THE LAW'S BODY: the script stands at the number 181; a call of the loop makes k things at most -/
def dLw : Nat := 180
def LC (p : Program) (l : Launch) (R : Room) (s : State) (m : MethodId) (args : Array Value) (meth : Method) (c : Code) (D : va_G) (cA : Nat → ClassId) (ad : Nat → Nat) (A : Nat → Prop) (L : Nat) (xs : Nat → Int32) : Prop :=
  (∀ cells slots : Nat, cells ≤ R.cells → slots ≤ R.slots → Cx p R s m args meth c cL_law RL 8 dLw D cA ad A cells slots) ∧ l.stackTraces = false ∧ ZX A s s.heap ∧ va_X (ad 181) L xs s s.heap ∧ ad 181 < s.heap.size ∧ ¬ A (ad 181)
def LR (L : Nat) (xs : Nat → Int32) (k : Nat) (Q : Nat → List (Option Value) → List Value → Mem → Prop) (pc : Nat) (ls : List (Option Value)) (st : List Value) (M : Mem) : Prop :=
  ∀ (p : Program) (l : Launch) (e : Env) (R : Room) (s : State) (m : MethodId) (args : Array Value) (below : List Frame) (meth : Method) (c : Code) (H : Heap) (locs : List Loc) (cells slots : Nat) (Z : State → Prop) (D : va_G) (cA : Nat → ClassId) (ad : Nat → Nat) (A : Nat → Prop) (lr : Array Slot),
    LC p l R s m args meth c D cA ad A L xs → cells + k ≤ R.cells → slots + 6 * k ≤ R.slots → va_P D vwCl (wsOf ad cA M) H → va_S A s.heap H locs → hasL ad 8 ls lr →
    (∀ (pc' : Nat) (ls' : List (Option Value)) (st' : List Value) (M' : Mem) (H' : Heap) (locs' : List Loc) (lr' : Array Slot), Q pc' ls' st' M' → va_P D vwCl (wsOf ad cA M') H' → va_S A s.heap H' locs' → hasL ad 8 ls' lr' → W p l e R s m args below meth c H' locs' (cells + k) (slots + 6 * k) Z (F0 m pc' lr' (st'.map (rv ad)))) →
    W p l e R s m args below meth c H locs cells slots Z (F0 m pc lr (st.map (rv ad)))
section
variable {L : Nat} {xs : Nat → Int32} {k : Nat} {Q : Nat → List (Option Value) → List Value → Mem → Prop} {pc : Nat} {ls : List (Option Value)} {st : List Value} {M : Mem}
theorem lr_here (h : Q pc ls st M) : LR L xs 0 Q pc ls st M := fun p l e R s m args below meth c H locs cells slots Z D cA ad A lr _ _ _ hP hS hL kk => kk pc ls st M H locs lr h hP hS hL
theorem lr_reach (h : Reach cL_law RL 8 dLw (fun pc' ls' st' M' => LR L xs k Q pc' ls' st' M') pc ls st M) : LR L xs k Q pc ls st M :=
  fun p l e R s m args below meth c H locs cells slots Z D cA ad A lr C hc hs hP hS hL kk => h p l e R s m args below meth c H locs cells slots Z D cA ad A lr (C.1 cells slots (by omega) (by omega)) hP hS hL
    (fun pc' ls' st' M' H' locs' lr' hq hP' hS' hL' => hq p l e R s m args below meth c H' locs' cells slots Z D cA ad A lr' C hc hs hP' hS' hL' kk)
/-- one of the script's ints -/
theorem lr_sld {i : Nat} (hi : i < L) (hL31 : i < 2 ^ 31) (hdg : decode cL_law pc = .ok (.iaload, 1)) (k0 : LR L xs k Q (pc + 1) ls (.int (xs i) :: st) M) : LR L xs k Q pc ls (.int (nI i) :: .ref 181 :: st) M :=
  fun p l e R s m args below meth c H locs cells slots Z D cA ad A lr C hc hs hP hS hL kk => by
    have C0 := C.1 cells slots (by omega) (by omega)
    have hin : vp_in (nI i) L := fun z => by
      rw [nI_clamp hL31] at z
      rcases z with z | z
      · rw [Int32.lt_iff_toInt_lt, nI_toInt hL31, i_0] at z; omega
      · omega
    exact va_sld (cc := cL_law) (pc := pc) (ls := lr) (rest := st.map (rv ad)) C0.1 C0.2.1 C.2.2.2.1 C.2.2.2.2.1 C.2.2.2.2.2 hS hin hdg (by rw [nI_clamp hL31]; exact k0 p l e R s m args below meth c H locs cells slots Z D cA ad A lr C hc hs hP hS hL kk)
theorem lr_slen (hL31 : L < 2 ^ 31) (hdg : decode cL_law pc = .ok (.arraylength, 1)) (k0 : LR L xs k Q (pc + 1) ls (.int (nI L) :: st) M) : LR L xs k Q pc ls (.ref 181 :: st) M :=
  fun p l e R s m args below meth c H locs cells slots Z D cA ad A lr C hc hs hP hS hL kk => by
    have C0 := C.1 cells slots (by omega) (by omega)
    exact va_slen (cc := cL_law) (pc := pc) (ls := lr) (rest := st.map (rv ad)) C0.1 C0.2.1 C.2.2.2.1 C.2.2.2.2.1 C.2.2.2.2.2 hS hdg (k0 p l e R s m args below meth c H locs cells slots Z D cA ad A lr C hc hs hP hS hL kk)
/-- a call that may make one thing -/
theorem lr_wrap {y : MethodName} {b : ByteArray} {nL d n idx : Nat} {hh : List (Nat × Nat × Nat × Nat)} {As st0 : List Value} {P : Int32 → Mem → Prop} (hW : Wr y b nL d hh As M P) (m1 : Cond.codeWith y b nL (some .int) hh ∈ lw_tbl) (m2 : Cond.initialized y.cls ∈ lw_tbl) (m3 : y.cls ≠ "java/lang/invoke/MethodHandle" ∧ y.cls ≠ "java/lang/invoke/VarHandle" ∧ (parseMethodDescriptor y.desc).map (fun d => d.parameters.length) = some n) (m4 : nL ≤ 40) (m5 : Cond.static y ∈ lw_tbl) (hl : Cond.methodLink RL idx y ∈ lw_tbl) (hd : d + 1 ≤ dLw) (hst : As.reverse ++ st = st0) (hn : As.length = n) (hc8 : (st.map Value.category).sum ≤ 8) (hdg : decode cL_law pc = .ok (.invokestatic idx, 3))
    (k0 : ∀ (r : Int32) (M' : Mem), P r M' → LR L xs k Q (pc + 3) ls (.int r :: st) M') : LR L xs (k + 1) Q pc ls st0 M :=
  fun p l e R s m args below meth c H locs cells slots Z D cA ad A lr C hc hs hP hS hL kk => by
    subst hst
    have C0 := C.1 cells slots (by omega) (by omega)
    obtain ⟨hx, hb, hml, hown, hts, hlk, hK, hinj, hA, hX, hR, hc1, hc2⟩ := id C0
    have hkp : ∀ a : Nat, a < s.heap.size → ¬ A a → H[a]? = s.heap[a]? := fun a ha hna => hS.2.1 a ha hna
    have nar : ∀ q, inW ad q → A q := fun q hq => by obtain ⟨i, hi, rfl⟩ := hq; exact hA i hi
    have hXH : SX ad (inW ad) s H := (hX.kept hkp).narrow nar
    have hZH : ZX (inW ad) s H := (C.2.2.1.kept hkp).narrow nar
    have hpre : PreS s H (va_Pc (As.map (rv ad)) (fun U => va_P D vwCl (wsOf ad cA M) U.heap ∧ va_K D vwCl (tysOf cA) U ∧ SX ad (inW ad) U U.heap ∧ ZX (inW ad) U U.heap)) (As.map (rv ad)) :=
      ⟨fun a U g mk z => by obtain ⟨z1, z2, z3, z4, z5⟩ := z; exact ⟨z1, z2, va_K.moved (u := U) (U := U.calling g mk a) (Vm.Alike.refl U.vm) z3, SX.same (u := U) (U := U.calling g mk a) rfl z4, ZX.same (u := U) (U := U.calling g mk a) rfl z5⟩, fun U hU hWm => ⟨rfl, by rw [hU]; exact hP, va_K.moved hWm.alike hK, by rw [hU]; exact hXH.warm hWm, by rw [hU]; exact hZH.warm hWm⟩⟩
    have hsz : lr.size = 8 := by obtain ⟨lv, g1, -⟩ := hL; exact g1.1
    have hcat : ((st.map (rv ad)).map fun v => v.category).sum ≤ 8 := by
      rw [List.map_map]
      have : (fun v : Value => v.category) ∘ rv ad = Value.category := funext fun v => rv_cat ad v
      rw [this]; exact hc8
    have hroom : d + 1 ≤ R.frames ∧ 8 + (nL + 11) + 64 * d ≤ R.locals := ⟨Nat.le_trans hd hR.1, Nat.le_trans (by omega) hR.2⟩
    have hstk : (As.reverse ++ st).map (rv ad) = (As.map (rv ad)).reverse ++ st.map (rv ad) := by simp
    rw [hstk]
    have hG : GoodIn gtbl (.codeWith y b nL (some .int) hh :: gtbl) := fun w hw => by
      rcases List.mem_cons.mp hw with rfl | hw
      · exact ⟨gt_in m1 rfl, good_of_word rfl⟩
      · exact gt_good w hw
    have hrun := vx_runSW (As := As.map (rv ad)) (rest := st.map (rv ad)) (g := F0 m pc lr ((As.map (rv ad)).reverse ++ st.map (rv ad))) ⟨hx, hb, hml, hown, hts⟩ (hW l D cA ad C.2.1 hinj) ⟨⟨rfl, rfl, hroom.1, hroom.2, pay_in hts hG, List.mem_cons_self⟩, hts _ (gt_in m1 rfl), hts _ (gt_in m2 rfl), ⟨m3.1, m3.2.1⟩, fun sig h => by have h2 := m3.2.2; rw [h] at h2; exact (Option.some.inj h2).symm, hts _ (gt_in hl rfl), hts _ (gt_in m5 rfl)⟩ hpre rfl (by simpa using hn) hsz rfl (lv_room hcat) hdg (locs := locs) (below := below) (e := e) (meth := meth) (cells := cells) (slots := slots) ⟨by omega, by omega⟩
    intro T hT X
    obtain ⟨v, st₀, t, T', Lc, h0, X', hLf, e1, e2, ⟨⟨r, M', ho, hp, hP'⟩, hz, hk⟩, stp⟩ := hrun T hT X
    rw [h0] at hz hk
    have hvv : v = some (.int r) := by injection ho
    subst hvv
    have hS' : va_S A s.heap T'.heap (locs ++ Lc) := ⟨Nat.le_trans hS.1 (by rw [e1]; exact hz), fun q h1 h2 => by
        rw [e1, hk q (Nat.lt_of_lt_of_le h1 hS.1) (fun z => h2 (nar q z))]; exact hS.2.1 q h1 h2, fun q hq => by
        rcases List.mem_append.mp hq with h | h
        · exact hS.2.2 q h
        · exact nar _ (hLf q h)⟩
    obtain ⟨t2, a1, b1⟩ := k0 r M' hp p l e R s m args below meth c T'.heap (locs ++ Lc) (cells + 1) (slots + 6) Z D cA ad A lr C (by omega) (by omega) (by rw [e1]; exact hP') hS' hL (fun pc' ls' st' M2 H' locs' lr' hq hP2 hS2 hL2 => by
      have := kk pc' ls' st' M2 H' locs' lr' hq hP2 hS2 hL2
      rw [show cells + 1 + k = cells + (k + 1) by omega, show slots + 6 + 6 * k = slots + 6 * (k + 1) by omega]
      exact this) T' rfl X'
    exact ⟨t2, stp t2 a1, b1⟩
/-- the steps of the law -/
theorem lr_end (h : Q pc ls st M) : LR L xs k Q pc ls st M := fun p l e R s m args below meth c H locs cells slots Z D cA ad A lr _ _ _ hP hS hL kk => W.widen (k := cells + k) (n := slots + 6 * k) (by omega) (by omega) (kk pc ls st M H locs lr h hP hS hL)
theorem lr_seq {k1 k2 : Nat} {Q1 Q2 : Nat → List (Option Value) → List Value → Mem → Prop} (h : LR L xs k1 Q1 pc ls st M) (h2 : ∀ pc' ls' st' M', Q1 pc' ls' st' M' → LR L xs k2 Q2 pc' ls' st' M') : LR L xs (k1 + k2) Q2 pc ls st M :=
  fun p l e R s m args below meth c H locs cells slots Z D cA ad A lr C hc hs hP hS hL kk =>
    h p l e R s m args below meth c H locs cells slots Z D cA ad A lr C (by omega) (by omega) hP hS hL (fun pc' ls' st' M' H' locs' lr' hq hP' hS' hL' =>
      h2 pc' ls' st' M' hq p l e R s m args below meth c H' locs' (cells + k1) (slots + 6 * k1) Z D cA ad A lr' C (by omega) (by omega) hP' hS' hL' (fun pc2 ls2 st2 M2 H2 locs2 lr2 hq2 hP2 hS2 hL2 => by
        have := kk pc2 ls2 st2 M2 H2 locs2 lr2 hq2 hP2 hS2 hL2
        rw [show cells + k1 + k2 = cells + (k1 + k2) by omega, show slots + 6 * k1 + 6 * k2 = slots + 6 * (k1 + k2) by omega]
        exact this))
theorem lr_al {f : Fin 4} {i x : Nat} (hdg : decode cL_law pc = .ok (.aload_n f, 1)) (hi : (f : Nat) = i) (hl : ls[i]? = some (some (.ref x))) (k0 : LR L xs k Q (pc + 1) ls (.ref x :: st) M) : LR L xs k Q pc ls st M := lr_reach (rx_aload_n hdg hi hl (Reach.here k0))
theorem lr_il {i : Nat} {x : Int32} (hdg : decode cL_law pc = .ok (.iload i, 2)) (hl : ls[i]? = some (some (.int x))) (k0 : LR L xs k Q (pc + 2) ls (.int x :: st) M) : LR L xs k Q pc ls st M := lr_reach (rx_iload hdg hl (Reach.here k0))
theorem lr_ist {i : Nat} {x : Int32} (hdg : decode cL_law pc = .ok (.istore i, 2)) (hn : i < 8) (ho : okS ls i = true) (k0 : LR L xs k Q (pc + 2) (ls.set i (some (.int x))) st M) : LR L xs k Q pc ls (.int x :: st) M := lr_reach (rx_istore hdg hn ho rfl (Reach.here k0))
theorem lr_lst {i : Nat} {x : Int64} (hdg : decode cL_law pc = .ok (.lstore i, 2)) (hn : i + 1 < 8) (ho : okS ls i = true) (k0 : LR L xs k Q (pc + 2) ((ls.set i (some (.long x))).set (i + 1) none) st M) : LR L xs k Q pc ls (.long x :: st) M := lr_reach (rx_lstore hdg hn ho rfl (Reach.here k0))
theorem lr_arg {i q : Nat} {z : Int} (e0 : decode cL_law pc = .ok (.aload_n 0, 1)) (e1 : decode cL_law (pc + 1) = .ok (.iload 4, 2)) (e2 : decode cL_law (pc + 3) = .ok (.iconst z, 1)) (hz : Int32.ofInt z = nI q) (e3 : decode cL_law (pc + 4) = .ok (.iadd, 1)) (e4 : decode cL_law (pc + 5) = .ok (.iaload, 1))
    (h0 : ls[0]? = some (some (.ref 181))) (h4 : ls[4]? = some (some (.int (nI i)))) (hq : i + q < L) (hL : L < 2 ^ 31) (k0 : LR L xs k Q (pc + 6) ls (.int (xs (i + q)) :: st) M) : LR L xs k Q pc ls st M :=
  lr_reach (rx_aload_n e0 rfl h0 (rx_iload e1 h4 (rx_iconst (nI q) e2 hz (rx_iadd e3 (Reach.here (by rw [nI_add]; exact lr_sld hq (by omega) e4 k0))))))
theorem lr_call {y : MethodName} {b' : ByteArray} {nL' n d' r idx ci N : Nat} {ret : Option FieldType} {As rest st0 : List Value} {P : Option Value → Mem → Prop} (hm : MthV y b' nL' ret n) (hl : LnkOK RL idx y) (h : Con y b' nL' ret d' (.ref r :: As) M P) (hd : d' + 1 ≤ dLw) (hst : As.reverse ++ .ref r :: rest = st0) (hn : As.length = n) (hW : (rest.map Value.category).sum ≤ 8) (hk : kd r = (10 + ci, N)) (hC : (vwCl[ci]?).map (·.1) = some y.cls) (hdg : decode cL_law pc = .ok (.invokevirtual idx, 3))
    (kk0 : ∀ v M', P v M' → LR L xs k Q (pc + 3) ls (v.toList ++ rest) M') : LR L xs k Q pc ls st0 M := lr_reach (rx_callV hm hl h hd hst hn hW hk hC hdg fun v M' hv => Reach.here (kk0 v M' hv))
theorem lr_eq {x : Int32} {off : Int} {tgt : Nat} (hdg : decode cL_law pc = .ok (.if_icmp .eq off, 3)) (ht : (pc : Int) + off = (tgt : Int)) (k0 : LR L xs k Q tgt ls st M) : LR L xs k Q pc ls (.int x :: .int x :: st) M := lr_reach (rx_icmp_eq hdg ht (fun _ => Reach.here k0) fun h => absurd rfl h)
theorem lr_leq {x : Int64} {off : Int} {tgt : Nat} (hd0 : decode cL_law pc = .ok (.lcmp, 1)) (hdg : decode cL_law (pc + 1) = .ok (.ifCond .eq off, 3)) (ht : ((pc + 1 : Nat) : Int) + off = (tgt : Int)) (k0 : LR L xs k Q tgt ls st M) : LR L xs k Q pc ls (.long x :: .long x :: st) M :=
  lr_reach (rx_lcmp hd0 (rx_if_eq hdg ht (fun _ => Reach.here k0) fun h => absurd (by unfold lg_cmp; rw [if_neg (fun z => by rw [gt_iff_lt, Int64.lt_iff_toInt_lt] at z; omega), if_pos rfl]) h))
end
/-- a call of the class, then of the model: the same answer stands twice -/
theorem ty_int {ret : Option FieldType} {v : Option Value} (hr : ret = some .int ∨ ret = some .boolean) (h : tyR ret v) : ∃ a : Int32, v = some (.int a) := by
  rcases hr with rfl | rfl <;> exact h
theorem ty_long {v : Option Value} (h : tyR (some .long) v) : ∃ a : Int64, v = some (.long a) := h
