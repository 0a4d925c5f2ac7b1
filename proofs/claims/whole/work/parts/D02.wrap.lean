/-! THE LAW'S FOUR THAT CATCH: the answer, or that it was thrown -/
def Wr (y : MethodName) (b : ByteArray) (nL d : Nat) (hh : List (Nat × Nat × Nat × Nat)) (As : List Value) (M : Mem) (P : Int32 → Mem → Prop) : Prop :=
  ∀ (l : Launch) (D : va_G) (cA : Nat → ClassId) (ad : Nat → Nat), l.stackTraces = false → injAd ad →
    Met l y (.codeWith y b nL (some .int) hh :: gtbl) { frames := d, cells := 1, slots := 6, locals := 64 * d } (va_Pc (As.map (rv ad)) (fun U => va_P D vwCl (wsOf ad cA M) U.heap ∧ va_K D vwCl (tysOf cA) U ∧ SX ad (inW ad) U U.heap ∧ ZX (inW ad) U U.heap))
      (fun _ st o t => (∃ (k : Int32) (M' : Mem), o = .returned (some (.int k)) ∧ P k M' ∧ va_P D vwCl (wsOf ad cA M') t.heap) ∧ va_F (inW ad) st t) 1 6 (inW ad)
theorem Wr.of {y : MethodName} {b : ByteArray} {nL d : Nat} {hh : List (Nat × Nat × Nat × Nat)} {As : List Value} {M : Mem} {P : Int32 → Mem → Prop} {ls : List (Option Value)} (ho : y.cls = RL) (hy : plainName y.cls = true) (hs : (entL As).length ≤ nL) (hls : entL As ++ List.replicate (nL - (entL As).length) none = ls)
    (h : Reach b RL nL d (fun pc _ st M' => ∃ k, st = [.int k] ∧ P k M' ∧ decode b pc = .ok (.ireturn, 1)) 0 ls [] M) : Wr y b nL d hh As M P := by
  intro l D cA ad hl hi
  subst hls
  refine va_MetW (cc := b) (maxL := nL) (ret := some .int) hy rfl ?_
  intro p e s m args below meth c s₁ B hml hv
  obtain ⟨rfl, hP, hK, hX, hZ⟩ := hv
  have hts := atoms_spec (ws := .codeWith y b nL (some .int) hh :: gtbl) B.pre
  have hown : s.vm.findClass RL = some m.cls := by rw [← ho]; exact findClass_of_methodNamed B.named
  have hr := B.returns
  have hlk := B.notSynchronized
  have hl2 := lv_entry (As.map (rv ad)) (n := nL) (by rw [entL_len]; exact hs)
  rw [lg_entry_eq]
  have hL : hasL ad nL (entL As ++ List.replicate (nL - (entL As).length) none) ((lg_sl (As.map (rv ad)) ++ List.replicate (nL - (lg_sl (As.map (rv ad))).length) Slot.unset).toArray) :=
    ⟨_, hl2, fun i v hv => by have := entL_has (ad := ad) As 0 _ i v hv; rwa [Nat.zero_add] at this⟩
  refine h p l e _ s m _ below meth c s.heap [] 0 0 _ D cA ad (inW ad) _ ⟨B.exec, B.bytes, hml, hown, fun w hw => hts w (List.mem_cons_of_mem _ hw), hlk, hK, hi, fun i h => ⟨i, h, rfl⟩, hX, ⟨Nat.le_refl _, Nat.le_refl _⟩, Nat.zero_le _, Nat.zero_le _⟩ hP va_S.rf hL ?_
  intro pc' ls' st' M' H' locs' lr' hq hP' hS' hL'
  obtain ⟨k, rfl, hp, hdg⟩ := hq
  refine W.widen (k := 1) (n := 6) (by decide) (by decide) ?_
  exact W.iret B.exec B.bytes hr (fun t ht hW => ⟨⟨k, M', rfl, hp, by rw [ht]; exact hP'⟩, hS'.F ht⟩) hS'.2.2 hdg hlk
/-- where the class throws -/
theorem Wr.thr {y : MethodName} {b : ByteArray} {nL d : Nat} {As : List Value} {M : Mem} {ls : List (Option Value)} {y' : MethodName} {b' : ByteArray} {nL' : Nat} {ret' : Option FieldType} {d' n idx pcv en hpc pc2 : Nat} {As' rest : List Value}
    (ho : y.cls = RL) (hy : plainName y.cls = true) (hs : (entL As).length ≤ nL) (hls : entL As ++ List.replicate (nL - (entL As).length) none = ls)
    (h : Reach b RL nL d (fun pc _ st M' => pc = pcv ∧ st = As'.reverse ++ .ref 0 :: rest ∧ M' = M) 0 ls [] M)
    (hm : MthV y' b' nL' ret' n) (g1 : Cond.methodLink RL idx y' ∈ lw_tbl) (ht : Thr y' b' nL' ret' d' (.ref 0 :: As') M) (hd : d' + 1 ≤ d) (hn : As'.length = n) (hW : (rest.map Value.category).sum ≤ 8) (hC : y'.cls = RX10)
    (hdg : decode b pcv = .ok (.invokevirtual idx, 3)) (hcov : covers ⟨0, en, hpc, 13⟩ pcv = true)
    (ha : (∃ k : Nat, decode b hpc = .ok (.astore k, 2) ∧ k < nL ∧ pc2 = hpc + 2) ∨ (∃ k : Fin 4, decode b hpc = .ok (.astore_n k, 1) ∧ (k : Nat) < nL ∧ pc2 = hpc + 1))
    (h1 : decode b pc2 = .ok (.iconst 1, 1)) (h2 : decode b (pc2 + 1) = .ok (.ireturn, 1)) : Wr y b nL d [(0, en, hpc, 13)] As M (fun k M' => k = 1 ∧ M' = M) := by
  intro l D cA ad hlt hi
  subst hls
  refine va_MetW (cc := b) (maxL := nL) (ret := some .int) hy rfl ?_
  intro p e s m args below meth c s₁ B hml hv
  obtain ⟨rfl, hP, hK, hX, hZ⟩ := hv
  have hts := atoms_spec (ws := .codeWith y b nL (some .int) [(0, en, hpc, 13)] :: gtbl) B.pre
  have htab := vx_table (x := y) B (hts _ List.mem_cons_self)
  have hown : s.vm.findClass RL = some m.cls := by rw [← ho]; exact findClass_of_methodNamed B.named
  have hr := B.returns
  have hlk := B.notSynchronized
  have hl2 := lv_entry (As.map (rv ad)) (n := nL) (by rw [entL_len]; exact hs)
  rw [lg_entry_eq]
  have hL : hasL ad nL (entL As ++ List.replicate (nL - (entL As).length) none) ((lg_sl (As.map (rv ad)) ++ List.replicate (nL - (lg_sl (As.map (rv ad))).length) Slot.unset).toArray) :=
    ⟨_, hl2, fun i v hv => by have := entL_has (ad := ad) As 0 _ i v hv; rwa [Nat.zero_add] at this⟩
  have hgt : ∀ w ∈ gtbl, w.before (As.map (rv ad)).toArray s = true := fun w hw => hts w (List.mem_cons_of_mem _ hw)
  refine h p l e _ s m _ below meth c s.heap [] 0 0 _ D cA ad (inW ad) _ ⟨B.exec, B.bytes, hml, hown, hgt, hlk, hK, hi, fun i h => ⟨i, h, rfl⟩, hX, ⟨Nat.le_refl _, Nat.le_refl _⟩, Nat.zero_le _, Nat.zero_le _⟩ hP va_S.rf hL ?_
  intro pc' ls' st' M' H' locs' lr' hq hP' hS' hL'
  obtain ⟨rfl, rfl, rfl⟩ := hq
  obtain ⟨⟨m1, m2, m3, m4⟩, m5, m6⟩ := hm
  have hkp : ∀ a : Nat, a < s.heap.size → ¬ inW ad a → H'[a]? = s.heap[a]? := fun a ha hna => hS'.2.1 a ha hna
  have hXH : SX ad (inW ad) s H' := hX.kept hkp
  have hZH : ZX (inW ad) s H' := hZ.kept hkp
  have hrecv := va_recv hK hP' (ci := 10) (q0 := 0) (a := ad 0) rfl (by rw [ws_get (by decide), cell_O (i := 0) (ci := 10) (N := 17) rfl])
  have hpre : PreV s H' RX10 (ad 0) (va_Pc ((Value.ref 0 :: As').map (rv ad)) (fun U => va_P D vwCl (wsOf ad cA M') U.heap ∧ va_K D vwCl (tysOf cA) U ∧ SX ad (inW ad) U U.heap ∧ ZX (inW ad) U U.heap)) (As'.map (rv ad)) :=
    ⟨fun a U g mk z => by obtain ⟨z1, z2, z3, z4, z5⟩ := z; exact ⟨z1, z2, va_K.moved (u := U) (U := U.calling g mk a) (Vm.Alike.refl U.vm) z3, SX.same (u := U) (U := U.calling g mk a) rfl z4, ZX.same (u := U) (U := U.calling g mk a) rfl z5⟩, hrecv, fun U hU hWm => ⟨rfl, by rw [hU]; exact hP', va_K.moved hWm.alike hK, by rw [hU]; exact hXH.warm hWm, by rw [hU]; exact hZH.warm hWm⟩⟩
  have hsz : lr'.size = nL := by obtain ⟨lv, g1, -⟩ := hL'; exact g1.1
  have hcat : ((rest.map (rv ad)).map fun v => v.category).sum ≤ 8 := by
    rw [List.map_map]
    have : (fun v : Value => v.category) ∘ rv ad = Value.category := funext fun v => rv_cat ad v
    rw [this]; exact hW
  have hroom : d' + 1 ≤ d ∧ 8 + (nL' + 11) + 64 * d' ≤ 64 * d := ⟨hd, by omega⟩
  have hstk : (As'.reverse ++ Value.ref 0 :: rest).map (rv ad) = (As'.map (rv ad)).reverse ++ .ref (ad 0) :: rest.map (rv ad) := by simp [rv]
  rw [hstk]
  have hrun : vx_Run p l e { frames := d, cells := 1, slots := 6, locals := 64 * d } s m (As.map (rv ad)).toArray below meth c H' locs' 0 0 1 6 (F0 m pc' lr' ((As'.map (rv ad)).reverse ++ .ref (ad 0) :: rest.map (rv ad))) (rest.map (rv ad)) (fun _ _ _ => False) (fun E st t => E = nse ∧ va_P D vwCl (wsOf ad cA M') t.heap ∧ va_F (inW ad) st t) (inW ad) := by
    exact vx_runV (As := As'.map (rv ad)) (rest := rest.map (rv ad)) ⟨B.exec, B.bytes, hml, hown, hgt⟩ (ht l D cA ad hlt hi) ⟨callB_of n hgt (gt_code m1) rfl rfl rfl (hgt _ (gt_in m2 rfl)) (hgt _ (gt_in g1 rfl)) m3 hroom, hgt _ (gt_in m5 rfl), by rw [← hC]; exact hgt _ (gt_in m6 rfl)⟩ hpre rfl (by simpa using hn) hsz rfl (lv_room hcat) hdg ⟨Nat.le_refl _, Nat.le_refl _⟩
  intro T hT X
  rcases hrun T hT X with ⟨v, st₀, t, T', L, h0, X', hLf, e1, e2, hq, st⟩ | ⟨q, st₀, t, T', L, E, ce, h0, X', hLf, e1, e2, ⟨hE, hPt, hz, hk⟩, hce, hcv, hcl, st⟩
  · exact hq.elim
  · subst hE
    rw [h0] at hz hk
    have hS2 : va_S (inW ad) s.heap T'.heap (locs' ++ L) := ⟨Nat.le_trans hS'.1 (by rw [e1]; exact hz), fun q h1 h2 => by
        rw [e1, hk q (Nat.lt_of_lt_of_le h1 hS'.1) h2]; exact hS'.2.1 q h1 h2, fun q hq => by
        rcases List.mem_append.mp hq with h | h
        · exact hS'.2.2 q h
        · exact hLf q h⟩
    have hcast : (Cond.castable nse nse).before (As.map (rv ad)).toArray s = true := hZ.2.2.use (List.mem_of_getElem? (i := 1294) (by decide +kernel)) rfl
    have hcl13 : (Cond.classLink RL 13 nse).before (As.map (rv ad)).toArray s = true := hgt _ (gt_in (List.mem_of_getElem? (i := 1287) (by decide +kernel)) rfl)
    have hgo : vx_W p l e { frames := d, cells := 1, slots := 6, locals := 64 * d } s m (As.map (rv ad)).toArray below meth c T'.heap (locs' ++ L) (0 + 1) (0 + 6) (MQ below (fun _ st o t => (∃ (k : Int32) (M'' : Mem), o = .returned (some (.int k)) ∧ (k = 1 ∧ M'' = M') ∧ va_P D vwCl (wsOf ad cA M'') t.heap) ∧ va_F (inW ad) st t) (As.map (rv ad)).toArray s 1 6 (inW ad)) (F0 m pc' lr' (rest.map (rv ad))) q := by
      refine vx_catch (own := RL) (name := nse) (E := nse) (ce := ce) hown [] ⟨0, en, hpc, 13⟩ [] (by rw [htab]; rfl) (fun z hz => nomatch hz) hcov (by show (13 : Nat) ≠ 0; decide) hcl13 hcast (by rw [e1]; exact hce) hcv hcl ?_
      have fin : ∀ (ls2 : Array Slot), W p l e { frames := d, cells := 1, slots := 6, locals := 64 * d } s m (As.map (rv ad)).toArray below meth c T'.heap (locs' ++ L) (0 + 1) (0 + 6) (MQ below (fun _ st o t => (∃ (k : Int32) (M'' : Mem), o = .returned (some (.int k)) ∧ (k = 1 ∧ M'' = M') ∧ va_P D vwCl (wsOf ad cA M'') t.heap) ∧ va_F (inW ad) st t) (As.map (rv ad)).toArray s 1 6 (inW ad)) (F0 m pc2 ls2 []) := fun ls2 => by
        refine lv_iconst (v := 1) B.exec B.bytes h1 (by decide) ?_
        exact W.iret B.exec B.bytes hr (fun t2 ht2 hW2 => ⟨⟨1, M', rfl, ⟨rfl, rfl⟩, by rw [ht2, e1]; exact hPt⟩, hS2.F ht2⟩) hS2.2.2 h2 hlk
      obtain ⟨lv, g1, -⟩ := hL'
      rcases ha with ⟨k, a1, a2, rfl⟩ | ⟨k, a1, a2, rfl⟩
      · exact lv_astore B.exec B.bytes a1 g1 a2 rfl (fun ls2 _ => fin ls2)
      · exact lv_astore_n B.exec B.bytes a1 rfl g1 a2 rfl (fun ls2 _ => fin ls2)
    obtain ⟨t2, a1, b1⟩ := hgo T' rfl X'
    exact ⟨t2, st.trans a1, b1⟩
