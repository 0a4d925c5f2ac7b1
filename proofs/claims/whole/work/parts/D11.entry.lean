/-! THE LAW FROM ITS ENTRY -/
section
variable {p : Program} {l : Launch} {e : Env} {R : Room} {s : State} {m : MethodId} {args : Array Value} {below : List Frame} {meth : Method} {c : Code} {H : Heap} {locs : List Loc} {cells slots : Nat} {Z : State → Prop} {D : va_G} {cA : Nat → ClassId} {A : Nat → Prop} {lr : Array Slot} {pc : Nat} {st : List Value} {w : va_W}
def SI (p : Program) (s : State) (m : MethodId) (args : Array Value) (c : Code) (D : va_G) (cA : Nat → ClassId) (A : Nat → Prop) : Prop :=
  p.tables.exec = Jvm.exec ∧ c.code = cL_law ∧ c.maxLocals = 8 ∧ s.vm.findClass RL = some m.cls ∧ (∀ w ∈ gtbl, w.before args s = true) ∧ va_K D vwCl (tysOf cA) s ∧ (∀ q : Nat, s.heap.size ≤ q → A q) ∧ NestOK s
theorem st_new {idx cj Nj : Nat} {Cn : String} {T : u_T} (C : SI p s m args c D cA A) (hP : va_P D vwCl w H) (hD : va_D A w) (hS : va_S A s.heap H locs) (e1 : vwCl[cj]? = some (Cn, T, Nj)) (h1 : Cond.classLink RL idx Cn ∈ gtbl) (h2 : Cond.instantiable Cn Nj ∈ gtbl) (h3 : Cond.initialized Cn ∈ gtbl) (hc : cells + 1 ≤ R.cells) (hs : slots + Nj ≤ R.slots) (hdg : decode cL_law pc = .ok (.new idx, 3))
    (k0 : ∀ (q : Nat) (H1 : Heap), va_P D vwCl (w ++ [(q, .inr (cj, dfl cj Nj))]) H1 → va_D A (w ++ [(q, .inr (cj, dfl cj Nj))]) → va_S A s.heap H1 locs → W p l e R s m args below meth c H1 locs (cells + 1) (slots + Nj) Z (F0 m (pc + 3) lr (.ref q :: st))) : W p l e R s m args below meth c H locs cells slots Z (F0 m pc lr st) := by
  obtain ⟨hx, hb, hml, hown, hts, hK, hA, hN⟩ := C
  obtain ⟨hin, hty, hnm⟩ := cls_ok cj Cn T Nj e1
  exact va_new hx hb hts hin (tyOf cj) hty hown (hts _ h1) (hts _ h2) (hts _ h3) hK hP hD hS hA e1 (fun j hj => by simp [vp_V, dfl, hj]) hc hs hdg k0
theorem st_call {y : MethodName} {b : ByteArray} {nL' d' mc' ms' cj Nj idx q : Nat} {S : Type} {Wd : (Nat → ClassId) → Nat → S → va_W} (C : SI p s m args c D cA A) (hI : Ini y b nL' d' mc' ms' cj Nj Wd) (hm : MthB y b nL' none 0) (h1 : Cond.methodLink RL idx y ∈ lw_tbl) (hi : Cond.instanceMethod y ∈ gtbl) (hy1 : y.name = "<init>") (hroom : d' + 1 ≤ R.frames ∧ 8 + (nL' + 11) + 64 * d' ≤ R.locals) (hc : cells + mc' ≤ R.cells) (hs : slots + ms' ≤ R.slots) (hlr : lr.size = 8) (hst : (st.map fun v => v.category).sum ≤ 8) (hdg : decode cL_law pc = .ok (.invokespecial idx, 3))
    (hP : va_P D vwCl (w ++ [(q, .inr (cj, dfl cj Nj))]) H) (hD : va_D A (w ++ [(q, .inr (cj, dfl cj Nj))])) (hS : va_S A s.heap H locs)
    (k0 : ∀ (u : S) (H1 : Heap) (locs1 : List Loc), va_P D vwCl (w ++ Wd cA q u) H1 → va_D A (w ++ Wd cA q u) → va_S A s.heap H1 locs1 → W p l e R s m args below meth c H1 locs1 (cells + mc') (slots + ms') Z (F0 m (pc + 3) lr st)) : W p l e R s m args below meth c H locs cells slots Z (F0 m pc lr (.ref q :: st)) := by
  obtain ⟨hx, hb, hml, hown, hts, hK, hA, hN⟩ := id C
  obtain ⟨m1, m2, m3, m4⟩ := hm
  have hPc : va_P D vwCl [(q, .inr (cj, dfl cj Nj))] H := fun k x hk => by
    have h1 : k < 1 := (List.getElem?_eq_some_iff.mp hk).1
    have h2 : k = 0 := by omega
    subst h2
    have h3 : some (q, Sum.inr (cj, dfl cj Nj)) = some x := hk
    rw [← Option.some.inj h3]
    exact hP w.length _ (by simp)
  have hF := free_last hD hS hA
  have hpre : PreS s H (va_Pc [.ref q] (fun U => U.heap.size = H.size ∧ va_P D vwCl [(q, .inr (cj, dfl cj Nj))] U.heap ∧ va_K D vwCl (tysOf cA) U ∧ NestOK U)) (.ref q :: []) :=
    ⟨fun a U g mk z => by obtain ⟨z0, z1, zP, zK, zN⟩ := z; exact ⟨z0, z1, zP, va_K.moved (u := U) (U := U.calling g mk a) (Vm.Alike.refl U.vm) zK, NestOK.same (u := U) (U := U.calling g mk a) rfl zN⟩, fun U hU hW => ⟨rfl, by rw [hU], by rw [hU]; exact hPc, va_K.moved hW.alike hK, hN.warm hW⟩⟩
  have go : va_Run p l e R s m args below meth c H locs cells slots mc' ms' (F0 m pc lr (.ref q :: st)) st (va_Qv (fun _ : S => True) (fun u t => va_P D vwCl (Wd cA q u) t.heap ∧ va_D (va_A [(q, .inr (cj, dfl cj Nj))] H.size) (Wd cA q u)) (va_A [(q, .inr (cj, dfl cj Nj))] H.size) (Value.ref q :: []).toArray) (va_A [(q, .inr (cj, dfl cj Nj))] H.size) :=
    va_runI (As := []) (rest := st) ⟨hx, hb, hml, hown, hts⟩ (hI l D cA q H.size) (cwI 0 hts (gt_code m1) rfl rfl rfl (hts _ (gt_in m2 rfl)) (hts _ (gt_in h1 rfl)) (hts _ hi) hy1 m3 hroom) hpre rfl rfl hlr rfl (lv_room hst) hdg ⟨hc, hs⟩
  refine va_callv go hS (fun x _ z => hF x z) hF (fun u t H1 locs1 ht hvm _ hB hz1 hk1 hS1 => ?_)
  obtain ⟨hP1, hD1⟩ := hB
  rw [ht] at hP1
  obtain ⟨hP2, hD2⟩ := join_last hP hD hk1 hF hP1 hD1
  exact k0 u H1 locs1 hP2 hD2 hS1
theorem st_newJ (n : Nat) {v : Int32} (C : SI p s m args c D cA A) (hP : va_P D vwCl w H) (hD : va_D A w) (hS : va_S A s.heap H locs) (hv : v = nI n) (hn : n < 2 ^ 31) (hb : n * 8 ≤ 536870912) (hc : cells + 1 ≤ R.cells) (hs : slots + n ≤ R.slots) (hdg : decode cL_law pc = .ok (.newarray .long, 2)) (k0 : ∀ (q : Nat) (H1 : Heap), va_P D vwCl (w ++ [(q, .inl (cA 1, n, .inr (.inl (fun _ => 0))))]) H1 → va_D A (w ++ [(q, .inl (cA 1, n, .inr (.inl (fun _ => 0))))]) → va_S A s.heap H1 locs → W p l e R s m args below meth c H1 locs (cells + 1) (slots + n) Z (F0 m (pc + 2) lr (.ref q :: st))) : W p l e R s m args below meth c H locs cells slots Z (F0 m pc lr (.int v :: st)) := by
  obtain ⟨hx, hb0, hml, hown, hts, hK, hA, hN⟩ := C
  subst hv
  refine va_newa (atype := .long) (ty := .long) (N' := n) (a0 := (n, .inr (.inl (fun _ => 0)))) hx hb0 (hts _ (gt_in (List.mem_of_getElem? (i := 157) (by decide +kernel)) rfl)) rfl hK hP hD hS hA (fun _ => rfl) (fun z => by rw [Int32.lt_iff_toInt_lt, nI_toInt hn, i_0] at z; omega) (nI_clamp hn) hb hc hs hdg (fun q cA' H1 hK' hP1 hD1 hS1 => ?_)
  have e1 := (hK'.2 4 (cA', .long) rfl).2
  have e2 := (hK.2 1 (cA 1, .long) rfl).2
  have eA : cA' = cA 1 := Option.some.inj (Eq.trans (Eq.symm e1) e2)
  rw [eA] at hP1 hD1
  exact k0 q H1 hP1 hD1 hS1
end
