/-! CONSTRUCTORS: a world that grows; the object that is made stands first -/
def dfl (ci N : Nat) : List Value := (List.range N).map fun j => defaultValue (tyOf ci j)
theorem join_last {A : Nat → Prop} {D : va_G} {cl : List vw_C} {w0 w1 : va_W} {q : Nat} {e : va_E} {H H1 : Heap} (hP : va_P D cl (w0 ++ [(q, e)]) H) (hD : va_D A (w0 ++ [(q, e)])) (hk : ∀ x : Nat, x < H.size → ¬ va_A [(q, e)] H.size x → H1[x]? = H[x]?) (hF : ∀ x, va_A [(q, e)] H.size x → A x) (hP1 : va_P D cl w1 H1) (hD1 : va_D (va_A [(q, e)] H.size) w1) : va_P D cl (w0 ++ w1) H1 ∧ va_D A (w0 ++ w1) := by
  have gl : ∀ (k : Nat) (x : Nat × va_E), w0[k]? = some x → (w0 ++ [(q, e)])[k]? = some x := fun k x hx => by
    rw [List.getElem?_append_left (List.getElem?_eq_some_iff.mp hx).1]; exact hx
  have hq : (w0 ++ [(q, e)])[w0.length]? = some (q, e) := by simp
  have h0 : ∀ (k : Nat) (x : Nat × va_E), w0[k]? = some x → x.1 < H.size ∧ ¬ va_A [(q, e)] H.size x.1 := fun k x hx => by
    have hlt := (hP k x (gl k x hx)).lt
    refine ⟨hlt, fun z => ?_⟩
    rcases z with ⟨k', e', z⟩ | z
    · have hk' : k' < 1 := (List.getElem?_eq_some_iff.mp z).1
      have hk0 : k' = 0 := by omega
      subst hk0
      have hx1 : q = x.1 := by
        have z2 : some (q, e) = some (x.1, e') := z
        exact congrArg Prod.fst (Option.some.inj z2)
      have := hD.1 k w0.length x (q, e) (gl k x hx) hq hx1.symm
      have := (List.getElem?_eq_some_iff.mp hx).1
      omega
    · omega
  refine ⟨(va_P.kept (fun k x hx => hP k x (gl k x hx)) (fun k x hx => hk x.1 (h0 k x hx).1 (h0 k x hx).2)).app hP1, va_D.app ⟨fun i j x y hx hy => hD.1 i j x y (gl i x hx) (gl j y hy), fun k x hx => hD.2 k x (gl k x hx)⟩ (hD1.weaken fun _ _ _ z => hF _ z) fun i j x y hx hy z => ?_⟩
  have h1 := hD1.2 j y hy
  rw [← z] at h1
  exact (h0 i x hx).2 h1
theorem free_last {A : Nat → Prop} {w0 : va_W} {q : Nat} {e : va_E} {H0 H : Heap} {locs : List Loc} (hD : va_D A (w0 ++ [(q, e)])) (hS : va_S A H0 H locs) (hA : ∀ x, H0.size ≤ x → A x) : ∀ x, va_A [(q, e)] H.size x → A x := fun x z => by
  rcases z with ⟨k', e', z⟩ | z
  · have hk' : k' < 1 := (List.getElem?_eq_some_iff.mp z).1
    have hk0 : k' = 0 := by omega
    subst hk0
    have z2 : some (q, e) = some (x, e') := z
    have hx : q = x := congrArg Prod.fst (Option.some.inj z2)
    rw [← hx]
    exact hD.2 w0.length (q, e) (by simp)
  · exact hA x (Nat.le_trans hS.1 z)
/-- a constructor's contract: behind it stands the world Wd -/
def Ini (y : MethodName) (b : ByteArray) (nL d mc ms ci N : Nat) {S : Type} (Wd : (Nat → ClassId) → Nat → S → va_W) : Prop :=
  ∀ (l : Launch) (D : va_G) (cA : Nat → ClassId) (h0 sz : Nat), Met l y (.code y b nL none :: gtbl) { frames := d, cells := mc, slots := ms, locals := 64 * d } (va_Pc [.ref h0] (fun U => U.heap.size = sz ∧ va_P D vwCl [(h0, .inr (ci, dfl ci N))] U.heap ∧ va_K D vwCl (tysOf cA) U ∧ NestOK U)) (va_Qv (fun _ : S => True) (fun u t => va_P D vwCl (Wd cA h0 u) t.heap ∧ va_D (va_A [(h0, .inr (ci, dfl ci N))] sz) (Wd cA h0 u)) (va_A [(h0, .inr (ci, dfl ci N))] sz)) mc ms (va_A [(h0, .inr (ci, dfl ci N))] sz)
def CI (p : Program) (R : Room) (s : State) (m : MethodId) (args : Array Value) (meth : Method) (c : Code) (cc : ByteArray) (own : String) (nL d mc ms : Nat) (D : va_G) (cA : Nat → ClassId) (A : Nat → Prop) : Prop :=
  p.tables.exec = Jvm.exec ∧ c.code = cc ∧ c.maxLocals = nL ∧ s.vm.findClass own = some m.cls ∧ (∀ w ∈ gtbl, w.before args s = true) ∧ va_K D vwCl (tysOf cA) s ∧ (∀ q : Nat, s.heap.size ≤ q → A q) ∧ meth.name = "<init>" ∧ NestOK s ∧ (d ≤ R.frames ∧ 64 * d ≤ R.locals) ∧ mc ≤ R.cells ∧ ms ≤ R.slots
/-- from here a constructor comes to its end, with a world of which Fin holds -/
def RI (cc : ByteArray) (own : String) (nL d mc ms ci : Nat) (cA : Nat → ClassId) (h0 : Nat) (Fin : va_W → Prop) (pc : Nat) (st : List Value) (fs : List Value) (rest : va_W) (cells slots : Nat) : Prop :=
  ∀ (p : Program) (l : Launch) (e : Env) (R : Room) (s : State) (m : MethodId) (args : Array Value) (below : List Frame) (meth : Method) (c : Code) (H : Heap) (locs : List Loc) (Z : State → Prop) (D : va_G) (A : Nat → Prop) (lr : Array Slot),
    CI p R s m args meth c cc own nL d mc ms D cA A → va_P D vwCl ((h0, .inr (ci, fs)) :: rest) H → va_D A ((h0, .inr (ci, fs)) :: rest) → va_S A s.heap H locs → lv_has lr nL [(0, .ref h0)] →
    (∀ (pc' : Nat) (H' : Heap) (locs' : List Loc) (ws : va_W) (cells' slots' : Nat), decode cc pc' = .ok (.return_, 1) → Fin ws → va_P D vwCl ws H' → va_D A ws → va_S A s.heap H' locs' → cells' ≤ mc → slots' ≤ ms → W p l e R s m args below meth c H' locs' cells' slots' Z (F0 m pc' lr [])) →
    W p l e R s m args below meth c H locs cells slots Z (F0 m pc lr st)
theorem Ini.of {y : MethodName} {b : ByteArray} {nL d mc ms ci N : Nat} {S : Type} {Wd : (Nat → ClassId) → Nat → S → va_W} {own : String} (ho : y.cls = own) (hy : plainName y.cls = true) (hn : y.name = "<init>") (hL : 1 ≤ nL)
    (h : ∀ (cA : Nat → ClassId) (h0 : Nat), RI b own nL d mc ms ci cA h0 (fun ws => ∃ u, ws = Wd cA h0 u) 0 [] (dfl ci N) [] 0 0) : Ini y b nL d mc ms ci N Wd := by
  intro l D cA h0 sz
  subst ho
  refine Met.ofW (cc := b) (maxL := nL) (ret := none) hy rfl ?_
  intro p e s m args below meth c s₁ B hml hv
  obtain ⟨rfl, hsz, hP, hK, hN⟩ := hv
  have hts := atoms_spec (ws := .code y b nL none :: gtbl) B.pre
  have hown : s.vm.findClass y.cls = some m.cls := findClass_of_methodNamed B.named
  have hr := B.returns
  have hlk := B.notSynchronized
  have hin : meth.name = "<init>" := (name_of_methodNamed B.named B.method).1.trans hn
  subst hsz
  have hl := lv_entry ([.ref h0]) (n := nL) hL
  rw [lg_entry_eq]
  generalize (lg_sl ([.ref h0]) ++ List.replicate (nL - (lg_sl ([.ref h0])).length) Slot.unset).toArray = lr at hl ⊢
  have hl : lv_has lr nL [(0, .ref h0)] := hl
  have hD : va_D (va_A [(h0, .inr (ci, dfl ci N))] s.heap.size) [(h0, .inr (ci, dfl ci N))] := va_D.self (A := fun _ => True) ⟨fun i j x y hx hy _ => by
    have h1 : i < 1 := (List.getElem?_eq_some_iff.mp hx).1
    have h2 : j < 1 := (List.getElem?_eq_some_iff.mp hy).1
    omega, fun _ _ _ => trivial⟩
  refine h cA h0 p l e _ s m _ below meth c s.heap [] _ D (va_A [(h0, .inr (ci, dfl ci N))] s.heap.size) lr ⟨B.exec, B.bytes, hml, hown, fun w hw => hts w (List.mem_cons_of_mem _ hw), hK, fun q hq => Or.inr hq, hin, hN, ⟨Nat.le_refl _, Nat.le_refl _⟩, Nat.le_refl _, Nat.le_refl _⟩ hP hD va_S.rf hl ?_
  intro pc' H' locs' ws cells' slots' hdg hF hP' hD' hS' hc hs
  obtain ⟨u, rfl⟩ := hF
  refine W.widen (k := mc) (n := ms) hc hs ?_
  exact W.vret B.exec B.bytes hr (fun t ht hW => ⟨⟨u, rfl, trivial, by rw [ht]; exact hP', hD'⟩, hS'.F ht⟩) hS'.2.2 hdg hlk
section
variable {cc : ByteArray} {own : String} {nL d mc ms ci : Nat} {cA : Nat → ClassId} {h0 : Nat} {Fin : va_W → Prop} {pc : Nat} {st fs : List Value} {rest : va_W} {cells slots : Nat}
theorem in_ret (hdg : decode cc pc = .ok (.return_, 1)) (hF : Fin ((h0, .inr (ci, fs)) :: rest)) (hc : cells ≤ mc) (hs : slots ≤ ms) : RI cc own nL d mc ms ci cA h0 Fin pc [] fs rest cells slots := by
  intro p l e R s m args below meth c H locs Z D A lr C hP hD hS hL k
  exact k pc H locs _ cells slots hdg hF hP hD hS hc hs
theorem in_ald (hdg : decode cc pc = .ok (.aload_n 0, 1)) (k0 : RI cc own nL d mc ms ci cA h0 Fin (pc + 1) (.ref h0 :: st) fs rest cells slots) : RI cc own nL d mc ms ci cA h0 Fin pc st fs rest cells slots := by
  intro p l e R s m args below meth c H locs Z D A lr C hP hD hS hL k
  exact lv_aload_n C.1 C.2.1 hdg rfl (lv_at hL 0 rfl) (k0 p l e R s m args below meth c H locs Z D A lr C hP hD hS hL k)
theorem in_dup {v : Value} (hv : v.category = 1) (hdg : decode cc pc = .ok (.dup, 1)) (k0 : RI cc own nL d mc ms ci cA h0 Fin (pc + 1) (v :: v :: st) fs rest cells slots) : RI cc own nL d mc ms ci cA h0 Fin pc (v :: st) fs rest cells slots := by
  intro p l e R s m args below meth c H locs Z D A lr C hP hD hS hL k
  exact lv_dup C.1 C.2.1 hdg hv (k0 p l e R s m args below meth c H locs Z D A lr C hP hD hS hL k)
theorem in_ic {n : Int} (v : Int32) (hdg : decode cc pc = .ok (.iconst n, 1)) (hv : Int32.ofInt n = v) (k0 : RI cc own nL d mc ms ci cA h0 Fin (pc + 1) (.int v :: st) fs rest cells slots) : RI cc own nL d mc ms ci cA h0 Fin pc st fs rest cells slots := by
  intro p l e R s m args below meth c H locs Z D A lr C hP hD hS hL k
  exact lv_iconst C.1 C.2.1 hdg hv (k0 p l e R s m args below meth c H locs Z D A lr C hP hD hS hL k)
theorem in_bip {n : Int} (v : Int32) (hdg : decode cc pc = .ok (.bipush n, 2)) (hv : (Int8.ofInt n).toInt32 = v) (k0 : RI cc own nL d mc ms ci cA h0 Fin (pc + 2) (.int v :: st) fs rest cells slots) : RI cc own nL d mc ms ci cA h0 Fin pc st fs rest cells slots := by
  intro p l e R s m args below meth c H locs Z D A lr C hP hD hS hL k
  exact lv_bipush C.1 C.2.1 hdg hv (k0 p l e R s m args below meth c H locs Z D A lr C hP hD hS hL k)
theorem in_sip {n : Int} (v : Int32) (hdg : decode cc pc = .ok (.sipush n, 3)) (hv : (Int16.ofInt n).toInt32 = v) (k0 : RI cc own nL d mc ms ci cA h0 Fin (pc + 3) (.int v :: st) fs rest cells slots) : RI cc own nL d mc ms ci cA h0 Fin pc st fs rest cells slots := by
  intro p l e R s m args below meth c H locs Z D A lr C hP hD hS hL k
  exact lv_sipush C.1 C.2.1 hdg hv (k0 p l e R s m args below meth c H locs Z D A lr C hP hD hS hL k)
theorem in_ldc {idx : Nat} {v : Int32} (hw : Cond.constant own idx v ∈ lw_tbl) (hdg : decode cc pc = .ok (.ldc idx, 2)) (k0 : RI cc own nL d mc ms ci cA h0 Fin (pc + 2) (.int v :: st) fs rest cells slots) : RI cc own nL d mc ms ci cA h0 Fin pc st fs rest cells slots := by
  intro p l e R s m args below meth c H locs Z D A lr C hP hD hS hL k
  exact lv_ldc C.1 C.2.1 C.2.2.2.1 (C.2.2.2.2.1 _ (gt_in hw rfl)) hdg (k0 p l e R s m args below meth c H locs Z D A lr C hP hD hS hL k)
/-- Object's own -/
theorem in_obj {idx : Nat} (hw : Cond.methodLink own idx Lib.objectInit ∈ gtbl) (hdg : decode cc pc = .ok (.invokespecial idx, 3)) (hd : 1 ≤ d) (hst : (st.map fun v => v.category).sum ≤ 8) (k0 : RI cc own nL d mc ms ci cA h0 Fin (pc + 3) st fs rest cells slots) : RI cc own nL d mc ms ci cA h0 Fin pc (.ref h0 :: st) fs rest cells slots := by
  intro p l e R s m args below meth c H locs Z D A lr C hP hD hS hL k
  refine W.objInit C.1 C.2.1 C.2.2.2.1 (C.2.2.2.2.1 _ hw) (C.2.2.2.2.1 _ (gt_in (List.mem_of_getElem? (i := 126) (by decide +kernel)) rfl)) (C.2.2.2.2.1 _ (gt_in (List.mem_of_getElem? (i := 127) (by decide +kernel)) rfl)) rfl (by rw [C.2.2.1]; exact hL.1) rfl hdg (Nat.le_trans hd C.2.2.2.2.2.2.2.2.2.1.1) ?_ ?_
  · have h1 := C.2.2.2.2.2.2.2.2.2.1.2
    have h2 : 2 * (F0 m pc lr (.ref h0 :: st)).monitorRoom = 0 := rfl
    rw [h2]
    omega
  · exact k0 p l e R s m args below meth c H locs Z D A lr C hP hD hS hL k
theorem in_newI (n : Nat) {v : Int32} (hv : v = nI n) (hn : n < 2 ^ 31) (hb : n * 4 ≤ 536870912) (hc : cells + 1 ≤ mc) (hs : slots + n ≤ ms) (hdg : decode cc pc = .ok (.newarray .int, 2)) (k0 : ∀ q : Nat, RI cc own nL d mc ms ci cA h0 Fin (pc + 2) (.ref q :: st) fs (rest ++ [(q, .inl (cA 0, n, .inl (fun _ => 0)))]) (cells + 1) (slots + n)) : RI cc own nL d mc ms ci cA h0 Fin pc (.int v :: st) fs rest cells slots := by
  intro p l e R s m args below meth c H locs Z D A lr C hP hD hS hL k
  subst hv
  refine va_newa (atype := .int) (ty := .int) (N' := n) (a0 := (n, .inl (fun _ => 0))) C.1 C.2.1 (C.2.2.2.2.1 _ (gt_in (List.mem_of_getElem? (i := 141) (by decide +kernel)) rfl)) rfl C.2.2.2.2.2.1 hP hD hS C.2.2.2.2.2.2.1 (fun _ => rfl) (fun z => by rw [Int32.lt_iff_toInt_lt, nI_toInt hn, i_0] at z; omega) (nI_clamp hn) hb (Nat.le_trans hc C.2.2.2.2.2.2.2.2.2.2.1) (Nat.le_trans hs C.2.2.2.2.2.2.2.2.2.2.2) hdg (fun q cA' H1 hK' hP1 hD1 hS1 => ?_)
  have e1 := (hK'.2 4 (cA', .int) rfl).2
  have e2 := (C.2.2.2.2.2.1.2 0 (cA 0, .int) rfl).2
  have eA : cA' = cA 0 := Option.some.inj (Eq.trans (Eq.symm e1) e2)
  rw [eA] at hP1 hD1
  exact k0 q p l e R s m args below meth c H1 locs Z D A lr C hP1 hD1 hS1 hL k
theorem in_newJ (n : Nat) {v : Int32} (hv : v = nI n) (hn : n < 2 ^ 31) (hb : n * 8 ≤ 536870912) (hc : cells + 1 ≤ mc) (hs : slots + n ≤ ms) (hdg : decode cc pc = .ok (.newarray .long, 2)) (k0 : ∀ q : Nat, RI cc own nL d mc ms ci cA h0 Fin (pc + 2) (.ref q :: st) fs (rest ++ [(q, .inl (cA 1, n, .inr (.inl (fun _ => 0))))]) (cells + 1) (slots + n)) : RI cc own nL d mc ms ci cA h0 Fin pc (.int v :: st) fs rest cells slots := by
  intro p l e R s m args below meth c H locs Z D A lr C hP hD hS hL k
  subst hv
  refine va_newa (atype := .long) (ty := .long) (N' := n) (a0 := (n, .inr (.inl (fun _ => 0)))) C.1 C.2.1 (C.2.2.2.2.1 _ (gt_in (List.mem_of_getElem? (i := 157) (by decide +kernel)) rfl)) rfl C.2.2.2.2.2.1 hP hD hS C.2.2.2.2.2.2.1 (fun _ => rfl) (fun z => by rw [Int32.lt_iff_toInt_lt, nI_toInt hn, i_0] at z; omega) (nI_clamp hn) hb (Nat.le_trans hc C.2.2.2.2.2.2.2.2.2.2.1) (Nat.le_trans hs C.2.2.2.2.2.2.2.2.2.2.2) hdg (fun q cA' H1 hK' hP1 hD1 hS1 => ?_)
  have e1 := (hK'.2 4 (cA', .long) rfl).2
  have e2 := (C.2.2.2.2.2.1.2 1 (cA 1, .long) rfl).2
  have eA : cA' = cA 1 := Option.some.inj (Eq.trans (Eq.symm e1) e2)
  rw [eA] at hP1 hD1
  exact k0 q p l e R s m args below meth c H1 locs Z D A lr C hP1 hD1 hS1 hL k
theorem in_newB (n : Nat) {v : Int32} (hv : v = nI n) (hn : n < 2 ^ 31) (hb : n * 1 ≤ 536870912) (hc : cells + 1 ≤ mc) (hs : slots + n ≤ ms) (hdg : decode cc pc = .ok (.newarray .byte, 2)) (k0 : ∀ q : Nat, RI cc own nL d mc ms ci cA h0 Fin (pc + 2) (.ref q :: st) fs (rest ++ [(q, .inl (cA 2, n, .inl (fun _ => 0)))]) (cells + 1) (slots + n)) : RI cc own nL d mc ms ci cA h0 Fin pc (.int v :: st) fs rest cells slots := by
  intro p l e R s m args below meth c H locs Z D A lr C hP hD hS hL k
  subst hv
  refine va_newa (atype := .byte) (ty := .byte) (N' := n) (a0 := (n, .inl (fun _ => 0))) C.1 C.2.1 (C.2.2.2.2.1 _ (gt_in (List.mem_of_getElem? (i := 740) (by decide +kernel)) rfl)) rfl C.2.2.2.2.2.1 hP hD hS C.2.2.2.2.2.2.1 (fun _ => rfl) (fun z => by rw [Int32.lt_iff_toInt_lt, nI_toInt hn, i_0] at z; omega) (nI_clamp hn) hb (Nat.le_trans hc C.2.2.2.2.2.2.2.2.2.2.1) (Nat.le_trans hs C.2.2.2.2.2.2.2.2.2.2.2) hdg (fun q cA' H1 hK' hP1 hD1 hS1 => ?_)
  have e1 := (hK'.2 4 (cA', .byte) rfl).2
  have e2 := (C.2.2.2.2.2.1.2 2 (cA 2, .byte) rfl).2
  have eA : cA' = cA 2 := Option.some.inj (Eq.trans (Eq.symm e1) e2)
  rw [eA] at hP1 hD1
  exact k0 q p l e R s m args below meth c H1 locs Z D A lr C hP1 hD1 hS1 hL k
theorem in_newZ (n : Nat) {v : Int32} (hv : v = nI n) (hn : n < 2 ^ 31) (hb : n * 1 ≤ 536870912) (hc : cells + 1 ≤ mc) (hs : slots + n ≤ ms) (hdg : decode cc pc = .ok (.newarray .boolean, 2)) (k0 : ∀ q : Nat, RI cc own nL d mc ms ci cA h0 Fin (pc + 2) (.ref q :: st) fs (rest ++ [(q, .inl (cA 3, n, .inl (fun _ => 0)))]) (cells + 1) (slots + n)) : RI cc own nL d mc ms ci cA h0 Fin pc (.int v :: st) fs rest cells slots := by
  intro p l e R s m args below meth c H locs Z D A lr C hP hD hS hL k
  subst hv
  refine va_newa (atype := .boolean) (ty := .boolean) (N' := n) (a0 := (n, .inl (fun _ => 0))) C.1 C.2.1 (C.2.2.2.2.1 _ (gt_in (List.mem_of_getElem? (i := 331) (by decide +kernel)) rfl)) rfl C.2.2.2.2.2.1 hP hD hS C.2.2.2.2.2.2.1 (fun _ => rfl) (fun z => by rw [Int32.lt_iff_toInt_lt, nI_toInt hn, i_0] at z; omega) (nI_clamp hn) hb (Nat.le_trans hc C.2.2.2.2.2.2.2.2.2.2.1) (Nat.le_trans hs C.2.2.2.2.2.2.2.2.2.2.2) hdg (fun q cA' H1 hK' hP1 hD1 hS1 => ?_)
  have e1 := (hK'.2 4 (cA', .boolean) rfl).2
  have e2 := (C.2.2.2.2.2.1.2 3 (cA 3, .boolean) rfl).2
  have eA : cA' = cA 3 := Option.some.inj (Eq.trans (Eq.symm e1) e2)
  rw [eA] at hP1 hD1
  exact k0 q p l e R s m args below meth c H1 locs Z D A lr C hP1 hD1 hS1 hL k
def PutOK (own : String) (idx ci k : Nat) : Prop := ∃ (C : String) (T : u_T) (N : Nat), vwCl[ci]? = some (C, T, N) ∧ k < N ∧ (Cond.fieldLink own idx (T k).1 (T k).2.1 (T k).2.2.1 ∈ lw_tbl ∧ (T k).1 = own ∧ (T k).2.2.2 = true)
theorem in_putR {idx k x : Nat} (hf : PutOK own idx ci k) (hn : narrow (tyOf ci k) (.ref x) = .ref x) (hfit : fits (tyOf ci k) (.ref x) = true) (hl : k < fs.length) (hdg : decode cc pc = .ok (.putfield idx, 3)) (k0 : RI cc own nL d mc ms ci cA h0 Fin (pc + 3) st (fs.set k (.ref x)) rest cells slots) : RI cc own nL d mc ms ci cA h0 Fin pc (.ref x :: .ref h0 :: st) fs rest cells slots := by
  intro p l e R s m args below meth c H locs Z D A lr C hP hD hS hL kk
  obtain ⟨C', T, N', e1, e2, e4, e5, e6⟩ := hf
  obtain ⟨hin, hty, hnm⟩ := cls_ok ci C' T N' e1
  exact va_putF C.1 C.2.1 C.2.2.2.2.1 hin (tyOf ci) hty hnm C.2.2.2.1 C.2.2.2.2.2.1 hP hD hS 0 rfl e1 k e2 (C.2.2.2.2.1 _ (gt_in e4 rfl)) (fun _ h9 => h9) e6 C.2.2.2.2.2.2.2.1 e5 (hty k e2) hn hfit hl hdg (fun H1 locs1 hP1 hD1 hS1 => k0 p l e R s m args below meth c H1 locs1 Z D A lr C hP1 hD1 hS1 hL kk)
theorem in_putI {idx k : Nat} {x : Int32} (hf : FldOK own idx ci k) (hfin : FinNo ci k) (hn : narrow (tyOf ci k) (.int x) = .int x) (hfit : fits (tyOf ci k) (.int x) = true) (hl : k < fs.length) (hdg : decode cc pc = .ok (.putfield idx, 3)) (k0 : RI cc own nL d mc ms ci cA h0 Fin (pc + 3) st (fs.set k (.int x)) rest cells slots) : RI cc own nL d mc ms ci cA h0 Fin pc (.int x :: .ref h0 :: st) fs rest cells slots := by
  intro p l e R s m args below meth c H locs Z D A lr C hP hD hS hL kk
  obtain ⟨C', T, N', e1, e2, e4⟩ := hf
  obtain ⟨hin, hty, hnm⟩ := cls_ok ci C' T N' e1
  rcases e4 with h | ⟨host, h⟩
  · exact va_put C.1 C.2.1 C.2.2.2.2.1 hin (tyOf ci) hty hnm C.2.2.2.1 C.2.2.2.2.2.1 hP hD hS 0 rfl e1 k e2 (C.2.2.2.2.1 _ (gt_in h rfl)) (fun _ h9 => h9) (hfin _ _ _ e1) (hty k e2) hn hfit hl hdg (fun H1 locs1 hP1 hD1 hS1 => k0 p l e R s m args below meth c H1 locs1 Z D A lr C hP1 hD1 hS1 hL kk)
  · exact va_putN C.1 C.2.1 C.2.2.2.2.1 hin (tyOf ci) hty hnm C.2.2.2.1 C.2.2.2.2.2.1 hP hD hS 0 rfl e1 k e2 (va_Nw.use rfl (C.2.2.2.2.2.2.2.2.1 _ h rfl)) (fun _ h9 => h9) (hfin _ _ _ e1) (hty k e2) hn hfit hl hdg (fun H1 locs1 hP1 hD1 hS1 => k0 p l e R s m args below meth c H1 locs1 Z D A lr C hP1 hD1 hS1 hL kk)
theorem in_getR {idx k x : Nat} (hf : FldOK own idx ci k) (hx : fs[k]? = some (.ref x)) (hdg : decode cc pc = .ok (.getfield idx, 3)) (k0 : RI cc own nL d mc ms ci cA h0 Fin (pc + 3) (.ref x :: st) fs rest cells slots) : RI cc own nL d mc ms ci cA h0 Fin pc (.ref h0 :: st) fs rest cells slots := by
  intro p l e R s m args below meth c H locs Z D A lr C hP hD hS hL kk
  obtain ⟨C', T, N', e1, e2, e4⟩ := hf
  obtain ⟨hin, -, -⟩ := cls_ok ci C' T N' e1
  rcases e4 with h | ⟨host, h⟩
  · exact va_get C.1 C.2.1 C.2.2.2.2.1 hin C.2.2.2.1 C.2.2.2.2.2.1 hP 0 rfl e1 k e2 (C.2.2.2.2.1 _ (gt_in h rfl)) (fun _ h9 => h9) hx hdg (k0 p l e R s m args below meth c H locs Z D A lr C hP hD hS hL kk)
  · exact va_getN C.1 C.2.1 C.2.2.2.2.1 hin C.2.2.2.1 C.2.2.2.2.2.1 hP 0 rfl e1 k e2 (va_Nw.use rfl (C.2.2.2.2.2.2.2.2.1 _ h rfl)) (fun _ h9 => h9) hx hdg (k0 p l e R s m args below meth c H locs Z D A lr C hP hD hS hL kk)
/-- into the array made last -/
theorem in_iast {q n : Nat} {f : Nat → Int32} {i x : Int32} (hin : vp_in i n) (hdg : decode cc pc = .ok (.iastore, 1)) (k0 : RI cc own nL d mc ms ci cA h0 Fin (pc + 1) st fs (rest ++ [(q, .inl (cA 0, n, .inl (upd f i.toNatClampNeg x)))]) cells slots) : RI cc own nL d mc ms ci cA h0 Fin pc (.int x :: .int i :: .ref q :: st) fs (rest ++ [(q, .inl (cA 0, n, .inl f))]) cells slots := by
  intro p l e R s m args below meth c H locs Z D A lr C hP hD hS hL kk
  have hq : ∀ y : va_E, ((h0, Sum.inr (ci, fs)) :: (rest ++ [(q, .inl (cA 0, n, .inl f))])).set (rest.length + 1) (q, y) = (h0, Sum.inr (ci, fs)) :: (rest ++ [(q, y)]) := fun y => by simp
  refine va_iast C.1 C.2.1 C.2.2.2.2.2.1 hP hD hS (rest.length + 1) 0 (show ((h0, Sum.inr (ci, fs)) :: (rest ++ [(q, .inl (cA 0, n, .inl f))]))[rest.length + 1]? = some (q, .inl (cA 0, n, .inl f)) by simp) rfl hin hdg (fun H1 locs1 hP1 hD1 hS1 => ?_)
  rw [hq] at hP1 hD1
  exact k0 p l e R s m args below meth c H1 locs1 Z D A lr C hP1 hD1 hS1 hL kk
theorem in_new {idx cj Nj : Nat} {Cn : String} {T : u_T} (e1 : vwCl[cj]? = some (Cn, T, Nj)) (h1 : Cond.classLink own idx Cn ∈ gtbl) (h2 : Cond.instantiable Cn Nj ∈ gtbl) (h3 : Cond.initialized Cn ∈ gtbl) (hc : cells + 1 ≤ mc) (hs : slots + Nj ≤ ms) (hdg : decode cc pc = .ok (.new idx, 3)) (k0 : ∀ q : Nat, RI cc own nL d mc ms ci cA h0 Fin (pc + 3) (.ref q :: st) fs (rest ++ [(q, .inr (cj, dfl cj Nj))]) (cells + 1) (slots + Nj)) : RI cc own nL d mc ms ci cA h0 Fin pc st fs rest cells slots := by
  intro p l e R s m args below meth c H locs Z D A lr C hP hD hS hL kk
  obtain ⟨hin, hty, hnm⟩ := cls_ok cj Cn T Nj e1
  exact va_new C.1 C.2.1 C.2.2.2.2.1 hin (tyOf cj) hty C.2.2.2.1 (C.2.2.2.2.1 _ h1) (C.2.2.2.2.1 _ h2) (C.2.2.2.2.1 _ h3) C.2.2.2.2.2.1 hP hD hS C.2.2.2.2.2.2.1 e1 (fun j hj => by simp [vp_V, dfl, hj]) (Nat.le_trans hc C.2.2.2.2.2.2.2.2.2.2.1) (Nat.le_trans hs C.2.2.2.2.2.2.2.2.2.2.2) hdg (fun q H1 hP1 hD1 hS1 => k0 q p l e R s m args below meth c H1 locs Z D A lr C hP1 hD1 hS1 hL kk)
theorem in_call {y : MethodName} {b : ByteArray} {nL' d' mc' ms' cj Nj idx q : Nat} {S : Type} {Wd : (Nat → ClassId) → Nat → S → va_W} (hI : Ini y b nL' d' mc' ms' cj Nj Wd) (hm : MthB y b nL' none 0) (hl : LnkOK own idx y) (hi : Cond.instanceMethod y ∈ gtbl) (hy1 : y.name = "<init>") (hd : d' + 1 ≤ d) (hc : cells + mc' ≤ mc) (hs : slots + ms' ≤ ms) (hst : (st.map fun v => v.category).sum ≤ 8) (hdg : decode cc pc = .ok (.invokespecial idx, 3))
    (k0 : ∀ u : S, RI cc own nL d mc ms ci cA h0 Fin (pc + 3) st fs (rest ++ Wd cA q u) (cells + mc') (slots + ms')) : RI cc own nL d mc ms ci cA h0 Fin pc (.ref q :: st) fs (rest ++ [(q, .inr (cj, dfl cj Nj))]) cells slots := by
  intro p l e R s m args below meth c H locs Z D A lr C hP hD hS hL kk
  obtain ⟨hx, hb, hml, hown, hts, hK, hA, hin, hN, hR, hR1, hR2⟩ := id C
  obtain ⟨m1, m2, m3, m4⟩ := hm
  have hP' : va_P D vwCl (((h0, .inr (ci, fs)) :: rest) ++ [(q, .inr (cj, dfl cj Nj))]) H := hP
  have hD' : va_D A (((h0, .inr (ci, fs)) :: rest) ++ [(q, .inr (cj, dfl cj Nj))]) := hD
  have hPc : va_P D vwCl [(q, .inr (cj, dfl cj Nj))] H := fun k x hk => by
    have h1 : k < 1 := (List.getElem?_eq_some_iff.mp hk).1
    have h2 : k = 0 := by omega
    subst h2
    have h3 : some (q, Sum.inr (cj, dfl cj Nj)) = some x := hk
    rw [← Option.some.inj h3]
    exact hP' ((h0, Sum.inr (ci, fs)) :: rest).length _ (by simp)
  have hF := free_last hD' hS hA
  have hroom : d' + 1 ≤ R.frames ∧ 8 + (nL' + 11) + 64 * d' ≤ R.locals := ⟨Nat.le_trans hd hR.1, Nat.le_trans (by omega) hR.2⟩
  have hpre : PreS s H (va_Pc [.ref q] (fun U => U.heap.size = H.size ∧ va_P D vwCl [(q, .inr (cj, dfl cj Nj))] U.heap ∧ va_K D vwCl (tysOf cA) U ∧ NestOK U)) (.ref q :: []) :=
    ⟨fun a U g mk z => by obtain ⟨z0, z1, zP, zK, zN⟩ := z; exact ⟨z0, z1, zP, va_K.moved (u := U) (U := U.calling g mk a) (Vm.Alike.refl U.vm) zK, NestOK.same (u := U) (U := U.calling g mk a) rfl zN⟩, fun U hU hW => ⟨rfl, by rw [hU], by rw [hU]; exact hPc, va_K.moved hW.alike hK, hN.warm hW⟩⟩
  have go : va_Run p l e R s m args below meth c H locs cells slots mc' ms' (F0 m pc lr (.ref q :: st)) st (va_Qv (fun _ : S => True) (fun u t => va_P D vwCl (Wd cA q u) t.heap ∧ va_D (va_A [(q, .inr (cj, dfl cj Nj))] H.size) (Wd cA q u)) (va_A [(q, .inr (cj, dfl cj Nj))] H.size) (Value.ref q :: []).toArray) (va_A [(q, .inr (cj, dfl cj Nj))] H.size) := by
    rcases hl with h1 | ⟨host, h1⟩
    · exact va_runI (As := []) (rest := st) ⟨hx, hb, hml, hown, hts⟩ (hI l D cA q H.size) (cwI 0 hts (gt_code m1) rfl rfl rfl (hts _ (gt_in m2 rfl)) (hts _ (gt_in h1 rfl)) (hts _ hi) hy1 m3 hroom) hpre rfl rfl hL.1 rfl (lv_room hst) hdg ⟨Nat.le_trans hc hR1, Nat.le_trans hs hR2⟩
    · exact va_runIN (As := []) (rest := st) ⟨hx, hb, hml, hown, hts⟩ (hI l D cA q H.size) ⟨va_cnB 0 hts (gt_code m1) rfl rfl rfl (hN _ h1 rfl) (hts _ (gt_in m2 rfl)) m3 hroom, hy1, hts _ hi⟩ hpre rfl rfl hL.1 rfl (lv_room hst) hdg ⟨Nat.le_trans hc hR1, Nat.le_trans hs hR2⟩
  refine va_callv go hS (fun x _ z => hF x z) hF (fun u t H1 locs1 ht hvm _ hB hz1 hk1 hS1 => ?_)
  obtain ⟨hP1, hD1⟩ := hB
  rw [ht] at hP1
  obtain ⟨hP2, hD2⟩ := join_last hP' hD' hk1 hF hP1 hD1
  exact k0 u p l e R s m args below meth c H1 locs1 Z D A lr C hP2 hD2 hS1 hL kk
end
