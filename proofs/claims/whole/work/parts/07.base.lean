
/-! THE WORLD AS ONE MEMORY. Every object and array that the law makes has a number below NID; the memory M holds what they hold:
    M.1 i k the ints (elements of an int, byte or boolean array i, or field k of the object i), M.2.1 i k the longs, M.2.2 the array that PaidByPoorerModel.read names (0: null).
    kd i: what i is (0 int[], 1 long[], 2 byte[], 3 boolean[], 10 + c an object of class c; and how long, how many fields). -/
def NID : Nat := 177
abbrev Mem : Type := (Nat → Nat → Int32) × (Nat → Nat → Int64) × Nat
def kdT : Nat → Nat × Nat := fun j => match j with
  | 0 => (18, 20) | 1 => (0, 8) | 2 => (0, 8) | 3 => (0, 8) | 4 => (0, 8) | 5 => (0, 8) | 6 => (0, 8) | 7 => (0, 10) | 8 => (0, 10) | 9 => (0, 10) | 10 => (0, 10) | 11 => (0, 10) | 12 => (0, 10) | 13 => (0, 64) | 14 => (0, 18) | _ => (0, 4)
def kd : Nat → Nat × Nat := fun i =>
  if i < 28 then (match i with
    | 0 => (20, 17) | 1 => (0, 10) | 2 => (16, 2) | 3 => (0, 80) | 4 => (17, 2) | 5 => (1, 10) | 6 => (19, 2) | 7 => (13, 3) | 8 => (0, 40) | 9 => (0, 40)
    | 10 => (14, 8) | 11 => (0, 40) | 12 => (0, 40) | 13 => (3, 5) | 14 => (11, 3) | 15 => (12, 3) | 16 => (0, 10) | 17 => (10, 5) | 18 => (0, 10) | 19 => (15, 15)
    | 20 => (1, 3000) | 21 => (1, 3000) | 22 => (1, 3000) | 23 => (1, 3000) | 24 => (0, 3000) | 25 => (0, 3000) | 26 => (0, 8192) | _ => (0, 10))
  else if i < 140 then kdT ((i - 28) % 16)
  else (match i - 140 with
    | 0 => (21, 59) | 1 => (0, 8) | 2 => (0, 8) | 3 => (3, 8) | 4 => (0, 8) | 5 => (0, 8) | 6 => (0, 64) | 7 => (0, 10) | 8 => (0, 10) | 9 => (0, 10) | 10 => (0, 10) | 11 => (0, 10) | 12 => (0, 10)
    | 13 => (0, 4) | 14 => (2, 80) | 15 => (1, 16) | 16 => (2, 40) | 17 => (0, 10) | 18 => (0, 18) | 19 => (0, 3000) | 20 => (0, 24000) | 21 => (0, 240000) | 22 => (0, 3000) | 23 => (0, 3000) | 24 => (0, 3000) | 25 => (0, 3000)
    | 26 => (1, 3000) | 27 => (3, 3000) | 28 => (0, 8192) | 29 => (0, 8) | 30 => (0, 10) | 31 => (0, 4) | 32 => (0, 101) | 33 => (0, 266) | 34 => (3, 2) | 35 => (0, 2) | 36 => (1, 1) | _ => (99, 0))
def rfM : Nat → Nat := fun k => match k with
  | 1 => 141 | 2 => 142 | 3 => 143 | 4 => 144 | 5 => 145 | 6 => 146 | 8 => 147 | 9 => 148 | 10 => 149 | 11 => 150 | 12 => 151 | 13 => 152 | 14 => 153 | 17 => 154 | 19 => 155 | 27 => 156 | 31 => 157 | 33 => 158
  | 35 => 159 | 36 => 160 | 37 => 161 | 38 => 162 | 39 => 163 | 40 => 164 | 41 => 165 | 42 => 166 | 43 => 167 | 45 => 168 | 47 => 169 | 48 => 170 | 49 => 171 | 54 => 172 | 56 => 173 | 57 => 174 | 58 => 175 | _ => 0
/-- what a field of references names -/
def rfT : Nat → Nat → Nat := fun i k =>
  if i = 0 then (match k with | 0 => 2 | 1 => 4 | 2 => 28 | 3 => 44 | 4 => 60 | 5 => 76 | 6 => 6 | 7 => 7 | 8 => 10 | 9 => 14 | 10 => 19 | 11 => 15 | 12 => 17 | _ => 1)
  else if i = 14 then 92
  else if i = 15 then (match k with | 0 => 124 | _ => 16)
  else if i = 19 then (match k with | 0 => 108 | k + 1 => 20 + k)
  else if i = 140 then rfM k
  else i + 1 + k
def isTown (t : Nat) : Prop := t = 28 ∨ t = 44 ∨ t = 60 ∨ t = 76 ∨ t = 92 ∨ t = 108 ∨ t = 124
theorem kd_lt {i : Nat} (h : (kd i).1 < 99) : i < NID := by
  rcases Nat.lt_or_ge i NID with q | q
  · exact q
  · exfalso
    unfold NID at q
    obtain ⟨j, rfl⟩ : ∃ j, i = j + 177 := ⟨i - 177, by omega⟩
    have e1 : ¬ j + 177 < 28 := by omega
    have e2 : ¬ j + 177 < 140 := by omega
    have e3 : j + 177 - 140 = j + 37 := by omega
    simp only [kd, if_neg e1, if_neg e2, e3] at h
    exact absurd h (by decide)

theorem kt_0 {t : Nat} (h : isTown t) : kd t = (18, 20) := by rcases h with rfl | rfl | rfl | rfl | rfl | rfl | rfl <;> rfl
theorem kt_1 {t : Nat} (h : isTown t) : kd (t + 1) = (0, 8) := by rcases h with rfl | rfl | rfl | rfl | rfl | rfl | rfl <;> rfl
theorem kt_2 {t : Nat} (h : isTown t) : kd (t + 2) = (0, 8) := by rcases h with rfl | rfl | rfl | rfl | rfl | rfl | rfl <;> rfl
theorem kt_3 {t : Nat} (h : isTown t) : kd (t + 3) = (0, 8) := by rcases h with rfl | rfl | rfl | rfl | rfl | rfl | rfl <;> rfl
theorem kt_4 {t : Nat} (h : isTown t) : kd (t + 4) = (0, 8) := by rcases h with rfl | rfl | rfl | rfl | rfl | rfl | rfl <;> rfl
theorem kt_5 {t : Nat} (h : isTown t) : kd (t + 5) = (0, 8) := by rcases h with rfl | rfl | rfl | rfl | rfl | rfl | rfl <;> rfl
theorem kt_6 {t : Nat} (h : isTown t) : kd (t + 6) = (0, 8) := by rcases h with rfl | rfl | rfl | rfl | rfl | rfl | rfl <;> rfl
theorem kt_7 {t : Nat} (h : isTown t) : kd (t + 7) = (0, 10) := by rcases h with rfl | rfl | rfl | rfl | rfl | rfl | rfl <;> rfl
theorem kt_8 {t : Nat} (h : isTown t) : kd (t + 8) = (0, 10) := by rcases h with rfl | rfl | rfl | rfl | rfl | rfl | rfl <;> rfl
theorem kt_9 {t : Nat} (h : isTown t) : kd (t + 9) = (0, 10) := by rcases h with rfl | rfl | rfl | rfl | rfl | rfl | rfl <;> rfl
theorem kt_10 {t : Nat} (h : isTown t) : kd (t + 10) = (0, 10) := by rcases h with rfl | rfl | rfl | rfl | rfl | rfl | rfl <;> rfl
theorem kt_11 {t : Nat} (h : isTown t) : kd (t + 11) = (0, 10) := by rcases h with rfl | rfl | rfl | rfl | rfl | rfl | rfl <;> rfl
theorem kt_12 {t : Nat} (h : isTown t) : kd (t + 12) = (0, 10) := by rcases h with rfl | rfl | rfl | rfl | rfl | rfl | rfl <;> rfl
theorem kt_13 {t : Nat} (h : isTown t) : kd (t + 13) = (0, 64) := by rcases h with rfl | rfl | rfl | rfl | rfl | rfl | rfl <;> rfl
theorem kt_14 {t : Nat} (h : isTown t) : kd (t + 14) = (0, 18) := by rcases h with rfl | rfl | rfl | rfl | rfl | rfl | rfl <;> rfl
theorem kt_15 {t : Nat} (h : isTown t) : kd (t + 15) = (0, 4) := by rcases h with rfl | rfl | rfl | rfl | rfl | rfl | rfl <;> rfl

theorem rt_T {t : Nat} (h : isTown t) (k j : Nat) (e : t + 1 + k = j) : rfT t k = j := by subst e; rcases h with rfl | rfl | rfl | rfl | rfl | rfl | rfl <;> rfl
def tyOf : Nat → Nat → FieldType := fun ci => match ci with
  | 0 => tyX0 | 1 => tyX1 | 2 => tyX2 | 3 => tyX3 | 4 => tyX4 | 5 => tyX5 | 6 => tyX6 | 7 => tyX7 | 8 => tyX8 | 9 => tyX9 | 10 => tyX10 | _ => tyX11
def isIf (ty : FieldType) : Bool := match ty with | .int => true | .boolean => true | _ => false
def rv (ad : Nat → Nat) : Value → Value
  | .ref a => .ref (ad a)
  | v => v
def fvl (ad : Nat → Nat) (M : Mem) (i ci k : Nat) : Value := if isIf (tyOf ci k) = true then .int (M.1 i k) else if i = 140 ∧ k = 22 then (if M.2.2 = 0 then .null else .ref (ad M.2.2)) else .ref (ad (rfT i k))
def cellOf (ad : Nat → Nat) (cA : Nat → ClassId) (M : Mem) (i : Nat) : va_E :=
  if (kd i).1 = 0 then .inl (cA 0, (kd i).2, .inl (M.1 i))
  else if (kd i).1 = 1 then .inl (cA 1, (kd i).2, .inr (.inl (M.2.1 i)))
  else if (kd i).1 = 2 then .inl (cA 2, (kd i).2, .inl (M.1 i))
  else if (kd i).1 = 3 then .inl (cA 3, (kd i).2, .inl (M.1 i))
  else .inr ((kd i).1 - 10, (List.range (kd i).2).map (fvl ad M i ((kd i).1 - 10)))
def wsOf (ad : Nat → Nat) (cA : Nat → ClassId) (M : Mem) : va_W := (List.range NID).map fun i => (ad i, cellOf ad cA M i)
def setI (M : Mem) (i k : Nat) (x : Int32) : Mem := (fun a j => if a = i ∧ j = k then x else M.1 a j, M.2)
def setJ (M : Mem) (i k : Nat) (x : Int64) : Mem := (M.1, fun a j => if a = i ∧ j = k then x else M.2.1 a j, M.2.2)
def setR (M : Mem) (r : Nat) : Mem := (M.1, M.2.1, r)
/-- a whole int array becomes another one -/
def setA (M : Mem) (i : Nat) (f : Nat → Int32) : Mem := (fun a j => if a = i then f j else M.1 a j, M.2)
def tysOf (cA : Nat → ClassId) : List (ClassId × FieldType) := [(cA 0, .int), (cA 1, .long), (cA 2, .byte), (cA 3, .boolean)]
def injAd (ad : Nat → Nat) : Prop := ∀ i j, i < NID → j < NID → ad i = ad j → i = j
def inW (ad : Nat → Nat) : Nat → Prop := fun q => ∃ i, i < NID ∧ q = ad i
theorem ws_get {ad : Nat → Nat} {cA : Nat → ClassId} {M : Mem} {i : Nat} (h : i < NID) : (wsOf ad cA M)[i]? = some (ad i, cellOf ad cA M i) := by
  simp [wsOf, h]
theorem ws_D {ad : Nat → Nat} {cA : Nat → ClassId} {M : Mem} {A : Nat → Prop} (hi : injAd ad) (hA : ∀ i, i < NID → A (ad i)) : va_D A (wsOf ad cA M) := by
  have key : ∀ (i : Nat) (p : Nat × va_E), (wsOf ad cA M)[i]? = some p → i < NID ∧ p.1 = ad i := by
    intro i p hp
    have hl : i < NID := by
      have h0 := (List.getElem?_eq_some_iff.mp hp).1
      simpa [wsOf] using h0
    rw [ws_get hl] at hp
    exact ⟨hl, by rw [← Option.some.inj hp]⟩
  refine ⟨fun i j p q hp hq e => ?_, fun k q hk => ?_⟩
  · obtain ⟨a1, a2⟩ := key i p hp
    obtain ⟨b1, b2⟩ := key j q hq
    exact hi i j a1 b1 (by rw [← a2, ← b2, e])
  · obtain ⟨a1, a2⟩ := key k q hk
    rw [a2]
    exact hA k a1
/-- a list with one place new is the list of the new memory -/
theorem ws_set {ad : Nat → Nat} {cA : Nat → ClassId} {M M' : Mem} {i : Nat} {e : va_E} (hi : i < NID) (h1 : cellOf ad cA M' i = e) (h2 : ∀ j, j ≠ i → cellOf ad cA M' j = cellOf ad cA M j) : (wsOf ad cA M).set i (ad i, e) = wsOf ad cA M' := by
  refine List.ext_getElem? fun j => ?_
  rcases Nat.lt_or_ge j NID with hj | hj
  · rw [List.getElem?_set]
    by_cases hij : i = j
    · subst hij
      rw [if_pos rfl, if_pos (by simpa [wsOf] using hi), ws_get hj, h1]
    · rw [if_neg hij, ws_get hj, ws_get hj, h2 j (fun q => hij q.symm)]
  · rw [List.getElem?_eq_none (by simpa [wsOf] using hj), List.getElem?_eq_none (by simpa [wsOf] using hj)]
theorem cell_I {ad : Nat → Nat} {cA : Nat → ClassId} {M : Mem} {i n : Nat} (h : kd i = (0, n)) : cellOf ad cA M i = .inl (cA 0, n, .inl (M.1 i)) := by simp [cellOf, h]
theorem cell_J {ad : Nat → Nat} {cA : Nat → ClassId} {M : Mem} {i n : Nat} (h : kd i = (1, n)) : cellOf ad cA M i = .inl (cA 1, n, .inr (.inl (M.2.1 i))) := by simp [cellOf, h]
theorem cell_B {ad : Nat → Nat} {cA : Nat → ClassId} {M : Mem} {i n : Nat} (h : kd i = (2, n)) : cellOf ad cA M i = .inl (cA 2, n, .inl (M.1 i)) := by simp [cellOf, h]
theorem cell_Z {ad : Nat → Nat} {cA : Nat → ClassId} {M : Mem} {i n : Nat} (h : kd i = (3, n)) : cellOf ad cA M i = .inl (cA 3, n, .inl (M.1 i)) := by simp [cellOf, h]
theorem cell_O {ad : Nat → Nat} {cA : Nat → ClassId} {M : Mem} {i ci N : Nat} (h : kd i = (10 + ci, N)) : cellOf ad cA M i = .inr (ci, (List.range N).map (fvl ad M i ci)) := by
  have e1 : ¬ 10 + ci = 0 := by omega
  have e2 : ¬ 10 + ci = 1 := by omega
  have e3 : ¬ 10 + ci = 2 := by omega
  have e4 : ¬ 10 + ci = 3 := by omega
  simp [cellOf, h, e1, e2, e3, e4]
theorem fvl_ne {ad : Nat → Nat} {M M' : Mem} {j ci k : Nat} (h : M'.1 j = M.1 j) (hr : M'.2.2 = M.2.2) : fvl ad M' j ci k = fvl ad M j ci k := by simp only [fvl, h, hr]
theorem cell_ne {ad : Nat → Nat} {cA : Nat → ClassId} {M M' : Mem} {j : Nat} (h : M'.1 j = M.1 j) (hJ : M'.2.1 j = M.2.1 j) (hr : M'.2.2 = M.2.2) : cellOf ad cA M' j = cellOf ad cA M j := by
  have e : fvl ad M' j ((kd j).1 - 10) = fvl ad M j ((kd j).1 - 10) := funext fun k => fvl_ne h hr
  simp only [cellOf, h, hJ, e]
theorem setI_ne {M : Mem} {i k j : Nat} {x : Int32} (h : j ≠ i) : (setI M i k x).1 j = M.1 j := by funext a; simp [setI, h]
theorem setJ_ne {M : Mem} {i k j : Nat} {x : Int64} (h : j ≠ i) : (setJ M i k x).2.1 j = M.2.1 j := by funext a; simp [setJ, h]
theorem setA_ne {M : Mem} {i j : Nat} {f : Nat → Int32} (h : j ≠ i) : (setA M i f).1 j = M.1 j := by funext a; simp [setA, h]
theorem setI_eq {M : Mem} {i k : Nat} {x : Int32} : (setI M i k x).1 i = upd (M.1 i) k x := by funext a; simp [setI, upd]
theorem setJ_eq {M : Mem} {i k : Nat} {x : Int64} : (setJ M i k x).2.1 i = vp_updL (M.2.1 i) k x := by funext a; simp [setJ, vp_updL]
theorem setA_eq {M : Mem} {i : Nat} {f : Nat → Int32} : (setA M i f).1 i = f := by funext a; simp [setA]
/-! words -/
def isNest : Cond → Bool
  | .fieldLinkNest _ _ _ _ _ _ => true
  | .methodLinkNest _ _ _ _ => true
  | _ => false
def gtbl : List Cond := lw_tbl.filter goodWord
theorem gt_in {w : Cond} (h : w ∈ lw_tbl) (hg : goodWord w = true) : w ∈ gtbl := List.mem_filter.mpr ⟨h, hg⟩
theorem gt_good : GoodIn gtbl gtbl := fun w h => ⟨h, good_of_word (List.mem_filter.mp h).2⟩
def NestOK (U : State) : Prop := ∀ w, w ∈ lw_tbl → isNest w = true → va_Nw w U
theorem NestOK.warm {s U : State} (hW : s.WarmedH U.vm) (h : NestOK s) : NestOK U := by
  intro w hw hn
  have h1 := h w hw hn
  cases w <;> first | exact va_Nw.warmF hW h1 | exact va_Nw.warmM hW h1 | exact absurd hn (by simp [isNest])
theorem NestOK.same {u U : State} (hv : U.vm = u.vm) (h : NestOK u) : NestOK U := by
  intro w hw hn
  have h1 := h w hw hn
  cases w <;> first | exact va_Nw.same rfl hv.symm h1 | exact absurd hn (by simp [isNest])
/-! the two String constants -/
def strL : List Nat := [8, 7]
def strB : List (List Int32) := [[105, 99, 97, 115, 112, 102, 111, 103], [60, 62, 61, 43, 45, 42, 47]]
/-- what doesn't change all through: the nest's words, the String constants (their numbers are 177 and 178, their bytes' 179 and 180), COMPACT_STRINGS -/
def SX (ad : Nat → Nat) (A : Nat → Prop) (U : State) (H : Heap) : Prop :=
  NestOK U ∧ vk_S 2 strL strB (fun i => ad (177 + i)) (fun i => ad (179 + i)) A U H ∧ vk_R RX4 76 "icaspfog" (ad 177) U ∧ vk_R RX4 97 "<>=+-*/" (ad 178) U ∧ va_Z "java/lang/String" "COMPACT_STRINGS" "Z" (.int 1) A U H
theorem SX.same {ad : Nat → Nat} {A : Nat → Prop} {u U : State} {H : Heap} (hv : U.vm = u.vm) (h : SX ad A u H) : SX ad A U H := by
  obtain ⟨h1, h2, h3, h4, h5⟩ := h
  exact ⟨h1.same hv, h2.moved (by rw [hv]; exact Vm.Alike.refl _), vk_R.same hv h3, vk_R.same hv h4, h5.moved (by rw [hv]; exact Vm.Alike.refl _)⟩
theorem SX.warm {ad : Nat → Nat} {A : Nat → Prop} {s U : State} {H : Heap} (hW : s.WarmedH U.vm) (h : SX ad A s H) : SX ad A U H := by
  obtain ⟨h1, h2, h3, h4, h5⟩ := h
  exact ⟨h1.warm hW, h2.moved hW.alike, vk_R.warm hW h3, vk_R.warm hW h4, h5.moved hW.alike⟩
theorem SX.kept {ad : Nat → Nat} {A : Nat → Prop} {U : State} {H H1 : Heap} (h : SX ad A U H) (hq : ∀ a : Nat, a < H.size → ¬ A a → H1[a]? = H[a]?) : SX ad A U H1 := by
  obtain ⟨h1, h2, h3, h4, h5⟩ := h
  exact ⟨h1, h2.kept hq, h3, h4, h5.kept hq⟩
theorem SX.narrow {ad : Nat → Nat} {A B : Nat → Prop} {U : State} {H : Heap} (h : SX ad A U H) (hAB : ∀ q, B q → A q) : SX ad B U H := by
  obtain ⟨h1, h2, h3, h4, h5⟩ := h
  exact ⟨h1, h2.narrow hAB, h3, h4, h5.narrow hAB⟩
/-! the locals -/
def hasL (ad : Nat → Nat) (nL : Nat) (ls : List (Option Value)) (lr : Array Slot) : Prop := ∃ lv, lv_has lr nL lv ∧ ∀ (i : Nat) (v : Value), ls[i]? = some (some v) → (i, rv ad v) ∈ lv
def entL : List Value → List (Option Value)
  | [] => []
  | v :: vs => if v.category = 2 then some v :: none :: entL vs else some v :: entL vs
def okS : List (Option Value) → Nat → Bool
  | _, 0 => true
  | ls, i + 1 => match ls[i]? with
    | some (some v) => v.category == 1
    | _ => true
theorem rv_cat (ad : Nat → Nat) (v : Value) : (rv ad v).category = v.category := by cases v <;> rfl
/-- the context of a walk: the machine, the code, the words, the room -/
def Cx (p : Program) (R : Room) (s : State) (m : MethodId) (args : Array Value) (meth : Method) (c : Code) (cc : ByteArray) (own : String) (nL d : Nat) (D : va_G) (cA : Nat → ClassId) (ad : Nat → Nat) (A : Nat → Prop) (cells slots : Nat) : Prop :=
  p.tables.exec = Jvm.exec ∧ c.code = cc ∧ c.maxLocals = nL ∧ s.vm.findClass own = some m.cls ∧ (∀ w ∈ gtbl, w.before args s = true) ∧ meth.locks = false ∧ va_K D vwCl (tysOf cA) s ∧ injAd ad ∧ (∀ i, i < NID → A (ad i)) ∧ SX ad A s s.heap ∧ (d ≤ R.frames ∧ 64 * d ≤ R.locals) ∧ cells ≤ R.cells ∧ slots ≤ R.slots
/-- the machine at pc, with these locals, this stack and this memory, comes to a place where Q holds -/
def Reach (cc : ByteArray) (own : String) (nL d : Nat) (Q : Nat → List (Option Value) → List Value → Mem → Prop) (pc : Nat) (ls : List (Option Value)) (st : List Value) (M : Mem) : Prop :=
  ∀ (p : Program) (l : Launch) (e : Env) (R : Room) (s : State) (m : MethodId) (args : Array Value) (below : List Frame) (meth : Method) (c : Code) (H : Heap) (locs : List Loc) (cells slots : Nat) (Z : State → Prop) (D : va_G) (cA : Nat → ClassId) (ad : Nat → Nat) (A : Nat → Prop) (lr : Array Slot),
    Cx p R s m args meth c cc own nL d D cA ad A cells slots → va_P D vwCl (wsOf ad cA M) H → va_S A s.heap H locs → hasL ad nL ls lr →
    (∀ (pc' : Nat) (ls' : List (Option Value)) (st' : List Value) (M' : Mem) (H' : Heap) (locs' : List Loc) (lr' : Array Slot), Q pc' ls' st' M' → va_P D vwCl (wsOf ad cA M') H' → va_S A s.heap H' locs' → hasL ad nL ls' lr' → W p l e R s m args below meth c H' locs' cells slots Z (F0 m pc' lr' (st'.map (rv ad)))) →
    W p l e R s m args below meth c H locs cells slots Z (F0 m pc lr (st.map (rv ad)))
section RR
variable {cc : ByteArray} {own : String} {nL d : Nat} {Q : Nat → List (Option Value) → List Value → Mem → Prop} {pc : Nat} {ls : List (Option Value)} {st : List Value} {M : Mem}
theorem Reach.here (h : Q pc ls st M) : Reach cc own nL d Q pc ls st M := fun p l e R s m args below meth c H locs cells slots Z D cA ad A lr _ hP hS hL k => k pc ls st M H locs lr h hP hS hL
theorem Reach.trans {Q' : Nat → List (Option Value) → List Value → Mem → Prop} (h : Reach cc own nL d Q' pc ls st M) (k : ∀ pc' ls' st' M', Q' pc' ls' st' M' → Reach cc own nL d Q pc' ls' st' M') : Reach cc own nL d Q pc ls st M :=
  fun p l e R s m args below meth c H locs cells slots Z D cA ad A lr C hP hS hL kk => h p l e R s m args below meth c H locs cells slots Z D cA ad A lr C hP hS hL
    (fun pc' ls' st' M' H' locs' lr' hq hP' hS' hL' => k pc' ls' st' M' hq p l e R s m args below meth c H' locs' cells slots Z D cA ad A lr' C hP' hS' hL' kk)
theorem Reach.mono {Q' : Nat → List (Option Value) → List Value → Mem → Prop} (h : Reach cc own nL d Q' pc ls st M) (k : ∀ pc' ls' st' M', Q' pc' ls' st' M' → Q pc' ls' st' M') : Reach cc own nL d Q pc ls st M :=
  h.trans fun pc' ls' st' M' q => Reach.here (k pc' ls' st' M' q)
/-- a local that isn't needed any more -/
theorem rx_drop (i : Nat) (h : Reach cc own nL d Q pc (ls.set i none) st M) : Reach cc own nL d Q pc ls st M := by
  intro p l e R s m args below meth c H locs cells slots Z D cA ad A lr C hP hS hL kk
  obtain ⟨lv, h1, h2⟩ := hL
  refine h p l e R s m args below meth c H locs cells slots Z D cA ad A lr C hP hS ⟨lv, h1, fun j v hj => h2 j v ?_⟩ kk
  rw [List.getElem?_set] at hj
  split at hj
  · next hij =>
    split at hj <;> simp at hj
  · exact hj

theorem rx_iconst {n : Int} (v : Int32) (hdg : decode cc pc = .ok (.iconst n, 1)) (hv : Int32.ofInt n = v) (k : Reach cc own nL d Q (pc + 1) ls (.int v :: st) M) : Reach cc own nL d Q pc ls st M := by
  intro p l e R s m args below meth c H locs cells slots Z D cA ad A lr C hP hS hL kk
  exact lv_iconst C.1 C.2.1 hdg hv (k p l e R s m args below meth c H locs cells slots Z D cA ad A lr C hP hS hL kk)
theorem rx_bipush {n : Int} (v : Int32) (hdg : decode cc pc = .ok (.bipush n, 2)) (hv : (Int8.ofInt n).toInt32 = v) (k : Reach cc own nL d Q (pc + 2) ls (.int v :: st) M) : Reach cc own nL d Q pc ls st M := by
  intro p l e R s m args below meth c H locs cells slots Z D cA ad A lr C hP hS hL kk
  exact lv_bipush C.1 C.2.1 hdg hv (k p l e R s m args below meth c H locs cells slots Z D cA ad A lr C hP hS hL kk)
theorem rx_sipush {n : Int} (v : Int32) (hdg : decode cc pc = .ok (.sipush n, 3)) (hv : (Int16.ofInt n).toInt32 = v) (k : Reach cc own nL d Q (pc + 3) ls (.int v :: st) M) : Reach cc own nL d Q pc ls st M := by
  intro p l e R s m args below meth c H locs cells slots Z D cA ad A lr C hP hS hL kk
  exact lv_sipush C.1 C.2.1 hdg hv (k p l e R s m args below meth c H locs cells slots Z D cA ad A lr C hP hS hL kk)
theorem rx_lconst {n : Fin 2} (v : Int64) (hdg : decode cc pc = .ok (.lconst n, 1)) (hv : Int64.ofNat (n : Nat) = v) (k : Reach cc own nL d Q (pc + 1) ls (.long v :: st) M) : Reach cc own nL d Q pc ls st M := by
  intro p l e R s m args below meth c H locs cells slots Z D cA ad A lr C hP hS hL kk
  exact lv_lconst C.1 C.2.1 hdg hv (k p l e R s m args below meth c H locs cells slots Z D cA ad A lr C hP hS hL kk)
theorem rx_iadd {x y : Int32} (hdg : decode cc pc = .ok (.iadd, 1)) (k : Reach cc own nL d Q (pc + 1) ls (.int (x + y) :: st) M) : Reach cc own nL d Q pc ls (.int y :: .int x :: st) M := by
  intro p l e R s m args below meth c H locs cells slots Z D cA ad A lr C hP hS hL kk
  exact lv_iadd C.1 C.2.1 hdg (k p l e R s m args below meth c H locs cells slots Z D cA ad A lr C hP hS hL kk)
theorem rx_isub {x y : Int32} (hdg : decode cc pc = .ok (.isub, 1)) (k : Reach cc own nL d Q (pc + 1) ls (.int (x - y) :: st) M) : Reach cc own nL d Q pc ls (.int y :: .int x :: st) M := by
  intro p l e R s m args below meth c H locs cells slots Z D cA ad A lr C hP hS hL kk
  exact lv_isub C.1 C.2.1 hdg (k p l e R s m args below meth c H locs cells slots Z D cA ad A lr C hP hS hL kk)
theorem rx_imul {x y : Int32} (hdg : decode cc pc = .ok (.imul, 1)) (k : Reach cc own nL d Q (pc + 1) ls (.int (x * y) :: st) M) : Reach cc own nL d Q pc ls (.int y :: .int x :: st) M := by
  intro p l e R s m args below meth c H locs cells slots Z D cA ad A lr C hP hS hL kk
  exact lv_imul C.1 C.2.1 hdg (k p l e R s m args below meth c H locs cells slots Z D cA ad A lr C hP hS hL kk)
theorem rx_iand {x y : Int32} (hdg : decode cc pc = .ok (.iand, 1)) (k : Reach cc own nL d Q (pc + 1) ls (.int (x &&& y) :: st) M) : Reach cc own nL d Q pc ls (.int y :: .int x :: st) M := by
  intro p l e R s m args below meth c H locs cells slots Z D cA ad A lr C hP hS hL kk
  exact lv_iand C.1 C.2.1 hdg (k p l e R s m args below meth c H locs cells slots Z D cA ad A lr C hP hS hL kk)
theorem rx_ior {x y : Int32} (hdg : decode cc pc = .ok (.ior, 1)) (k : Reach cc own nL d Q (pc + 1) ls (.int (x ||| y) :: st) M) : Reach cc own nL d Q pc ls (.int y :: .int x :: st) M := by
  intro p l e R s m args below meth c H locs cells slots Z D cA ad A lr C hP hS hL kk
  exact lv_ior C.1 C.2.1 hdg (k p l e R s m args below meth c H locs cells slots Z D cA ad A lr C hP hS hL kk)
theorem rx_ixor {x y : Int32} (hdg : decode cc pc = .ok (.ixor, 1)) (k : Reach cc own nL d Q (pc + 1) ls (.int (x ^^^ y) :: st) M) : Reach cc own nL d Q pc ls (.int y :: .int x :: st) M := by
  intro p l e R s m args below meth c H locs cells slots Z D cA ad A lr C hP hS hL kk
  exact lv_ixor C.1 C.2.1 hdg (k p l e R s m args below meth c H locs cells slots Z D cA ad A lr C hP hS hL kk)
theorem rx_idiv {x y : Int32} (hdg : decode cc pc = .ok (.idiv, 1)) (hne : ¬ y = 0) (k : Reach cc own nL d Q (pc + 1) ls (.int (x / y) :: st) M) : Reach cc own nL d Q pc ls (.int y :: .int x :: st) M := by
  intro p l e R s m args below meth c H locs cells slots Z D cA ad A lr C hP hS hL kk
  exact lv_idiv C.1 C.2.1 hdg hne (k p l e R s m args below meth c H locs cells slots Z D cA ad A lr C hP hS hL kk)
theorem rx_irem {x y : Int32} (hdg : decode cc pc = .ok (.irem, 1)) (hne : ¬ y = 0) (k : Reach cc own nL d Q (pc + 1) ls (.int (x - x / y * y) :: st) M) : Reach cc own nL d Q pc ls (.int y :: .int x :: st) M := by
  intro p l e R s m args below meth c H locs cells slots Z D cA ad A lr C hP hS hL kk
  exact lv_irem C.1 C.2.1 hdg hne (k p l e R s m args below meth c H locs cells slots Z D cA ad A lr C hP hS hL kk)
theorem rx_ineg {x : Int32} (hdg : decode cc pc = .ok (.ineg, 1)) (k : Reach cc own nL d Q (pc + 1) ls (.int (-x) :: st) M) : Reach cc own nL d Q pc ls (.int x :: st) M := by
  intro p l e R s m args below meth c H locs cells slots Z D cA ad A lr C hP hS hL kk
  exact lv_ineg C.1 C.2.1 hdg (k p l e R s m args below meth c H locs cells slots Z D cA ad A lr C hP hS hL kk)
theorem rx_ladd {x y : Int64} (hdg : decode cc pc = .ok (.ladd, 1)) (k : Reach cc own nL d Q (pc + 1) ls (.long (x + y) :: st) M) : Reach cc own nL d Q pc ls (.long y :: .long x :: st) M := by
  intro p l e R s m args below meth c H locs cells slots Z D cA ad A lr C hP hS hL kk
  exact lv_ladd C.1 C.2.1 hdg (k p l e R s m args below meth c H locs cells slots Z D cA ad A lr C hP hS hL kk)
theorem rx_lsub {x y : Int64} (hdg : decode cc pc = .ok (.lsub, 1)) (k : Reach cc own nL d Q (pc + 1) ls (.long (x - y) :: st) M) : Reach cc own nL d Q pc ls (.long y :: .long x :: st) M := by
  intro p l e R s m args below meth c H locs cells slots Z D cA ad A lr C hP hS hL kk
  exact lv_lsub C.1 C.2.1 hdg (k p l e R s m args below meth c H locs cells slots Z D cA ad A lr C hP hS hL kk)
theorem rx_lmul {x y : Int64} (hdg : decode cc pc = .ok (.lmul, 1)) (k : Reach cc own nL d Q (pc + 1) ls (.long (x * y) :: st) M) : Reach cc own nL d Q pc ls (.long y :: .long x :: st) M := by
  intro p l e R s m args below meth c H locs cells slots Z D cA ad A lr C hP hS hL kk
  exact lv_lmul C.1 C.2.1 hdg (k p l e R s m args below meth c H locs cells slots Z D cA ad A lr C hP hS hL kk)
theorem rx_land {x y : Int64} (hdg : decode cc pc = .ok (.land, 1)) (k : Reach cc own nL d Q (pc + 1) ls (.long (x &&& y) :: st) M) : Reach cc own nL d Q pc ls (.long y :: .long x :: st) M := by
  intro p l e R s m args below meth c H locs cells slots Z D cA ad A lr C hP hS hL kk
  exact lv_land C.1 C.2.1 hdg (k p l e R s m args below meth c H locs cells slots Z D cA ad A lr C hP hS hL kk)
theorem rx_lor {x y : Int64} (hdg : decode cc pc = .ok (.lor, 1)) (k : Reach cc own nL d Q (pc + 1) ls (.long (x ||| y) :: st) M) : Reach cc own nL d Q pc ls (.long y :: .long x :: st) M := by
  intro p l e R s m args below meth c H locs cells slots Z D cA ad A lr C hP hS hL kk
  exact lv_lor C.1 C.2.1 hdg (k p l e R s m args below meth c H locs cells slots Z D cA ad A lr C hP hS hL kk)
theorem rx_ldiv {x y : Int64} (hdg : decode cc pc = .ok (.ldiv, 1)) (hne : ¬ y = 0) (k : Reach cc own nL d Q (pc + 1) ls (.long (x / y) :: st) M) : Reach cc own nL d Q pc ls (.long y :: .long x :: st) M := by
  intro p l e R s m args below meth c H locs cells slots Z D cA ad A lr C hP hS hL kk
  exact lv_ldiv C.1 C.2.1 hdg hne (k p l e R s m args below meth c H locs cells slots Z D cA ad A lr C hP hS hL kk)
theorem rx_lrem {x y : Int64} (hdg : decode cc pc = .ok (.lrem, 1)) (hne : ¬ y = 0) (k : Reach cc own nL d Q (pc + 1) ls (.long (x - x / y * y) :: st) M) : Reach cc own nL d Q pc ls (.long y :: .long x :: st) M := by
  intro p l e R s m args below meth c H locs cells slots Z D cA ad A lr C hP hS hL kk
  exact lv_lrem C.1 C.2.1 hdg hne (k p l e R s m args below meth c H locs cells slots Z D cA ad A lr C hP hS hL kk)
theorem rx_ishl {x y : Int32} (hdg : decode cc pc = .ok (.ishl, 1)) (k : Reach cc own nL d Q (pc + 1) ls (.int (x <<< (y &&& 31)) :: st) M) : Reach cc own nL d Q pc ls (.int y :: .int x :: st) M := by
  intro p l e R s m args below meth c H locs cells slots Z D cA ad A lr C hP hS hL kk
  exact lv_ishl C.1 C.2.1 hdg (k p l e R s m args below meth c H locs cells slots Z D cA ad A lr C hP hS hL kk)
theorem rx_ishr {x y : Int32} (hdg : decode cc pc = .ok (.ishr, 1)) (k : Reach cc own nL d Q (pc + 1) ls (.int (x >>> (y &&& 31)) :: st) M) : Reach cc own nL d Q pc ls (.int y :: .int x :: st) M := by
  intro p l e R s m args below meth c H locs cells slots Z D cA ad A lr C hP hS hL kk
  exact lv_ishr C.1 C.2.1 hdg (k p l e R s m args below meth c H locs cells slots Z D cA ad A lr C hP hS hL kk)
theorem rx_i2l {x : Int32} {v : Int64} (hdg : decode cc pc = .ok (.i2l, 1)) (hv : x.toInt64 = v) (k : Reach cc own nL d Q (pc + 1) ls (.long v :: st) M) : Reach cc own nL d Q pc ls (.int x :: st) M := by
  intro p l e R s m args below meth c H locs cells slots Z D cA ad A lr C hP hS hL kk
  exact lv_i2l C.1 C.2.1 hdg hv (k p l e R s m args below meth c H locs cells slots Z D cA ad A lr C hP hS hL kk)
theorem rx_l2i {x : Int64} {v : Int32} (hdg : decode cc pc = .ok (.l2i, 1)) (hv : x.toInt32 = v) (k : Reach cc own nL d Q (pc + 1) ls (.int v :: st) M) : Reach cc own nL d Q pc ls (.long x :: st) M := by
  intro p l e R s m args below meth c H locs cells slots Z D cA ad A lr C hP hS hL kk
  exact lv_l2i C.1 C.2.1 hdg hv (k p l e R s m args below meth c H locs cells slots Z D cA ad A lr C hP hS hL kk)
theorem rx_i2b {x : Int32} {v : Int32} (hdg : decode cc pc = .ok (.i2b, 1)) (hv : x.toInt8.toInt32 = v) (k : Reach cc own nL d Q (pc + 1) ls (.int v :: st) M) : Reach cc own nL d Q pc ls (.int x :: st) M := by
  intro p l e R s m args below meth c H locs cells slots Z D cA ad A lr C hP hS hL kk
  exact lv_i2b C.1 C.2.1 hdg hv (k p l e R s m args below meth c H locs cells slots Z D cA ad A lr C hP hS hL kk)
theorem rx_i2s {x : Int32} {v : Int32} (hdg : decode cc pc = .ok (.i2s, 1)) (hv : x.toInt16.toInt32 = v) (k : Reach cc own nL d Q (pc + 1) ls (.int v :: st) M) : Reach cc own nL d Q pc ls (.int x :: st) M := by
  intro p l e R s m args below meth c H locs cells slots Z D cA ad A lr C hP hS hL kk
  exact lv_i2s C.1 C.2.1 hdg hv (k p l e R s m args below meth c H locs cells slots Z D cA ad A lr C hP hS hL kk)
theorem rx_i2c {x : Int32} {v : Int32} (hdg : decode cc pc = .ok (.i2c, 1)) (hv : (x.toUInt32 % 65536).toInt32 = v) (k : Reach cc own nL d Q (pc + 1) ls (.int v :: st) M) : Reach cc own nL d Q pc ls (.int x :: st) M := by
  intro p l e R s m args below meth c H locs cells slots Z D cA ad A lr C hP hS hL kk
  exact lv_i2c C.1 C.2.1 hdg hv (k p l e R s m args below meth c H locs cells slots Z D cA ad A lr C hP hS hL kk)
theorem rx_iushr {x y v : Int32} (hdg : decode cc pc = .ok (.iushr, 1)) (hv : (x.toUInt32 >>> (y.toUInt32 &&& Int32.toUInt32 31)).toInt32 = v) (k : Reach cc own nL d Q (pc + 1) ls (.int v :: st) M) : Reach cc own nL d Q pc ls (.int y :: .int x :: st) M := by
  intro p l e R s m args below meth c H locs cells slots Z D cA ad A lr C hP hS hL kk
  exact lv_iushr C.1 C.2.1 hdg hv (k p l e R s m args below meth c H locs cells slots Z D cA ad A lr C hP hS hL kk)
theorem rx_lushr {x v : Int64} {y : Int32} (hdg : decode cc pc = .ok (.lushr, 1)) (hv : (x.toUInt64 >>> (y.toInt64.toUInt64 &&& Int64.toUInt64 63)).toInt64 = v) (k : Reach cc own nL d Q (pc + 1) ls (.long v :: st) M) : Reach cc own nL d Q pc ls (.int y :: .long x :: st) M := by
  intro p l e R s m args below meth c H locs cells slots Z D cA ad A lr C hP hS hL kk
  exact lv_lushr C.1 C.2.1 hdg hv (k p l e R s m args below meth c H locs cells slots Z D cA ad A lr C hP hS hL kk)
theorem rx_lshl {x v : Int64} {y : Int32} (hdg : decode cc pc = .ok (.lshl, 1)) (hv : x <<< (y.toInt64 &&& 63) = v) (k : Reach cc own nL d Q (pc + 1) ls (.long v :: st) M) : Reach cc own nL d Q pc ls (.int y :: .long x :: st) M := by
  intro p l e R s m args below meth c H locs cells slots Z D cA ad A lr C hP hS hL kk
  exact lv_lshl C.1 C.2.1 hdg hv (k p l e R s m args below meth c H locs cells slots Z D cA ad A lr C hP hS hL kk)
theorem rx_dup {v : Value} (hdg : decode cc pc = .ok (.dup, 1)) (hc : v.category = 1) (k : Reach cc own nL d Q (pc + 1) ls (v :: v :: st) M) : Reach cc own nL d Q pc ls (v :: st) M := by
  intro p l e R s m args below meth c H locs cells slots Z D cA ad A lr C hP hS hL kk
  exact lv_dup C.1 C.2.1 hdg (by rw [rv_cat]; exact hc) (k p l e R s m args below meth c H locs cells slots Z D cA ad A lr C hP hS hL kk)
theorem rx_pop {v : Value} (hdg : decode cc pc = .ok (.pop, 1)) (hc : v.category = 1) (k : Reach cc own nL d Q (pc + 1) ls st M) : Reach cc own nL d Q pc ls (v :: st) M := by
  intro p l e R s m args below meth c H locs cells slots Z D cA ad A lr C hP hS hL kk
  exact lv_pop C.1 C.2.1 hdg (by rw [rv_cat]; exact hc) (k p l e R s m args below meth c H locs cells slots Z D cA ad A lr C hP hS hL kk)
theorem rx_dup_x1 {v u : Value} (hdg : decode cc pc = .ok (.dup_x1, 1)) (hc : v.category = 1) (hc2 : u.category = 1) (k : Reach cc own nL d Q (pc + 1) ls (v :: u :: v :: st) M) : Reach cc own nL d Q pc ls (v :: u :: st) M := by
  intro p l e R s m args below meth c H locs cells slots Z D cA ad A lr C hP hS hL kk
  exact lv_dup_x1 C.1 C.2.1 hdg (by rw [rv_cat]; exact hc) (by rw [rv_cat]; exact hc2) (k p l e R s m args below meth c H locs cells slots Z D cA ad A lr C hP hS hL kk)
theorem rx_dup2_11 {v u : Value} (hdg : decode cc pc = .ok (.dup2, 1)) (hc : v.category = 1) (hc2 : u.category = 1) (k : Reach cc own nL d Q (pc + 1) ls (v :: u :: v :: u :: st) M) : Reach cc own nL d Q pc ls (v :: u :: st) M := by
  intro p l e R s m args below meth c H locs cells slots Z D cA ad A lr C hP hS hL kk
  exact lv_dup2_11 C.1 C.2.1 hdg (by rw [rv_cat]; exact hc) (by rw [rv_cat]; exact hc2) (k p l e R s m args below meth c H locs cells slots Z D cA ad A lr C hP hS hL kk)
theorem rx_dup2_2 {v : Value} (hdg : decode cc pc = .ok (.dup2, 1)) (hc : v.category = 2) (k : Reach cc own nL d Q (pc + 1) ls (v :: v :: st) M) : Reach cc own nL d Q pc ls (v :: st) M := by
  intro p l e R s m args below meth c H locs cells slots Z D cA ad A lr C hP hS hL kk
  exact lv_dup2_2 C.1 C.2.1 hdg (by rw [rv_cat]; exact hc) (k p l e R s m args below meth c H locs cells slots Z D cA ad A lr C hP hS hL kk)
theorem rx_lcmp {x y : Int64} (hdg : decode cc pc = .ok (.lcmp, 1)) (k : Reach cc own nL d Q (pc + 1) ls (.int (lg_cmp x y) :: st) M) : Reach cc own nL d Q pc ls (.long y :: .long x :: st) M := by
  intro p l e R s m args below meth c H locs cells slots Z D cA ad A lr C hP hS hL kk
  exact W.lcmp C.1 C.2.1 hdg (k p l e R s m args below meth c H locs cells slots Z D cA ad A lr C hP hS hL kk)
theorem rx_iload_n {k : Fin 4} {i : Nat} {x : Int32} (hdg : decode cc pc = .ok (.iload_n k, 1)) (hi : (k : Nat) = i) (hl : ls[i]? = some (some (.int x))) (kk0 : Reach cc own nL d Q (pc + 1) ls (.int x :: st) M) : Reach cc own nL d Q pc ls st M := by
  intro p l e R s m args below meth c H locs cells slots Z D cA ad A lr C hP hS hL kk
  obtain ⟨lv, g1, g2⟩ := id hL
  exact lv_iload_n C.1 C.2.1 hdg hi (g1.2.2 _ (g2 _ _ hl)) (kk0 p l e R s m args below meth c H locs cells slots Z D cA ad A lr C hP hS hL kk)
theorem rx_iload {i : Nat} {x : Int32} (hdg : decode cc pc = .ok (.iload i, 2)) (hl : ls[i]? = some (some (.int x))) (kk0 : Reach cc own nL d Q (pc + 2) ls (.int x :: st) M) : Reach cc own nL d Q pc ls st M := by
  intro p l e R s m args below meth c H locs cells slots Z D cA ad A lr C hP hS hL kk
  obtain ⟨lv, g1, g2⟩ := id hL
  exact lv_iload C.1 C.2.1 hdg (g1.2.2 _ (g2 _ _ hl)) (kk0 p l e R s m args below meth c H locs cells slots Z D cA ad A lr C hP hS hL kk)
theorem rx_lload_n {k : Fin 4} {i : Nat} {x : Int64} (hdg : decode cc pc = .ok (.lload_n k, 1)) (hi : (k : Nat) = i) (hl : ls[i]? = some (some (.long x))) (kk0 : Reach cc own nL d Q (pc + 1) ls (.long x :: st) M) : Reach cc own nL d Q pc ls st M := by
  intro p l e R s m args below meth c H locs cells slots Z D cA ad A lr C hP hS hL kk
  obtain ⟨lv, g1, g2⟩ := id hL
  exact lv_lload_n C.1 C.2.1 hdg hi (g1.2.2 _ (g2 _ _ hl)) (kk0 p l e R s m args below meth c H locs cells slots Z D cA ad A lr C hP hS hL kk)
theorem rx_lload {i : Nat} {x : Int64} (hdg : decode cc pc = .ok (.lload i, 2)) (hl : ls[i]? = some (some (.long x))) (kk0 : Reach cc own nL d Q (pc + 2) ls (.long x :: st) M) : Reach cc own nL d Q pc ls st M := by
  intro p l e R s m args below meth c H locs cells slots Z D cA ad A lr C hP hS hL kk
  obtain ⟨lv, g1, g2⟩ := id hL
  exact lv_lload C.1 C.2.1 hdg (g1.2.2 _ (g2 _ _ hl)) (kk0 p l e R s m args below meth c H locs cells slots Z D cA ad A lr C hP hS hL kk)
theorem rx_aload_n {k : Fin 4} {i : Nat} {x : Nat} (hdg : decode cc pc = .ok (.aload_n k, 1)) (hi : (k : Nat) = i) (hl : ls[i]? = some (some (.ref x))) (kk0 : Reach cc own nL d Q (pc + 1) ls (.ref x :: st) M) : Reach cc own nL d Q pc ls st M := by
  intro p l e R s m args below meth c H locs cells slots Z D cA ad A lr C hP hS hL kk
  obtain ⟨lv, g1, g2⟩ := id hL
  exact lv_aload_n C.1 C.2.1 hdg hi (g1.2.2 _ (g2 _ _ hl)) (kk0 p l e R s m args below meth c H locs cells slots Z D cA ad A lr C hP hS hL kk)
theorem rx_aload {i : Nat} {x : Nat} (hdg : decode cc pc = .ok (.aload i, 2)) (hl : ls[i]? = some (some (.ref x))) (kk0 : Reach cc own nL d Q (pc + 2) ls (.ref x :: st) M) : Reach cc own nL d Q pc ls st M := by
  intro p l e R s m args below meth c H locs cells slots Z D cA ad A lr C hP hS hL kk
  obtain ⟨lv, g1, g2⟩ := id hL
  exact lv_aload C.1 C.2.1 hdg (g1.2.2 _ (g2 _ _ hl)) (kk0 p l e R s m args below meth c H locs cells slots Z D cA ad A lr C hP hS hL kk)
theorem st1 {ad : Nat → Nat} {ls : List (Option Value)} {lv : List (Nat × Value)} {i : Nat} {v : Value} (ho : okS ls i = true) (h : ∀ (i : Nat) (v : Value), ls[i]? = some (some v) → (i, rv ad v) ∈ lv) :
    ∀ (j : Nat) (u : Value), (ls.set i (some v))[j]? = some (some u) → (j, rv ad u) ∈ (i, rv ad v) :: lv.filter (fun q => !(q.1 == i) && !(q.1 + 1 == i && q.2.category == 2)) := by
  intro j u hj
  rw [List.getElem?_set] at hj
  by_cases hij : i = j
  · subst hij
    rw [if_pos rfl] at hj
    split at hj
    · obtain rfl : v = u := Option.some.inj (Option.some.inj hj)
      exact List.mem_cons_self
    · cases hj
  · rw [if_neg hij] at hj
    refine List.mem_cons_of_mem _ (List.mem_filter.mpr ⟨h j u hj, ?_⟩)
    have e1 : ¬ j = i := fun q => hij q.symm
    have e2 : ¬ (j + 1 = i ∧ (rv ad u).category = 2) := by
      rintro ⟨rfl, h2⟩
      rw [rv_cat] at h2
      simp only [okS, hj, h2] at ho
      exact absurd ho (by decide)
    simp [e1]
    exact Classical.not_and_iff_not_or_not.mp e2
theorem st2 {ad : Nat → Nat} {ls : List (Option Value)} {lv : List (Nat × Value)} {i : Nat} {v : Value} (ho : okS ls i = true) (h : ∀ (i : Nat) (v : Value), ls[i]? = some (some v) → (i, rv ad v) ∈ lv) :
    ∀ (j : Nat) (u : Value), ((ls.set i (some v)).set (i + 1) none)[j]? = some (some u) → (j, rv ad u) ∈ (i, rv ad v) :: lv.filter (fun q => !(q.1 == i) && (!(q.1 == i + 1) && !(q.1 + 1 == i && q.2.category == 2))) := by
  intro j u hj
  rw [List.getElem?_set] at hj
  by_cases hij : i + 1 = j
  · subst hij
    rw [if_pos rfl] at hj
    split at hj <;> simp at hj
  · rw [if_neg hij] at hj
    have := st1 (v := v) ho h j u hj
    rcases List.mem_cons.mp this with q | q
    · rw [q]; exact List.mem_cons_self
    · obtain ⟨q1, q2⟩ := List.mem_filter.mp q
      refine List.mem_cons_of_mem _ (List.mem_filter.mpr ⟨q1, ?_⟩)
      have e1 : ¬ j = i + 1 := fun q => hij q.symm
      simp [e1] at q2 ⊢
      exact q2

theorem rx_istore_n {k : Fin 4} {i : Nat} {x : Int32} {ls2 : List (Option Value)} (hdg : decode cc pc = .ok (.istore_n k, 1)) (hi : (k : Nat) = i) (hn : i < nL) (ho : okS ls i = true) (h2 : ls.set i (some (.int x)) = ls2) (kk0 : Reach cc own nL d Q (pc + 1) ls2 st M) : Reach cc own nL d Q pc ls (.int x :: st) M := by
  intro p l e R s m args below meth c H locs cells slots Z D cA ad A lr C hP hS hL kk
  obtain ⟨lv, g1, g2⟩ := id hL
  subst h2
  refine lv_istore_n C.1 C.2.1 hdg hi g1 hn rfl (fun lr' hl' => kk0 p l e R s m args below meth c H locs cells slots Z D cA ad A lr' C hP hS ⟨_, hl', st1 (v := .int x) ho g2⟩ kk)
theorem rx_istore {i : Nat} {x : Int32} {ls2 : List (Option Value)} (hdg : decode cc pc = .ok (.istore i, 2)) (hn : i < nL) (ho : okS ls i = true) (h2 : ls.set i (some (.int x)) = ls2) (kk0 : Reach cc own nL d Q (pc + 2) ls2 st M) : Reach cc own nL d Q pc ls (.int x :: st) M := by
  intro p l e R s m args below meth c H locs cells slots Z D cA ad A lr C hP hS hL kk
  obtain ⟨lv, g1, g2⟩ := id hL
  subst h2
  refine lv_istore C.1 C.2.1 hdg g1 hn rfl (fun lr' hl' => kk0 p l e R s m args below meth c H locs cells slots Z D cA ad A lr' C hP hS ⟨_, hl', st1 (v := .int x) ho g2⟩ kk)
theorem rx_lstore_n {k : Fin 4} {i : Nat} {x : Int64} {ls2 : List (Option Value)} (hdg : decode cc pc = .ok (.lstore_n k, 1)) (hi : (k : Nat) = i) (hn : i + 1 < nL) (ho : okS ls i = true) (h2 : (ls.set i (some (.long x))).set (i + 1) none = ls2) (kk0 : Reach cc own nL d Q (pc + 1) ls2 st M) : Reach cc own nL d Q pc ls (.long x :: st) M := by
  intro p l e R s m args below meth c H locs cells slots Z D cA ad A lr C hP hS hL kk
  obtain ⟨lv, g1, g2⟩ := id hL
  subst h2
  refine lv_lstore_n C.1 C.2.1 hdg hi g1 hn rfl (fun lr' hl' => kk0 p l e R s m args below meth c H locs cells slots Z D cA ad A lr' C hP hS ⟨_, hl', st2 (v := .long x) ho g2⟩ kk)
theorem rx_lstore {i : Nat} {x : Int64} {ls2 : List (Option Value)} (hdg : decode cc pc = .ok (.lstore i, 2)) (hn : i + 1 < nL) (ho : okS ls i = true) (h2 : (ls.set i (some (.long x))).set (i + 1) none = ls2) (kk0 : Reach cc own nL d Q (pc + 2) ls2 st M) : Reach cc own nL d Q pc ls (.long x :: st) M := by
  intro p l e R s m args below meth c H locs cells slots Z D cA ad A lr C hP hS hL kk
  obtain ⟨lv, g1, g2⟩ := id hL
  subst h2
  refine lv_lstore C.1 C.2.1 hdg g1 hn rfl (fun lr' hl' => kk0 p l e R s m args below meth c H locs cells slots Z D cA ad A lr' C hP hS ⟨_, hl', st2 (v := .long x) ho g2⟩ kk)
theorem rx_astore_n {k : Fin 4} {i : Nat} {x : Nat} {ls2 : List (Option Value)} (hdg : decode cc pc = .ok (.astore_n k, 1)) (hi : (k : Nat) = i) (hn : i < nL) (ho : okS ls i = true) (h2 : ls.set i (some (.ref x)) = ls2) (kk0 : Reach cc own nL d Q (pc + 1) ls2 st M) : Reach cc own nL d Q pc ls (.ref x :: st) M := by
  intro p l e R s m args below meth c H locs cells slots Z D cA ad A lr C hP hS hL kk
  obtain ⟨lv, g1, g2⟩ := id hL
  subst h2
  refine lv_astore_n C.1 C.2.1 hdg hi g1 hn rfl (fun lr' hl' => kk0 p l e R s m args below meth c H locs cells slots Z D cA ad A lr' C hP hS ⟨_, hl', st1 (v := .ref x) ho g2⟩ kk)
theorem rx_astore {i : Nat} {x : Nat} {ls2 : List (Option Value)} (hdg : decode cc pc = .ok (.astore i, 2)) (hn : i < nL) (ho : okS ls i = true) (h2 : ls.set i (some (.ref x)) = ls2) (kk0 : Reach cc own nL d Q (pc + 2) ls2 st M) : Reach cc own nL d Q pc ls (.ref x :: st) M := by
  intro p l e R s m args below meth c H locs cells slots Z D cA ad A lr C hP hS hL kk
  obtain ⟨lv, g1, g2⟩ := id hL
  subst h2
  refine lv_astore C.1 C.2.1 hdg g1 hn rfl (fun lr' hl' => kk0 p l e R s m args below meth c H locs cells slots Z D cA ad A lr' C hP hS ⟨_, hl', st1 (v := .ref x) ho g2⟩ kk)
theorem rx_iinc {i : Nat} {n : Int} {x v : Int32} {ls2 : List (Option Value)} (hdg : decode cc pc = .ok (.iinc i n, 3)) (hk : ls[i]? = some (some (.int x))) (hv : x + Int32.ofInt n = v) (hn : i < nL) (ho : okS ls i = true) (h2 : ls.set i (some (.int v)) = ls2) (kk0 : Reach cc own nL d Q (pc + 3) ls2 st M) : Reach cc own nL d Q pc ls st M := by
  intro p l e R s m args below meth c H locs cells slots Z D cA ad A lr C hP hS hL kk
  obtain ⟨lv, g1, g2⟩ := id hL
  subst h2
  obtain ⟨kx, hkx⟩ := List.getElem?_of_mem (g2 _ _ hk)
  refine lv_iinc C.1 C.2.1 hdg g1 hkx hv hn rfl (fun lr' hl' => kk0 p l e R s m args below meth c H locs cells slots Z D cA ad A lr' C hP hS ⟨_, hl', st1 (v := .int v) ho g2⟩ kk)
theorem rx_if_eq {x : Int32} {off : Int} {tgt : Nat} (hdg : decode cc pc = .ok (.ifCond .eq off, 3)) (ht : (pc : Int) + off = (tgt : Int)) (kt : x = 0 → Reach cc own nL d Q tgt ls st M) (kf : ¬ x = 0 → Reach cc own nL d Q (pc + 3) ls st M) : Reach cc own nL d Q pc ls (.int x :: st) M := by
  intro p l e R s m args below meth c H locs cells slots Z D cA ad A lr C hP hS hL kk
  exact lv_if_eq C.1 C.2.1 hdg ht (fun h => kt h p l e R s m args below meth c H locs cells slots Z D cA ad A lr C hP hS hL kk) (fun h => kf h p l e R s m args below meth c H locs cells slots Z D cA ad A lr C hP hS hL kk)
theorem rx_icmp_eq {x y : Int32} {off : Int} {tgt : Nat} (hdg : decode cc pc = .ok (.if_icmp .eq off, 3)) (ht : (pc : Int) + off = (tgt : Int)) (kt : x = y → Reach cc own nL d Q tgt ls st M) (kf : ¬ x = y → Reach cc own nL d Q (pc + 3) ls st M) : Reach cc own nL d Q pc ls (.int y :: .int x :: st) M := by
  intro p l e R s m args below meth c H locs cells slots Z D cA ad A lr C hP hS hL kk
  exact lv_icmp_eq C.1 C.2.1 hdg ht (fun h => kt h p l e R s m args below meth c H locs cells slots Z D cA ad A lr C hP hS hL kk) (fun h => kf h p l e R s m args below meth c H locs cells slots Z D cA ad A lr C hP hS hL kk)
theorem rx_if_ne {x : Int32} {off : Int} {tgt : Nat} (hdg : decode cc pc = .ok (.ifCond .ne off, 3)) (ht : (pc : Int) + off = (tgt : Int)) (kt : ¬ x = 0 → Reach cc own nL d Q tgt ls st M) (kf : x = 0 → Reach cc own nL d Q (pc + 3) ls st M) : Reach cc own nL d Q pc ls (.int x :: st) M := by
  intro p l e R s m args below meth c H locs cells slots Z D cA ad A lr C hP hS hL kk
  exact lv_if_ne C.1 C.2.1 hdg ht (fun h => kt h p l e R s m args below meth c H locs cells slots Z D cA ad A lr C hP hS hL kk) (fun h => kf h p l e R s m args below meth c H locs cells slots Z D cA ad A lr C hP hS hL kk)
theorem rx_icmp_ne {x y : Int32} {off : Int} {tgt : Nat} (hdg : decode cc pc = .ok (.if_icmp .ne off, 3)) (ht : (pc : Int) + off = (tgt : Int)) (kt : ¬ x = y → Reach cc own nL d Q tgt ls st M) (kf : x = y → Reach cc own nL d Q (pc + 3) ls st M) : Reach cc own nL d Q pc ls (.int y :: .int x :: st) M := by
  intro p l e R s m args below meth c H locs cells slots Z D cA ad A lr C hP hS hL kk
  exact lv_icmp_ne C.1 C.2.1 hdg ht (fun h => kt h p l e R s m args below meth c H locs cells slots Z D cA ad A lr C hP hS hL kk) (fun h => kf h p l e R s m args below meth c H locs cells slots Z D cA ad A lr C hP hS hL kk)
theorem rx_if_lt {x : Int32} {off : Int} {tgt : Nat} (hdg : decode cc pc = .ok (.ifCond .lt off, 3)) (ht : (pc : Int) + off = (tgt : Int)) (kt : x < 0 → Reach cc own nL d Q tgt ls st M) (kf : ¬ x < 0 → Reach cc own nL d Q (pc + 3) ls st M) : Reach cc own nL d Q pc ls (.int x :: st) M := by
  intro p l e R s m args below meth c H locs cells slots Z D cA ad A lr C hP hS hL kk
  exact lv_if_lt C.1 C.2.1 hdg ht (fun h => kt h p l e R s m args below meth c H locs cells slots Z D cA ad A lr C hP hS hL kk) (fun h => kf h p l e R s m args below meth c H locs cells slots Z D cA ad A lr C hP hS hL kk)
theorem rx_icmp_lt {x y : Int32} {off : Int} {tgt : Nat} (hdg : decode cc pc = .ok (.if_icmp .lt off, 3)) (ht : (pc : Int) + off = (tgt : Int)) (kt : x < y → Reach cc own nL d Q tgt ls st M) (kf : ¬ x < y → Reach cc own nL d Q (pc + 3) ls st M) : Reach cc own nL d Q pc ls (.int y :: .int x :: st) M := by
  intro p l e R s m args below meth c H locs cells slots Z D cA ad A lr C hP hS hL kk
  exact lv_icmp_lt C.1 C.2.1 hdg ht (fun h => kt h p l e R s m args below meth c H locs cells slots Z D cA ad A lr C hP hS hL kk) (fun h => kf h p l e R s m args below meth c H locs cells slots Z D cA ad A lr C hP hS hL kk)
theorem rx_if_ge {x : Int32} {off : Int} {tgt : Nat} (hdg : decode cc pc = .ok (.ifCond .ge off, 3)) (ht : (pc : Int) + off = (tgt : Int)) (kt : 0 ≤ x → Reach cc own nL d Q tgt ls st M) (kf : ¬ 0 ≤ x → Reach cc own nL d Q (pc + 3) ls st M) : Reach cc own nL d Q pc ls (.int x :: st) M := by
  intro p l e R s m args below meth c H locs cells slots Z D cA ad A lr C hP hS hL kk
  exact lv_if_ge C.1 C.2.1 hdg ht (fun h => kt h p l e R s m args below meth c H locs cells slots Z D cA ad A lr C hP hS hL kk) (fun h => kf h p l e R s m args below meth c H locs cells slots Z D cA ad A lr C hP hS hL kk)
theorem rx_icmp_ge {x y : Int32} {off : Int} {tgt : Nat} (hdg : decode cc pc = .ok (.if_icmp .ge off, 3)) (ht : (pc : Int) + off = (tgt : Int)) (kt : y ≤ x → Reach cc own nL d Q tgt ls st M) (kf : ¬ y ≤ x → Reach cc own nL d Q (pc + 3) ls st M) : Reach cc own nL d Q pc ls (.int y :: .int x :: st) M := by
  intro p l e R s m args below meth c H locs cells slots Z D cA ad A lr C hP hS hL kk
  exact lv_icmp_ge C.1 C.2.1 hdg ht (fun h => kt h p l e R s m args below meth c H locs cells slots Z D cA ad A lr C hP hS hL kk) (fun h => kf h p l e R s m args below meth c H locs cells slots Z D cA ad A lr C hP hS hL kk)
theorem rx_if_gt {x : Int32} {off : Int} {tgt : Nat} (hdg : decode cc pc = .ok (.ifCond .gt off, 3)) (ht : (pc : Int) + off = (tgt : Int)) (kt : 0 < x → Reach cc own nL d Q tgt ls st M) (kf : ¬ 0 < x → Reach cc own nL d Q (pc + 3) ls st M) : Reach cc own nL d Q pc ls (.int x :: st) M := by
  intro p l e R s m args below meth c H locs cells slots Z D cA ad A lr C hP hS hL kk
  exact lv_if_gt C.1 C.2.1 hdg ht (fun h => kt h p l e R s m args below meth c H locs cells slots Z D cA ad A lr C hP hS hL kk) (fun h => kf h p l e R s m args below meth c H locs cells slots Z D cA ad A lr C hP hS hL kk)
theorem rx_icmp_gt {x y : Int32} {off : Int} {tgt : Nat} (hdg : decode cc pc = .ok (.if_icmp .gt off, 3)) (ht : (pc : Int) + off = (tgt : Int)) (kt : y < x → Reach cc own nL d Q tgt ls st M) (kf : ¬ y < x → Reach cc own nL d Q (pc + 3) ls st M) : Reach cc own nL d Q pc ls (.int y :: .int x :: st) M := by
  intro p l e R s m args below meth c H locs cells slots Z D cA ad A lr C hP hS hL kk
  exact lv_icmp_gt C.1 C.2.1 hdg ht (fun h => kt h p l e R s m args below meth c H locs cells slots Z D cA ad A lr C hP hS hL kk) (fun h => kf h p l e R s m args below meth c H locs cells slots Z D cA ad A lr C hP hS hL kk)
theorem rx_if_le {x : Int32} {off : Int} {tgt : Nat} (hdg : decode cc pc = .ok (.ifCond .le off, 3)) (ht : (pc : Int) + off = (tgt : Int)) (kt : x ≤ 0 → Reach cc own nL d Q tgt ls st M) (kf : ¬ x ≤ 0 → Reach cc own nL d Q (pc + 3) ls st M) : Reach cc own nL d Q pc ls (.int x :: st) M := by
  intro p l e R s m args below meth c H locs cells slots Z D cA ad A lr C hP hS hL kk
  exact lv_if_le C.1 C.2.1 hdg ht (fun h => kt h p l e R s m args below meth c H locs cells slots Z D cA ad A lr C hP hS hL kk) (fun h => kf h p l e R s m args below meth c H locs cells slots Z D cA ad A lr C hP hS hL kk)
theorem rx_icmp_le {x y : Int32} {off : Int} {tgt : Nat} (hdg : decode cc pc = .ok (.if_icmp .le off, 3)) (ht : (pc : Int) + off = (tgt : Int)) (kt : x ≤ y → Reach cc own nL d Q tgt ls st M) (kf : ¬ x ≤ y → Reach cc own nL d Q (pc + 3) ls st M) : Reach cc own nL d Q pc ls (.int y :: .int x :: st) M := by
  intro p l e R s m args below meth c H locs cells slots Z D cA ad A lr C hP hS hL kk
  exact lv_icmp_le C.1 C.2.1 hdg ht (fun h => kt h p l e R s m args below meth c H locs cells slots Z D cA ad A lr C hP hS hL kk) (fun h => kf h p l e R s m args below meth c H locs cells slots Z D cA ad A lr C hP hS hL kk)
theorem rx_goto {off : Int} {tgt : Nat} (hdg : decode cc pc = .ok (.goto off, 3)) (ht : (pc : Int) + off = (tgt : Int)) (k : Reach cc own nL d Q tgt ls st M) : Reach cc own nL d Q pc ls st M := by
  intro p l e R s m args below meth c H locs cells slots Z D cA ad A lr C hP hS hL kk
  exact lv_goto C.1 C.2.1 hdg ht (k p l e R s m args below meth c H locs cells slots Z D cA ad A lr C hP hS hL kk)
theorem rx_tableIn {dflt lo hi : Int} {offs : Array Int} {len : Nat} {x : Int32} {off : Int} {tgt : Nat} (hdg : decode cc pc = .ok (.tableswitch dflt lo hi offs, len)) (h1 : ¬ x.toInt < lo) (h2 : ¬ hi < x.toInt) (ho : offs[(x.toInt - lo).toNat]? = some off) (ht : (pc : Int) + off = (tgt : Int)) (k : Reach cc own nL d Q tgt ls st M) : Reach cc own nL d Q pc ls (.int x :: st) M := by
  intro p l e R s m args below meth c H locs cells slots Z D cA ad A lr C hP hS hL kk
  exact lv_tableIn C.1 C.2.1 hdg h1 h2 ho ht (k p l e R s m args below meth c H locs cells slots Z D cA ad A lr C hP hS hL kk)
theorem rx_tableOut {dflt lo hi : Int} {offs : Array Int} {len : Nat} {x : Int32} {tgt : Nat} (hdg : decode cc pc = .ok (.tableswitch dflt lo hi offs, len)) (h : x.toInt < lo ∨ hi < x.toInt) (ht : (pc : Int) + dflt = (tgt : Int)) (k : Reach cc own nL d Q tgt ls st M) : Reach cc own nL d Q pc ls (.int x :: st) M := by
  intro p l e R s m args below meth c H locs cells slots Z D cA ad A lr C hP hS hL kk
  exact lv_tableOut C.1 C.2.1 hdg h ht (k p l e R s m args below meth c H locs cells slots Z D cA ad A lr C hP hS hL kk)
end RR
