/-! WHAT STANDS AT THE START -/
theorem st_arr {s : State} {args : Array Value} {ty : FieldType} (h : (Cond.arrayClass ty).before args s = true) : ∃ cA : ClassId, ArrOfT s cA ty ∧ s.vm.findClass ("[" ++ ty.toString) = some cA := by
  obtain ⟨cA, kA, comp, hfind, hk, hkind⟩ := Cond.arrayClass_spec h
  exact ⟨cA, fun n z => ⟨fun k h => (by cases h), kA, hk, comp, hkind⟩, hfind⟩
theorem st_K {s : State} {args : Array Value} (hts : ∀ w ∈ lw_tbl, w.before args s = true) : ∃ (D : va_G) (cA : Nat → ClassId), va_K D vwCl (tysOf cA) s := by
  have htg : ∀ w ∈ gtbl, w.before args s = true := fun w hw => hts w (List.mem_filter.mp hw).1
  have h0 : ∀ k : Nat, ∃ q : ClassId × (Nat → Nat), ∀ c : vw_C, vwCl[k]? = some c → u_Kn s c.1 c.2.1 c.2.2 q.1 q.2 := by
    intro k
    match k with
    | 0 =>
      obtain ⟨c, iS, h⟩ := u_known (n := _) htg (cls_ok 0 _ _ _ rfl).1 (hts _ (List.mem_of_getElem? (i := 431) (by decide +kernel) : Cond.instantiable RX0 5 ∈ lw_tbl))
      exact ⟨(c, iS), fun q hq => by cases hq; exact h⟩
    | 1 =>
      obtain ⟨c, iS, h⟩ := u_known (n := _) htg (cls_ok 1 _ _ _ rfl).1 (hts _ (List.mem_of_getElem? (i := 333) (by decide +kernel) : Cond.instantiable RX1 3 ∈ lw_tbl))
      exact ⟨(c, iS), fun q hq => by cases hq; exact h⟩
    | 2 =>
      obtain ⟨c, iS, h⟩ := u_known (n := _) htg (cls_ok 2 _ _ _ rfl).1 (hts _ (List.mem_of_getElem? (i := 413) (by decide +kernel) : Cond.instantiable RX2 3 ∈ lw_tbl))
      exact ⟨(c, iS), fun q hq => by cases hq; exact h⟩
    | 3 =>
      obtain ⟨c, iS, h⟩ := u_known (n := _) htg (cls_ok 3 _ _ _ rfl).1 (hts _ (List.mem_of_getElem? (i := 283) (by decide +kernel) : Cond.instantiable RX3 3 ∈ lw_tbl))
      exact ⟨(c, iS), fun q hq => by cases hq; exact h⟩
    | 4 =>
      obtain ⟨c, iS, h⟩ := u_known (n := _) htg (cls_ok 4 _ _ _ rfl).1 (hts _ (List.mem_of_getElem? (i := 299) (by decide +kernel) : Cond.instantiable RX4 8 ∈ lw_tbl))
      exact ⟨(c, iS), fun q hq => by cases hq; exact h⟩
    | 5 =>
      obtain ⟨c, iS, h⟩ := u_known (n := _) htg (cls_ok 5 _ _ _ rfl).1 (hts _ (List.mem_of_getElem? (i := 353) (by decide +kernel) : Cond.instantiable RX5 15 ∈ lw_tbl))
      exact ⟨(c, iS), fun q hq => by cases hq; exact h⟩
    | 6 =>
      obtain ⟨c, iS, h⟩ := u_known (n := _) htg (cls_ok 6 _ _ _ rfl).1 (hts _ (List.mem_of_getElem? (i := 129) (by decide +kernel) : Cond.instantiable RX6 2 ∈ lw_tbl))
      exact ⟨(c, iS), fun q hq => by cases hq; exact h⟩
    | 7 =>
      obtain ⟨c, iS, h⟩ := u_known (n := _) htg (cls_ok 7 _ _ _ rfl).1 (hts _ (List.mem_of_getElem? (i := 143) (by decide +kernel) : Cond.instantiable RX7 2 ∈ lw_tbl))
      exact ⟨(c, iS), fun q hq => by cases hq; exact h⟩
    | 8 =>
      obtain ⟨c, iS, h⟩ := u_known (n := _) htg (cls_ok 8 _ _ _ rfl).1 (hts _ (List.mem_of_getElem? (i := 159) (by decide +kernel) : Cond.instantiable RX8 20 ∈ lw_tbl))
      exact ⟨(c, iS), fun q hq => by cases hq; exact h⟩
    | 9 =>
      obtain ⟨c, iS, h⟩ := u_known (n := _) htg (cls_ok 9 _ _ _ rfl).1 (hts _ (List.mem_of_getElem? (i := 270) (by decide +kernel) : Cond.instantiable RX9 2 ∈ lw_tbl))
      exact ⟨(c, iS), fun q hq => by cases hq; exact h⟩
    | 10 =>
      obtain ⟨c, iS, h⟩ := u_known (n := _) htg (cls_ok 10 _ _ _ rfl).1 (hts _ (List.mem_of_getElem? (i := 121) (by decide +kernel) : Cond.instantiable RX10 17 ∈ lw_tbl))
      exact ⟨(c, iS), fun q hq => by cases hq; exact h⟩
    | 11 =>
      obtain ⟨c, iS, h⟩ := u_known (n := _) htg (cls_ok 11 _ _ _ rfl).1 (hts _ (List.mem_of_getElem? (i := 1389) (by decide +kernel) : Cond.instantiable RX11 59 ∈ lw_tbl))
      exact ⟨(c, iS), fun q hq => by cases hq; exact h⟩
    | k + 12 => exact ⟨(0, fun _ => 0), fun q hq => by simp at hq⟩
  obtain ⟨f, hf⟩ := Classical.axiomOfChoice h0
  obtain ⟨c0, a0, b0⟩ := st_arr (hts _ (List.mem_of_getElem? (i := 141) (by decide +kernel) : Cond.arrayClass .int ∈ lw_tbl))
  obtain ⟨c1, a1, b1⟩ := st_arr (hts _ (List.mem_of_getElem? (i := 157) (by decide +kernel) : Cond.arrayClass .long ∈ lw_tbl))
  obtain ⟨c2, a2, b2⟩ := st_arr (hts _ (List.mem_of_getElem? (i := 740) (by decide +kernel) : Cond.arrayClass .byte ∈ lw_tbl))
  obtain ⟨c3, a3, b3⟩ := st_arr (hts _ (List.mem_of_getElem? (i := 331) (by decide +kernel) : Cond.arrayClass .boolean ∈ lw_tbl))
  refine ⟨(fun k => (f k).1, fun k => (f k).2), fun k => match k with | 0 => c0 | 1 => c1 | 2 => c2 | _ => c3, fun k q hq => hf k q hq, fun k q hk => ?_⟩
  match k, hk with
  | 0, hk => cases hk; exact ⟨a0, b0⟩
  | 1, hk => cases hk; exact ⟨a1, b1⟩
  | 2, hk => cases hk; exact ⟨a2, b2⟩
  | 3, hk => cases hk; exact ⟨a3, b3⟩
  | k + 4, hk => simp [tysOf] at hk
def oldA (s : State) : Nat → Prop := fun q => s.heap.size ≤ q
theorem st_nest {s : State} {args : Array Value} (hts : ∀ w ∈ lw_tbl, w.before args s = true) : NestOK s := by
  intro w hw hn
  have h := hts w hw
  cases w <;> first | exact va_Nw.of rfl h | exact absurd hn (by simp [isNest])
theorem st_cd {s : State} {args : Array Value} (hts : ∀ w ∈ lw_tbl, w.before args s = true) : CDOK s := by
  intro w hw hn
  have h := hts w hw
  cases w <;> first | exact va_Nw.of rfl h | exact absurd hn (by simp [isCD])
theorem st_ZX {s : State} {b : Nat} (hts : ∀ w ∈ lw_tbl, w.before #[Value.ref b] s = true) (hgv : (Jvm.Cond.and given_1 narrow_1).before #[Value.ref b] s = true) : ZX (oldA s) s s.heap := by
  have hs := flat_of_before _ hgv
  have hA : ∀ a : Nat, a < s.heap.size → ¬ oldA s a := fun a h => Nat.not_le.mpr h
  exact ⟨vx_Zqof (hts _ (List.mem_of_getElem? (i := 1319) (by decide +kernel))) (hts _ (List.mem_of_getElem? (i := 114) (by decide +kernel))) (hs _ (by decide +kernel)) hA, vx_Zqof (hts _ (List.mem_of_getElem? (i := 1321) (by decide +kernel))) (hts _ (List.mem_of_getElem? (i := 114) (by decide +kernel))) (hs _ (by decide +kernel)) hA, st_cd hts⟩
def stT : Nat → Term := fun i => match i with | 0 => .string RX4 76 | _ => .string RX4 97
set_option maxRecDepth 100000 in
set_option maxHeartbeats 4000000 in
theorem st_SX {s : State} {b : Nat} (hts : ∀ w ∈ lw_tbl, w.before #[Value.ref b] s = true) (hgv : (Jvm.Cond.and given_1 narrow_1).before #[Value.ref b] s = true) : ∃ kk vv : Nat → Nat, ∀ ad : Nat → Nat, ad 177 = kk 0 → ad 178 = kk 1 → ad 179 = vv 0 → ad 180 = vv 1 → SX ad (oldA s) s s.heap := by
  have hs := flat_of_before _ hgv
  have hA : ∀ a : Nat, a < s.heap.size → ¬ oldA s a := fun a h => Nat.not_le.mpr h
  have two : ∀ {Q : Nat → Prop}, Q 0 → Q 1 → ∀ i, i < 2 → Q i := fun h0 h1 i hi => by
    rcases (show i = 0 ∨ i = 1 by omega) with rfl | rfl
    · exact h0
    · exact h1
  obtain ⟨kk, vv, hE, hT⟩ := vk_Sof (args := #[Value.ref b]) (s := s) (N := 2) (tm := stT) (len := strL) (byt := strB) (A := oldA s)
    (two (by decide) (by decide))
    (two (hs _ (by decide +kernel)) (hs _ (by decide +kernel)))
    (two (hs _ (by decide +kernel)) (hs _ (by decide +kernel)))
    (two (hs _ (by decide +kernel)) (hs _ (by decide +kernel)))
    (two (hs _ (by decide +kernel)) (hs _ (by decide +kernel)))
    (two (fun j hj => by
        have hj8 : j < 8 := hj
        rcases (show j = 0 ∨ j = 1 ∨ j = 2 ∨ j = 3 ∨ j = 4 ∨ j = 5 ∨ j = 6 ∨ j = 7 by omega) with rfl | rfl | rfl | rfl | rfl | rfl | rfl | rfl <;> exact hs _ (by decide +kernel))
      (fun j hj => by
        have hj7 : j < 7 := hj
        rcases (show j = 0 ∨ j = 1 ∨ j = 2 ∨ j = 3 ∨ j = 4 ∨ j = 5 ∨ j = 6 by omega) with rfl | rfl | rfl | rfl | rfl | rfl | rfl <;> exact hs _ (by decide +kernel)))
    (fun i j hi hj hij => by
      rcases (show i = 0 ∨ i = 1 by omega) with rfl | rfl
      · have hj1 : j = 1 := by omega
        subst hj1
        exact Or.inl (hs _ (by decide +kernel))
      · have hj0 : j = 0 := by omega
        subst hj0
        exact Or.inr (hs _ (by decide +kernel)))
    hA
  refine ⟨kk, vv, fun ad e1 e2 e3 e4 => ⟨st_nest hts, ⟨two ?_ ?_, fun i j hi hj e => ?_⟩, ?_, ?_, va_Zof (hts _ (List.mem_of_getElem? (i := 639) (by decide +kernel))) (hts _ (List.mem_of_getElem? (i := 108) (by decide +kernel))) (va_eqt (hs _ (by decide +kernel))) hA⟩⟩
  · have h := hE.1 0 (by omega)
    rw [← e1, ← e3] at h
    exact h
  · have h := hE.1 1 (by omega)
    rw [← e2, ← e4] at h
    exact h
  · rcases (show i = 0 ∨ i = 1 by omega) with rfl | rfl <;> rcases (show j = 0 ∨ j = 1 by omega) with rfl | rfl
    · rfl
    · exact hE.2 0 1 (by omega) (by omega) (by rw [← e1, ← e2]; exact e)
    · exact hE.2 1 0 (by omega) (by omega) (by rw [← e1, ← e2]; exact e)
    · rfl
  · rw [e1]
    exact vk_R.of (hts _ (List.mem_of_getElem? (i := 625) (by decide +kernel))) (hT 0 (by omega))
  · rw [e2]
    exact vk_R.of (hts _ (List.mem_of_getElem? (i := 732) (by decide +kernel))) (hT 1 (by omega))
