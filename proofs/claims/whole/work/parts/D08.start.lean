/-! THE START: the numbers' addresses, the memory, the world as the constructors leave it -/
abbrev S10 : Type := ((Nat → Nat) × (Nat → Nat) × (Nat → Nat) × (Nat → Nat) × (Nat → Nat) × (Nat → Nat) × (Nat → Nat) × (Nat → Nat) × (Nat → Nat) × (Nat → Nat) × ((Nat → Nat) × (Nat → Nat)) × ((Nat → Nat) × (Nat → Nat)) × ((Nat → Nat) × (Nat → Nat)) × (Nat → Nat))
def adS0 (a : Nat) (u : S10) (b : Nat) (v : Nat → Nat) (c sc : Nat) (kk vv : Nat → Nat) : Nat → Nat := fun i =>
  if i < 28 then (match i with | 0 => a | 1 => u.1 14 | 2 => u.1 1 | 3 => u.2.1 1 | 4 => u.1 2 | 5 => u.2.2.1 1 | 6 => u.1 7 | 7 => u.1 8 | 8 => u.2.2.2.2.2.2.2.2.1 1 | 9 => u.2.2.2.2.2.2.2.2.1 2 | 10 => u.1 9 | 11 => u.2.2.2.2.2.2.2.2.2.1 1 | 12 => u.2.2.2.2.2.2.2.2.2.1 2 | 13 => u.2.2.2.2.2.2.2.2.2.1 3 | 14 => u.1 10 | 15 => u.1 12 | 16 => u.2.2.2.2.2.2.2.2.2.2.2.2.1.1 2 | 17 => u.1 13 | 18 => u.2.2.2.2.2.2.2.2.2.2.2.2.2 1 | 19 => u.1 11 | 20 => u.2.2.2.2.2.2.2.2.2.2.2.1.1 2 | 21 => u.2.2.2.2.2.2.2.2.2.2.2.1.1 3 | 22 => u.2.2.2.2.2.2.2.2.2.2.2.1.1 4 | 23 => u.2.2.2.2.2.2.2.2.2.2.2.1.1 5 | 24 => u.2.2.2.2.2.2.2.2.2.2.2.1.1 6 | 25 => u.2.2.2.2.2.2.2.2.2.2.2.1.1 7 | 26 => u.2.2.2.2.2.2.2.2.2.2.2.1.1 8 | _ => u.2.2.2.2.2.2.2.2.2.2.2.1.1 9)
  else if i < 44 then (if i = 28 then u.1 3 else u.2.2.2.1 (i - 28))
  else if i < 60 then (if i = 44 then u.1 4 else u.2.2.2.2.1 (i - 44))
  else if i < 76 then (if i = 60 then u.1 5 else u.2.2.2.2.2.1 (i - 60))
  else if i < 92 then (if i = 76 then u.1 6 else u.2.2.2.2.2.2.1 (i - 76))
  else if i < 108 then (if i = 92 then u.2.2.2.2.2.2.2.2.2.2.1.1 1 else u.2.2.2.2.2.2.2.2.2.2.1.2 (i - 92))
  else if i < 124 then (if i = 108 then u.2.2.2.2.2.2.2.2.2.2.2.1.1 1 else u.2.2.2.2.2.2.2.2.2.2.2.1.2 (i - 108))
  else if i < 140 then (if i = 124 then u.2.2.2.2.2.2.2.2.2.2.2.2.1.1 1 else u.2.2.2.2.2.2.2.2.2.2.2.2.1.2 (i - 124))
  else if i = 140 then b else if i < 176 then v (i - 140) else if i = 176 then c else if i = 181 then sc else if i < 179 then kk (i - 177) else vv (i - 179)
def mem0I : Nat → Nat → Int32 := fun i =>
  if 28 ≤ i ∧ i < 140 then (if (i - 28) % 16 = 0 then (fun j => if j = 19 then 1 else 0) else if (i - 28) % 16 = 15 then upd (fun _ => 0) (Int32.toNatClampNeg 1) 1 else fun _ => 0)
  else if i = 140 then (fun j => if j = 16 then 1 else if j = 29 then -1 else 0)
  else if i = 153 then upd (upd (upd (upd (fun _ => 0) (Int32.toNatClampNeg 0) 0) (Int32.toNatClampNeg 1) 1) (Int32.toNatClampNeg 2) 0) (Int32.toNatClampNeg 3) 0
  else fun _ => 0
def mem0 : Mem := (mem0I, fun _ _ => 0, 0)
def enF (ad : Nat → Nat) (cA : Nat → ClassId) : Nat → Nat × va_E := fun i => (ad i, cellOf ad cA mem0 i)
def od10 : List Nat := [0, 2, 3, 4, 5, 28, 29, 30, 31, 32, 33, 34, 35, 36, 37, 38, 39, 40, 41, 42, 43, 44, 45, 46, 47, 48, 49, 50, 51, 52, 53, 54, 55, 56, 57, 58, 59, 60, 61, 62, 63, 64, 65, 66, 67, 68, 69, 70, 71, 72, 73, 74, 75, 76, 77, 78, 79, 80, 81, 82, 83, 84, 85, 86, 87, 88, 89, 90, 91, 6, 7, 8, 9, 10, 11, 12, 13, 14, 92, 93, 94, 95, 96, 97, 98, 99, 100, 101, 102, 103, 104, 105, 106, 107, 19, 108, 109, 110, 111, 112, 113, 114, 115, 116, 117, 118, 119, 120, 121, 122, 123, 20, 21, 22, 23, 24, 25, 26, 27, 15, 124, 125, 126, 127, 128, 129, 130, 131, 132, 133, 134, 135, 136, 137, 138, 139, 16, 17, 18, 1]
def od11 : List Nat := [140, 141, 142, 143, 144, 145, 146, 147, 148, 149, 150, 151, 152, 153, 154, 155, 156, 157, 158, 159, 160, 161, 162, 163, 164, 165, 166, 167, 168, 169, 170, 171, 172, 173, 174, 175]
def odA : List Nat := od10 ++ (od11 ++ [176])
section
variable {a : Nat} {u : S10} {b : Nat} {v : Nat → Nat} {c sc : Nat} {kk vv : Nat → Nat} {cA : Nat → ClassId}
set_option maxRecDepth 100000 in
set_option maxHeartbeats 4000000 in
theorem wb_28 : wdX8 cA (u.1 3) (u.2.2.2.1) = ([28, 29, 30, 31, 32, 33, 34, 35, 36, 37, 38, 39, 40, 41, 42, 43] : List Nat).map (enF (adS0 a u b v c sc kk vv) cA) := rfl
set_option maxRecDepth 100000 in
set_option maxHeartbeats 4000000 in
theorem wb_44 : wdX8 cA (u.1 4) (u.2.2.2.2.1) = ([44, 45, 46, 47, 48, 49, 50, 51, 52, 53, 54, 55, 56, 57, 58, 59] : List Nat).map (enF (adS0 a u b v c sc kk vv) cA) := rfl
set_option maxRecDepth 100000 in
set_option maxHeartbeats 4000000 in
theorem wb_60 : wdX8 cA (u.1 5) (u.2.2.2.2.2.1) = ([60, 61, 62, 63, 64, 65, 66, 67, 68, 69, 70, 71, 72, 73, 74, 75] : List Nat).map (enF (adS0 a u b v c sc kk vv) cA) := rfl
set_option maxRecDepth 100000 in
set_option maxHeartbeats 4000000 in
theorem wb_76 : wdX8 cA (u.1 6) (u.2.2.2.2.2.2.1) = ([76, 77, 78, 79, 80, 81, 82, 83, 84, 85, 86, 87, 88, 89, 90, 91] : List Nat).map (enF (adS0 a u b v c sc kk vv) cA) := rfl
set_option maxRecDepth 100000 in
set_option maxHeartbeats 4000000 in
theorem wb_92 : wdX8 cA (u.2.2.2.2.2.2.2.2.2.2.1.1 1) (u.2.2.2.2.2.2.2.2.2.2.1.2) = ([92, 93, 94, 95, 96, 97, 98, 99, 100, 101, 102, 103, 104, 105, 106, 107] : List Nat).map (enF (adS0 a u b v c sc kk vv) cA) := rfl
set_option maxRecDepth 100000 in
set_option maxHeartbeats 4000000 in
theorem wb_108 : wdX8 cA (u.2.2.2.2.2.2.2.2.2.2.2.1.1 1) (u.2.2.2.2.2.2.2.2.2.2.2.1.2) = ([108, 109, 110, 111, 112, 113, 114, 115, 116, 117, 118, 119, 120, 121, 122, 123] : List Nat).map (enF (adS0 a u b v c sc kk vv) cA) := rfl
set_option maxRecDepth 100000 in
set_option maxHeartbeats 4000000 in
theorem wb_124 : wdX8 cA (u.2.2.2.2.2.2.2.2.2.2.2.2.1.1 1) (u.2.2.2.2.2.2.2.2.2.2.2.2.1.2) = ([124, 125, 126, 127, 128, 129, 130, 131, 132, 133, 134, 135, 136, 137, 138, 139] : List Nat).map (enF (adS0 a u b v c sc kk vv) cA) := rfl
set_option maxRecDepth 100000 in
set_option maxHeartbeats 4000000 in
theorem wb_X6 : wdX6 cA (u.1 1) (u.2.1) = ([2, 3] : List Nat).map (enF (adS0 a u b v c sc kk vv) cA) := rfl
set_option maxRecDepth 100000 in
set_option maxHeartbeats 4000000 in
theorem wb_X7 : wdX7 cA (u.1 2) (u.2.2.1) = ([4, 5] : List Nat).map (enF (adS0 a u b v c sc kk vv) cA) := rfl
set_option maxRecDepth 100000 in
set_option maxHeartbeats 4000000 in
theorem wb_X9 : wdX9 cA (u.1 7) (u.2.2.2.2.2.2.2.1) = ([6] : List Nat).map (enF (adS0 a u b v c sc kk vv) cA) := rfl
set_option maxRecDepth 100000 in
set_option maxHeartbeats 4000000 in
theorem wb_X3 : wdX3 cA (u.1 8) (u.2.2.2.2.2.2.2.2.1) = ([7, 8, 9] : List Nat).map (enF (adS0 a u b v c sc kk vv) cA) := rfl
set_option maxRecDepth 100000 in
set_option maxHeartbeats 4000000 in
theorem wb_X4 : wdX4 cA (u.1 9) (u.2.2.2.2.2.2.2.2.2.1) = ([10, 11, 12, 13] : List Nat).map (enF (adS0 a u b v c sc kk vv) cA) := rfl
set_option maxRecDepth 100000 in
set_option maxHeartbeats 4000000 in
theorem wb_X0 : wdX0 cA (u.1 13) (u.2.2.2.2.2.2.2.2.2.2.2.2.2) = ([17, 18] : List Nat).map (enF (adS0 a u b v c sc kk vv) cA) := rfl
set_option maxRecDepth 100000 in
set_option maxHeartbeats 4000000 in
theorem wb_X1 : wdX1 cA (u.1 10) (u.2.2.2.2.2.2.2.2.2.2.1) = ([14, 92, 93, 94, 95, 96, 97, 98, 99, 100, 101, 102, 103, 104, 105, 106, 107] : List Nat).map (enF (adS0 a u b v c sc kk vv) cA) := by
  unfold wdX1
  rw [wb_92 (a := a) (b := b) (v := v) (c := c) (sc := sc) (kk := kk) (vv := vv)]
  rfl
set_option maxRecDepth 100000 in
set_option maxHeartbeats 4000000 in
theorem wb_X5 : wdX5 cA (u.1 11) (u.2.2.2.2.2.2.2.2.2.2.2.1) = ([19, 108, 109, 110, 111, 112, 113, 114, 115, 116, 117, 118, 119, 120, 121, 122, 123, 20, 21, 22, 23, 24, 25, 26, 27] : List Nat).map (enF (adS0 a u b v c sc kk vv) cA) := by
  unfold wdX5
  rw [wb_108 (a := a) (b := b) (v := v) (c := c) (sc := sc) (kk := kk) (vv := vv)]
  rfl
set_option maxRecDepth 100000 in
set_option maxHeartbeats 4000000 in
theorem wb_X2 : wdX2 cA (u.1 12) (u.2.2.2.2.2.2.2.2.2.2.2.2.1) = ([15, 124, 125, 126, 127, 128, 129, 130, 131, 132, 133, 134, 135, 136, 137, 138, 139, 16] : List Nat).map (enF (adS0 a u b v c sc kk vv) cA) := by
  unfold wdX2
  rw [wb_124 (a := a) (b := b) (v := v) (c := c) (sc := sc) (kk := kk) (vv := vv)]
  rfl
set_option maxRecDepth 100000 in
set_option maxHeartbeats 4000000 in
theorem wb_X10 : wdX10 cA a u = od10.map (enF (adS0 a u b v c sc kk vv) cA) := by
  unfold wdX10
  rw [wb_X6 (a := a) (b := b) (v := v) (c := c) (sc := sc) (kk := kk) (vv := vv), wb_X7 (a := a) (b := b) (v := v) (c := c) (sc := sc) (kk := kk) (vv := vv), wb_28 (a := a) (b := b) (v := v) (c := c) (sc := sc) (kk := kk) (vv := vv), wb_44 (a := a) (b := b) (v := v) (c := c) (sc := sc) (kk := kk) (vv := vv), wb_60 (a := a) (b := b) (v := v) (c := c) (sc := sc) (kk := kk) (vv := vv), wb_76 (a := a) (b := b) (v := v) (c := c) (sc := sc) (kk := kk) (vv := vv), wb_X9 (a := a) (b := b) (v := v) (c := c) (sc := sc) (kk := kk) (vv := vv), wb_X3 (a := a) (b := b) (v := v) (c := c) (sc := sc) (kk := kk) (vv := vv), wb_X4 (a := a) (b := b) (v := v) (c := c) (sc := sc) (kk := kk) (vv := vv), wb_X1 (a := a) (b := b) (v := v) (c := c) (sc := sc) (kk := kk) (vv := vv), wb_X5 (a := a) (b := b) (v := v) (c := c) (sc := sc) (kk := kk) (vv := vv), wb_X2 (a := a) (b := b) (v := v) (c := c) (sc := sc) (kk := kk) (vv := vv), wb_X0 (a := a) (b := b) (v := v) (c := c) (sc := sc) (kk := kk) (vv := vv)]
  rfl
theorem wb_out : [(c, (Sum.inl (cA 1, 1, .inr (.inl fun _ => 0)) : va_E))] = ([176] : List Nat).map (enF (adS0 a u b v c sc kk vv) cA) := rfl
end
theorem od_all : ∀ k, k < 177 → k ∈ odA := by decide +kernel
theorem od_P {D : va_G} {ad : Nat → Nat} {cA : Nat → ClassId} {H : Heap} (h : va_P D vwCl (odA.map (enF ad cA)) H) : va_P D vwCl (wsOf ad cA mem0) H := by
  intro k q hk
  have hk1 : k < 177 := by
    have := (List.getElem?_eq_some_iff.mp hk).1
    simpa [wsOf, NID] using this
  rw [ws_get hk1] at hk
  obtain ⟨j, hj⟩ := List.getElem?_of_mem (od_all k hk1)
  exact h j q (by rw [List.getElem?_map, hj]; exact hk)
theorem od_inj {A : Nat → Prop} {ad : Nat → Nat} {cA : Nat → ClassId} (h : va_D A (odA.map (enF ad cA))) : injAd ad ∧ ∀ i, i < NID → A (ad i) := by
  have g : ∀ i, i < 177 → ∃ j, odA[j]? = some i ∧ (odA.map (enF ad cA))[j]? = some (enF ad cA i) := fun i hi => by
    obtain ⟨j, hj⟩ := List.getElem?_of_mem (od_all i hi)
    exact ⟨j, hj, by rw [List.getElem?_map, hj]; rfl⟩
  refine ⟨fun i j hi hj e => ?_, fun i hi => ?_⟩
  · obtain ⟨x, x1, x2⟩ := g i hi
    obtain ⟨y, y1, y2⟩ := g j hj
    have hxy := h.1 x y _ _ x2 y2 e
    rw [hxy, y1] at x1
    exact (Option.some.inj x1).symm
  · obtain ⟨x, -, x2⟩ := g i hi
    exact h.2 x _ x2
