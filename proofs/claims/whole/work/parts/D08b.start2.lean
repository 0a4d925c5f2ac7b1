section
variable {a : Nat} {u : S10} {b : Nat} {v : Nat → Nat} {c sc : Nat} {kk vv : Nat → Nat} {cA : Nat → ClassId}
theorem w11f_0 : fvl (adS0 a u b v c sc kk vv) mem0 140 11 0 = .int 0 := rfl
theorem w11f_1 : fvl (adS0 a u b v c sc kk vv) mem0 140 11 1 = .ref (v 1) := rfl
theorem w11f_2 : fvl (adS0 a u b v c sc kk vv) mem0 140 11 2 = .ref (v 2) := rfl
theorem w11f_3 : fvl (adS0 a u b v c sc kk vv) mem0 140 11 3 = .ref (v 3) := rfl
theorem w11f_4 : fvl (adS0 a u b v c sc kk vv) mem0 140 11 4 = .ref (v 4) := rfl
theorem w11f_5 : fvl (adS0 a u b v c sc kk vv) mem0 140 11 5 = .ref (v 5) := rfl
theorem w11f_6 : fvl (adS0 a u b v c sc kk vv) mem0 140 11 6 = .ref (v 6) := rfl
theorem w11f_7 : fvl (adS0 a u b v c sc kk vv) mem0 140 11 7 = .int 0 := rfl
theorem w11f_8 : fvl (adS0 a u b v c sc kk vv) mem0 140 11 8 = .ref (v 7) := rfl
theorem w11f_9 : fvl (adS0 a u b v c sc kk vv) mem0 140 11 9 = .ref (v 8) := rfl
theorem w11f_10 : fvl (adS0 a u b v c sc kk vv) mem0 140 11 10 = .ref (v 9) := rfl
theorem w11f_11 : fvl (adS0 a u b v c sc kk vv) mem0 140 11 11 = .ref (v 10) := rfl
theorem w11f_12 : fvl (adS0 a u b v c sc kk vv) mem0 140 11 12 = .ref (v 11) := rfl
theorem w11f_13 : fvl (adS0 a u b v c sc kk vv) mem0 140 11 13 = .ref (v 12) := rfl
theorem w11f_14 : fvl (adS0 a u b v c sc kk vv) mem0 140 11 14 = .ref (v 13) := rfl
theorem w11f_15 : fvl (adS0 a u b v c sc kk vv) mem0 140 11 15 = .int 0 := rfl
theorem w11f_16 : fvl (adS0 a u b v c sc kk vv) mem0 140 11 16 = .int (1) := rfl
theorem w11f_17 : fvl (adS0 a u b v c sc kk vv) mem0 140 11 17 = .ref (v 14) := rfl
theorem w11f_18 : fvl (adS0 a u b v c sc kk vv) mem0 140 11 18 = .int 0 := rfl
theorem w11f_19 : fvl (adS0 a u b v c sc kk vv) mem0 140 11 19 = .ref (v 15) := rfl
theorem w11f_20 : fvl (adS0 a u b v c sc kk vv) mem0 140 11 20 = .int 0 := rfl
theorem w11f_21 : fvl (adS0 a u b v c sc kk vv) mem0 140 11 21 = .int 0 := rfl
theorem w11f_22 : fvl (adS0 a u b v c sc kk vv) mem0 140 11 22 = .null := rfl
theorem w11f_23 : fvl (adS0 a u b v c sc kk vv) mem0 140 11 23 = .int 0 := rfl
theorem w11f_24 : fvl (adS0 a u b v c sc kk vv) mem0 140 11 24 = .int 0 := rfl
theorem w11f_25 : fvl (adS0 a u b v c sc kk vv) mem0 140 11 25 = .int 0 := rfl
theorem w11f_26 : fvl (adS0 a u b v c sc kk vv) mem0 140 11 26 = .int 0 := rfl
theorem w11f_27 : fvl (adS0 a u b v c sc kk vv) mem0 140 11 27 = .ref (v 16) := rfl
theorem w11f_28 : fvl (adS0 a u b v c sc kk vv) mem0 140 11 28 = .int 0 := rfl
theorem w11f_29 : fvl (adS0 a u b v c sc kk vv) mem0 140 11 29 = .int (-1) := rfl
theorem w11f_30 : fvl (adS0 a u b v c sc kk vv) mem0 140 11 30 = .int 0 := rfl
theorem w11f_31 : fvl (adS0 a u b v c sc kk vv) mem0 140 11 31 = .ref (v 17) := rfl
theorem w11f_32 : fvl (adS0 a u b v c sc kk vv) mem0 140 11 32 = .int 0 := rfl
theorem w11f_33 : fvl (adS0 a u b v c sc kk vv) mem0 140 11 33 = .ref (v 18) := rfl
theorem w11f_34 : fvl (adS0 a u b v c sc kk vv) mem0 140 11 34 = .int 0 := rfl
theorem w11f_35 : fvl (adS0 a u b v c sc kk vv) mem0 140 11 35 = .ref (v 19) := rfl
theorem w11f_36 : fvl (adS0 a u b v c sc kk vv) mem0 140 11 36 = .ref (v 20) := rfl
theorem w11f_37 : fvl (adS0 a u b v c sc kk vv) mem0 140 11 37 = .ref (v 21) := rfl
theorem w11f_38 : fvl (adS0 a u b v c sc kk vv) mem0 140 11 38 = .ref (v 22) := rfl
theorem w11f_39 : fvl (adS0 a u b v c sc kk vv) mem0 140 11 39 = .ref (v 23) := rfl
theorem w11f_40 : fvl (adS0 a u b v c sc kk vv) mem0 140 11 40 = .ref (v 24) := rfl
theorem w11f_41 : fvl (adS0 a u b v c sc kk vv) mem0 140 11 41 = .ref (v 25) := rfl
theorem w11f_42 : fvl (adS0 a u b v c sc kk vv) mem0 140 11 42 = .ref (v 26) := rfl
theorem w11f_43 : fvl (adS0 a u b v c sc kk vv) mem0 140 11 43 = .ref (v 27) := rfl
theorem w11f_44 : fvl (adS0 a u b v c sc kk vv) mem0 140 11 44 = .int 0 := rfl
theorem w11f_45 : fvl (adS0 a u b v c sc kk vv) mem0 140 11 45 = .ref (v 28) := rfl
theorem w11f_46 : fvl (adS0 a u b v c sc kk vv) mem0 140 11 46 = .int 0 := rfl
theorem w11f_47 : fvl (adS0 a u b v c sc kk vv) mem0 140 11 47 = .ref (v 29) := rfl
theorem w11f_48 : fvl (adS0 a u b v c sc kk vv) mem0 140 11 48 = .ref (v 30) := rfl
theorem w11f_49 : fvl (adS0 a u b v c sc kk vv) mem0 140 11 49 = .ref (v 31) := rfl
theorem w11f_50 : fvl (adS0 a u b v c sc kk vv) mem0 140 11 50 = .int 0 := rfl
theorem w11f_51 : fvl (adS0 a u b v c sc kk vv) mem0 140 11 51 = .int 0 := rfl
theorem w11f_52 : fvl (adS0 a u b v c sc kk vv) mem0 140 11 52 = .int 0 := rfl
theorem w11f_53 : fvl (adS0 a u b v c sc kk vv) mem0 140 11 53 = .int 0 := rfl
theorem w11f_54 : fvl (adS0 a u b v c sc kk vv) mem0 140 11 54 = .ref (v 32) := rfl
theorem w11f_55 : fvl (adS0 a u b v c sc kk vv) mem0 140 11 55 = .int 0 := rfl
theorem w11f_56 : fvl (adS0 a u b v c sc kk vv) mem0 140 11 56 = .ref (v 33) := rfl
theorem w11f_57 : fvl (adS0 a u b v c sc kk vv) mem0 140 11 57 = .ref (v 34) := rfl
theorem w11f_58 : fvl (adS0 a u b v c sc kk vv) mem0 140 11 58 = .ref (v 35) := rfl
theorem w11_140 : ((b, .inr (11, [.int 0, .ref (v 1), .ref (v 2), .ref (v 3), .ref (v 4), .ref (v 5), .ref (v 6), .int 0, .ref (v 7), .ref (v 8), .ref (v 9), .ref (v 10), .ref (v 11), .ref (v 12), .ref (v 13), .int 0, .int (1), .ref (v 14), .int 0, .ref (v 15), .int 0, .int 0, .null, .int 0, .int 0, .int 0, .int 0, .ref (v 16), .int 0, .int (-1), .int 0, .ref (v 17), .int 0, .ref (v 18), .int 0, .ref (v 19), .ref (v 20), .ref (v 21), .ref (v 22), .ref (v 23), .ref (v 24), .ref (v 25), .ref (v 26), .ref (v 27), .int 0, .ref (v 28), .int 0, .ref (v 29), .ref (v 30), .ref (v 31), .int 0, .int 0, .int 0, .int 0, .ref (v 32), .int 0, .ref (v 33), .ref (v 34), .ref (v 35)])) : Nat × va_E) = enF (adS0 a u b v c sc kk vv) cA 140 := by
  unfold enF
  rw [cell_O (i := 140) (ci := 11) (N := 59) rfl]
  rw [show (List.range 59).map (fvl (adS0 a u b v c sc kk vv) mem0 140 11) = [fvl (adS0 a u b v c sc kk vv) mem0 140 11 0, fvl (adS0 a u b v c sc kk vv) mem0 140 11 1, fvl (adS0 a u b v c sc kk vv) mem0 140 11 2, fvl (adS0 a u b v c sc kk vv) mem0 140 11 3, fvl (adS0 a u b v c sc kk vv) mem0 140 11 4, fvl (adS0 a u b v c sc kk vv) mem0 140 11 5, fvl (adS0 a u b v c sc kk vv) mem0 140 11 6, fvl (adS0 a u b v c sc kk vv) mem0 140 11 7, fvl (adS0 a u b v c sc kk vv) mem0 140 11 8, fvl (adS0 a u b v c sc kk vv) mem0 140 11 9, fvl (adS0 a u b v c sc kk vv) mem0 140 11 10, fvl (adS0 a u b v c sc kk vv) mem0 140 11 11, fvl (adS0 a u b v c sc kk vv) mem0 140 11 12, fvl (adS0 a u b v c sc kk vv) mem0 140 11 13, fvl (adS0 a u b v c sc kk vv) mem0 140 11 14, fvl (adS0 a u b v c sc kk vv) mem0 140 11 15, fvl (adS0 a u b v c sc kk vv) mem0 140 11 16, fvl (adS0 a u b v c sc kk vv) mem0 140 11 17, fvl (adS0 a u b v c sc kk vv) mem0 140 11 18, fvl (adS0 a u b v c sc kk vv) mem0 140 11 19, fvl (adS0 a u b v c sc kk vv) mem0 140 11 20, fvl (adS0 a u b v c sc kk vv) mem0 140 11 21, fvl (adS0 a u b v c sc kk vv) mem0 140 11 22, fvl (adS0 a u b v c sc kk vv) mem0 140 11 23, fvl (adS0 a u b v c sc kk vv) mem0 140 11 24, fvl (adS0 a u b v c sc kk vv) mem0 140 11 25, fvl (adS0 a u b v c sc kk vv) mem0 140 11 26, fvl (adS0 a u b v c sc kk vv) mem0 140 11 27, fvl (adS0 a u b v c sc kk vv) mem0 140 11 28, fvl (adS0 a u b v c sc kk vv) mem0 140 11 29, fvl (adS0 a u b v c sc kk vv) mem0 140 11 30, fvl (adS0 a u b v c sc kk vv) mem0 140 11 31, fvl (adS0 a u b v c sc kk vv) mem0 140 11 32, fvl (adS0 a u b v c sc kk vv) mem0 140 11 33, fvl (adS0 a u b v c sc kk vv) mem0 140 11 34, fvl (adS0 a u b v c sc kk vv) mem0 140 11 35, fvl (adS0 a u b v c sc kk vv) mem0 140 11 36, fvl (adS0 a u b v c sc kk vv) mem0 140 11 37, fvl (adS0 a u b v c sc kk vv) mem0 140 11 38, fvl (adS0 a u b v c sc kk vv) mem0 140 11 39, fvl (adS0 a u b v c sc kk vv) mem0 140 11 40, fvl (adS0 a u b v c sc kk vv) mem0 140 11 41, fvl (adS0 a u b v c sc kk vv) mem0 140 11 42, fvl (adS0 a u b v c sc kk vv) mem0 140 11 43, fvl (adS0 a u b v c sc kk vv) mem0 140 11 44, fvl (adS0 a u b v c sc kk vv) mem0 140 11 45, fvl (adS0 a u b v c sc kk vv) mem0 140 11 46, fvl (adS0 a u b v c sc kk vv) mem0 140 11 47, fvl (adS0 a u b v c sc kk vv) mem0 140 11 48, fvl (adS0 a u b v c sc kk vv) mem0 140 11 49, fvl (adS0 a u b v c sc kk vv) mem0 140 11 50, fvl (adS0 a u b v c sc kk vv) mem0 140 11 51, fvl (adS0 a u b v c sc kk vv) mem0 140 11 52, fvl (adS0 a u b v c sc kk vv) mem0 140 11 53, fvl (adS0 a u b v c sc kk vv) mem0 140 11 54, fvl (adS0 a u b v c sc kk vv) mem0 140 11 55, fvl (adS0 a u b v c sc kk vv) mem0 140 11 56, fvl (adS0 a u b v c sc kk vv) mem0 140 11 57, fvl (adS0 a u b v c sc kk vv) mem0 140 11 58] from rfl]
  rw [w11f_0, w11f_1, w11f_2, w11f_3, w11f_4, w11f_5, w11f_6, w11f_7, w11f_8, w11f_9, w11f_10, w11f_11, w11f_12, w11f_13, w11f_14, w11f_15, w11f_16, w11f_17, w11f_18, w11f_19, w11f_20, w11f_21, w11f_22, w11f_23, w11f_24, w11f_25, w11f_26, w11f_27, w11f_28, w11f_29, w11f_30, w11f_31, w11f_32, w11f_33, w11f_34, w11f_35, w11f_36, w11f_37, w11f_38, w11f_39, w11f_40, w11f_41, w11f_42, w11f_43, w11f_44, w11f_45, w11f_46, w11f_47, w11f_48, w11f_49, w11f_50, w11f_51, w11f_52, w11f_53, w11f_54, w11f_55, w11f_56, w11f_57, w11f_58]
  rfl
theorem w11_141 : ((v 1, .inl (cA 0, 8, .inl (fun _ => 0))) : Nat × va_E) = enF (adS0 a u b v c sc kk vv) cA 141 := rfl
theorem w11_142 : ((v 2, .inl (cA 0, 8, .inl (fun _ => 0))) : Nat × va_E) = enF (adS0 a u b v c sc kk vv) cA 142 := rfl
theorem w11_143 : ((v 3, .inl (cA 3, 8, .inl (fun _ => 0))) : Nat × va_E) = enF (adS0 a u b v c sc kk vv) cA 143 := rfl
theorem w11_144 : ((v 4, .inl (cA 0, 8, .inl (fun _ => 0))) : Nat × va_E) = enF (adS0 a u b v c sc kk vv) cA 144 := rfl
theorem w11_145 : ((v 5, .inl (cA 0, 8, .inl (fun _ => 0))) : Nat × va_E) = enF (adS0 a u b v c sc kk vv) cA 145 := rfl
theorem w11_146 : ((v 6, .inl (cA 0, 64, .inl (fun _ => 0))) : Nat × va_E) = enF (adS0 a u b v c sc kk vv) cA 146 := rfl
theorem w11_147 : ((v 7, .inl (cA 0, 10, .inl (fun _ => 0))) : Nat × va_E) = enF (adS0 a u b v c sc kk vv) cA 147 := rfl
theorem w11_148 : ((v 8, .inl (cA 0, 10, .inl (fun _ => 0))) : Nat × va_E) = enF (adS0 a u b v c sc kk vv) cA 148 := rfl
theorem w11_149 : ((v 9, .inl (cA 0, 10, .inl (fun _ => 0))) : Nat × va_E) = enF (adS0 a u b v c sc kk vv) cA 149 := rfl
theorem w11_150 : ((v 10, .inl (cA 0, 10, .inl (fun _ => 0))) : Nat × va_E) = enF (adS0 a u b v c sc kk vv) cA 150 := rfl
theorem w11_151 : ((v 11, .inl (cA 0, 10, .inl (fun _ => 0))) : Nat × va_E) = enF (adS0 a u b v c sc kk vv) cA 151 := rfl
theorem w11_152 : ((v 12, .inl (cA 0, 10, .inl (fun _ => 0))) : Nat × va_E) = enF (adS0 a u b v c sc kk vv) cA 152 := rfl
theorem w11_153 : ((v 13, .inl (cA 0, 4, .inl (upd (upd (upd (upd (fun _ => 0) (Int32.toNatClampNeg 0) 0) (Int32.toNatClampNeg 1) 1) (Int32.toNatClampNeg 2) 0) (Int32.toNatClampNeg 3) 0))) : Nat × va_E) = enF (adS0 a u b v c sc kk vv) cA 153 := rfl
theorem w11_154 : ((v 14, .inl (cA 2, 80, .inl (fun _ => 0))) : Nat × va_E) = enF (adS0 a u b v c sc kk vv) cA 154 := rfl
theorem w11_155 : ((v 15, .inl (cA 1, 16, .inr (.inl (fun _ => 0)))) : Nat × va_E) = enF (adS0 a u b v c sc kk vv) cA 155 := rfl
theorem w11_156 : ((v 16, .inl (cA 2, 40, .inl (fun _ => 0))) : Nat × va_E) = enF (adS0 a u b v c sc kk vv) cA 156 := rfl
theorem w11_157 : ((v 17, .inl (cA 0, 10, .inl (fun _ => 0))) : Nat × va_E) = enF (adS0 a u b v c sc kk vv) cA 157 := rfl
theorem w11_158 : ((v 18, .inl (cA 0, 18, .inl (fun _ => 0))) : Nat × va_E) = enF (adS0 a u b v c sc kk vv) cA 158 := rfl
theorem w11_159 : ((v 19, .inl (cA 0, 3000, .inl (fun _ => 0))) : Nat × va_E) = enF (adS0 a u b v c sc kk vv) cA 159 := rfl
theorem w11_160 : ((v 20, .inl (cA 0, 24000, .inl (fun _ => 0))) : Nat × va_E) = enF (adS0 a u b v c sc kk vv) cA 160 := rfl
theorem w11_161 : ((v 21, .inl (cA 0, 240000, .inl (fun _ => 0))) : Nat × va_E) = enF (adS0 a u b v c sc kk vv) cA 161 := rfl
theorem w11_162 : ((v 22, .inl (cA 0, 3000, .inl (fun _ => 0))) : Nat × va_E) = enF (adS0 a u b v c sc kk vv) cA 162 := rfl
theorem w11_163 : ((v 23, .inl (cA 0, 3000, .inl (fun _ => 0))) : Nat × va_E) = enF (adS0 a u b v c sc kk vv) cA 163 := rfl
theorem w11_164 : ((v 24, .inl (cA 0, 3000, .inl (fun _ => 0))) : Nat × va_E) = enF (adS0 a u b v c sc kk vv) cA 164 := rfl
theorem w11_165 : ((v 25, .inl (cA 0, 3000, .inl (fun _ => 0))) : Nat × va_E) = enF (adS0 a u b v c sc kk vv) cA 165 := rfl
theorem w11_166 : ((v 26, .inl (cA 1, 3000, .inr (.inl (fun _ => 0)))) : Nat × va_E) = enF (adS0 a u b v c sc kk vv) cA 166 := rfl
theorem w11_167 : ((v 27, .inl (cA 3, 3000, .inl (fun _ => 0))) : Nat × va_E) = enF (adS0 a u b v c sc kk vv) cA 167 := rfl
theorem w11_168 : ((v 28, .inl (cA 0, 8192, .inl (fun _ => 0))) : Nat × va_E) = enF (adS0 a u b v c sc kk vv) cA 168 := rfl
theorem w11_169 : ((v 29, .inl (cA 0, 8, .inl (fun _ => 0))) : Nat × va_E) = enF (adS0 a u b v c sc kk vv) cA 169 := rfl
theorem w11_170 : ((v 30, .inl (cA 0, 10, .inl (fun _ => 0))) : Nat × va_E) = enF (adS0 a u b v c sc kk vv) cA 170 := rfl
theorem w11_171 : ((v 31, .inl (cA 0, 4, .inl (fun _ => 0))) : Nat × va_E) = enF (adS0 a u b v c sc kk vv) cA 171 := rfl
theorem w11_172 : ((v 32, .inl (cA 0, 101, .inl (fun _ => 0))) : Nat × va_E) = enF (adS0 a u b v c sc kk vv) cA 172 := rfl
theorem w11_173 : ((v 33, .inl (cA 0, 266, .inl (fun _ => 0))) : Nat × va_E) = enF (adS0 a u b v c sc kk vv) cA 173 := rfl
theorem w11_174 : ((v 34, .inl (cA 3, 2, .inl (fun _ => 0))) : Nat × va_E) = enF (adS0 a u b v c sc kk vv) cA 174 := rfl
theorem w11_175 : ((v 35, .inl (cA 0, 2, .inl (fun _ => 0))) : Nat × va_E) = enF (adS0 a u b v c sc kk vv) cA 175 := rfl
theorem wb_X11 : wdX11 cA b v = od11.map (enF (adS0 a u b v c sc kk vv) cA) := by
  unfold wdX11
  rw [w11_140 (a := a) (u := u) (b := b) (v := v) (c := c) (sc := sc) (kk := kk) (vv := vv) (cA := cA), w11_141 (a := a) (u := u) (b := b) (v := v) (c := c) (sc := sc) (kk := kk) (vv := vv) (cA := cA), w11_142 (a := a) (u := u) (b := b) (v := v) (c := c) (sc := sc) (kk := kk) (vv := vv) (cA := cA), w11_143 (a := a) (u := u) (b := b) (v := v) (c := c) (sc := sc) (kk := kk) (vv := vv) (cA := cA), w11_144 (a := a) (u := u) (b := b) (v := v) (c := c) (sc := sc) (kk := kk) (vv := vv) (cA := cA), w11_145 (a := a) (u := u) (b := b) (v := v) (c := c) (sc := sc) (kk := kk) (vv := vv) (cA := cA), w11_146 (a := a) (u := u) (b := b) (v := v) (c := c) (sc := sc) (kk := kk) (vv := vv) (cA := cA), w11_147 (a := a) (u := u) (b := b) (v := v) (c := c) (sc := sc) (kk := kk) (vv := vv) (cA := cA), w11_148 (a := a) (u := u) (b := b) (v := v) (c := c) (sc := sc) (kk := kk) (vv := vv) (cA := cA), w11_149 (a := a) (u := u) (b := b) (v := v) (c := c) (sc := sc) (kk := kk) (vv := vv) (cA := cA), w11_150 (a := a) (u := u) (b := b) (v := v) (c := c) (sc := sc) (kk := kk) (vv := vv) (cA := cA), w11_151 (a := a) (u := u) (b := b) (v := v) (c := c) (sc := sc) (kk := kk) (vv := vv) (cA := cA), w11_152 (a := a) (u := u) (b := b) (v := v) (c := c) (sc := sc) (kk := kk) (vv := vv) (cA := cA), w11_153 (a := a) (u := u) (b := b) (v := v) (c := c) (sc := sc) (kk := kk) (vv := vv) (cA := cA), w11_154 (a := a) (u := u) (b := b) (v := v) (c := c) (sc := sc) (kk := kk) (vv := vv) (cA := cA), w11_155 (a := a) (u := u) (b := b) (v := v) (c := c) (sc := sc) (kk := kk) (vv := vv) (cA := cA), w11_156 (a := a) (u := u) (b := b) (v := v) (c := c) (sc := sc) (kk := kk) (vv := vv) (cA := cA), w11_157 (a := a) (u := u) (b := b) (v := v) (c := c) (sc := sc) (kk := kk) (vv := vv) (cA := cA), w11_158 (a := a) (u := u) (b := b) (v := v) (c := c) (sc := sc) (kk := kk) (vv := vv) (cA := cA), w11_159 (a := a) (u := u) (b := b) (v := v) (c := c) (sc := sc) (kk := kk) (vv := vv) (cA := cA), w11_160 (a := a) (u := u) (b := b) (v := v) (c := c) (sc := sc) (kk := kk) (vv := vv) (cA := cA), w11_161 (a := a) (u := u) (b := b) (v := v) (c := c) (sc := sc) (kk := kk) (vv := vv) (cA := cA), w11_162 (a := a) (u := u) (b := b) (v := v) (c := c) (sc := sc) (kk := kk) (vv := vv) (cA := cA), w11_163 (a := a) (u := u) (b := b) (v := v) (c := c) (sc := sc) (kk := kk) (vv := vv) (cA := cA), w11_164 (a := a) (u := u) (b := b) (v := v) (c := c) (sc := sc) (kk := kk) (vv := vv) (cA := cA), w11_165 (a := a) (u := u) (b := b) (v := v) (c := c) (sc := sc) (kk := kk) (vv := vv) (cA := cA), w11_166 (a := a) (u := u) (b := b) (v := v) (c := c) (sc := sc) (kk := kk) (vv := vv) (cA := cA), w11_167 (a := a) (u := u) (b := b) (v := v) (c := c) (sc := sc) (kk := kk) (vv := vv) (cA := cA), w11_168 (a := a) (u := u) (b := b) (v := v) (c := c) (sc := sc) (kk := kk) (vv := vv) (cA := cA), w11_169 (a := a) (u := u) (b := b) (v := v) (c := c) (sc := sc) (kk := kk) (vv := vv) (cA := cA), w11_170 (a := a) (u := u) (b := b) (v := v) (c := c) (sc := sc) (kk := kk) (vv := vv) (cA := cA), w11_171 (a := a) (u := u) (b := b) (v := v) (c := c) (sc := sc) (kk := kk) (vv := vv) (cA := cA), w11_172 (a := a) (u := u) (b := b) (v := v) (c := c) (sc := sc) (kk := kk) (vv := vv) (cA := cA), w11_173 (a := a) (u := u) (b := b) (v := v) (c := c) (sc := sc) (kk := kk) (vv := vv) (cA := cA), w11_174 (a := a) (u := u) (b := b) (v := v) (c := c) (sc := sc) (kk := kk) (vv := vv) (cA := cA), w11_175 (a := a) (u := u) (b := b) (v := v) (c := c) (sc := sc) (kk := kk) (vv := vv) (cA := cA)]
  simp only [od11, List.nil_append, List.cons_append, List.append_assoc, List.map_cons, List.map_nil]
end
