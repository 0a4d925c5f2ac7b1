section RSTR
variable {cc : ByteArray} {own : String} {nL d : Nat} {Q : Nat → List (Option Value) → List Value → Mem → Prop} {pc : Nat} {ls : List (Option Value)} {st : List Value} {M : Mem}
theorem rx_ldsA (hdg : decode cc pc = .ok (.ldc 76, 2)) (k0 : Reach cc RX4 nL d Q (pc + 2) ls (.ref 177 :: st) M) : Reach cc RX4 nL d Q pc ls st M := by
  intro p l e R s m args below meth c H locs cells slots Z D cA ad A lr C hP hS hL kk
  exact va_ldcS C.1 C.2.1 C.2.2.2.1 C.2.2.2.2.2.2.2.2.2.1.2.2.1 hdg (k0 p l e R s m args below meth c H locs cells slots Z D cA ad A lr C hP hS hL kk)
theorem rx_ldsB (hdg : decode cc pc = .ok (.ldc 97, 2)) (k0 : Reach cc RX4 nL d Q (pc + 2) ls (.ref 178 :: st) M) : Reach cc RX4 nL d Q pc ls st M := by
  intro p l e R s m args below meth c H locs cells slots Z D cA ad A lr C hP hS hL kk
  exact va_ldcS C.1 C.2.1 C.2.2.2.1 C.2.2.2.2.2.2.2.2.2.1.2.2.2.1 hdg (k0 p l e R s m args below meth c H locs cells slots Z D cA ad A lr C hP hS hL kk)
theorem rx_sgs (hdg : decode cc pc = .ok (.getstatic 38, 3)) (k0 : Reach cc RJ0 nL d Q (pc + 3) ls (.int 1 :: st) M) : Reach cc RJ0 nL d Q pc ls st M := by
  intro p l e R s m args below meth c H locs cells slots Z D cA ad A lr C hP hS hL kk
  exact va_gets C.1 C.2.1 C.2.2.2.2.2.2.2.2.2.1.2.2.2.2 hS C.2.2.2.1 (C.2.2.2.2.1 _ (gt_in (List.mem_of_getElem? (i := 638) (by decide +kernel)) rfl)) (fun _ h => h) hdg (k0 p l e R s m args below meth c H locs cells slots Z D cA ad A lr C hP hS hL kk)
theorem rx_scoder {i : Nat} (hi : i < 2) (hdg : decode cc pc = .ok (.getfield 15, 3)) (k0 : Reach cc RJ0 nL d Q (pc + 3) ls (.int 0 :: st) M) : Reach cc RJ0 nL d Q pc ls (.ref (177 + i) :: st) M := by
  intro p l e R s m args below meth c H locs cells slots Z D cA ad A lr C hP hS hL kk
  exact vk_getf C.1 C.2.1 (C.2.2.2.2.2.2.2.2.2.1.2.1.1 i hi).2.1 hS C.2.2.2.1 (C.2.2.2.2.1 _ (gt_in (List.mem_of_getElem? (i := 2030) (by decide +kernel)) rfl)) (fun _ h => h) hdg (k0 p l e R s m args below meth c H locs cells slots Z D cA ad A lr C hP hS hL kk)
theorem rx_svalue {i : Nat} (hi : i < 2) (hdg : decode cc pc = .ok (.getfield 9, 3)) (k0 : Reach cc RJ0 nL d Q (pc + 3) ls (.ref (179 + i) :: st) M) : Reach cc RJ0 nL d Q pc ls (.ref (177 + i) :: st) M := by
  intro p l e R s m args below meth c H locs cells slots Z D cA ad A lr C hP hS hL kk
  exact vk_getf C.1 C.2.1 (C.2.2.2.2.2.2.2.2.2.1.2.1.1 i hi).2.2.1 hS C.2.2.2.1 (C.2.2.2.2.1 _ (gt_in (List.mem_of_getElem? (i := 2031) (by decide +kernel)) rfl)) (fun _ h => h) hdg (k0 p l e R s m args below meth c H locs cells slots Z D cA ad A lr C hP hS hL kk)
theorem rx_slen {i : Nat} (hi : i < 2) (hdg : decode cc pc = .ok (.arraylength, 1)) (k0 : Reach cc own nL d Q (pc + 1) ls (.int (nI (strL.getD i 0)) :: st) M) : Reach cc own nL d Q pc ls (.ref (179 + i) :: st) M := by
  intro p l e R s m args below meth c H locs cells slots Z D cA ad A lr C hP hS hL kk
  exact va_tlen C.1 C.2.1 (C.2.2.2.2.2.2.2.2.2.1.2.1.1 i hi).2.2.2 hS rfl hdg (k0 p l e R s m args below meth c H locs cells slots Z D cA ad A lr C hP hS hL kk)
theorem rx_sbald {i k : Nat} (hi : i < 2) (hk : k < strL.getD i 0) (hdg : decode cc pc = .ok (.baload, 1)) (k0 : Reach cc own nL d Q (pc + 1) ls (.int ((strB.getD i []).getD k 0) :: st) M) : Reach cc own nL d Q pc ls (.int (nI k) :: .ref (179 + i) :: st) M := by
  intro p l e R s m args below meth c H locs cells slots Z D cA ad A lr C hP hS hL kk
  have h16 : strL.getD i 0 < 2 ^ 31 := by rcases (show i = 0 ∨ i = 1 by omega) with rfl | rfl <;> decide
  exact va_tb C.1 C.2.1 (C.2.2.2.2.2.2.2.2.2.1.2.1.1 i hi).2.2.2 hS (vp_in_nI hk h16) (by rw [nI_clamp (by omega)]; rfl) hdg (k0 p l e R s m args below meth c H locs cells slots Z D cA ad A lr C hP hS hL kk)
theorem rx_callT {y : MethodName} {b' : ByteArray} {nL' n d' i idx : Nat} {ret : Option FieldType} {As rest st0 : List Value} {P : Option Value → Mem → Prop} (hm : MthV y b' nL' ret n) (hl : LnkOK own idx y) (h : Con y b' nL' ret d' (.ref (177 + i) :: As) M P) (hd : d' + 1 ≤ d) (hst : As.reverse ++ .ref (177 + i) :: rest = st0) (hn : As.length = n) (hW : (rest.map Value.category).sum ≤ 8) (hi : i < 2) (hC : y.cls = "java/lang/String") (hdg : decode cc pc = .ok (.invokevirtual idx, 3))
    (kk0 : ∀ v M', P v M' → Reach cc own nL d Q (pc + 3) ls (v.toList ++ rest) M') : Reach cc own nL d Q pc ls st0 M := by
  intro p l e R s m args below meth c H locs cells slots Z D cA ad A lr C hP hS hL kk
  subst hst
  obtain ⟨hx, hb, hml, hown, hts, hlk, hK, hinj, hA, hX, hR, hc1, hc2⟩ := id C
  obtain ⟨⟨m1, m2, m3, m4⟩, m5, m6⟩ := hm
  have hXH : SX ad (inW ad) s H := (hX.kept (fun a ha hna => hS.2.1 a ha hna)).narrow (fun q hq => by obtain ⟨i, hi, rfl⟩ := hq; exact hA i hi)
  have hrecv := vk_recv hX.2.1 hi hS
  rw [← hC] at hrecv
  have hpre : PreV s H y.cls (ad (177 + i)) (va_Pc ((Value.ref (177 + i) :: As).map (rv ad)) (fun U => va_P D vwCl (wsOf ad cA M) U.heap ∧ va_K D vwCl (tysOf cA) U ∧ SX ad (inW ad) U U.heap)) (As.map (rv ad)) :=
    ⟨Pc_blind, hrecv, fun U hU hWm => ⟨rfl, by rw [hU]; exact hP, va_K.moved hWm.alike hK, by rw [hU]; exact hXH.warm hWm⟩⟩
  have hroom : (rmD d').frames + 1 ≤ R.frames ∧ 8 + (nL' + 11) + (rmD d').locals ≤ R.locals := by
    refine ⟨Nat.le_trans hd hR.1, Nat.le_trans ?_ hR.2⟩
    show 8 + (nL' + 11) + 64 * d' ≤ 64 * d
    omega
  have hsz : lr.size = nL := by obtain ⟨lv, g1, -⟩ := hL; exact g1.1
  have hstk : (As.reverse ++ Value.ref (177 + i) :: rest).map (rv ad) = (As.map (rv ad)).reverse ++ .ref (ad (177 + i)) :: rest.map (rv ad) := by simp [rv]
  have hcat : ((rest.map (rv ad)).map fun v => v.category).sum ≤ 8 := by
    rw [List.map_map]
    have : (fun v : Value => v.category) ∘ rv ad = Value.category := funext fun v => rv_cat ad v
    rw [this]; exact hW
  rw [hstk]
  rcases hl with h1 | ⟨host, h1⟩
  · exact rx_after (P := P) C hS hL (va_runV (As := As.map (rv ad)) (rest := rest.map (rv ad)) ⟨hx, hb, hml, hown, hts⟩ (h l D cA ad hinj) ⟨callB_of n hts (gt_code m1) rfl rfl rfl (hts _ (gt_in m2 rfl)) (hts _ (gt_in h1 rfl)) m3 hroom, hts _ (gt_in m5 rfl), hts _ (gt_in m6 rfl)⟩ hpre rfl (by simpa using hn) hsz rfl (lv_room hcat) hdg ⟨hc1, hc2⟩) kk0 kk
  · exact rx_after (P := P) C hS hL (va_runVN (As := As.map (rv ad)) (rest := rest.map (rv ad)) ⟨hx, hb, hml, hown, hts⟩ (h l D cA ad hinj) ⟨va_cnB n hts (gt_code m1) rfl rfl rfl (hX.1 _ h1 rfl) (hts _ (gt_in m2 rfl)) m3 hroom, hts _ (gt_in m5 rfl), hts _ (gt_in m6 rfl)⟩ hpre rfl (by simpa using hn) hsz rfl (lv_room hcat) hdg ⟨hc1, hc2⟩) kk0 kk

theorem rx_ctI {x : Int32} {M' : Mem} {y : MethodName} {b' : ByteArray} {nL' n d' i idx : Nat} {ret : Option FieldType} {As rest st0 : List Value} (hm : MthV y b' nL' ret n) (hl : LnkOK own idx y) (h : Fun y b' nL' ret d' (.ref (177 + i) :: As) M (some (.int x)) M') (hd : d' + 1 ≤ d) (hst : As.reverse ++ .ref (177 + i) :: rest = st0) (hn : As.length = n) (hW : (rest.map Value.category).sum ≤ 8) (hi : i < 2) (hC : y.cls = "java/lang/String") (hdg : decode cc pc = .ok (.invokevirtual idx, 3)) (k0 : Reach cc own nL d Q (pc + 3) ls (.int x :: rest) M') : Reach cc own nL d Q pc ls st0 M :=
  rx_callT hm hl h hd hst hn hW hi hC hdg (fun w N e => by obtain ⟨rfl, rfl⟩ := e; exact k0)
end RSTR
theorem drop_getD {l : List Int32} {j : Nat} (h : j < l.length) : l.drop j = l.getD j 0 :: l.drop (j + 1) := by
  rw [List.drop_eq_getElem_cons h]
  simp [List.getElem?_eq_getElem h]
/-- where a byte stands in a list -/
def ixF (b : Int32) : List Int32 → Nat → Int32
  | [], _ => -1
  | x :: l, j => if x = b then nI j else ixF b l (j + 1)
def strIx (i : Nat) (c : Int32) : Int32 := ixF c.toInt8.toInt32 (strB.getD i []) 0
theorem strL_B : ∀ i, i < 2 → strL.getD i 0 = (strB.getD i []).length ∧ strL.getD i 0 ≤ 8 := by decide +kernel
set_option maxRecDepth 100000 in
set_option maxHeartbeats 4000000 in
theorem c_J0_coder_7d493 {M : Mem} {i : Nat} (hi : i < 2) : Fun yJ0_coder_7d493 cJ0_coder_7d493 1 (some .byte) 0 [.ref (177 + i)] M (some (.int 0)) M := by
  refine Fun.of (own := RJ0) ([some (.ref (177 + i))]) rfl (by decide +kernel) (Nat.le_of_ble_eq_true rfl) rfl ?_
  refine rx_sgs dJ0_coder_7d493_0 ?_
  refine rx_if_eq (tgt := 13) dJ0_coder_7d493_3 (by decide) (fun c3 => absurd c3 (by decide)) (fun c3 => ?_)
  refine rx_aload_n (i := 0) dJ0_coder_7d493_6 rfl rfl ?_
  refine rx_scoder hi dJ0_coder_7d493_7 ?_
  refine rx_goto (tgt := 14) dJ0_coder_7d493_10 (by decide) ?_
  exact Reach.here ⟨some (.int 0), rfl, ⟨rfl, rfl⟩, 0, rfl, rfl, dJ0_coder_7d493_14⟩
set_option maxRecDepth 100000 in
set_option maxHeartbeats 4000000 in
theorem c_J0_isLatin1_aae02 {M : Mem} {i : Nat} (hi : i < 2) : Fun yJ0_isLatin1_aae02 cJ0_isLatin1_aae02 1 (some .boolean) 0 [.ref (177 + i)] M (some (.int 1)) M := by
  refine Fun.of (own := RJ0) ([some (.ref (177 + i))]) rfl (by decide +kernel) (Nat.le_of_ble_eq_true rfl) rfl ?_
  refine rx_sgs dJ0_isLatin1_aae02_0 ?_
  refine rx_if_eq (tgt := 17) dJ0_isLatin1_aae02_3 (by decide) (fun c3 => absurd c3 (by decide)) (fun c3 => ?_)
  refine rx_aload_n (i := 0) dJ0_isLatin1_aae02_6 rfl rfl ?_
  refine rx_scoder hi dJ0_isLatin1_aae02_7 ?_
  refine rx_if_ne (tgt := 17) dJ0_isLatin1_aae02_10 (by decide) (fun c10 => absurd rfl c10) (fun c10 => ?_)
  refine rx_iconst (1) dJ0_isLatin1_aae02_13 rfl ?_
  refine rx_goto (tgt := 18) dJ0_isLatin1_aae02_14 (by decide) ?_
  exact rx_fiZ dJ0_isLatin1_aae02_18 (Or.inr rfl) rfl rfl
set_option maxRecDepth 100000 in
set_option maxHeartbeats 4000000 in
theorem c_J0_length_8abf5 {M : Mem} {i : Nat} (hi : i < 2) : Fun yJ0_length_8abf5 cJ0_length_8abf5 1 (some .int) 1 [.ref (177 + i)] M (some (.int (nI (strL.getD i 0)))) M := by
  refine Fun.of (own := RJ0) ([some (.ref (177 + i))]) rfl (by decide +kernel) (Nat.le_of_ble_eq_true rfl) rfl ?_
  refine rx_aload_n (i := 0) dJ0_length_8abf5_0 rfl rfl ?_
  refine rx_svalue hi dJ0_length_8abf5_1 ?_
  refine rx_slen hi dJ0_length_8abf5_4 ?_
  refine rx_aload_n (i := 0) dJ0_length_8abf5_5 rfl rfl ?_
  refine rx_ctI mo_J0_coder_7d493 lk_J0_335 (c_J0_coder_7d493 hi) (by decide) rfl rfl (Nat.le_of_ble_eq_true rfl) hi rfl dJ0_length_8abf5_6 ?_
  refine rx_ishr dJ0_length_8abf5_9 ?_
  exact rx_fiI dJ0_length_8abf5_10 (sb_shr0 _) rfl
set_option maxRecDepth 100000 in
set_option maxHeartbeats 4000000 in
theorem c_J1_canEncode_9a6ad {M : Mem} {c : Int32} (h0 : 0 ≤ c) (h1 : c ≤ 255) : Fun yJ1_canEncode_9a6ad cJ1_canEncode_9a6ad 1 (some .boolean) 0 [.int c] M (some (.int 1)) (M) := by
  refine Fun.of (own := RJ1) ([some (.int c)]) rfl (by decide +kernel) (Nat.le_of_ble_eq_true rfl) rfl ?_
  refine rx_iload_n (i := 0) dJ1_canEncode_9a6ad_0 rfl rfl ?_
  refine rx_if_lt (tgt := 15) dJ1_canEncode_9a6ad_1 (by decide) (fun c1 => ?_) (fun c1 => ?_)
  · skip
    have f1 := Int32.not_le.mpr c1
    exact absurd h0 f1
  · skip
    have f1 := Int32.not_lt.mp c1
    refine rx_iload_n (i := 0) dJ1_canEncode_9a6ad_4 rfl rfl ?_
    refine rx_sipush (255) dJ1_canEncode_9a6ad_5 rfl ?_
    refine rx_icmp_gt (tgt := 15) dJ1_canEncode_9a6ad_8 (by decide) (fun c8 => ?_) (fun c8 => ?_)
    · skip
      have f8 := Int32.not_le.mpr c8
      exact absurd h1 f8
    · skip
      have f8 := Int32.not_lt.mp c8
      refine rx_iconst (1) dJ1_canEncode_9a6ad_11 rfl ?_
      refine rx_goto (tgt := 16) dJ1_canEncode_9a6ad_12 (by decide) ?_
      exact rx_fiZ dJ1_canEncode_9a6ad_16 (by first | exact Or.inl rfl | exact Or.inr rfl) rfl rfl
set_option maxRecDepth 100000 in
set_option maxHeartbeats 4000000 in
theorem l_ixc {M : Mem} {i : Nat} (hi : i < 2) {c : Int32} {n : Nat} (hn : n = strL.getD i 0) : ∀ (N : Nat) (j : Nat), (j ≤ n) → (ixF c.toInt8.toInt32 ((strB.getD i []).drop j) j = strIx i c) → n - j < N → Reach cJ1_indexOfChar_4cfef RJ1 6 0 (FQ cJ1_indexOfChar_4cfef (some .int) (some (.int (strIx i c))) M) 7 [some (.ref (179 + i)), some (.int c), some (.int 0), some (.int (nI n)), some (.int c.toInt8.toInt32), some (.int (nI j))] [] (M) := by
  intro N
  induction N with
  | zero => intro j hj he hm; exact absurd ‹_ < 0› (Nat.not_lt_zero _)
  | succ N ih =>
    intro j hj he hm
    have ⟨hl1, hl2⟩ := strL_B i hi
    refine rx_iload (i := 5) dJ1_indexOfChar_4cfef_7 rfl ?_
    refine rx_iload_n (i := 3) dJ1_indexOfChar_4cfef_9 rfl rfl ?_
    refine rx_icmp_ge (tgt := 31) dJ1_indexOfChar_4cfef_10 (by decide) (fun c10 => ?_) (fun c10 => ?_)
    · skip
      have f10 := Int32.not_lt.mpr c10
      have e10 := (nI_leI (by omega) (by omega)).mp c10
      rw [List.drop_of_length_le (by omega)] at he
      simp only [ixF] at he
      rw [← he]
      refine rx_iconst (-1) dJ1_indexOfChar_4cfef_31 rfl ?_
      exact rx_fiI dJ1_indexOfChar_4cfef_32 rfl rfl
    · skip
      have f10 := Int32.not_le.mp c10
      have e10 : j < n := Nat.not_le.mp fun q => c10 (nI_le q (by omega))
      have ed : (strB.getD i []).drop j = (strB.getD i []).getD j 0 :: (strB.getD i []).drop (j + 1) := drop_getD (by omega)
      rw [ed] at he
      simp only [ixF] at he
      refine rx_aload_n (i := 0) dJ1_indexOfChar_4cfef_13 rfl rfl ?_
      refine rx_iload (i := 5) dJ1_indexOfChar_4cfef_14 rfl ?_
      refine rx_sbald hi (by omega) dJ1_indexOfChar_4cfef_16 ?_
      refine rx_iload (i := 4) dJ1_indexOfChar_4cfef_17 rfl ?_
      refine rx_icmp_ne (tgt := 25) dJ1_indexOfChar_4cfef_19 (by decide) (fun c19 => ?_) (fun c19 => ?_)
      · skip
        rw [if_neg c19] at he
        first | refine rx_iincN (i := 5) dJ1_indexOfChar_4cfef_25 rfl (by decide) rfl rfl ?_ | refine rx_iinc (i := 5) dJ1_indexOfChar_4cfef_25 rfl rfl (by decide) rfl rfl ?_
        refine rx_goto (tgt := 7) dJ1_indexOfChar_4cfef_28 (by decide) ?_
        exact ih (j + 1) (by omega) he (by omega)
      · skip
        rw [if_pos c19] at he
        rw [← he]
        refine rx_iload (i := 5) dJ1_indexOfChar_4cfef_22 rfl ?_
        exact rx_fiI dJ1_indexOfChar_4cfef_24 rfl rfl
set_option maxRecDepth 100000 in
set_option maxHeartbeats 4000000 in
theorem c_J1_indexOfChar_4cfef {M : Mem} {i : Nat} (hi : i < 2) {c : Int32} : Fun yJ1_indexOfChar_4cfef cJ1_indexOfChar_4cfef 6 (some .int) 0 [.ref (179 + i), .int c, .int 0, .int (nI (strL.getD i 0))] M (some (.int (strIx i c))) (M) := by
  refine Fun.of (own := RJ1) ([some (.ref (179 + i)), some (.int c), some (.int 0), some (.int (nI (strL.getD i 0))), none, none]) rfl (by decide +kernel) (Nat.le_of_ble_eq_true rfl) rfl ?_
  refine rx_iload_n (i := 1) dJ1_indexOfChar_4cfef_0 rfl rfl ?_
  refine rx_i2b dJ1_indexOfChar_4cfef_1 rfl ?_
  refine rx_istore (i := 4) dJ1_indexOfChar_4cfef_2 (by decide) rfl rfl ?_
  refine rx_iload_n (i := 2) dJ1_indexOfChar_4cfef_4 rfl rfl ?_
  refine rx_istore (i := 5) dJ1_indexOfChar_4cfef_5 (by decide) rfl rfl ?_
  exact l_ixc hi rfl (strL.getD i 0 + 1) 0 (Nat.zero_le _) (by rw [List.drop_zero]; rfl) (by omega)
set_option maxRecDepth 100000 in
set_option maxHeartbeats 4000000 in
theorem c_J1_indexOf_4cfef {M : Mem} {i : Nat} (hi : i < 2) {c : Int32} (h0 : 0 ≤ c) (h1 : c ≤ 255) : Fun yJ1_indexOf_4cfef cJ1_indexOf_4cfef 4 (some .int) 1 [.ref (179 + i), .int c, .int 0, .int (nI (strL.getD i 0))] M (some (.int (strIx i c))) M := by
  refine Fun.of (own := RJ1) ([some (.ref (179 + i)), some (.int c), some (.int 0), some (.int (nI (strL.getD i 0)))]) rfl (by decide +kernel) (Nat.le_of_ble_eq_true rfl) rfl ?_
  have ⟨hl1, hl2⟩ := strL_B i hi
  refine rx_iload_n (i := 1) dJ1_indexOf_4cfef_0 rfl rfl ?_
  refine rx_csI mo_J1_canEncode_9a6ad lk_J1_88 (c_J1_canEncode_9a6ad h0 h1) (by decide) rfl rfl (Nat.le_of_ble_eq_true rfl) dJ1_indexOf_4cfef_1 ?_
  refine rx_if_ne (tgt := 9) dJ1_indexOf_4cfef_4 (by decide) (fun c4 => ?_) (fun c4 => absurd c4 (by decide))
  refine rx_iload_n (i := 2) dJ1_indexOf_4cfef_9 rfl rfl ?_
  refine rx_iconst (0) dJ1_indexOf_4cfef_10 rfl ?_
  refine rx_mmax (List.mem_of_getElem? (i := 654) (by decide +kernel)) (by decide) (Nat.le_of_ble_eq_true rfl) dJ1_indexOf_4cfef_11 ?_
  refine rx_top 0 rfl ?_
  refine rx_istore_n (i := 2) dJ1_indexOf_4cfef_14 rfl (by decide) rfl rfl ?_
  refine rx_iload_n (i := 3) dJ1_indexOf_4cfef_15 rfl rfl ?_
  refine rx_aload_n (i := 0) dJ1_indexOf_4cfef_16 rfl rfl ?_
  refine rx_slen hi dJ1_indexOf_4cfef_17 ?_
  refine rx_mmin (List.mem_of_getElem? (i := 655) (by decide +kernel)) (by decide) (Nat.le_of_ble_eq_true rfl) dJ1_indexOf_4cfef_18 ?_
  refine rx_top (nI (strL.getD i 0)) (by split <;> rfl) ?_
  refine rx_istore_n (i := 3) dJ1_indexOf_4cfef_21 rfl (by decide) rfl rfl ?_
  refine rx_iload_n (i := 2) dJ1_indexOf_4cfef_22 rfl rfl ?_
  refine rx_iload_n (i := 3) dJ1_indexOf_4cfef_23 rfl rfl ?_
  refine rx_icmp_lt (tgt := 29) dJ1_indexOf_4cfef_24 (by decide) (fun c24 => ?_) (fun c24 => absurd ((by decide : ∀ i, i < 2 → (0 : Int32) < nI (strL.getD i 0)) i hi) c24)
  refine rx_aload_n (i := 0) dJ1_indexOf_4cfef_29 rfl rfl ?_
  refine rx_iload_n (i := 1) dJ1_indexOf_4cfef_30 rfl rfl ?_
  refine rx_iload_n (i := 2) dJ1_indexOf_4cfef_31 rfl rfl ?_
  refine rx_iload_n (i := 3) dJ1_indexOf_4cfef_32 rfl rfl ?_
  refine rx_csI mo_J1_indexOfChar_4cfef lk_J1_95 (c_J1_indexOfChar_4cfef hi) (by decide) rfl rfl (Nat.le_of_ble_eq_true rfl) dJ1_indexOf_4cfef_33 ?_
  exact rx_fiI dJ1_indexOf_4cfef_36 rfl rfl
set_option maxRecDepth 100000 in
set_option maxHeartbeats 4000000 in
theorem c_J0_indexOf_7cf53 {M : Mem} {i : Nat} (hi : i < 2) {c : Int32} (h0 : 0 ≤ c) (h1 : c ≤ 255) : Fun yJ0_indexOf_7cf53 cJ0_indexOf_7cf53 3 (some .int) 2 [.ref (177 + i), .int c, .int 0] M (some (.int (strIx i c))) M := by
  refine Fun.of (own := RJ0) ([some (.ref (177 + i)), some (.int c), some (.int 0)]) rfl (by decide +kernel) (Nat.le_of_ble_eq_true rfl) rfl ?_
  refine rx_aload_n (i := 0) dJ0_indexOf_7cf53_0 rfl rfl ?_
  refine rx_ctI mo_J0_isLatin1_aae02 lk_J0_492 (c_J0_isLatin1_aae02 hi) (by decide) rfl rfl (Nat.le_of_ble_eq_true rfl) hi rfl dJ0_indexOf_7cf53_1 ?_
  refine rx_if_eq (tgt := 23) dJ0_indexOf_7cf53_4 (by decide) (fun c4 => absurd c4 (by decide)) (fun c4 => ?_)
  refine rx_aload_n (i := 0) dJ0_indexOf_7cf53_7 rfl rfl ?_
  refine rx_svalue hi dJ0_indexOf_7cf53_8 ?_
  refine rx_iload_n (i := 1) dJ0_indexOf_7cf53_11 rfl rfl ?_
  refine rx_iload_n (i := 2) dJ0_indexOf_7cf53_12 rfl rfl ?_
  refine rx_aload_n (i := 0) dJ0_indexOf_7cf53_13 rfl rfl ?_
  refine rx_ctI mo_J0_length_8abf5 lk_J0_505 (c_J0_length_8abf5 hi) (by decide) rfl rfl (Nat.le_of_ble_eq_true rfl) hi rfl dJ0_indexOf_7cf53_14 ?_
  refine rx_csI mo_J1_indexOf_4cfef lk_J0_637 (c_J1_indexOf_4cfef hi h0 h1) (by decide) rfl rfl (Nat.le_of_ble_eq_true rfl) dJ0_indexOf_7cf53_17 ?_
  refine rx_goto (tgt := 36) dJ0_indexOf_7cf53_20 (by decide) ?_
  exact rx_fiI dJ0_indexOf_7cf53_36 rfl rfl
set_option maxRecDepth 100000 in
set_option maxHeartbeats 4000000 in
theorem c_J0_indexOf_0f7a4 {M : Mem} {i : Nat} (hi : i < 2) {c : Int32} (h0 : 0 ≤ c) (h1 : c ≤ 255) : Fun yJ0_indexOf_0f7a4 cJ0_indexOf_0f7a4 2 (some .int) 3 [.ref (177 + i), .int c] M (some (.int (strIx i c))) M := by
  refine Fun.of (own := RJ0) ([some (.ref (177 + i)), some (.int c)]) rfl (by decide +kernel) (Nat.le_of_ble_eq_true rfl) rfl ?_
  refine rx_aload_n (i := 0) dJ0_indexOf_0f7a4_0 rfl rfl ?_
  refine rx_iload_n (i := 1) dJ0_indexOf_0f7a4_1 rfl rfl ?_
  refine rx_iconst (0) dJ0_indexOf_0f7a4_2 rfl ?_
  refine rx_ctI mo_J0_indexOf_7cf53 lk_J0_633 (c_J0_indexOf_7cf53 hi h0 h1) (by decide) rfl rfl (Nat.le_of_ble_eq_true rfl) hi rfl dJ0_indexOf_0f7a4_3 ?_
  exact rx_fiI dJ0_indexOf_0f7a4_6 rfl rfl
