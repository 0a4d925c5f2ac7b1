/-! memory up to what can be seen -/
def eqM (M M' : Mem) : Prop := (∀ i k, k < (kd i).2 → M.1 i k = M'.1 i k) ∧ (∀ i k, k < (kd i).2 → M.2.1 i k = M'.2.1 i k) ∧ M.2.2 = M'.2.2
theorem eqM.rfl' {M : Mem} : eqM M M := ⟨fun _ _ _ => rfl, fun _ _ _ => rfl, rfl⟩
theorem eqM.symm {M M' : Mem} (h : eqM M M') : eqM M' M := ⟨fun i k hk => (h.1 i k hk).symm, fun i k hk => (h.2.1 i k hk).symm, h.2.2.symm⟩
theorem arrV_congr {cI : ClassId} {N : Nat} {f g : Nat → Value} (h : ∀ j, j < N → f j = g j) : arrV cI N f = arrV cI N g := by
  unfold arrV
  congr 1
  apply Array.ext
  · simp
  · intro i h1 h2
    simp at h1 ⊢
    exact h i h1
theorem vpI_congr {c : ClassId} {n : Nat} {f g : Nat → Int32} (h : ∀ j, j < n → f j = g j) : vp_cell c (n, .inl f) = vp_cell c (n, .inl g) := arrV_congr fun j hj => congrArg Value.int (h j hj)
theorem vpJ_congr {c : ClassId} {n : Nat} {f g : Nat → Int64} (h : ∀ j, j < n → f j = g j) : vp_cell c (n, .inr (.inl f)) = vp_cell c (n, .inr (.inl g)) := arrV_congr fun j hj => congrArg Value.long (h j hj)
theorem va_P_eqM {D : va_G} {ad : Nat → Nat} {cA : Nat → ClassId} {M M' : Mem} {H : Heap} (e : eqM M M') (h : va_P D vwCl (wsOf ad cA M) H) : va_P D vwCl (wsOf ad cA M') H := by
  intro i q hq
  have hl : i < NID := by
    have h0 := (List.getElem?_eq_some_iff.mp hq).1
    simpa [wsOf] using h0
  rw [ws_get hl] at hq
  obtain rfl := Option.some.inj hq
  have h1 := h i _ (ws_get hl)
  have e1 : ∀ k, k < (kd i).2 → fvl ad M' i ((kd i).1 - 10) k = fvl ad M i ((kd i).1 - 10) k := fun k hk => by simp only [fvl, e.1 i k hk, e.2.2]
  unfold cellOf at h1 ⊢
  split
  · next g =>
    rw [if_pos g] at h1
    exact h1.trans (congrArg some (vpI_congr fun j hj => e.1 i j hj))
  · next g =>
    rw [if_neg g] at h1
    split
    · next g2 =>
      rw [if_pos g2] at h1
      exact h1.trans (congrArg some (vpJ_congr fun j hj => e.2.1 i j hj))
    · next g2 =>
      rw [if_neg g2] at h1
      split
      · next g3 =>
        rw [if_pos g3] at h1
        exact h1.trans (congrArg some (vpI_congr fun j hj => e.1 i j hj))
      · next g3 =>
        rw [if_neg g3] at h1
        split
        · next g4 =>
          rw [if_pos g4] at h1
          exact h1.trans (congrArg some (vpI_congr fun j hj => e.1 i j hj))
        · next g4 =>
          rw [if_neg g4] at h1
          have e2 : (List.range (kd i).2).map (fvl ad M' i ((kd i).1 - 10)) = (List.range (kd i).2).map (fvl ad M i ((kd i).1 - 10)) := by
            apply List.map_congr_left
            intro k hk
            exact e1 k (List.mem_range.mp hk)
          rw [e2]
          exact h1
section RE
variable {cc : ByteArray} {own : String} {nL d : Nat} {Q : Nat → List (Option Value) → List Value → Mem → Prop} {pc : Nat} {ls : List (Option Value)} {st : List Value} {M : Mem}
theorem rx_memW (M2 : Mem) (e : eqM M M2) (k : Reach cc own nL d Q pc ls st M2) : Reach cc own nL d Q pc ls st M :=
  fun p l e' R s m args below meth c H locs cells slots Z D cA ad A lr C hP hS hL kk => k p l e' R s m args below meth c H locs cells slots Z D cA ad A lr C (va_P_eqM e hP) hS hL kk
theorem rx_copy {idx a b n : Nat} {N z1 z2 : Int32} (ha : kd a = (0, n)) (hb' : kd b = (0, n)) (hn : n < 2 ^ 31) (hl : Cond.methodLink own idx arraycopyName ∈ lw_tbl) (hd : 1 ≤ d) (hN : N = nI n) (hz1 : z1 = 0) (hz2 : z2 = 0) (hW : (st.map Value.category).sum ≤ 8) (hdg : decode cc pc = .ok (.invokestatic idx, 3))
    (k0 : Reach cc own nL d Q (pc + 3) ls st (setA M b (M.1 a))) : Reach cc own nL d Q pc ls (.int N :: .int z2 :: .ref b :: .int z1 :: .ref a :: st) M := by
  intro p l e R s m args below meth c H locs cells slots Z D cA ad A lr C hP hS hL kk
  subst hN; subst hz1; subst hz2
  obtain ⟨hx, hb, hml, hown, hts, hlk, hK, hinj, hA, hX, hR, hc1, hc2⟩ := id C
  have hsz : lr.size = nL := by obtain ⟨lv, g1, -⟩ := hL; exact g1.1
  have hia : a < NID := kd_lt (by rw [ha]; show 0 < 99; decide)
  have hib : b < NID := kd_lt (by rw [hb']; show 0 < 99; decide)
  have hD : va_D A (wsOf ad cA M) := ws_D hinj hA
  have hcat : ((st.map (rv ad)).map fun v => v.category).sum ≤ 8 := by
    rw [List.map_map]
    have : (fun v : Value => v.category) ∘ rv ad = Value.category := funext fun v => rv_cat ad v
    rw [this]; exact hW
  have hroom : ((st.map (rv ad)).map fun v => v.category).sum + (nativeFrameWords "java/lang/System" "arraycopy" 5 + 11) ≤ R.locals := by
    refine Nat.le_trans ?_ hR.2
    have h1 : nativeFrameWords "java/lang/System" "arraycopy" 5 + 11 ≤ 56 := by decide
    omega
  have e0 : (0 : Int32).toNatClampNeg = 0 := rfl
  have hset := ws_set (ad := ad) (cA := cA) (M := M) (M' := setA M b (va_cpy (M.1 a) (M.1 b) 0 0 n)) hib (by rw [cell_I hb', setA_eq]) (fun j hj => cell_ne (setA_ne hj) rfl rfl)
  refine va_copyi hx hb (by rw [hml, hsz]) hown (hts _ (gt_in hl rfl)) (hts _ (gt_in (List.mem_of_getElem? (i := 739) (by decide +kernel)) rfl)) (hts _ (gt_in (List.mem_of_getElem? (i := 738) (by decide +kernel)) rfl)) (hts _ (gt_in (List.mem_of_getElem? (i := 113) (by decide +kernel)) rfl)) hK hP hD hS a b 0 0 (by rw [ws_get hia, cell_I ha]) (by rw [ws_get hib, cell_I hb']) rfl rfl rfl (by decide) (by decide) (nI_pos hn) (by rw [nI_clamp hn, e0]; omega) (by rw [nI_clamp hn, e0]; omega) (fun _ _ => rfl) (by omega) hroom hdg (fun H1 locs1 hP1 _ hS1 => ?_)
  rw [nI_clamp hn, e0, hset] at hP1
  refine k0 p l e R s m args below meth c H1 locs1 cells slots Z D cA ad A lr C (va_P_eqM ?_ hP1) hS1 hL kk
  refine ⟨fun i k hk => ?_, fun _ _ _ => rfl, rfl⟩
  by_cases hi : i = b
  · subst hi
    rw [hb'] at hk
    simp only [setA, if_pos, va_cpy]
    rw [if_pos ⟨Nat.zero_le _, by simpa using hk⟩]
    simp
  · rw [setA_ne hi, setA_ne hi]
end RE

section RMM
variable {cc : ByteArray} {own : String} {nL d : Nat} {Q : Nat → List (Option Value) → List Value → Mem → Prop} {pc : Nat} {ls : List (Option Value)} {st : List Value} {M : Mem}
theorem rx_mmax {idx : Nat} {x y : Int32} (hl : Cond.methodLink own idx Lib.Math.max.name ∈ lw_tbl) (hd : 1 ≤ d) (hW : (st.map Value.category).sum ≤ 8) (hdg : decode cc pc = .ok (.invokestatic idx, 3)) (k0 : Reach cc own nL d Q (pc + 3) ls (.int (if x < y then y else x) :: st) M) : Reach cc own nL d Q pc ls (.int y :: .int x :: st) M := by
  intro p l e R s m args below meth c H locs cells slots Z D cA ad A lr C hP hS hL kk
  obtain ⟨hx, hb, hml, hown, hts, hlk, hK, hinj, hA, hX, hR, hc1, hc2⟩ := id C
  have hsz : lr.size = nL := by obtain ⟨lv, g1, -⟩ := hL; exact g1.1
  have hcat : ((st.map (rv ad)).map fun v => v.category).sum ≤ 8 := by
    rw [List.map_map]
    have : (fun v : Value => v.category) ∘ rv ad = Value.category := funext fun v => rv_cat ad v
    rw [this]; exact hW
  exact va_mmax hx hb (by rw [hml, hsz]) hown (hts _ (gt_in hl rfl)) (hts _ (gt_in (List.mem_of_getElem? (i := 564) (by decide +kernel)) rfl)) (hts _ (gt_in (List.mem_of_getElem? (i := 107) (by decide +kernel)) rfl)) (hts _ (gt_in (List.mem_of_getElem? (i := 565) (by decide +kernel)) rfl)) (by omega) (by omega) hc1 hc2 hdg (k0 p l e R s m args below meth c H locs cells slots Z D cA ad A lr C hP hS hL kk)
theorem rx_mmin {idx : Nat} {x y : Int32} (hl : Cond.methodLink own idx Lib.Math.min.name ∈ lw_tbl) (hd : 1 ≤ d) (hW : (st.map Value.category).sum ≤ 8) (hdg : decode cc pc = .ok (.invokestatic idx, 3)) (k0 : Reach cc own nL d Q (pc + 3) ls (.int (if y < x then y else x) :: st) M) : Reach cc own nL d Q pc ls (.int y :: .int x :: st) M := by
  intro p l e R s m args below meth c H locs cells slots Z D cA ad A lr C hP hS hL kk
  obtain ⟨hx, hb, hml, hown, hts, hlk, hK, hinj, hA, hX, hR, hc1, hc2⟩ := id C
  have hsz : lr.size = nL := by obtain ⟨lv, g1, -⟩ := hL; exact g1.1
  have hcat : ((st.map (rv ad)).map fun v => v.category).sum ≤ 8 := by
    rw [List.map_map]
    have : (fun v : Value => v.category) ∘ rv ad = Value.category := funext fun v => rv_cat ad v
    rw [this]; exact hW
  exact va_mmin hx hb (by rw [hml, hsz]) hown (hts _ (gt_in hl rfl)) (hts _ (gt_in (List.mem_of_getElem? (i := 538) (by decide +kernel)) rfl)) (hts _ (gt_in (List.mem_of_getElem? (i := 107) (by decide +kernel)) rfl)) (hts _ (gt_in (List.mem_of_getElem? (i := 539) (by decide +kernel)) rfl)) (by omega) (by omega) hc1 hc2 hdg (k0 p l e R s m args below meth c H locs cells slots Z D cA ad A lr C hP hS hL kk)
theorem rx_mabs {idx : Nat} {x y : Int32} (hl : Cond.methodLink own idx Lib.Math.abs.name ∈ lw_tbl) (hd : 1 ≤ d) (hW : (st.map Value.category).sum ≤ 8) (hdg : decode cc pc = .ok (.invokestatic idx, 3)) (k0 : Reach cc own nL d Q (pc + 3) ls (.int (if 0 ≤ x then x else -x) :: st) M) : Reach cc own nL d Q pc ls (.int x :: st) M := by
  intro p l e R s m args below meth c H locs cells slots Z D cA ad A lr C hP hS hL kk
  obtain ⟨hx, hb, hml, hown, hts, hlk, hK, hinj, hA, hX, hR, hc1, hc2⟩ := id C
  have hsz : lr.size = nL := by obtain ⟨lv, g1, -⟩ := hL; exact g1.1
  have hcat : ((st.map (rv ad)).map fun v => v.category).sum ≤ 8 := by
    rw [List.map_map]
    have : (fun v : Value => v.category) ∘ rv ad = Value.category := funext fun v => rv_cat ad v
    rw [this]; exact hW
  exact va_mabs hx hb (by rw [hml, hsz]) hown (hts _ (gt_in hl rfl)) (hts _ (gt_in (List.mem_of_getElem? (i := 1250) (by decide +kernel)) rfl)) (hts _ (gt_in (List.mem_of_getElem? (i := 107) (by decide +kernel)) rfl)) (hts _ (gt_in (List.mem_of_getElem? (i := 1251) (by decide +kernel)) rfl)) (by omega) (by omega) hc1 hc2 hdg (k0 p l e R s m args below meth c H locs cells slots Z D cA ad A lr C hP hS hL kk)
theorem rx_iincN {i k : Nat} {ls2 : List (Option Value)} (hdg : decode cc pc = .ok (.iinc i 1, 3)) (hk : ls[i]? = some (some (.int (nI k)))) (hn : i < nL) (ho : okS ls i = true) (h2 : ls.set i (some (.int (nI (k + 1)))) = ls2) (kk0 : Reach cc own nL d Q (pc + 3) ls2 st M) : Reach cc own nL d Q pc ls st M := rx_iinc hdg hk (nI_succ k).symm hn ho h2 kk0
end RMM
/-- Integer.bitCount, as the JDK counts -/
def ush (x k : Int32) : Int32 := (x.toUInt32 >>> (k.toUInt32 &&& Int32.toUInt32 31)).toInt32
def bcA (x : Int32) : Int32 := x - (ush x 1 &&& 1431655765)
def bcB (x : Int32) : Int32 := (x &&& 858993459) + (ush x 2 &&& 858993459)
def bcC (x : Int32) : Int32 := (x + ush x 4) &&& 252645135
def bcD (x : Int32) : Int32 := x + ush x 8
def bcE (x : Int32) : Int32 := (x + ush x 16) &&& 63
def bcnt (x : Int32) : Int32 := bcE (bcD (bcC (bcB (bcA x))))
set_option maxRecDepth 100000 in
set_option maxHeartbeats 4000000 in
theorem c_J6_bitCount_0f7a4 {M : Mem} {x : Int32} : Fun yJ6_bitCount_0f7a4 cJ6_bitCount_0f7a4 1 (some .int) 0 [.int x] M (some (.int (bcnt x))) (M) := by
  refine Fun.of (own := RJ6) ([some (.int x)]) rfl (by decide +kernel) (Nat.le_of_ble_eq_true rfl) rfl ?_
  refine rx_iload_n (i := 0) dJ6_bitCount_0f7a4_0 rfl rfl ?_
  refine rx_iload_n (i := 0) dJ6_bitCount_0f7a4_1 rfl rfl ?_
  refine rx_iconst (1) dJ6_bitCount_0f7a4_2 rfl ?_
  refine rx_iushr dJ6_bitCount_0f7a4_3 rfl ?_
  refine rx_ldcw (own := RJ6) (v := (1431655765)) (List.mem_of_getElem? (i := 1090) (by decide +kernel)) dJ6_bitCount_0f7a4_4 ?_
  refine rx_iand dJ6_bitCount_0f7a4_7 ?_
  refine rx_isub dJ6_bitCount_0f7a4_8 ?_
  refine rx_istore_n (i := 0) dJ6_bitCount_0f7a4_9 rfl (by decide) rfl rfl ?_
  refine rx_iload_n (i := 0) dJ6_bitCount_0f7a4_10 rfl rfl ?_
  refine rx_ldcw (own := RJ6) (v := (858993459)) (List.mem_of_getElem? (i := 1091) (by decide +kernel)) dJ6_bitCount_0f7a4_11 ?_
  refine rx_iand dJ6_bitCount_0f7a4_14 ?_
  refine rx_iload_n (i := 0) dJ6_bitCount_0f7a4_15 rfl rfl ?_
  refine rx_iconst (2) dJ6_bitCount_0f7a4_16 rfl ?_
  refine rx_iushr dJ6_bitCount_0f7a4_17 rfl ?_
  refine rx_ldcw (own := RJ6) (v := (858993459)) (List.mem_of_getElem? (i := 1091) (by decide +kernel)) dJ6_bitCount_0f7a4_18 ?_
  refine rx_iand dJ6_bitCount_0f7a4_21 ?_
  refine rx_iadd dJ6_bitCount_0f7a4_22 ?_
  refine rx_istore_n (i := 0) dJ6_bitCount_0f7a4_23 rfl (by decide) rfl rfl ?_
  refine rx_iload_n (i := 0) dJ6_bitCount_0f7a4_24 rfl rfl ?_
  refine rx_iload_n (i := 0) dJ6_bitCount_0f7a4_25 rfl rfl ?_
  refine rx_iconst (4) dJ6_bitCount_0f7a4_26 rfl ?_
  refine rx_iushr dJ6_bitCount_0f7a4_27 rfl ?_
  refine rx_iadd dJ6_bitCount_0f7a4_28 ?_
  refine rx_ldcw (own := RJ6) (v := (252645135)) (List.mem_of_getElem? (i := 1092) (by decide +kernel)) dJ6_bitCount_0f7a4_29 ?_
  refine rx_iand dJ6_bitCount_0f7a4_32 ?_
  refine rx_istore_n (i := 0) dJ6_bitCount_0f7a4_33 rfl (by decide) rfl rfl ?_
  refine rx_iload_n (i := 0) dJ6_bitCount_0f7a4_34 rfl rfl ?_
  refine rx_iload_n (i := 0) dJ6_bitCount_0f7a4_35 rfl rfl ?_
  refine rx_bipush (8) dJ6_bitCount_0f7a4_36 rfl ?_
  refine rx_iushr dJ6_bitCount_0f7a4_38 rfl ?_
  refine rx_iadd dJ6_bitCount_0f7a4_39 ?_
  refine rx_istore_n (i := 0) dJ6_bitCount_0f7a4_40 rfl (by decide) rfl rfl ?_
  refine rx_iload_n (i := 0) dJ6_bitCount_0f7a4_41 rfl rfl ?_
  refine rx_iload_n (i := 0) dJ6_bitCount_0f7a4_42 rfl rfl ?_
  refine rx_bipush (16) dJ6_bitCount_0f7a4_43 rfl ?_
  refine rx_iushr dJ6_bitCount_0f7a4_45 rfl ?_
  refine rx_iadd dJ6_bitCount_0f7a4_46 ?_
  refine rx_istore_n (i := 0) dJ6_bitCount_0f7a4_47 rfl (by decide) rfl rfl ?_
  refine rx_iload_n (i := 0) dJ6_bitCount_0f7a4_48 rfl rfl ?_
  refine rx_bipush (63) dJ6_bitCount_0f7a4_49 rfl ?_
  refine rx_iand dJ6_bitCount_0f7a4_51 ?_
  exact rx_fiI dJ6_bitCount_0f7a4_52 rfl rfl
def fillT (M : Mem) (a : Nat) (v : Int32) (n : Nat) : Mem := (fun b j => if b = a ∧ j < n then v else M.1 b j, M.2)
theorem fillT_S {M : Mem} {a i : Nat} {v : Int32} : setI (fillT M a v i) a i v = fillT M a v (i + 1) := by
  refine Prod.ext ?_ rfl
  funext b j
  simp only [setI, fillT]
  by_cases hb : b = a
  · subst hb
    by_cases hj : j = i
    · subst hj; simp
    · by_cases h2 : j < i
      · simp [hj, h2]; intro h3; omega
      · simp [hj, h2]; intro h3; omega
  · simp [hb]
set_option maxRecDepth 100000 in
set_option maxHeartbeats 4000000 in
theorem l_fill {M : Mem} {a n : Nat} (ha : kd a = (0, n)) (hn : n < 2 ^ 31) (v : Int32) : ∀ (N : Nat) (i : Nat), (i ≤ n) → n - i < N → Reach cJ7_fill_53178 RJ7 4 0 (FQ cJ7_fill_53178 none none (setA M a (fun _ => v))) 5 [some (.ref a), some (.int v), some (.int (nI i)), some (.int (nI n))] [] (fillT M a v i) := by
  intro N
  induction N with
  | zero => intro i hi hm; exact absurd ‹_ < 0› (Nat.not_lt_zero _)
  | succ N ih =>
    intro i hi hm
    refine rx_iload_n (i := 2) dJ7_fill_53178_5 rfl rfl ?_
    refine rx_iload_n (i := 3) dJ7_fill_53178_6 rfl rfl ?_
    refine rx_icmp_ge (tgt := 20) dJ7_fill_53178_7 (by decide) (fun c7 => ?_) (fun c7 => ?_)
    · skip
      rw [nI_leI (by omega) (by omega)] at c7
      obtain rfl : i = n := by omega
      refine rx_memW _ ?_ (rx_fiV dJ7_fill_53178_20 rfl)
      refine ⟨fun b j hj => ?_, fun _ _ _ => rfl, rfl⟩
      by_cases hb : b = a
      · subst hb
        rw [ha] at hj
        simp only [fillT, setA, if_pos]
        rw [if_pos ⟨trivial, hj⟩]
      · simp [fillT, setA, hb]
    · skip
      rw [nI_leI (by omega) (by omega)] at c7
      refine rx_aload_n (i := 0) dJ7_fill_53178_10 rfl rfl ?_
      refine rx_iload_n (i := 2) dJ7_fill_53178_11 rfl rfl ?_
      refine rx_iload_n (i := 1) dJ7_fill_53178_12 rfl rfl ?_
      refine rx_iastN ha (by omega) (by first | decide | omega) dJ7_fill_53178_13 ?_
      rw [fillT_S]
      first | refine rx_iincN (i := 2) dJ7_fill_53178_14 rfl (by decide) rfl rfl ?_ | refine rx_iinc (i := 2) dJ7_fill_53178_14 rfl rfl (by decide) rfl rfl ?_
      refine rx_goto (tgt := 5) dJ7_fill_53178_17 (by decide) ?_
      exact ih (i + 1) (by omega) (by omega)
set_option maxRecDepth 100000 in
set_option maxHeartbeats 4000000 in
theorem c_J7_fill_53178 {M : Mem} {a n : Nat} (ha : kd a = (0, n)) (hn : n < 2 ^ 31) {v : Int32} : Fun yJ7_fill_53178 cJ7_fill_53178 4 none 0 [.ref a, .int v] M (none) (setA M a (fun _ => v)) := by
  refine Fun.of (own := RJ7) ([some (.ref a), some (.int v), none, none]) rfl (by decide +kernel) (Nat.le_of_ble_eq_true rfl) rfl ?_
  refine rx_iconst (0) dJ7_fill_53178_0 rfl ?_
  refine rx_istore_n (i := 2) dJ7_fill_53178_1 rfl (by decide) rfl rfl ?_
  refine rx_aload_n (i := 0) dJ7_fill_53178_2 rfl rfl ?_
  refine rx_alen (ty := .int) ha (by decide) dJ7_fill_53178_3 ?_
  refine rx_istore_n (i := 3) dJ7_fill_53178_4 rfl (by decide) rfl rfl ?_
  refine rx_memW (fillT M a v 0) ?_ (l_fill ha hn v (n + 1) 0 (Nat.zero_le _) (by omega))
  exact ⟨fun b j _ => by simp [fillT], fun _ _ _ => rfl, rfl⟩
