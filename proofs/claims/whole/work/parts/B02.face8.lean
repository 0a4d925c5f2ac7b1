/-- what is free in the class -/
def scr (a : Nat) : Prop := a = 6 ∨ (9 ≤ a ∧ a ≤ 18) ∨ a = 34 ∨ (44 ≤ a ∧ a ≤ 59) ∨ (92 ≤ a ∧ a ≤ 107) ∨ (124 ≤ a ∧ a ≤ 139)
/-- nothing of the class changes but the row and what is free -/
def fcR (M N : Mem) : Prop := (∀ a j, ¬ scr a → ¬ (a = 4 ∧ j = 1) → N.1 a j = M.1 a j) ∧ (∀ a, a ≠ 5 → N.2.1 a = M.2.1 a) ∧ N.2.2 = M.2.2
/-- the row stays too -/
def fcK (M N : Mem) : Prop := fcR M N ∧ N.1 4 1 = M.1 4 1 ∧ N.2.1 5 = M.2.1 5
theorem fcR.refl {M : Mem} : fcR M M := ⟨fun _ _ _ _ => rfl, fun _ _ => rfl, rfl⟩
theorem fcR.trans {M N K : Mem} (h : fcR M N) (h2 : fcR N K) : fcR M K := ⟨fun a j q r => (h2.1 a j q r).trans (h.1 a j q r), fun a q => (h2.2.1 a q).trans (h.2.1 a q), h2.2.2.trans h.2.2⟩
theorem fcK.refl {M : Mem} : fcK M M := ⟨fcR.refl, rfl, rfl⟩
theorem fcK.trans {M N K : Mem} (h : fcK M N) (h2 : fcK N K) : fcK M K := ⟨h.1.trans h2.1, h2.2.1.trans h.2.1, h2.2.2.trans h.2.2⟩
theorem sameX.CK {M N : Mem} {P : Nat → Prop} (h : sameX M N P) (hP : ∀ a, P a → scr a) : fcK M N :=
  ⟨⟨fun a j q _ => congrFun (h.1 a fun z => q (hP a z)) j, fun a _ => by rw [h.2], by rw [h.2]⟩, congrFun (h.1 4 fun z => by have := hP 4 z; unfold scr at this; omega) 1, by rw [h.2]⟩
theorem fcK_L {M : Mem} {n : Nat} : fcK M (mkL M 28 n) := (sameX_L (P := fun z => z = 34) rfl).CK fun a h => by unfold scr; omega
theorem fcK_A {M : Mem} {a : Nat} {f : Nat → Int32} (h : scr a) : fcK M (setA M a f) := (sameX_A (P := fun z => z = a) rfl).CK fun b e => by rw [e]; exact h
theorem fcR_clr {M : Mem} : fcR M (setI M 4 1 0) := ⟨fun a j _ q => sI_ne q, fun _ _ => rfl, rfl⟩
theorem fcR_ad {M : Mem} {s : Nat} {v : Int64} : fcR M (adR M s v) := ⟨fun a j _ q => sI_ne q, fun a q => by funext j; exact sJ_na q, rfl⟩
theorem fcR_r1 {M : Mem} {a : Int64} : fcR M (r1M M a) := fcR_clr.trans fcR_ad
theorem fcR_r2 {M : Mem} {a b : Int64} : fcR M (r2M M a b) := (fcR_clr.trans fcR_ad).trans fcR_ad
def row1C (N : Mem) (a : Int64) : Prop := N.1 4 1 = 1 ∧ N.2.1 5 0 = a
def row2C (N : Mem) (a b : Int64) : Prop := N.1 4 1 = 2 ∧ N.2.1 5 0 = a ∧ N.2.1 5 1 = b
theorem r1_row {M : Mem} {a : Int64} : row1C (r1M M a) a := by simp [row1C, r1M, adR, setI, setJ]; rfl
theorem r2_row {M : Mem} {a b : Int64} : row2C (r2M M a b) a b := by simp [row2C, r2M, adR, setI, setJ]; rfl
/-- a row of so many, in the class -/
def rowNC (N : Mem) (l : Nat) (f : Nat → Int64) : Prop := N.1 4 1 = nI l ∧ ∀ q, q < l → N.2.1 5 q = f q
theorem rowNC_ad {N : Mem} {l : Nat} {f : Nat → Int64} (h : rowNC N l f) {v : Int64} (hv : v = f l) : rowNC (adR N l v) (l + 1) f := by
  refine ⟨sI_eq, fun q hq => ?_⟩
  show (setJ N 5 l v).2.1 5 q = _
  by_cases e : q = l
  · rw [e, hv]; exact if_pos ⟨rfl, rfl⟩
  · exact (if_neg fun z => e z.2).trans (h.2 q (by omega))
theorem fcR.tw {M N : Mem} {n m : Nat} (h : fcR M N) (w : TW M 28 n m) : TW N 28 n m := w.keep (h.1 _ _ (by unfold scr; omega) (by omega)) (h.1 _ _ (by unfold scr; omega) (by omega)) (fun _ _ => h.1 _ _ (by unfold scr; omega) (by omega)) (fun _ _ => h.1 _ _ (by unfold scr; omega) (by omega))
/-- the town as it is seen stays, its list aside -/
theorem fcR.vw {M N : Mem} (h : fcR M N) : alk (view M 28) (view N 28) := fun c h5 h20 => view_same (M := M) (M' := N) (t := 28) (fun c' h1 h2 => by funext j; exact h.1 _ _ (by unfold scr; omega) (by omega)) c h5 h20
set_option maxRecDepth 100000 in
set_option maxHeartbeats 4000000 in
theorem c_X10_town {M : Mem} {n m L : Nat} (w : TW M 28 n m) (hL : M.1 2 1 = nI L) (hL0 : 0 < L) (hL80 : L ≤ 80) (hS : ∀ j, j < L → 0 ≤ (M.1 3 j).toInt ∧ (M.1 3 j).toInt ≤ 255) : Fun yX10_town cX10_town 2 (some .int) 6 [.ref 0] M (some (.int (if (tnR M L n m).1 = true then nI (tnR M L n m).2.2.length else -1 - nI (tnR M L n m).2.1))) (if 0 < (if (tnR M L n m).1 = true then nI (tnR M L n m).2.2.length else -1 - nI (tnR M L n m).2.1) then setI (setI (tnM M L n m) 2 1 0) 0 14 0 else setI (tnM M L n m) 2 1 0) := by
  refine Fun.of (own := RX10) ([some (.ref 0), none]) rfl (by decide +kernel) (Nat.le_of_ble_eq_true rfl) rfl ?_
  refine rx_aload_n (i := 0) dX10_town_0 rfl rfl ?_
  refine rx_getR 6 (k := 6) fo_X10_42 kl_0 (by decide) ti_10_6 (by decide) rfl dX10_town_1 ?_
  refine rx_aload_n (i := 0) dX10_town_4 rfl rfl ?_
  refine rx_getR 2 (k := 0) fo_X10_12 kl_0 (by decide) ti_10_0 (by decide) rfl dX10_town_5 ?_
  refine rx_aload_n (i := 0) dX10_town_8 rfl rfl ?_
  refine rx_getR 28 (k := 2) fo_X10_26 kl_0 (by decide) ti_10_2 (by decide) rfl dX10_town_9 ?_
  refine rx_cvI (ci := 9) mo_X9_read lk_X10_103 (c_X9_read hL hL0 hL80 hS w) (by decide) rfl rfl (Nat.le_of_ble_eq_true rfl) kl_6 rfl dX10_town_12 ?_
  refine rx_istore_n (i := 1) dX10_town_15 rfl (by decide) rfl rfl ?_
  refine rx_aload_n (i := 0) dX10_town_16 rfl rfl ?_
  refine rx_getR 2 (k := 0) fo_X10_12 kl_0 (by decide) ti_10_0 (by decide) rfl dX10_town_17 ?_
  refine rx_cvN (ci := 6) mo_X6_clear lk_X10_107 c_X6_clear (by decide) rfl rfl (Nat.le_of_ble_eq_true rfl) kl_2 rfl dX10_town_20 ?_
  refine rx_iload_n (i := 1) dX10_town_23 rfl rfl ?_
  refine rx_if_le (tgt := 31) dX10_town_24 (by decide) (fun c24 => ?_) (fun c24 => ?_)
  · skip
    have e24 : ¬ 0 < (if (tnR M L n m).1 = true then nI (tnR M L n m).2.2.length else -1 - nI (tnR M L n m).2.1) := Int32.not_lt.mpr c24
    refine rx_iload_n (i := 1) dX10_town_31 rfl rfl ?_
    first | exact rx_fiI dX10_town_32 rfl (if_pos e24).symm | exact rx_fiI dX10_town_32 rfl (if_neg e24).symm
  · skip
    have e24 : 0 < (if (tnR M L n m).1 = true then nI (tnR M L n m).2.2.length else -1 - nI (tnR M L n m).2.1) := Int32.not_le.mp c24
    refine rx_aload_n (i := 0) dX10_town_27 rfl rfl ?_
    refine rx_cvN (ci := 10) mo_X10_forgetPayments lk_X10_110 c_X10_forgetPayments (by decide) rfl rfl (Nat.le_of_ble_eq_true rfl) kl_0 rfl dX10_town_28 ?_
    refine rx_iload_n (i := 1) dX10_town_31 rfl rfl ?_
    first | exact rx_fiI dX10_town_32 rfl (if_pos e24).symm | exact rx_fiI dX10_town_32 rfl (if_neg e24).symm
set_option maxRecDepth 100000 in
set_option maxHeartbeats 4000000 in
theorem c_X10_town_0 {M : Mem} (h0 : M.1 2 1 = 0) : Fun yX10_town cX10_town 2 (some .int) 6 [.ref 0] M (some (.int 0)) (setI M 2 1 0) := by
  refine Fun.of (own := RX10) ([some (.ref 0), none]) rfl (by decide +kernel) (Nat.le_of_ble_eq_true rfl) rfl ?_
  refine rx_aload_n (i := 0) dX10_town_0 rfl rfl ?_
  refine rx_getR 6 (k := 6) fo_X10_42 kl_0 (by decide) ti_10_6 (by decide) rfl dX10_town_1 ?_
  refine rx_aload_n (i := 0) dX10_town_4 rfl rfl ?_
  refine rx_getR 2 (k := 0) fo_X10_12 kl_0 (by decide) ti_10_0 (by decide) rfl dX10_town_5 ?_
  refine rx_aload_n (i := 0) dX10_town_8 rfl rfl ?_
  refine rx_getR 28 (k := 2) fo_X10_26 kl_0 (by decide) ti_10_2 (by decide) rfl dX10_town_9 ?_
  refine rx_cvI (ci := 9) mo_X9_read lk_X10_103 (c_X9_read_0 h0) (by decide) rfl rfl (Nat.le_of_ble_eq_true rfl) kl_6 rfl dX10_town_12 ?_
  refine rx_istore_n (i := 1) dX10_town_15 rfl (by decide) rfl rfl ?_
  refine rx_aload_n (i := 0) dX10_town_16 rfl rfl ?_
  refine rx_getR 2 (k := 0) fo_X10_12 kl_0 (by decide) ti_10_0 (by decide) rfl dX10_town_17 ?_
  refine rx_cvN (ci := 6) mo_X6_clear lk_X10_107 c_X6_clear (by decide) rfl rfl (Nat.le_of_ble_eq_true rfl) kl_2 rfl dX10_town_20 ?_
  refine rx_iload_n (i := 1) dX10_town_23 rfl rfl ?_
  refine rx_if_le (tgt := 31) dX10_town_24 (by decide) (fun c24 => ?_) (fun c24 => ?_)
  · skip
    refine rx_iload_n (i := 1) dX10_town_31 rfl rfl ?_
    exact rx_fiI dX10_town_32 rfl rfl
  · skip
    exact absurd (by decide) c24
    skip
set_option maxRecDepth 100000 in
set_option maxHeartbeats 4000000 in
theorem c_X10_rule {M : Mem} {L : Nat} (hL : M.1 2 1 = nI L) (hl80 : L ≤ 80) (hsg : ∀ j, j < L → 0 ≤ M.1 3 j ∧ M.1 3 j ≤ 255) : Fun yX10_rule cX10_rule 2 (some .int) 9 [.ref 0] M (some (.int (rrV (rrn (M.1 3) (min L 40) 0 (rS0 M)) L (min L 40)))) (if (rrV (rrn (M.1 3) (min L 40) 0 (rS0 M)) L (min L 40)) = 0 then setI (setA (setI (rMs M (rrS (rrn (M.1 3) (min L 40) 0 (rS0 M)) L (min L 40))) 2 1 0) 8 ((setI (rMs M (rrS (rrn (M.1 3) (min L 40) 0 (rS0 M)) L (min L 40))) 2 1 0).1 11)) 7 2 ((setI (rMs M (rrS (rrn (M.1 3) (min L 40) 0 (rS0 M)) L (min L 40))) 2 1 0).1 10 3) else (setI (rMs M (rrS (rrn (M.1 3) (min L 40) 0 (rS0 M)) L (min L 40))) 2 1 0)) := by
  refine Fun.of (own := RX10) ([some (.ref 0), none]) rfl (by decide +kernel) (Nat.le_of_ble_eq_true rfl) rfl ?_
  refine rx_aload_n (i := 0) dX10_rule_0 rfl rfl ?_
  refine rx_getR 10 (k := 8) fo_X10_56 kl_0 (by decide) ti_10_8 (by decide) rfl dX10_rule_1 ?_
  refine rx_aload_n (i := 0) dX10_rule_4 rfl rfl ?_
  refine rx_getR 2 (k := 0) fo_X10_12 kl_0 (by decide) ti_10_0 (by decide) rfl dX10_rule_5 ?_
  refine rx_cvI (ci := 4) mo_X4_read lk_X10_113 (c_X4_read hL hl80 hsg) (by decide) rfl rfl (Nat.le_of_ble_eq_true rfl) kl_10 rfl dX10_rule_8 ?_
  refine rx_istore_n (i := 1) dX10_rule_11 rfl (by decide) rfl rfl ?_
  refine rx_aload_n (i := 0) dX10_rule_12 rfl rfl ?_
  refine rx_getR 2 (k := 0) fo_X10_12 kl_0 (by decide) ti_10_0 (by decide) rfl dX10_rule_13 ?_
  refine rx_cvN (ci := 6) mo_X6_clear lk_X10_107 c_X6_clear (by decide) rfl rfl (Nat.le_of_ble_eq_true rfl) kl_2 rfl dX10_rule_16 ?_
  refine rx_iload_n (i := 1) dX10_rule_19 rfl rfl ?_
  refine rx_if_ne (tgt := 34) dX10_rule_20 (by decide) (fun c20 => ?_) (fun c20 => ?_)
  · skip
    have e20 := c20
    refine rx_iload_n (i := 1) dX10_rule_34 rfl rfl ?_
    first | exact rx_fiI dX10_rule_35 rfl (if_pos e20).symm | exact rx_fiI dX10_rule_35 rfl (if_neg e20).symm
  · skip
    have e20 := c20
    refine rx_aload_n (i := 0) dX10_rule_23 rfl rfl ?_
    refine rx_getR 7 (k := 7) fo_X10_49 kl_0 (by decide) ti_10_7 (by decide) rfl dX10_rule_24 ?_
    refine rx_aload_n (i := 0) dX10_rule_27 rfl rfl ?_
    refine rx_getR 10 (k := 8) fo_X10_56 kl_0 (by decide) ti_10_8 (by decide) rfl dX10_rule_28 ?_
    refine rx_cvN (ci := 3) mo_X3_take lk_X10_116 c_X3_take (by decide) rfl rfl (Nat.le_of_ble_eq_true rfl) kl_7 rfl dX10_rule_31 ?_
    refine rx_iload_n (i := 1) dX10_rule_34 rfl rfl ?_
    first | exact rx_fiI dX10_rule_35 rfl (if_pos e20).symm | exact rx_fiI dX10_rule_35 rfl (if_neg e20).symm
theorem TW.fr {M N : Mem} {n m : Nat} (w : TW M 28 n m) (h : fcR M N) : TW N 28 n m := h.tw w
set_option maxRecDepth 100000 in
set_option maxHeartbeats 4000000 in
theorem l_X10_tellCheapest {M : Mem} {n m : Nat} (w : TW M 28 n m) {T : TT} (hT : T = view M 28) (hO : OKS T n m) (hA : AOK T n) {k : Nat} (hk : k < m) {b : Int32} : ∀ (N : Nat) (i : Nat) (le : Int32) (fi : Int32), (i ≤ n) → (match bsF T k b i with | none => le = 2147483647 ∧ fi = 0 | some c => le = prT T c k ∧ fi = nI c) → n - i < N → Reach cX10_tellCheapest RX10 6 2 (RetQ cX10_tellCheapest none (fun v N => v = none ∧ fcR M N ∧ match bsF T k b n with | none => True | some c => row2C N (prT T c k).toInt64 (nI c).toInt64)) 9 [some (.ref 0), some (.int b), some (.int (nI k)), some (.int le), some (.int fi), some (.int (nI i))] [] (M) := by
  intro N
  induction N with
  | zero => intro i le fi hi hb hm; exact absurd ‹_ < 0› (Nat.not_lt_zero _)
  | succ N ih =>
    intro i le fi hi hb hm
    have ⟨hn, hn8, hm, hm10, hd⟩ := w
    refine rx_iload (i := 5) dX10_tellCheapest_9 rfl ?_
    refine rx_aload_n (i := 0) dX10_tellCheapest_11 rfl rfl ?_
    refine rx_getR 28 (k := 2) fo_X10_26 kl_0 (by decide) ti_10_2 (by decide) rfl dX10_tellCheapest_12 ?_
    refine rx_getI (k := 15) fo_X10_184 kl_28 (by decide) ti_8_15 dX10_tellCheapest_15 ?_
    refine rx_top (nI n) (hn) ?_
    refine rx_icmp_ge (tgt := 65) dX10_tellCheapest_18 (by decide) (fun c18 => ?_) (fun c18 => ?_)
    · skip
      have f18 := Int32.not_lt.mpr c18
      have e18 : i = n := by have := (nI_leI (by omega) (by omega)).mp c18; omega
      subst e18
      refine rx_aload_n (i := 0) dX10_tellCheapest_65 rfl rfl ?_
      refine rx_getR 4 (k := 1) fo_X10_19 kl_0 (by decide) ti_10_1 (by decide) rfl dX10_tellCheapest_66 ?_
      refine rx_iload_n (i := 3) dX10_tellCheapest_69 rfl rfl ?_
      refine rx_i2l dX10_tellCheapest_70 rfl ?_
      refine rx_iload (i := 4) dX10_tellCheapest_71 rfl ?_
      refine rx_i2l dX10_tellCheapest_73 rfl ?_
      refine rx_cvN (ci := 7) mo_X7_tell_ lk_X10_221 c_X7_tell_ (by decide) rfl rfl (Nat.le_of_ble_eq_true rfl) kl_4 rfl dX10_tellCheapest_74 ?_
      refine rx_vret dX10_tellCheapest_77 ⟨rfl, fcR_r2, ?_⟩
      cases hbs : bsF T k b i with
      | none => trivial
      | some c =>
        rw [hbs] at hb
        have hb : le = prT T c k ∧ fi = nI c := hb
        show row2C (r2M M le.toInt64 fi.toInt64) (prT T c k).toInt64 (nI c).toInt64
        rw [← hb.1, ← hb.2]
        exact r2_row
    · skip
      have f18 := Int32.not_le.mp c18
      have e18 : i < n := Nat.lt_of_not_le fun q => c18 (nI_le q (by omega))
      have hpr : prT T i k < 2147483647 := by
        have := prT_le hO hA e18 hk
        rw [Int32.lt_iff_toInt_lt, show (2147483647 : Int32).toInt = 2147483647 from rfl]; omega
      refine rx_iload_n (i := 1) dX10_tellCheapest_21 rfl rfl ?_
      refine rx_iconst (1) dX10_tellCheapest_22 rfl ?_
      refine rx_iload (i := 5) dX10_tellCheapest_23 rfl ?_
      refine rx_ishl dX10_tellCheapest_25 ?_
      refine rx_iand dX10_tellCheapest_26 ?_
      refine rx_if_eq (tgt := 59) dX10_tellCheapest_27 (by decide) (fun c27 => ?_) (fun c27 => ?_)
      · skip
        try have e27 := (and_bit _ (by omega)).mp c27
        first | refine rx_iincN (i := 5) dX10_tellCheapest_59 rfl (by decide) rfl rfl ?_ | refine rx_iinc (i := 5) dX10_tellCheapest_59 rfl rfl (by decide) rfl rfl ?_
        refine rx_goto (tgt := 9) dX10_tellCheapest_62 (by decide) ?_
        have hs : bsF T k b (i + 1) = bsF T k b i := by simp only [bsF]; rw [if_neg (by rw [e27]; decide)]
        exact ih (i + 1) le fi (by omega) (by rw [hs]; exact hb) (by omega)
      · skip
        try have e27 := (and_bitn _ (by omega)).mp c27
        refine rx_aload_n (i := 0) dX10_tellCheapest_30 rfl rfl ?_
        refine rx_getR 28 (k := 2) fo_X10_26 kl_0 (by decide) ti_10_2 (by decide) rfl dX10_tellCheapest_31 ?_
        refine rx_iload (i := 5) dX10_tellCheapest_34 rfl ?_
        refine rx_iload_n (i := 2) dX10_tellCheapest_36 rfl rfl ?_
        refine rx_cvI (ci := 8) mo_X8_price lk_X10_218 (c_X8_price it28 (by omega) (by omega)) (by decide) rfl rfl (Nat.le_of_ble_eq_true rfl) kl_28 rfl dX10_tellCheapest_37 ?_
        refine rx_top (prT T i k) (by rw [hT, ← priceM_T]; rfl) ?_
        refine rx_iload_n (i := 3) dX10_tellCheapest_40 rfl rfl ?_
        refine rx_icmp_ge (tgt := 59) dX10_tellCheapest_41 (by decide) (fun c41 => ?_) (fun c41 => ?_)
        · skip
          first | refine rx_iincN (i := 5) dX10_tellCheapest_59 rfl (by decide) rfl rfl ?_ | refine rx_iinc (i := 5) dX10_tellCheapest_59 rfl rfl (by decide) rfl rfl ?_
          refine rx_goto (tgt := 9) dX10_tellCheapest_62 (by decide) ?_
          have hs : bsF T k b (i + 1) = bsF T k b i := by
            simp only [bsF]; rw [if_pos e27]
            cases hbs : bsF T k b i with
            | none => rw [hbs] at hb; exact absurd hpr (Int32.not_lt.mpr (by rw [← hb.1]; exact c41))
            | some c =>
              rw [hbs] at hb
              exact if_neg (Int32.not_lt.mpr (by rw [← hb.1]; exact c41))
          exact ih (i + 1) le fi (by omega) (by rw [hs]; exact hb) (by omega)
        · skip
          refine rx_aload_n (i := 0) dX10_tellCheapest_44 rfl rfl ?_
          refine rx_getR 28 (k := 2) fo_X10_26 kl_0 (by decide) ti_10_2 (by decide) rfl dX10_tellCheapest_45 ?_
          refine rx_iload (i := 5) dX10_tellCheapest_48 rfl ?_
          refine rx_iload_n (i := 2) dX10_tellCheapest_50 rfl rfl ?_
          refine rx_cvI (ci := 8) mo_X8_price lk_X10_218 (c_X8_price it28 (by omega) (by omega)) (by decide) rfl rfl (Nat.le_of_ble_eq_true rfl) kl_28 rfl dX10_tellCheapest_51 ?_
          refine rx_top (prT T i k) (by rw [hT, ← priceM_T]; rfl) ?_
          refine rx_istore_n (i := 3) dX10_tellCheapest_54 rfl (by decide) rfl rfl ?_
          refine rx_iload (i := 5) dX10_tellCheapest_55 rfl ?_
          refine rx_istore (i := 4) dX10_tellCheapest_57 (by decide) rfl rfl ?_
          first | refine rx_iincN (i := 5) dX10_tellCheapest_59 rfl (by decide) rfl rfl ?_ | refine rx_iinc (i := 5) dX10_tellCheapest_59 rfl rfl (by decide) rfl rfl ?_
          refine rx_goto (tgt := 9) dX10_tellCheapest_62 (by decide) ?_
          have hs : bsF T k b (i + 1) = some i := by
            simp only [bsF]; rw [if_pos e27]
            cases hbs : bsF T k b i with
            | none => rfl
            | some c =>
              rw [hbs] at hb
              exact if_pos (by rw [← hb.1]; exact Int32.not_le.mp c41)
          exact ih (i + 1) _ _ (by omega) (by rw [hs]; exact ⟨rfl, rfl⟩) (by omega)
set_option maxRecDepth 100000 in
set_option maxHeartbeats 4000000 in
theorem c_X10_tellCheapest {M : Mem} {n m : Nat} (w : TW M 28 n m) {T : TT} (hT : T = view M 28) (hO : OKS T n m) (hA : AOK T n) {k : Nat} (hk : k < m) {b : Int32} : Con yX10_tellCheapest cX10_tellCheapest 6 none 2 [.ref 0, .int b, .int (nI k)] M (fun v N => v = none ∧ fcR M N ∧ match bsF T k b n with | none => True | some c => row2C N (prT T c k).toInt64 (nI c).toInt64) := by
  refine Con.of (own := RX10) (ls := [some (.ref 0), some (.int b), some (.int (nI k)), none, none, none]) rfl (by decide +kernel) (Nat.le_of_ble_eq_true rfl) rfl ?_
  refine rx_ldc (own := RX10) (v := (2147483647)) (List.mem_of_getElem? (i := 835) (by decide +kernel)) dX10_tellCheapest_0 ?_
  refine rx_istore_n (i := 3) dX10_tellCheapest_2 rfl (by decide) rfl rfl ?_
  refine rx_iconst (0) dX10_tellCheapest_3 rfl ?_
  refine rx_istore (i := 4) dX10_tellCheapest_4 (by decide) rfl rfl ?_
  refine rx_iconst (0) dX10_tellCheapest_6 rfl ?_
  refine rx_istore (i := 5) dX10_tellCheapest_7 (by decide) rfl rfl ?_
  exact l_X10_tellCheapest w hT hO hA hk (n + 1) 0 _ _ (Nat.zero_le _) ⟨rfl, rfl⟩ (by omega)
theorem bsF_some {T : TT} {k : Nat} {b : Int32} : ∀ {i : Nat}, (∃ j, j < i ∧ bt b j = true) → ∃ c, bsF T k b i = some c
  | 0, ⟨j, h, _⟩ => absurd h (Nat.not_lt_zero _)
  | i + 1, ⟨j, h, h2⟩ => by
    simp only [bsF]
    by_cases q : bt b i = true
    · rw [if_pos q]
      cases hb : bsF T k b i with
      | none => exact ⟨i, rfl⟩
      | some c =>
        show ∃ c_1, (if prT T i k < prT T c k then some i else some c) = some c_1
        split
        · exact ⟨_, rfl⟩
        · exact ⟨_, rfl⟩
    · rw [if_neg q]
      have : j ≠ i := fun e => q (e ▸ h2)
      exact bsF_some ⟨j, by omega, h2⟩
theorem bsF_zero {T : TT} {k : Nat} : ∀ {i : Nat}, bsF T k 0 i = none
  | 0 => rfl
  | i + 1 => by simp only [bsF]; rw [if_neg (by rw [b_0]; decide), bsF_zero]
theorem pay_some {T : TT} {n k : Nat} (hn : n ≤ 8) (h : ¬ payT T n k = 0) : ∃ c, bsF T k (payT T n k) n = some c := by
  unfold payT at h ⊢
  split
  · next q =>
    rw [if_pos q] at h
    refine bsF_some (Decidable.byContradiction fun z => h ((fbor_0 (by omega)).mpr fun j hj => ?_))
    refine Bool.eq_false_iff.mpr fun y => z ⟨j, hj, ?_⟩
    rw [b_fbor _ n (by omega)]; simp [hj, y]
  · next q => rw [if_neg q] at h; exact absurd rfl h
theorem bsF_cg {T T' : TT} {k : Nat} {b : Int32} (h : ∀ c, prT T' c k = prT T c k) : ∀ {i : Nat}, bsF T' k b i = bsF T k b i
  | 0 => rfl
  | i + 1 => by simp only [bsF, h, bsF_cg h (i := i)]
set_option maxRecDepth 100000 in
set_option maxHeartbeats 4000000 in
theorem c_X10_may {M : Mem} {n m : Nat} (w : TW M 28 n m) (hO : OKS (view M 28) n m) (hA : AOK (view M 28) n) {k : Nat} (hk : k < m) : Con yX10_may cX10_may 3 (some .int) 3 [.ref 0, .int (nI k)] M (fun v N => v = some (.int (payT (view M 28) n k)) ∧ fcR M N ∧ match bsF (view M 28) k (payT (view M 28) n k) n with | none => N.1 4 1 = 0 | some c => row2C N (prT (view M 28) c k).toInt64 (nI c).toInt64) := by
  refine Con.of (own := RX10) (ls := [some (.ref 0), some (.int (nI k)), none]) rfl (by decide +kernel) (Nat.le_of_ble_eq_true rfl) rfl ?_
  have ⟨hn, hn8, hm, hm10, hd⟩ := w
  refine rx_aload_n (i := 0) dX10_may_0 rfl rfl ?_
  refine rx_getR 28 (k := 2) fo_X10_26 kl_0 (by decide) ti_10_2 (by decide) rfl dX10_may_1 ?_
  refine rx_iload_n (i := 1) dX10_may_4 rfl rfl ?_
  refine rx_cvI (ci := 8) mo_X8_isDebt lk_X10_157 (c_X8_isDebt it28) (by decide) rfl rfl (Nat.le_of_ble_eq_true rfl) kl_28 rfl dX10_may_5 ?_
  refine rx_top (1) (by rw [hm]; exact one_i hk (by omega)) ?_
  refine rx_if_ne (tgt := 13) dX10_may_8 (by decide) (fun c8 => ?_) (fun c8 => absurd c8 (by decide))
  refine rx_aload_n (i := 0) dX10_may_13 rfl rfl ?_
  refine rx_getR 28 (k := 2) fo_X10_26 kl_0 (by decide) ti_10_2 (by decide) rfl dX10_may_14 ?_
  refine rx_cvN (ci := 8) mo_X8_makeList lk_X10_138 (c_X8_makeList it28 w) (by decide) rfl rfl (Nat.le_of_ble_eq_true rfl) kl_28 rfl dX10_may_17 ?_
  refine rx_aload_n (i := 0) dX10_may_20 rfl rfl ?_
  refine rx_getR 28 (k := 2) fo_X10_26 kl_0 (by decide) ti_10_2 (by decide) rfl dX10_may_21 ?_
  refine rx_iload_n (i := 1) dX10_may_24 rfl rfl ?_
  refine rx_cvI (ci := 8) mo_X8_payers lk_X10_209 (c_X8_payers it28 w.mk28 hk (bbL hO.T) hO.2.2.1) (by decide) rfl rfl (Nat.le_of_ble_eq_true rfl) kl_28 rfl dX10_may_25 ?_
  refine rx_top (payT (view M 28) n k) (paysM w hk) ?_
  refine rx_istore_n (i := 2) dX10_may_28 rfl (by decide) rfl rfl ?_
  refine rx_aload_n (i := 0) dX10_may_29 rfl rfl ?_
  refine rx_getR 4 (k := 1) fo_X10_19 kl_0 (by decide) ti_10_1 (by decide) rfl dX10_may_30 ?_
  refine rx_cvN (ci := 7) mo_X7_clear lk_X10_212 c_X7_clear (by decide) rfl rfl (Nat.le_of_ble_eq_true rfl) kl_4 rfl dX10_may_33 ?_
  have hfr : fcR M (setI (mkL M 28 n) 4 1 0) := fcK_L.1.trans fcR_clr
  have halk := hfr.vw
  refine rx_iload_n (i := 2) dX10_may_36 rfl rfl ?_
  refine rx_if_eq (tgt := 46) dX10_may_37 (by decide) (fun c37 => ?_) (fun c37 => ?_)
  · skip
    have e37 : payT (view M 28) n k = 0 := c37
    refine rx_iload_n (i := 2) dX10_may_46 rfl rfl ?_
    first | exact rx_iret dX10_may_47 ⟨rfl, hfr.trans hF, by rw [hc]; exact hR⟩ | exact rx_iret dX10_may_47 ⟨rfl, hfr, by rw [e37, bsF_zero]; exact sI_eq⟩
  · skip
    have e37 : ¬ payT (view M 28) n k = 0 := c37
    obtain ⟨c, hc⟩ := pay_some (T := view M 28) (k := k) hn8 e37
    refine rx_aload_n (i := 0) dX10_may_40 rfl rfl ?_
    refine rx_iload_n (i := 2) dX10_may_41 rfl rfl ?_
    refine rx_iload_n (i := 1) dX10_may_42 rfl rfl ?_
    refine rx_callV (ci := 10) mo_X10_tellCheapest lk_X10_213 (c_X10_tellCheapest (w.mk28.g (by omega)) (T := view (setI (mkL M 28 n) 4 1 0) 28) rfl (hO.alk halk) (fun i hi => by rw [halk 1 (by omega) (by omega), halk 2 (by omega) (by omega)]; exact hA i hi) hk) (by decide) rfl rfl (Nat.le_of_ble_eq_true rfl) kl_0 rfl dX10_may_43 ?_
    rintro _ N ⟨rfl, hF, hR⟩
    have hbs : bsF (view (setI (mkL M 28 n) 4 1 0) 28) k (payT (view M 28) n k) n = some c := by
      rw [← hc]
      exact bsF_cg (fun c => by unfold prT; rw [halk 2 (by omega) (by omega), halk 1 (by omega) (by omega), halk 8 (by omega) (by omega)])
    rw [hbs] at hR
    have ep : prT (view (setI (mkL M 28 n) 4 1 0) 28) c k = prT (view M 28) c k := by unfold prT; rw [halk 2 (by omega) (by omega), halk 1 (by omega) (by omega), halk 8 (by omega) (by omega)]
    have hR : row2C N (prT (view (setI (mkL M 28 n) 4 1 0) 28) c k).toInt64 (nI c).toInt64 := hR
    rw [ep] at hR
    refine rx_iload_n (i := 2) dX10_may_46 rfl rfl ?_
    first | exact rx_iret dX10_may_47 ⟨rfl, hfr.trans hF, by rw [hc]; exact hR⟩ | exact rx_iret dX10_may_47 ⟨rfl, hfr, by rw [e37, bsF_zero]; exact sI_eq⟩
set_option maxRecDepth 100000 in
set_option maxHeartbeats 4000000 in
theorem c_X10_may_no {M : Mem} {n m : Nat} (w : TW M 28 n m) {y : Int32} (hx : ¬ (0 ≤ y ∧ y < nI m)) : Fun yX10_may cX10_may 3 (some .int) 3 [.ref 0, .int y] M (some (.int (-1))) (M) := by
  refine Fun.of (own := RX10) ([some (.ref 0), some (.int y), none]) rfl (by decide +kernel) (Nat.le_of_ble_eq_true rfl) rfl ?_
  have ⟨hn, hn8, hm, hm10, hd⟩ := w
  refine rx_aload_n (i := 0) dX10_may_0 rfl rfl ?_
  refine rx_getR 28 (k := 2) fo_X10_26 kl_0 (by decide) ti_10_2 (by decide) rfl dX10_may_1 ?_
  refine rx_iload_n (i := 1) dX10_may_4 rfl rfl ?_
  refine rx_cvI (ci := 8) mo_X8_isDebt lk_X10_157 (c_X8_isDebt it28) (by decide) rfl rfl (Nat.le_of_ble_eq_true rfl) kl_28 rfl dX10_may_5 ?_
  rw [hm]
  refine rx_if_ne (tgt := 13) dX10_may_8 (by decide) (fun c8 => ?_) (fun c8 => ?_)
  · skip
    exact absurd (ite1n c8) hx
    skip
  · skip
    refine rx_iconst (-1) dX10_may_11 rfl ?_
    exact rx_fiI dX10_may_12 rfl rfl
theorem fcK_ch {M : Mem} {n m k z : Nat} : fcK M (chM M 28 n m k z) := fcK_L.trans (fcK_A (by unfold scr; omega))
theorem wr_T {M : Mem} {n m i k z : Nat} : wrV M 28 n m i k z = ruT (M.1 8) z (view M 28) n m i k := by
  unfold wrV wrS ruT
  rw [wrX_eq, show thM M 28 n m i k = thT (view M 28) n m i k from funext fun x => thM_T]
set_option maxRecDepth 100000 in
set_option maxHeartbeats 4000000 in
theorem c_X10_willing {M : Mem} {n m : Nat} (w : TW M 28 n m) (hO : OKS (view M 28) n m) {k z : Nat} (hk : k < m) (hz : M.1 7 2 = nI z) (hz40 : z ≤ 40) : Con yX10_willing cX10_willing 3 (some .int) 5 [.ref 0, .int (nI k)] M (fun v N => (0 ≤ (wilT (M.1 8) z (view M 28) n m k).1 ∧ v = some (.int (wilT (M.1 8) z (view M 28) n m k).1) ∧ fcR M N ∧ row1C N (wilT (M.1 8) z (view M 28) n m k).2.toInt64) ∨ (¬ 0 ≤ (wilT (M.1 8) z (view M 28) n m k).1 ∧ v = some (.int (-2)) ∧ fcK M N)) := by
  refine Con.of (own := RX10) (ls := [some (.ref 0), some (.int (nI k)), none]) rfl (by decide +kernel) (Nat.le_of_ble_eq_true rfl) rfl ?_
  have ⟨hn, hn8, hm, hm10, hd⟩ := w
  refine rx_aload_n (i := 0) dX10_willing_0 rfl rfl ?_
  refine rx_getR 28 (k := 2) fo_X10_26 kl_0 (by decide) ti_10_2 (by decide) rfl dX10_willing_1 ?_
  refine rx_iload_n (i := 1) dX10_willing_4 rfl rfl ?_
  refine rx_cvI (ci := 8) mo_X8_isDebt lk_X10_157 (c_X8_isDebt it28) (by decide) rfl rfl (Nat.le_of_ble_eq_true rfl) kl_28 rfl dX10_willing_5 ?_
  refine rx_top (1) (by rw [hm]; exact one_i hk (by omega)) ?_
  refine rx_if_ne (tgt := 13) dX10_willing_8 (by decide) (fun c8 => ?_) (fun c8 => absurd c8 (by decide))
  refine rx_aload_n (i := 0) dX10_willing_13 rfl rfl ?_
  refine rx_getR 7 (k := 7) fo_X10_49 kl_0 (by decide) ti_10_7 (by decide) rfl dX10_willing_14 ?_
  refine rx_aload_n (i := 0) dX10_willing_17 rfl rfl ?_
  refine rx_getR 28 (k := 2) fo_X10_26 kl_0 (by decide) ti_10_2 (by decide) rfl dX10_willing_18 ?_
  refine rx_iload_n (i := 1) dX10_willing_21 rfl rfl ?_
  refine rx_cvI (ci := 3) mo_X3_chosen lk_X10_225 (c_X3_chosen it28 w hk hz hz40 (bb28 hO.T) hO.2.2.1) (by decide) rfl rfl (Nat.le_of_ble_eq_true rfl) kl_7 rfl dX10_willing_22 ?_
  refine rx_top ((wilT (M.1 8) z (view M 28) n m k).1) (by rw [chs_T w hk]) ?_
  refine rx_istore_n (i := 2) dX10_willing_25 rfl (by decide) rfl rfl ?_
  refine rx_iload_n (i := 2) dX10_willing_26 rfl rfl ?_
  refine rx_if_ge (tgt := 33) dX10_willing_27 (by decide) (fun c27 => ?_) (fun c27 => ?_)
  · skip
    obtain ⟨p, hp, h10, e1, e2⟩ := chs_in (n := n) (by omega) c27
    have e1 : (wilT (M.1 8) z (view M 28) n m k).1 = nI p := e1
    have e2 : (wilT (M.1 8) z (view M 28) n m k).2 = ruT (M.1 8) z (view M 28) n m p k := e2
    rw [e1]
    refine rx_aload_n (i := 0) dX10_willing_33 rfl rfl ?_
    refine rx_getR 4 (k := 1) fo_X10_19 kl_0 (by decide) ti_10_1 (by decide) rfl dX10_willing_34 ?_
    refine rx_aload_n (i := 0) dX10_willing_37 rfl rfl ?_
    refine rx_getR 7 (k := 7) fo_X10_49 kl_0 (by decide) ti_10_7 (by decide) rfl dX10_willing_38 ?_
    refine rx_aload_n (i := 0) dX10_willing_41 rfl rfl ?_
    refine rx_getR 28 (k := 2) fo_X10_26 kl_0 (by decide) ti_10_2 (by decide) rfl dX10_willing_42 ?_
    refine rx_iload_n (i := 2) dX10_willing_45 rfl rfl ?_
    refine rx_iload_n (i := 1) dX10_willing_46 rfl rfl ?_
    refine rx_cvI (ci := 3) mo_X3_worth lk_X10_229 (c_X3_worth it28 (fcK_ch.1.tw w) (p := p) hp hk ((fcK_ch.1.1 7 2 (by unfold scr; omega) (by omega)).trans hz) hz40) (by decide) rfl rfl (Nat.le_of_ble_eq_true rfl) kl_7 rfl dX10_willing_47 ?_
    have ewr : wrV (chM M 28 n m k z) 28 n m p k z = (wilT (M.1 8) z (view M 28) n m k).2 := by
      rw [wr_T, e2, show (chM M 28 n m k z).1 8 = M.1 8 from funext fun j => fcK_ch.1.1 8 j (by unfold scr; omega) (by omega)]
      unfold ruT
      rw [show thT (view (chM M 28 n m k z) 28) n m p k = thT (view M 28) n m p k from thT_alk fcK_ch.1.vw]
    rw [ewr]
    refine rx_i2l dX10_willing_50 rfl ?_
    refine rx_cvN (ci := 7) mo_X7_tell lk_X10_233 c_X7_tell (by decide) rfl rfl (Nat.le_of_ble_eq_true rfl) kl_4 rfl dX10_willing_51 ?_
    refine rx_iload_n (i := 2) dX10_willing_54 rfl rfl ?_
    exact rx_iret dX10_willing_55 (Or.inl ⟨nI_pos' (by omega), rfl, (fcK_ch.1.trans (fcK_A (by unfold scr; omega)).1).trans fcR_r1, r1_row⟩)
  · skip
    refine rx_bipush (-2) dX10_willing_30 rfl ?_
    exact rx_iret dX10_willing_32 (Or.inr ⟨c27, rfl, fcK_ch⟩)
set_option maxRecDepth 100000 in
set_option maxHeartbeats 4000000 in
theorem c_X10_willing_no {M : Mem} {n m : Nat} (w : TW M 28 n m) {y : Int32} (hx : ¬ (0 ≤ y ∧ y < nI m)) : Fun yX10_willing cX10_willing 3 (some .int) 5 [.ref 0, .int y] M (some (.int (-1))) (M) := by
  refine Fun.of (own := RX10) ([some (.ref 0), some (.int y), none]) rfl (by decide +kernel) (Nat.le_of_ble_eq_true rfl) rfl ?_
  have ⟨hn, hn8, hm, hm10, hd⟩ := w
  refine rx_aload_n (i := 0) dX10_willing_0 rfl rfl ?_
  refine rx_getR 28 (k := 2) fo_X10_26 kl_0 (by decide) ti_10_2 (by decide) rfl dX10_willing_1 ?_
  refine rx_iload_n (i := 1) dX10_willing_4 rfl rfl ?_
  refine rx_cvI (ci := 8) mo_X8_isDebt lk_X10_157 (c_X8_isDebt it28) (by decide) rfl rfl (Nat.le_of_ble_eq_true rfl) kl_28 rfl dX10_willing_5 ?_
  rw [hm]
  refine rx_if_ne (tgt := 13) dX10_willing_8 (by decide) (fun c8 => ?_) (fun c8 => ?_)
  · skip
    exact absurd (ite1n c8) hx
    skip
  · skip
    refine rx_iconst (-1) dX10_willing_11 rfl ?_
    exact rx_fiI dX10_willing_12 rfl rfl
theorem OKT_alk {T T' : TT} {n : Nat} (e : alk T T') (h : OKT T n) : OKT T' n := by
  unfold OKT
  rw [e 0 (by omega) (by omega), e 3 (by omega) (by omega), e 4 (by omega) (by omega), e 14 (by omega) (by omega)]
  exact h
theorem shT_alk {T T' : TT} {i j : Nat} {x : Int32} (e : alk T T') : alk (shT T i j x) (shT T' i j x) := fun c h5 h20 => by
  funext a
  unfold shT
  rw [e c h5 h20, e 0 (by omega) (by omega)]
theorem pay_alk {T T' : TT} {n k i j : Nat} {x : Int32} (e : alk T T') : payT (shT T' i j x) n k = payT (shT T i j x) n k := payT_same (shT_alk e)
theorem gok_alk {T T' : TT} {n o k : Nat} (e : alk T T') : gok T' n o k = gok T n o k := by
  funext c f
  unfold gok
  rw [e 0 (by omega) (by omega), e 3 (by omega) (by omega), pay_alk e]
theorem gLe_alk {T T' : TT} {n o k : Nat} (e : alk T T') : gLe T' n o k = gLe T n o k := by
  funext c f
  unfold gLe
  rw [gok_alk e]
theorem lok_alk {T T' : TT} {n o k : Nat} (e : alk T T') : lok T' n o k = lok T n o k := by
  funext c f
  unfold lok
  rw [pay_alk e]
theorem lLe_alk {T T' : TT} {n o k : Nat} (e : alk T T') : lLe T' n o k = lLe T n o k := by
  funext c f
  unfold lLe
  rw [lok_alk e]
set_option maxRecDepth 100000 in
set_option maxHeartbeats 4000000 in
theorem c_X10_gift {M : Mem} {n m : Nat} (w : TW M 28 n m) (hO : OKT (view M 28) n) {o k S : Nat} (ho : o < n) (hk : k < m) (h10 : M.1 39 k = 0) (eo : M.1 35 k = nI o) (hS : fsum (M.1 29) n = nI S) (hS2 : S < 100000) : Con yX10_gift cX10_gift 3 (some .int) 5 [.ref 0, .int (nI k)] M (fun v N => (¬ payT (view M 28) n k = 0 ∧ v = some (.int 0) ∧ fcK M N) ∨ (payT (view M 28) n k = 0 ∧ ((∃ c f, c ≤ S ∧ gLe (view M 28) n o k c f ∧ v = some (.int (nI c)) ∧ fcR M N ∧ row2C N (nI f).toInt64 (payT (shT (view M 28) f o (nI c)) n k).toInt64) ∨ (v = some (.int (-2)) ∧ fcK M N ∧ ∀ c f, 1 ≤ c → c ≤ S → ¬ gok (view M 28) n o k c f)))) := by
  refine Con.of (own := RX10) (ls := [some (.ref 0), some (.int (nI k)), none]) rfl (by decide +kernel) (Nat.le_of_ble_eq_true rfl) rfl ?_
  have ⟨hn, hn8, hm, hm10, hd⟩ := w
  refine rx_aload_n (i := 0) dX10_gift_0 rfl rfl ?_
  refine rx_getR 28 (k := 2) fo_X10_26 kl_0 (by decide) ti_10_2 (by decide) rfl dX10_gift_1 ?_
  refine rx_iload_n (i := 1) dX10_gift_4 rfl rfl ?_
  refine rx_cvI (ci := 8) mo_X8_isOpen lk_X10_278 (c_X8_isOpen it28 w) (by decide) rfl rfl (Nat.le_of_ble_eq_true rfl) kl_28 rfl dX10_gift_5 ?_
  refine rx_top (1) (if_pos ⟨⟨nI_pos' (by omega), by rw [hm]; exact nI_lt hk (by omega)⟩, by rw [nI_clamp (by omega)]; exact h10⟩) ?_
  refine rx_if_ne (tgt := 13) dX10_gift_8 (by decide) (fun c8 => ?_) (fun c8 => absurd c8 (by decide))
  refine rx_aload_n (i := 0) dX10_gift_13 rfl rfl ?_
  refine rx_getR 28 (k := 2) fo_X10_26 kl_0 (by decide) ti_10_2 (by decide) rfl dX10_gift_14 ?_
  refine rx_cvN (ci := 8) mo_X8_makeList lk_X10_138 (c_X8_makeList it28 w) (by decide) rfl rfl (Nat.le_of_ble_eq_true rfl) kl_28 rfl dX10_gift_17 ?_
  have halk := (fcK_L (M := M) (n := n)).1.vw
  refine rx_aload_n (i := 0) dX10_gift_20 rfl rfl ?_
  refine rx_getR 28 (k := 2) fo_X10_26 kl_0 (by decide) ti_10_2 (by decide) rfl dX10_gift_21 ?_
  refine rx_iload_n (i := 1) dX10_gift_24 rfl rfl ?_
  refine rx_cvI (ci := 8) mo_X8_payers lk_X10_209 (c_X8_payers it28 w.mk28 hk (bbL hO) hO.2) (by decide) rfl rfl (Nat.le_of_ble_eq_true rfl) kl_28 rfl dX10_gift_25 ?_
  refine rx_top (payT (view M 28) n k) (paysM w hk) ?_
  refine rx_if_eq (tgt := 33) dX10_gift_28 (by decide) (fun c28 => ?_) (fun c28 => ?_)
  · skip
    have e28 : payT (view M 28) n k = 0 := c28
    refine rx_aload_n (i := 0) dX10_gift_33 rfl rfl ?_
    refine rx_getR 14 (k := 9) fo_X10_63 kl_0 (by decide) ti_10_9 (by decide) rfl dX10_gift_34 ?_
    refine rx_aload_n (i := 0) dX10_gift_37 rfl rfl ?_
    refine rx_getR 28 (k := 2) fo_X10_26 kl_0 (by decide) ti_10_2 (by decide) rfl dX10_gift_38 ?_
    refine rx_iload_n (i := 1) dX10_gift_41 rfl rfl ?_
    refine rx_callV (ci := 1) mo_X1_leastGift lk_X10_281 (c_X1_leastGift (S := S) w.mk28 (OKT_alk halk hO) ho hk ((mkL_o (by omega)).trans eo) (by rw [show (mkL M 28 n).1 29 = M.1 29 from funext fun j => mkL_o (by omega)]; exact hS) hS2) (by decide) rfl rfl (Nat.le_of_ble_eq_true rfl) kl_14 rfl dX10_gift_42 ?_
    rintro v8 N ⟨hX, hgg⟩
    have hXK : fcK M N := fcK_L.trans (hX.CK fun a h => by unfold scr; omega)
    rw [gLe_alk halk, gok_alk halk] at hgg
    rcases hgg with ⟨c, f, hc, hg, rfl, hw, hp⟩ | ⟨rfl, hno⟩
    · skip
      have hc0 : ¬ nI c = 0 := fun q => by have := (nI_eq (b := 0) (by omega) (by omega)).mp q; have := hg.1; omega
      rw [pay_alk halk] at hp
      refine rx_istore_n (i := 2) dX10_gift_45 rfl (by decide) rfl rfl ?_
      refine rx_iload_n (i := 2) dX10_gift_46 rfl rfl ?_
      refine rx_if_ne (tgt := 53) dX10_gift_47 (by decide) (fun c47 => ?_) (fun c47 => absurd c47 hc0)
      refine rx_aload_n (i := 0) dX10_gift_53 rfl rfl ?_
      refine rx_getR 4 (k := 1) fo_X10_19 kl_0 (by decide) ti_10_1 (by decide) rfl dX10_gift_54 ?_
      refine rx_aload_n (i := 0) dX10_gift_57 rfl rfl ?_
      refine rx_getR 14 (k := 9) fo_X10_63 kl_0 (by decide) ti_10_9 (by decide) rfl dX10_gift_58 ?_
      refine rx_getI (k := 1) fo_X10_284 kl_14 (by decide) ti_1_1 dX10_gift_61 ?_
      refine rx_top (nI f) (hw) ?_
      refine rx_i2l dX10_gift_64 rfl ?_
      refine rx_aload_n (i := 0) dX10_gift_65 rfl rfl ?_
      refine rx_getR 14 (k := 9) fo_X10_63 kl_0 (by decide) ti_10_9 (by decide) rfl dX10_gift_66 ?_
      refine rx_getI (k := 2) fo_X10_287 kl_14 (by decide) ti_1_2 dX10_gift_69 ?_
      refine rx_top (payT (shT (view M 28) f o (nI c)) n k) (hp) ?_
      refine rx_i2l dX10_gift_72 rfl ?_
      refine rx_cvN (ci := 7) mo_X7_tell_ lk_X10_221 c_X7_tell_ (by decide) rfl rfl (Nat.le_of_ble_eq_true rfl) kl_4 rfl dX10_gift_73 ?_
      refine rx_iload_n (i := 2) dX10_gift_76 rfl rfl ?_
      exact rx_iret dX10_gift_77 (Or.inr ⟨e28, Or.inl ⟨c, f, hc, hg, rfl, hXK.1.trans fcR_r2, r2_row⟩⟩)
    · skip
      refine rx_istore_n (i := 2) dX10_gift_45 rfl (by decide) rfl rfl ?_
      refine rx_iload_n (i := 2) dX10_gift_46 rfl rfl ?_
      refine rx_if_ne (tgt := 53) dX10_gift_47 (by decide) (fun c47 => absurd rfl c47) (fun c47 => ?_)
      refine rx_bipush (-2) dX10_gift_50 rfl ?_
      exact rx_iret dX10_gift_52 (Or.inr ⟨e28, Or.inr ⟨rfl, hXK, hno⟩⟩)
  · skip
    have e28 : ¬ payT (view M 28) n k = 0 := c28
    refine rx_iconst (0) dX10_gift_31 rfl ?_
    exact rx_iret dX10_gift_32 (Or.inl ⟨e28, rfl, fcK_L⟩)
set_option maxRecDepth 100000 in
set_option maxHeartbeats 4000000 in
theorem c_X10_gift_no {M : Mem} {n m : Nat} (w : TW M 28 n m) {y : Int32} (hx : ¬ ((0 ≤ y ∧ y < nI m) ∧ M.1 39 y.toNatClampNeg = 0)) : Fun yX10_gift cX10_gift 3 (some .int) 5 [.ref 0, .int y] M (some (.int (-1))) (M) := by
  refine Fun.of (own := RX10) ([some (.ref 0), some (.int y), none]) rfl (by decide +kernel) (Nat.le_of_ble_eq_true rfl) rfl ?_
  have ⟨hn, hn8, hm, hm10, hd⟩ := w
  refine rx_aload_n (i := 0) dX10_gift_0 rfl rfl ?_
  refine rx_getR 28 (k := 2) fo_X10_26 kl_0 (by decide) ti_10_2 (by decide) rfl dX10_gift_1 ?_
  refine rx_iload_n (i := 1) dX10_gift_4 rfl rfl ?_
  refine rx_cvI (ci := 8) mo_X8_isOpen lk_X10_278 (c_X8_isOpen it28 w) (by decide) rfl rfl (Nat.le_of_ble_eq_true rfl) kl_28 rfl dX10_gift_5 ?_
  rw [hm]
  refine rx_if_ne (tgt := 13) dX10_gift_8 (by decide) (fun c8 => ?_) (fun c8 => ?_)
  · skip
    exact absurd (ite1n c8) hx
    skip
  · skip
    refine rx_iconst (-1) dX10_gift_11 rfl ?_
    exact rx_fiI dX10_gift_12 rfl rfl
set_option maxRecDepth 100000 in
set_option maxHeartbeats 4000000 in
theorem c_X10_poorer {M : Mem} {n m : Nat} (w : TW M 28 n m) (hO : OKT (view M 28) n) {i k S : Nat} (hi : i < n) (hk : k < m) (h10 : M.1 39 k = 0) (eS : view M 28 0 i - view M 28 3 i = nI S) (hS2 : S < 100000) : Con yX10_poorer cX10_poorer 4 (some .int) 5 [.ref 0, .int (nI i), .int (nI k)] M (fun v N => (mayT (view M 28) n k i = true ∧ v = some (.int 0) ∧ fcK M N) ∨ (mayT (view M 28) n k i = false ∧ ((∃ c f, c ≤ S ∧ lLe (view M 28) n i k c f ∧ v = some (.int (nI c)) ∧ fcR M N ∧ row1C N (nI f).toInt64) ∨ (v = some (.int (-2)) ∧ fcK M N ∧ ∀ c f, 1 ≤ c → c ≤ S → ¬ lok (view M 28) n i k c f)))) := by
  refine Con.of (own := RX10) (ls := [some (.ref 0), some (.int (nI i)), some (.int (nI k)), none]) rfl (by decide +kernel) (Nat.le_of_ble_eq_true rfl) rfl ?_
  have ⟨hn, hn8, hm, hm10, hd⟩ := w
  refine rx_aload_n (i := 0) dX10_poorer_0 rfl rfl ?_
  refine rx_getR 28 (k := 2) fo_X10_26 kl_0 (by decide) ti_10_2 (by decide) rfl dX10_poorer_1 ?_
  refine rx_iload_n (i := 1) dX10_poorer_4 rfl rfl ?_
  refine rx_cvI (ci := 8) mo_X8_isPerson lk_X10_120 (c_X8_isPerson it28) (by decide) rfl rfl (Nat.le_of_ble_eq_true rfl) kl_28 rfl dX10_poorer_5 ?_
  refine rx_top (1) (by rw [hn]; exact one_i hi (by omega)) ?_
  refine rx_if_eq (tgt := 22) dX10_poorer_8 (by decide) (fun c8 => absurd c8 (by decide)) (fun c8 => ?_)
  refine rx_aload_n (i := 0) dX10_poorer_11 rfl rfl ?_
  refine rx_getR 28 (k := 2) fo_X10_26 kl_0 (by decide) ti_10_2 (by decide) rfl dX10_poorer_12 ?_
  refine rx_iload_n (i := 2) dX10_poorer_15 rfl rfl ?_
  refine rx_cvI (ci := 8) mo_X8_isOpen lk_X10_278 (c_X8_isOpen it28 w) (by decide) rfl rfl (Nat.le_of_ble_eq_true rfl) kl_28 rfl dX10_poorer_16 ?_
  refine rx_top (1) (if_pos ⟨⟨nI_pos' (by omega), by rw [hm]; exact nI_lt hk (by omega)⟩, by rw [nI_clamp (by omega)]; exact h10⟩) ?_
  refine rx_if_ne (tgt := 24) dX10_poorer_19 (by decide) (fun c19 => ?_) (fun c19 => absurd c19 (by decide))
  refine rx_aload_n (i := 0) dX10_poorer_24 rfl rfl ?_
  refine rx_getR 28 (k := 2) fo_X10_26 kl_0 (by decide) ti_10_2 (by decide) rfl dX10_poorer_25 ?_
  refine rx_iload_n (i := 1) dX10_poorer_28 rfl rfl ?_
  refine rx_iload_n (i := 2) dX10_poorer_29 rfl rfl ?_
  refine rx_cvI (ci := 8) mo_X8_canPay lk_X10_236 (c_X8_canPay it28 w hi hk h10 (bb28 hO) hO.2) (by decide) rfl rfl (Nat.le_of_ble_eq_true rfl) kl_28 rfl dX10_poorer_30 ?_
  have halk := (fcK_L (M := M) (n := n)).1.vw
  refine rx_top (zI (mayT (view M 28) n k i)) (congrArg zI (mayL_T w hk hi)) ?_
  refine rx_if_eq (tgt := 38) dX10_poorer_33 (by decide) (fun c33 => ?_) (fun c33 => ?_)
  · skip
    have e33 : mayT (view M 28) n k i = false := zI_0.mp c33
    refine rx_aload_n (i := 0) dX10_poorer_38 rfl rfl ?_
    refine rx_getR 14 (k := 9) fo_X10_63 kl_0 (by decide) ti_10_9 (by decide) rfl dX10_poorer_39 ?_
    refine rx_aload_n (i := 0) dX10_poorer_42 rfl rfl ?_
    refine rx_getR 28 (k := 2) fo_X10_26 kl_0 (by decide) ti_10_2 (by decide) rfl dX10_poorer_43 ?_
    refine rx_iload_n (i := 1) dX10_poorer_46 rfl rfl ?_
    refine rx_iload_n (i := 2) dX10_poorer_47 rfl rfl ?_
    refine rx_callV (ci := 1) mo_X1_leastLoss lk_X10_289 (c_X1_leastLoss (S := S) w.mk28 (OKT_alk halk hO) hi hk (by rw [halk 0 (by omega) (by omega), halk 3 (by omega) (by omega)]; exact eS) hS2) (by decide) rfl rfl (Nat.le_of_ble_eq_true rfl) kl_14 rfl dX10_poorer_48 ?_
    rintro v8 N ⟨hX, hgg⟩
    have hXK : fcK M N := fcK_L.trans (hX.CK fun a h => by unfold scr; omega)
    rw [lLe_alk halk, lok_alk halk] at hgg
    rcases hgg with ⟨c, f, hc, hg, rfl, hw⟩ | ⟨rfl, hno⟩
    · skip
      have hc0 : ¬ nI c = 0 := fun q => by have := (nI_eq (b := 0) (by omega) (by omega)).mp q; have := hg.1; omega
      refine rx_istore_n (i := 3) dX10_poorer_51 rfl (by decide) rfl rfl ?_
      refine rx_iload_n (i := 3) dX10_poorer_52 rfl rfl ?_
      refine rx_if_ne (tgt := 59) dX10_poorer_53 (by decide) (fun c53 => ?_) (fun c53 => absurd c53 hc0)
      refine rx_aload_n (i := 0) dX10_poorer_59 rfl rfl ?_
      refine rx_getR 4 (k := 1) fo_X10_19 kl_0 (by decide) ti_10_1 (by decide) rfl dX10_poorer_60 ?_
      refine rx_aload_n (i := 0) dX10_poorer_63 rfl rfl ?_
      refine rx_getR 14 (k := 9) fo_X10_63 kl_0 (by decide) ti_10_9 (by decide) rfl dX10_poorer_64 ?_
      refine rx_getI (k := 1) fo_X10_284 kl_14 (by decide) ti_1_1 dX10_poorer_67 ?_
      refine rx_top (nI f) (hw) ?_
      refine rx_i2l dX10_poorer_70 rfl ?_
      refine rx_cvN (ci := 7) mo_X7_tell lk_X10_233 c_X7_tell (by decide) rfl rfl (Nat.le_of_ble_eq_true rfl) kl_4 rfl dX10_poorer_71 ?_
      refine rx_iload_n (i := 3) dX10_poorer_74 rfl rfl ?_
      exact rx_iret dX10_poorer_75 (Or.inr ⟨e33, Or.inl ⟨c, f, hc, hg, rfl, hXK.1.trans fcR_r1, r1_row⟩⟩)
    · skip
      refine rx_istore_n (i := 3) dX10_poorer_51 rfl (by decide) rfl rfl ?_
      refine rx_iload_n (i := 3) dX10_poorer_52 rfl rfl ?_
      refine rx_if_ne (tgt := 59) dX10_poorer_53 (by decide) (fun c53 => absurd rfl c53) (fun c53 => ?_)
      refine rx_bipush (-2) dX10_poorer_56 rfl ?_
      exact rx_iret dX10_poorer_58 (Or.inr ⟨e33, Or.inr ⟨rfl, hXK, hno⟩⟩)
  · skip
    have e33 : mayT (view M 28) n k i = true := zI_n c33
    refine rx_iconst (0) dX10_poorer_36 rfl ?_
    exact rx_iret dX10_poorer_37 (Or.inl ⟨e33, rfl, fcK_L⟩)
set_option maxRecDepth 100000 in
set_option maxHeartbeats 4000000 in
theorem c_X10_poorer_no {M : Mem} {n m : Nat} (w : TW M 28 n m) {y x : Int32} (hx : ¬ ((0 ≤ x ∧ x < nI n) ∧ (0 ≤ y ∧ y < nI m) ∧ M.1 39 y.toNatClampNeg = 0)) : Fun yX10_poorer cX10_poorer 4 (some .int) 5 [.ref 0, .int x, .int y] M (some (.int (-1))) (M) := by
  refine Fun.of (own := RX10) ([some (.ref 0), some (.int x), some (.int y), none]) rfl (by decide +kernel) (Nat.le_of_ble_eq_true rfl) rfl ?_
  have ⟨hn, hn8, hm, hm10, hd⟩ := w
  refine rx_aload_n (i := 0) dX10_poorer_0 rfl rfl ?_
  refine rx_getR 28 (k := 2) fo_X10_26 kl_0 (by decide) ti_10_2 (by decide) rfl dX10_poorer_1 ?_
  refine rx_iload_n (i := 1) dX10_poorer_4 rfl rfl ?_
  refine rx_cvI (ci := 8) mo_X8_isPerson lk_X10_120 (c_X8_isPerson it28) (by decide) rfl rfl (Nat.le_of_ble_eq_true rfl) kl_28 rfl dX10_poorer_5 ?_
  rw [hn]
  refine rx_if_eq (tgt := 22) dX10_poorer_8 (by decide) (fun c8 => ?_) (fun c8 => ?_)
  · skip
    refine rx_iconst (-1) dX10_poorer_22 rfl ?_
    exact rx_fiI dX10_poorer_23 rfl rfl
  · skip
    have e8 := ite1n c8
    refine rx_aload_n (i := 0) dX10_poorer_11 rfl rfl ?_
    refine rx_getR 28 (k := 2) fo_X10_26 kl_0 (by decide) ti_10_2 (by decide) rfl dX10_poorer_12 ?_
    refine rx_iload_n (i := 2) dX10_poorer_15 rfl rfl ?_
    refine rx_cvI (ci := 8) mo_X8_isOpen lk_X10_278 (c_X8_isOpen it28 w) (by decide) rfl rfl (Nat.le_of_ble_eq_true rfl) kl_28 rfl dX10_poorer_16 ?_
    rw [hm]
    refine rx_if_ne (tgt := 24) dX10_poorer_19 (by decide) (fun c19 => ?_) (fun c19 => ?_)
    · skip
      exact absurd ⟨e8, ite1n c19⟩ hx
      skip
    · skip
      refine rx_iconst (-1) dX10_poorer_22 rfl ?_
      exact rx_fiI dX10_poorer_23 rfl rfl
