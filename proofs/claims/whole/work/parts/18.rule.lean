
theorem setA_o {M : Mem} {i a j : Nat} {f : Nat → Int32} (h : a ≠ i) : (setA M i f).1 a j = M.1 a j := if_neg h
theorem setA_i {M : Mem} {i j : Nat} {f : Nat → Int32} : (setA M i f).1 i j = f j := if_pos rfl
theorem setA_same {M : Mem} {i : Nat} : setA M i (M.1 i) = M := by
  refine Prod.ext ?_ rfl
  funext a j
  simp only [setA]
  split
  · next h => rw [h]
  · rfl
theorem setI_setA {M : Mem} {i k : Nat} {f : Nat → Int32} {x : Int32} : setI (setA M i f) i k x = setA M i (upd f k x) := by
  refine Prod.ext ?_ rfl
  funext a j
  simp only [setA, setI, upd]
  by_cases ha : a = i
  · subst ha; by_cases hj : j = k <;> simp [hj]
  · simp [ha]
theorem setA_setA {M : Mem} {i : Nat} {f g : Nat → Int32} : setA (setA M i f) i g = setA M i g := by
  refine Prod.ext ?_ rfl
  funext a j
  simp only [setA]
  split <;> rfl
theorem rx_iincD {cc : ByteArray} {own : String} {nL d : Nat} {Q : Nat → List (Option Value) → List Value → Mem → Prop} {pc : Nat} {ls : List (Option Value)} {st : List Value} {M : Mem} {i k : Nat} {ls2 : List (Option Value)} (h1 : 1 ≤ k) (hdg : decode cc pc = .ok (.iinc i (-1), 3)) (hk : ls[i]? = some (some (.int (nI k)))) (hn : i < nL) (ho : okS ls i = true) (h2 : ls.set i (some (.int (nI (k - 1)))) = ls2) (kk0 : Reach cc own nL d Q (pc + 3) ls2 st M) : Reach cc own nL d Q pc ls st M := rx_iinc hdg hk (sb_m1 (by omega)) hn ho h2 kk0
/-- the same town -/
def sameT (M M' : Mem) (t : Nat) : Prop := ∀ a, t ≤ a → a ≤ t + 15 → M'.1 a = M.1 a
theorem sameT.TW {M M' : Mem} {t n m : Nat} (h : sameT M M' t) (w : TW M t n m) : TW M' t n m := w.keep (by rw [h t (by omega) (by omega)]) (by rw [h t (by omega) (by omega)]) (fun _ _ => by rw [h (t + 7) (by omega) (by omega)]) (fun _ _ => by rw [h (t + 8) (by omega) (by omega)])
theorem town_ge {t : Nat} (h : isTown t) : 28 ≤ t ∧ t + 15 < 140 := by rcases h with rfl | rfl | rfl | rfl | rfl | rfl | rfl <;> omega
theorem sameT_A {M : Mem} {t i : Nat} {f : Nat → Int32} (h : i < t ∨ t + 15 < i) : sameT M (setA M i f) t := fun a h1 h2 => by funext j; exact setA_o (by omega)
/-- what the letters of THE RULE are -/
def thM (M : Mem) (t n m i k : Nat) (x : Int32) : Int32 :=
  if x = 0 then nI i else if x = 1 then M.1 (t + 1) i - M.1 (t + 4) i else if x = 2 then M.1 (t + 2) i else if x = 3 then M.1 (t + 9) k else if x = 4 then priceM M t i k
  else if x = 5 then fsum (fun j => M.1 (t + 13) (8 * j + i)) n else if x = 6 then fsum (fun j => if M.1 (t + 11) j = 0 ∧ M.1 (t + 7) j = nI i then M.1 (t + 9) j else 0) m
  else zI (anyB (fun j => decide (M.1 (t + 11) j = 0) && (decide (M.1 (t + 7) j = nI i) && decide (M.1 (t + 8) j = M.1 (t + 7) k))) m)
theorem thM_same {M M' : Mem} {t n m i k : Nat} {x : Int32} (h : sameT M M' t) : thM M' t n m i k x = thM M t n m i k x := by
  have e : ∀ c, c ≤ 15 → M'.1 (t + c) = M.1 (t + c) := fun c hc => h (t + c) (by omega) (by omega)
  simp only [thM, priceM, e 1 (by omega), e 2 (by omega), e 3 (by omega), e 4 (by omega), e 7 (by omega), e 8 (by omega), e 9 (by omega), e 11 (by omega), e 13 (by omega)]
def dnF (x a b : Int32) : Int32 := if x = 0 then (if a < b then 1 else 0) else if x = 1 then (if b < a then 1 else 0) else if x = 2 then (if a = b then 1 else 0) else if x = 3 then a + b else if x = 4 then a - b else if x = 5 then a * b else (if b = 0 then 0 else a / b)

set_option maxRecDepth 100000 in
set_option maxHeartbeats 4000000 in
theorem c_X3_thing {t : Nat} (ht : isTown t) {M : Mem} {n m : Nat} (w : TW M t n m) {i k : Nat} (hi : i < n) (hk : k < m) {x : Int32} : Fun yX3_thing cX3_thing 4 (some .int) 2 [.int x, .ref t, .int (nI i), .int (nI k)] M (some (.int (thM M t n m i k x))) (M) := by
  refine Fun.of (own := RX3) ([some (.int x), some (.ref t), some (.int (nI i)), some (.int (nI k))]) rfl (by decide +kernel) (Nat.le_of_ble_eq_true rfl) rfl ?_
  have ⟨hn, hn8, hm, hm10, hd⟩ := w
  refine rx_iload_n (i := 0) dX3_thing_0 rfl rfl ?_
  by_cases s0 : x = 0
  · subst s0
    refine rx_tableIn (off := 43) (tgt := 44) dX3_thing_1 (by decide) (by decide) rfl (by decide) ?_
    refine rx_iload_n (i := 2) dX3_thing_44 rfl rfl ?_
    exact rx_fiI dX3_thing_45 rfl rfl
  by_cases s1 : x = 1
  · subst s1
    refine rx_tableIn (off := 45) (tgt := 46) dX3_thing_1 (by decide) (by decide) rfl (by decide) ?_
    refine rx_aload_n (i := 1) dX3_thing_46 rfl rfl ?_
    refine rx_iload_n (i := 2) dX3_thing_47 rfl rfl ?_
    refine rx_cvI (ci := 8) mo_X8_counted lk_X3_56 (c_X8_counted ht (by omega)) (by decide) rfl rfl (Nat.le_of_ble_eq_true rfl) (kt_0 ht) rfl dX3_thing_48 ?_
    exact rx_fiI dX3_thing_51 rfl rfl
  by_cases s2 : x = 2
  · subst s2
    refine rx_tableIn (off := 51) (tgt := 52) dX3_thing_1 (by decide) (by decide) rfl (by decide) ?_
    refine rx_aload_n (i := 1) dX3_thing_52 rfl rfl ?_
    refine rx_getR (t + 2) (k := 1) fo_X3_59 (kt_0 ht) (by decide) ti_8_1 (by rintro ⟨-, h⟩; omega) (rt_T ht 1 _ (by omega)) dX3_thing_53 ?_
    refine rx_iload_n (i := 2) dX3_thing_56 rfl rfl ?_
    refine rx_ialdN (kt_2 ht) (by omega) (by first | decide | omega) dX3_thing_57 ?_
    exact rx_fiI dX3_thing_58 rfl rfl
  by_cases s3 : x = 3
  · subst s3
    refine rx_tableIn (off := 58) (tgt := 59) dX3_thing_1 (by decide) (by decide) rfl (by decide) ?_
    refine rx_aload_n (i := 1) dX3_thing_59 rfl rfl ?_
    refine rx_getR (t + 9) (k := 8) fo_X3_62 (kt_0 ht) (by decide) ti_8_8 (by rintro ⟨-, h⟩; omega) (rt_T ht 8 _ (by omega)) dX3_thing_60 ?_
    refine rx_iload_n (i := 3) dX3_thing_63 rfl rfl ?_
    refine rx_ialdN (kt_9 ht) (by omega) (by first | decide | omega) dX3_thing_64 ?_
    exact rx_fiI dX3_thing_65 rfl rfl
  by_cases s4 : x = 4
  · subst s4
    refine rx_tableIn (off := 65) (tgt := 66) dX3_thing_1 (by decide) (by decide) rfl (by decide) ?_
    refine rx_aload_n (i := 1) dX3_thing_66 rfl rfl ?_
    refine rx_iload_n (i := 2) dX3_thing_67 rfl rfl ?_
    refine rx_iload_n (i := 3) dX3_thing_68 rfl rfl ?_
    refine rx_cvI (ci := 8) mo_X8_price lk_X3_65 (c_X8_price ht (by omega) (by omega)) (by decide) rfl rfl (Nat.le_of_ble_eq_true rfl) (kt_0 ht) rfl dX3_thing_69 ?_
    exact rx_fiI dX3_thing_72 rfl rfl
  by_cases s5 : x = 5
  · subst s5
    refine rx_tableIn (off := 72) (tgt := 73) dX3_thing_1 (by decide) (by decide) rfl (by decide) ?_
    refine rx_aload_n (i := 1) dX3_thing_73 rfl rfl ?_
    refine rx_iload_n (i := 2) dX3_thing_74 rfl rfl ?_
    refine rx_cvI (ci := 8) mo_X8_favoursOwedTo lk_X3_69 (c_X8_favoursOwedTo ht w i hi) (by decide) rfl rfl (Nat.le_of_ble_eq_true rfl) (kt_0 ht) rfl dX3_thing_75 ?_
    exact rx_fiI dX3_thing_78 rfl rfl
  by_cases s6 : x = 6
  · subst s6
    refine rx_tableIn (off := 78) (tgt := 79) dX3_thing_1 (by decide) (by decide) rfl (by decide) ?_
    refine rx_aload_n (i := 1) dX3_thing_79 rfl rfl ?_
    refine rx_iload_n (i := 2) dX3_thing_80 rfl rfl ?_
    refine rx_cvI (ci := 8) mo_X8_openOwedBy lk_X3_72 (c_X8_openOwedBy ht w hi) (by decide) rfl rfl (Nat.le_of_ble_eq_true rfl) (kt_0 ht) rfl dX3_thing_81 ?_
    exact rx_fiI dX3_thing_84 rfl rfl
  refine rx_tableOut (tgt := 85) dX3_thing_1 (by have q0 := lv_neT s0 (a := 0) rfl; have q1 := lv_neT s1 (a := 1) rfl; have q2 := lv_neT s2 (a := 2) rfl; have q3 := lv_neT s3 (a := 3) rfl; have q4 := lv_neT s4 (a := 4) rfl; have q5 := lv_neT s5 (a := 5) rfl; have q6 := lv_neT s6 (a := 6) rfl; have := x.toInt; omega) (by decide) ?_
  refine rx_aload_n (i := 1) dX3_thing_85 rfl rfl ?_
  refine rx_iload_n (i := 2) dX3_thing_86 rfl rfl ?_
  refine rx_aload_n (i := 1) dX3_thing_87 rfl rfl ?_
  refine rx_getR (t + 7) (k := 6) fo_X3_75 (kt_0 ht) (by decide) ti_8_6 (by rintro ⟨-, h⟩; omega) (rt_T ht 6 _ (by omega)) dX3_thing_88 ?_
  refine rx_iload_n (i := 3) dX3_thing_91 rfl rfl ?_
  refine rx_ialdN (kt_7 ht) (by omega) (by first | decide | omega) dX3_thing_92 ?_
  refine rx_cvI (ci := 8) mo_X8_hasOpenDebt lk_X3_78 (c_X8_hasOpenDebt ht w) (by decide) rfl rfl (Nat.le_of_ble_eq_true rfl) (kt_0 ht) rfl dX3_thing_93 ?_
  refine rx_if_eq (tgt := 103) dX3_thing_96 (by decide) (fun c96 => ?_) (fun c96 => ?_)
  · skip
    have e96 := zI_0.mp c96
    refine rx_iconst (0) dX3_thing_103 rfl ?_
    exact rx_fiI dX3_thing_104 (by simp only [thM, s0, s1, s2, s3, s4, s5, s6, if_false, e96]; rfl) rfl
  · skip
    have e96 : anyB (fun j => decide (M.1 (t + 11) j = 0) && (decide (M.1 (t + 7) j = nI i) && decide (M.1 (t + 8) j = M.1 (t + 7) k))) m = true := Decidable.byContradiction fun q => c96 (zI_0.mpr (by simpa using q))
    refine rx_iconst (1) dX3_thing_99 rfl ?_
    refine rx_goto (tgt := 104) dX3_thing_100 (by decide) ?_
    exact rx_fiI dX3_thing_104 (by simp only [thM, s0, s1, s2, s3, s4, s5, s6, if_false, e96]; rfl) rfl
set_option maxRecDepth 100000 in
set_option maxHeartbeats 4000000 in
theorem c_X3_done {M : Mem} {x a b : Int32} : Fun yX3_done cX3_done 3 (some .int) 0 [.int x, .int a, .int b] M (some (.int (dnF x a b))) (M) := by
  refine Fun.of (own := RX3) ([some (.int x), some (.int a), some (.int b)]) rfl (by decide +kernel) (Nat.le_of_ble_eq_true rfl) rfl ?_
  refine rx_iload_n (i := 0) dX3_done_0 rfl rfl ?_
  by_cases s0 : x = 0
  · subst s0
    refine rx_tableIn (off := 39) (tgt := 40) dX3_done_1 (by decide) (by decide) rfl (by decide) ?_
    refine rx_iload_n (i := 1) dX3_done_40 rfl rfl ?_
    refine rx_iload_n (i := 2) dX3_done_41 rfl rfl ?_
    refine rx_icmp_ge (tgt := 49) dX3_done_42 (by decide) (fun c42 => ?_) (fun c42 => ?_)
    · skip
      have f42 := Int32.not_lt.mpr c42
      rw [show dnF 0 a b = 0 from if_neg f42]
      refine rx_iconst (0) dX3_done_49 rfl ?_
      exact rx_fiI dX3_done_50 rfl rfl
    · skip
      have f42 := Int32.not_le.mp c42
      rw [show dnF 0 a b = 1 from if_pos f42]
      refine rx_iconst (1) dX3_done_45 rfl ?_
      refine rx_goto (tgt := 50) dX3_done_46 (by decide) ?_
      exact rx_fiI dX3_done_50 rfl rfl
  by_cases s1 : x = 1
  · subst s1
    refine rx_tableIn (off := 50) (tgt := 51) dX3_done_1 (by decide) (by decide) rfl (by decide) ?_
    refine rx_iload_n (i := 1) dX3_done_51 rfl rfl ?_
    refine rx_iload_n (i := 2) dX3_done_52 rfl rfl ?_
    refine rx_icmp_le (tgt := 60) dX3_done_53 (by decide) (fun c53 => ?_) (fun c53 => ?_)
    · skip
      have f53 := Int32.not_lt.mpr c53
      rw [show dnF 1 a b = 0 from if_neg f53]
      refine rx_iconst (0) dX3_done_60 rfl ?_
      exact rx_fiI dX3_done_61 rfl rfl
    · skip
      have f53 := Int32.not_le.mp c53
      rw [show dnF 1 a b = 1 from if_pos f53]
      refine rx_iconst (1) dX3_done_56 rfl ?_
      refine rx_goto (tgt := 61) dX3_done_57 (by decide) ?_
      exact rx_fiI dX3_done_61 rfl rfl
  by_cases s2 : x = 2
  · subst s2
    refine rx_tableIn (off := 61) (tgt := 62) dX3_done_1 (by decide) (by decide) rfl (by decide) ?_
    refine rx_iload_n (i := 1) dX3_done_62 rfl rfl ?_
    refine rx_iload_n (i := 2) dX3_done_63 rfl rfl ?_
    refine rx_icmp_ne (tgt := 71) dX3_done_64 (by decide) (fun c64 => ?_) (fun c64 => ?_)
    · skip
      rw [show dnF 2 a b = 0 from if_neg c64]
      refine rx_iconst (0) dX3_done_71 rfl ?_
      exact rx_fiI dX3_done_72 rfl rfl
    · skip
      rw [show dnF 2 a b = 1 from if_pos c64]
      refine rx_iconst (1) dX3_done_67 rfl ?_
      refine rx_goto (tgt := 72) dX3_done_68 (by decide) ?_
      exact rx_fiI dX3_done_72 rfl rfl
  by_cases s3 : x = 3
  · subst s3
    refine rx_tableIn (off := 72) (tgt := 73) dX3_done_1 (by decide) (by decide) rfl (by decide) ?_
    refine rx_iload_n (i := 1) dX3_done_73 rfl rfl ?_
    refine rx_iload_n (i := 2) dX3_done_74 rfl rfl ?_
    refine rx_iadd dX3_done_75 ?_
    exact rx_fiI dX3_done_76 rfl rfl
  by_cases s4 : x = 4
  · subst s4
    refine rx_tableIn (off := 76) (tgt := 77) dX3_done_1 (by decide) (by decide) rfl (by decide) ?_
    refine rx_iload_n (i := 1) dX3_done_77 rfl rfl ?_
    refine rx_iload_n (i := 2) dX3_done_78 rfl rfl ?_
    refine rx_isub dX3_done_79 ?_
    exact rx_fiI dX3_done_80 rfl rfl
  by_cases s5 : x = 5
  · subst s5
    refine rx_tableIn (off := 80) (tgt := 81) dX3_done_1 (by decide) (by decide) rfl (by decide) ?_
    refine rx_iload_n (i := 1) dX3_done_81 rfl rfl ?_
    refine rx_iload_n (i := 2) dX3_done_82 rfl rfl ?_
    refine rx_imul dX3_done_83 ?_
    exact rx_fiI dX3_done_84 rfl rfl
  refine rx_tableOut (tgt := 85) dX3_done_1 (by have q0 := lv_neT s0 (a := 0) rfl; have q1 := lv_neT s1 (a := 1) rfl; have q2 := lv_neT s2 (a := 2) rfl; have q3 := lv_neT s3 (a := 3) rfl; have q4 := lv_neT s4 (a := 4) rfl; have q5 := lv_neT s5 (a := 5) rfl; have := x.toInt; omega) (by decide) ?_
  refine rx_iload_n (i := 2) dX3_done_85 rfl rfl ?_
  refine rx_if_ne (tgt := 93) dX3_done_86 (by decide) (fun c86 => ?_) (fun c86 => ?_)
  · skip
    rw [show dnF x a b = a / b by simp [dnF, *]]
    refine rx_iload_n (i := 1) dX3_done_93 rfl rfl ?_
    refine rx_iload_n (i := 2) dX3_done_94 rfl rfl ?_
    refine rx_idiv dX3_done_95 c86 ?_
    exact rx_fiI dX3_done_96 rfl rfl
  · skip
    rw [show dnF x a b = 0 by simp [dnF, *]]
    refine rx_iconst (0) dX3_done_89 rfl ?_
    refine rx_goto (tgt := 96) dX3_done_90 (by decide) ?_
    exact rx_fiI dX3_done_96 rfl rfl

/-- a step of THE RULE upon (height, values) -/
def wst (th : Int32 → Int32) (st : Int32) (s : Nat × (Nat → Int32)) : Nat × (Nat → Int32) :=
  if st < 2000 ∧ s.1 < 40 then (s.1 + 1, upd s.2 s.1 (if st < 1000 then st else th (st - 1000)))
  else if st = 2007 ∧ 0 < s.1 then (s.1, upd s.2 (s.1 - 1) (-(s.2 (s.1 - 1))))
  else if 1 < s.1 then (s.1 - 1, upd s.2 (s.1 - 2) (dnF (st - 2000) (s.2 (s.1 - 2)) (s.2 (s.1 - 1))))
  else s
def wrn (th : Int32 → Int32) (S : Nat → Int32) (V : Nat → Int32) : Nat → Nat × (Nat → Int32)
  | 0 => (0, V)
  | i + 1 => wst th (S i) (wrn th S V i)
theorem wrn_le {th : Int32 → Int32} {S V : Nat → Int32} : ∀ i, (wrn th S V i).1 ≤ i
  | 0 => Nat.le_refl _
  | i + 1 => by
    have h := wrn_le (th := th) (S := S) (V := V) i
    simp only [wrn, wst]
    split
    · show _ + 1 ≤ _; omega
    · split
      · show (wrn th S V i).1 ≤ _; omega
      · split
        · show _ - 1 ≤ _; omega
        · omega
/-- what THE RULE is worth, and what its values come to be -/
def wrS (M : Mem) (t n m i k z : Nat) : Nat × (Nat → Int32) := wrn (thM M t n m i k) (M.1 8) (M.1 9) z
def wrV (M : Mem) (t n m i k z : Nat) : Int32 := if 0 < (wrS M t n m i k z).1 then (wrS M t n m i k z).2 0 else 0

set_option maxRecDepth 100000 in
set_option maxHeartbeats 4000000 in
theorem l_X3_worth {t : Nat} (ht : isTown t) {M : Mem} {n m : Nat} (w : TW M t n m) {p k z : Nat} (hp : p < n) (hk : k < m) (hz : M.1 7 2 = nI z) (hz40 : z ≤ 40) : ∀ (N : Nat) (i : Nat) (h : Nat) (V : Nat → Int32), (i ≤ z) → (wrS M t n m p k i = (h, V)) → z - i < N → Reach cX3_worth RX3 7 3 (FQ cX3_worth (some .int) (some (.int (wrV M t n m p k z))) (setA M 9 (wrS M t n m p k z).2)) 6 [some (.ref 7), some (.ref t), some (.int (nI p)), some (.int (nI k)), some (.int (nI h)), some (.int (nI i)), none] [] (setA M 9 V) := by
  intro N
  induction N with
  | zero => intro i h V hi he hm; exact absurd ‹_ < 0› (Nat.not_lt_zero _)
  | succ N ih =>
    intro i h V hi he hm
    have ⟨hn, hn8, hm, hm10, hd⟩ := w
    have hle := wrn_le (th := thM M t n m p k) (S := M.1 8) (V := M.1 9) i
    rw [show wrn (thM M t n m p k) (M.1 8) (M.1 9) i = (h, V) from he] at hle
    have hle2 : h ≤ i := hle
    have hge := town_ge ht
    refine rx_iload (i := 5) dX3_worth_6 rfl ?_
    refine rx_aload_n (i := 0) dX3_worth_8 rfl rfl ?_
    refine rx_getI (k := 2) fo_X3_31 kl_7 (by decide) ti_3_2 dX3_worth_9 ?_
    refine rx_icmp_ge (tgt := 161) dX3_worth_12 (by decide) (fun c12 => ?_) (fun c12 => ?_)
    · skip
      have f12 := Int32.not_lt.mpr c12
      rw [(setA_o (by decide)), hz, nI_leI (by omega) (by omega)] at c12
      obtain rfl : i = z := by omega
      refine rx_iload (i := 4) dX3_worth_161 rfl ?_
      refine rx_if_le (tgt := 175) dX3_worth_163 (by decide) (fun c163 => ?_) (fun c163 => ?_)
      · skip
        have f163 := Int32.not_lt.mpr c163
        have e163 : h = 0 := by
          have := (nI_leI (b := 0) (by omega) (by omega)).mp c163
          omega
        refine rx_iconst (0) dX3_worth_175 rfl ?_
        exact rx_fiI dX3_worth_176 (by simp [wrV, he, *]) (by rw [he])
      · skip
        have f163 := Int32.not_le.mp c163
        have e163 : 0 < h := by
          rcases Nat.eq_zero_or_pos h with q | q
          · subst q; exact absurd (by decide) c163
          · exact q
        refine rx_aload_n (i := 0) dX3_worth_166 rfl rfl ?_
        refine rx_getR 9 (k := 1) fo_X3_15 kl_7 (by decide) ti_3_1 (by decide) rfl dX3_worth_167 ?_
        refine rx_iconst (0) dX3_worth_170 rfl ?_
        refine rx_ialdN (k := 0) kl_9 (by omega) (by first | decide | omega) dX3_worth_171 ?_
        refine rx_top (V 0) setA_i ?_
        refine rx_goto (tgt := 176) dX3_worth_172 (by decide) ?_
        exact rx_fiI dX3_worth_176 (by simp [wrV, he, *]) (by rw [he])
    · skip
      have f12 := Int32.not_le.mp c12
      rw [(setA_o (by decide)), hz, nI_leI (by omega) (by omega)] at c12
      refine rx_aload_n (i := 0) dX3_worth_15 rfl rfl ?_
      refine rx_getR 8 (k := 0) fo_X3_11 kl_7 (by decide) ti_3_0 (by decide) rfl dX3_worth_16 ?_
      refine rx_iload (i := 5) dX3_worth_19 rfl ?_
      refine rx_ialdN kl_8 (by omega) (by first | decide | omega) dX3_worth_21 ?_
      refine rx_top (M.1 8 i) (setA_o (by decide)) ?_
      have hS : wrS M t n m p k (i + 1) = wst (thM M t n m p k) (M.1 8 i) (h, V) := by rw [← he]; rfl
      refine rx_istore (i := 6) dX3_worth_22 (by decide) rfl rfl ?_
      refine rx_iload (i := 6) dX3_worth_24 rfl ?_
      refine rx_sipush (2000) dX3_worth_26 rfl ?_
      refine rx_icmp_ge (tgt := 77) dX3_worth_29 (by decide) (fun c29 => ?_) (fun c29 => ?_)
      · skip
        have f29 := Int32.not_lt.mpr c29
        refine rx_iload (i := 6) dX3_worth_77 rfl ?_
        refine rx_sipush (2007) dX3_worth_79 rfl ?_
        refine rx_icmp_ne (tgt := 112) dX3_worth_82 (by decide) (fun c82 => ?_) (fun c82 => ?_)
        · skip
          refine rx_iload (i := 4) dX3_worth_112 rfl ?_
          refine rx_iconst (1) dX3_worth_114 rfl ?_
          refine rx_icmp_le (tgt := 155) dX3_worth_115 (by decide) (fun c115 => ?_) (fun c115 => ?_)
          · skip
            have f115 := Int32.not_lt.mpr c115
            have e115 : h ≤ 1 := (nI_leI (b := 1) (by omega) (by omega)).mp c115
            have e115b : ¬ 1 < h := by omega
            first | refine rx_iincN (i := 5) dX3_worth_155 rfl (by decide) rfl rfl ?_ | refine rx_iinc (i := 5) dX3_worth_155 rfl rfl (by decide) rfl rfl ?_
            refine rx_goto (tgt := 6) dX3_worth_158 (by decide) ?_
            refine rx_drop 6 ?_
            exact ih (i + 1) _ _ (by omega) (by rw [hS]; first | (exfalso; omega) | simp [wst, *]) (by omega)
          · skip
            have f115 := Int32.not_le.mp c115
            have e115 : 1 < h := by
              rcases Nat.lt_or_ge 1 h with q | q
              · exact q
              · exact absurd (nI_le (b := 1) q (by omega)) c115
            refine rx_iincD (i := 4) (k := h) (by omega) dX3_worth_118 rfl (by decide) rfl rfl ?_
            refine rx_aload_n (i := 0) dX3_worth_121 rfl rfl ?_
            refine rx_getR 9 (k := 1) fo_X3_15 kl_7 (by decide) ti_3_1 (by decide) rfl dX3_worth_122 ?_
            refine rx_iload (i := 4) dX3_worth_125 rfl ?_
            refine rx_iconst (1) dX3_worth_127 rfl ?_
            refine rx_isub dX3_worth_128 ?_
            refine rx_top (nI (h - 2)) ((nI_m 1 1 rfl (by omega)).trans (by rw [Nat.sub_sub])) ?_
            refine rx_iload (i := 6) dX3_worth_129 rfl ?_
            refine rx_sipush (2000) dX3_worth_131 rfl ?_
            refine rx_isub dX3_worth_134 ?_
            refine rx_aload_n (i := 0) dX3_worth_135 rfl rfl ?_
            refine rx_getR 9 (k := 1) fo_X3_15 kl_7 (by decide) ti_3_1 (by decide) rfl dX3_worth_136 ?_
            refine rx_iload (i := 4) dX3_worth_139 rfl ?_
            refine rx_iconst (1) dX3_worth_141 rfl ?_
            refine rx_isub dX3_worth_142 ?_
            refine rx_top (nI (h - 2)) ((nI_m 1 1 rfl (by omega)).trans (by rw [Nat.sub_sub])) ?_
            refine rx_ialdN kl_9 (by omega) (by first | decide | omega) dX3_worth_143 ?_
            refine rx_top (V (h - 2)) setA_i ?_
            refine rx_aload_n (i := 0) dX3_worth_144 rfl rfl ?_
            refine rx_getR 9 (k := 1) fo_X3_15 kl_7 (by decide) ti_3_1 (by decide) rfl dX3_worth_145 ?_
            refine rx_iload (i := 4) dX3_worth_148 rfl ?_
            refine rx_ialdN kl_9 (by omega) (by first | decide | omega) dX3_worth_150 ?_
            refine rx_top (V (h - 1)) setA_i ?_
            refine rx_csI mo_X3_done lk_X3_52 c_X3_done (by decide) rfl rfl (Nat.le_of_ble_eq_true rfl) dX3_worth_151 ?_
            refine rx_iastN kl_9 (by omega) (by first | decide | omega) dX3_worth_154 ?_
            rw [setI_setA]
            first | refine rx_iincN (i := 5) dX3_worth_155 rfl (by decide) rfl rfl ?_ | refine rx_iinc (i := 5) dX3_worth_155 rfl rfl (by decide) rfl rfl ?_
            refine rx_goto (tgt := 6) dX3_worth_158 (by decide) ?_
            refine rx_drop 6 ?_
            exact ih (i + 1) _ _ (by omega) (by rw [hS]; first | (exfalso; omega) | simp [wst, *]) (by omega)
        · skip
          refine rx_iload (i := 4) dX3_worth_85 rfl ?_
          refine rx_if_le (tgt := 112) dX3_worth_87 (by decide) (fun c87 => ?_) (fun c87 => ?_)
          · skip
            have f87 := Int32.not_lt.mpr c87
            have e87 : h = 0 := by
              have := (nI_leI (b := 0) (by omega) (by omega)).mp c87
              omega
            refine rx_iload (i := 4) dX3_worth_112 rfl ?_
            refine rx_iconst (1) dX3_worth_114 rfl ?_
            refine rx_icmp_le (tgt := 155) dX3_worth_115 (by decide) (fun c115 => ?_) (fun c115 => ?_)
            · skip
              have f115 := Int32.not_lt.mpr c115
              have e115 : h ≤ 1 := (nI_leI (b := 1) (by omega) (by omega)).mp c115
              have e115b : ¬ 1 < h := by omega
              first | refine rx_iincN (i := 5) dX3_worth_155 rfl (by decide) rfl rfl ?_ | refine rx_iinc (i := 5) dX3_worth_155 rfl rfl (by decide) rfl rfl ?_
              refine rx_goto (tgt := 6) dX3_worth_158 (by decide) ?_
              refine rx_drop 6 ?_
              exact ih (i + 1) _ _ (by omega) (by rw [hS]; first | (exfalso; omega) | simp [wst, *]) (by omega)
            · skip
              have f115 := Int32.not_le.mp c115
              have e115 : 1 < h := by
                rcases Nat.lt_or_ge 1 h with q | q
                · exact q
                · exact absurd (nI_le (b := 1) q (by omega)) c115
              refine rx_iincD (i := 4) (k := h) (by omega) dX3_worth_118 rfl (by decide) rfl rfl ?_
              refine rx_aload_n (i := 0) dX3_worth_121 rfl rfl ?_
              refine rx_getR 9 (k := 1) fo_X3_15 kl_7 (by decide) ti_3_1 (by decide) rfl dX3_worth_122 ?_
              refine rx_iload (i := 4) dX3_worth_125 rfl ?_
              refine rx_iconst (1) dX3_worth_127 rfl ?_
              refine rx_isub dX3_worth_128 ?_
              refine rx_top (nI (h - 2)) ((nI_m 1 1 rfl (by omega)).trans (by rw [Nat.sub_sub])) ?_
              refine rx_iload (i := 6) dX3_worth_129 rfl ?_
              refine rx_sipush (2000) dX3_worth_131 rfl ?_
              refine rx_isub dX3_worth_134 ?_
              refine rx_aload_n (i := 0) dX3_worth_135 rfl rfl ?_
              refine rx_getR 9 (k := 1) fo_X3_15 kl_7 (by decide) ti_3_1 (by decide) rfl dX3_worth_136 ?_
              refine rx_iload (i := 4) dX3_worth_139 rfl ?_
              refine rx_iconst (1) dX3_worth_141 rfl ?_
              refine rx_isub dX3_worth_142 ?_
              refine rx_top (nI (h - 2)) ((nI_m 1 1 rfl (by omega)).trans (by rw [Nat.sub_sub])) ?_
              refine rx_ialdN kl_9 (by omega) (by first | decide | omega) dX3_worth_143 ?_
              refine rx_top (V (h - 2)) setA_i ?_
              refine rx_aload_n (i := 0) dX3_worth_144 rfl rfl ?_
              refine rx_getR 9 (k := 1) fo_X3_15 kl_7 (by decide) ti_3_1 (by decide) rfl dX3_worth_145 ?_
              refine rx_iload (i := 4) dX3_worth_148 rfl ?_
              refine rx_ialdN kl_9 (by omega) (by first | decide | omega) dX3_worth_150 ?_
              refine rx_top (V (h - 1)) setA_i ?_
              refine rx_csI mo_X3_done lk_X3_52 c_X3_done (by decide) rfl rfl (Nat.le_of_ble_eq_true rfl) dX3_worth_151 ?_
              refine rx_iastN kl_9 (by omega) (by first | decide | omega) dX3_worth_154 ?_
              rw [setI_setA]
              first | refine rx_iincN (i := 5) dX3_worth_155 rfl (by decide) rfl rfl ?_ | refine rx_iinc (i := 5) dX3_worth_155 rfl rfl (by decide) rfl rfl ?_
              refine rx_goto (tgt := 6) dX3_worth_158 (by decide) ?_
              refine rx_drop 6 ?_
              exact ih (i + 1) _ _ (by omega) (by rw [hS]; first | (exfalso; omega) | simp [wst, *]) (by omega)
          · skip
            have f87 := Int32.not_le.mp c87
            have e87 : 0 < h := by
              rcases Nat.eq_zero_or_pos h with q | q
              · subst q; exact absurd (by decide) c87
              · exact q
            refine rx_aload_n (i := 0) dX3_worth_90 rfl rfl ?_
            refine rx_getR 9 (k := 1) fo_X3_15 kl_7 (by decide) ti_3_1 (by decide) rfl dX3_worth_91 ?_
            refine rx_iload (i := 4) dX3_worth_94 rfl ?_
            refine rx_iconst (1) dX3_worth_96 rfl ?_
            refine rx_isub dX3_worth_97 ?_
            refine rx_top (nI (h - 1)) (nI_m 1 _ rfl (by omega)) ?_
            refine rx_aload_n (i := 0) dX3_worth_98 rfl rfl ?_
            refine rx_getR 9 (k := 1) fo_X3_15 kl_7 (by decide) ti_3_1 (by decide) rfl dX3_worth_99 ?_
            refine rx_iload (i := 4) dX3_worth_102 rfl ?_
            refine rx_iconst (1) dX3_worth_104 rfl ?_
            refine rx_isub dX3_worth_105 ?_
            refine rx_top (nI (h - 1)) (nI_m 1 _ rfl (by omega)) ?_
            refine rx_ialdN kl_9 (by omega) (by first | decide | omega) dX3_worth_106 ?_
            refine rx_top (V (h - 1)) setA_i ?_
            refine rx_ineg dX3_worth_107 ?_
            refine rx_iastN kl_9 (by omega) (by first | decide | omega) dX3_worth_108 ?_
            rw [setI_setA]
            refine rx_goto (tgt := 155) dX3_worth_109 (by decide) ?_
            first | refine rx_iincN (i := 5) dX3_worth_155 rfl (by decide) rfl rfl ?_ | refine rx_iinc (i := 5) dX3_worth_155 rfl rfl (by decide) rfl rfl ?_
            refine rx_goto (tgt := 6) dX3_worth_158 (by decide) ?_
            refine rx_drop 6 ?_
            exact ih (i + 1) _ _ (by omega) (by rw [hS]; first | (exfalso; omega) | simp [wst, *]) (by omega)
      · skip
        have f29 := Int32.not_le.mp c29
        refine rx_iload (i := 4) dX3_worth_32 rfl ?_
        refine rx_bipush (40) dX3_worth_34 rfl ?_
        refine rx_icmp_ge (tgt := 77) dX3_worth_36 (by decide) (fun c36 => ?_) (fun c36 => ?_)
        · skip
          have f36 := Int32.not_lt.mpr c36
          exact absurd ((nI_leI (a := 40) (by omega) (by omega)).mp c36) (by omega)
        · skip
          have f36 := Int32.not_le.mp c36
          have e36 : h < 40 := by omega
          refine rx_aload_n (i := 0) dX3_worth_39 rfl rfl ?_
          refine rx_getR 9 (k := 1) fo_X3_15 kl_7 (by decide) ti_3_1 (by decide) rfl dX3_worth_40 ?_
          refine rx_iload (i := 4) dX3_worth_43 rfl ?_
          refine rx_iload (i := 6) dX3_worth_45 rfl ?_
          refine rx_sipush (1000) dX3_worth_47 rfl ?_
          refine rx_icmp_ge (tgt := 58) dX3_worth_50 (by decide) (fun c50 => ?_) (fun c50 => ?_)
          · skip
            have f50 := Int32.not_lt.mpr c50
            refine rx_iload (i := 6) dX3_worth_58 rfl ?_
            refine rx_sipush (1000) dX3_worth_60 rfl ?_
            refine rx_isub dX3_worth_63 ?_
            refine rx_aload_n (i := 1) dX3_worth_64 rfl rfl ?_
            refine rx_iload_n (i := 2) dX3_worth_65 rfl rfl ?_
            refine rx_iload_n (i := 3) dX3_worth_66 rfl rfl ?_
            refine rx_csI mo_X3_thing lk_X3_48 (c_X3_thing ht ((sameT_A (by omega)).TW w) hp hk) (by decide) rfl rfl (Nat.le_of_ble_eq_true rfl) dX3_worth_67 ?_
            rw [thM_same (sameT_A (by omega))]
            refine rx_iastN kl_9 (by omega) (by first | decide | omega) dX3_worth_70 ?_
            rw [setI_setA]
            first | refine rx_iincN (i := 4) dX3_worth_71 rfl (by decide) rfl rfl ?_ | refine rx_iinc (i := 4) dX3_worth_71 rfl rfl (by decide) rfl rfl ?_
            refine rx_goto (tgt := 155) dX3_worth_74 (by decide) ?_
            first | refine rx_iincN (i := 5) dX3_worth_155 rfl (by decide) rfl rfl ?_ | refine rx_iinc (i := 5) dX3_worth_155 rfl rfl (by decide) rfl rfl ?_
            refine rx_goto (tgt := 6) dX3_worth_158 (by decide) ?_
            refine rx_drop 6 ?_
            exact ih (i + 1) _ _ (by omega) (by rw [hS]; first | (exfalso; omega) | simp [wst, *]) (by omega)
          · skip
            have f50 := Int32.not_le.mp c50
            refine rx_iload (i := 6) dX3_worth_53 rfl ?_
            refine rx_goto (tgt := 70) dX3_worth_55 (by decide) ?_
            refine rx_iastN kl_9 (by omega) (by first | decide | omega) dX3_worth_70 ?_
            rw [setI_setA]
            first | refine rx_iincN (i := 4) dX3_worth_71 rfl (by decide) rfl rfl ?_ | refine rx_iinc (i := 4) dX3_worth_71 rfl rfl (by decide) rfl rfl ?_
            refine rx_goto (tgt := 155) dX3_worth_74 (by decide) ?_
            first | refine rx_iincN (i := 5) dX3_worth_155 rfl (by decide) rfl rfl ?_ | refine rx_iinc (i := 5) dX3_worth_155 rfl rfl (by decide) rfl rfl ?_
            refine rx_goto (tgt := 6) dX3_worth_158 (by decide) ?_
            refine rx_drop 6 ?_
            exact ih (i + 1) _ _ (by omega) (by rw [hS]; first | (exfalso; omega) | simp [wst, *]) (by omega)
set_option maxRecDepth 100000 in
set_option maxHeartbeats 4000000 in
theorem c_X3_worth {t : Nat} (ht : isTown t) {M : Mem} {n m : Nat} (w : TW M t n m) {p k z : Nat} (hp : p < n) (hk : k < m) (hz : M.1 7 2 = nI z) (hz40 : z ≤ 40) : Fun yX3_worth cX3_worth 7 (some .int) 3 [.ref 7, .ref t, .int (nI p), .int (nI k)] M (some (.int (wrV M t n m p k z))) (setA M 9 (wrS M t n m p k z).2) := by
  refine Fun.of (own := RX3) ([some (.ref 7), some (.ref t), some (.int (nI p)), some (.int (nI k)), none, none, none]) rfl (by decide +kernel) (Nat.le_of_ble_eq_true rfl) rfl ?_
  refine rx_iconst (0) dX3_worth_0 rfl ?_
  refine rx_istore (i := 4) dX3_worth_1 (by decide) rfl rfl ?_
  refine rx_iconst (0) dX3_worth_3 rfl ?_
  refine rx_istore (i := 5) dX3_worth_4 (by decide) rfl rfl ?_
  have h := l_X3_worth ht w hp hk hz hz40 (z + 1) 0 0 (M.1 9) (by omega) rfl (by omega)
  rw [setA_same] at h
  exact h
