
/-- a town as it is seen: place c (a field's number), element j -/
def view (M : Mem) (t : Nat) : Nat → Nat → Int32 := fun c j => if c < 15 then M.1 (t + 1 + c) j else M.1 t c
abbrev TT : Type := Nat → Nat → Int32
def onT (T : TT) (j : Nat) : Int32 := if T 14 2 = 1 then T 4 j else T 0 j - T 3 j
def mayT (T : TT) (n k i : Nat) : Bool := (!(decide (nI i = T 6 k)) && !(decide (nI i = T 7 k))) && (decide (T 8 k ≤ T 0 i - T 3 i) && blw (T 14 0) (T 14 1) n (onT T) (T 6 k).toNatClampNeg i)
def prT (T : TT) (i k : Nat) : Int32 := if T 2 i = 1 then 0 else T 8 k + T 8 k * T 1 i / 100
theorem anyB_congr {p q : Nat → Bool} : ∀ {n : Nat}, (∀ k, k < n → p k = q k) → anyB p n = anyB q n
  | 0, _ => rfl
  | n + 1, h => by
    simp only [anyB]
    rw [anyB_congr (n := n) (fun k hk => h k (by omega)), h n (by omega)]
theorem blw_congr {srt by_ : Int32} {n p i : Nat} {L L' : Nat → Int32} (h : ∀ j, j < n → L j = L' j) (hp : p < n) (hi : i < n) : blw srt by_ n L p i = blw srt by_ n L' p i := by
  simp only [blw, h p hp, h i hi]
  rw [anyB_congr (n := n) (p := fun k => decide (L' i < L k) && decide (L k < L' p)) (q := fun k => decide (L' i < L' k) && decide (L' k < L' p)) (fun k hk => by simp only [h k hk])]
theorem onL_T {M : Mem} {t j : Nat} : onL M t j = onT (view M t) j := by simp [onL, onT, view]
theorem mayL_T {M : Mem} {t n m k i : Nat} (w : TW M t n m) (hk : k < m) (hi : i < n) : mayL (mkL M t n) t n k i = mayT (view M t) n k i := by
  obtain ⟨hn, hn8, hm, hm10, hd⟩ := w
  obtain ⟨o, g, ho, hg, hog, eo, eg⟩ := hd k hk
  simp only [mayL, mayT, view]
  simp [mkL_o, show ∀ a, a ≠ 6 → t + a ≠ t + 6 from fun a h => by omega]
  rw [eo, nI_clamp (by omega)]
  rw [blw_congr (L := (mkL M t n).1 (t + 6)) (L' := onT fun c j => if c < 15 then M.1 (t + 1 + c) j else M.1 t c) (fun j hj => by rw [mkL_l hj, onL_T]; rfl) ho hi]
  simp [Nat.add_comm, Nat.add_left_comm, Nat.add_assoc]
  rw [show (fun c j => if c < 15 then M.1 (t + (c + 1)) j else M.1 t c) = view M t from by funext c j; simp [view, Nat.add_assoc, Nat.add_comm 1 c]]
theorem priceM_T {M : Mem} {t i k : Nat} : priceM M t i k = prT (view M t) i k := by simp [priceM, prT, view, Nat.add_assoc]

/-- whoever may pay, as bits -/
def payT (T : TT) (n k : Nat) : Int32 := if T 10 k = 0 then fbor (mayT T n k) n else 0
theorem paysM {M : Mem} {t n m k : Nat} (w : TW M t n m) (hk : k < m) : (if (mkL M t n).1 (t + 11) k = 0 then fbor (mayL (mkL M t n) t n k) n else 0) = payT (view M t) n k := by
  rw [mkL_o (by omega)]
  show _ = if M.1 (t + 11) k = 0 then _ else _
  rw [fbor_congr (fun i hi => mayL_T w hk hi)]
/-- the same but for the list of the town and what P names -/
def sameX (M M' : Mem) (P : Nat → Prop) : Prop := (∀ a, ¬ P a → M'.1 a = M.1 a) ∧ M'.2 = M.2
theorem sameX.rfl' {M : Mem} {P : Nat → Prop} : sameX M M P := ⟨fun _ _ => rfl, rfl⟩
theorem sameX.trans {M M' M'' : Mem} {P : Nat → Prop} (h : sameX M M' P) (h2 : sameX M' M'' P) : sameX M M'' P := ⟨fun a ha => (h2.1 a ha).trans (h.1 a ha), h2.2.trans h.2⟩
theorem sameX.weaken {M M' : Mem} {P Q : Nat → Prop} (h : sameX M M' P) (hq : ∀ a, P a → Q a) : sameX M M' Q := ⟨fun a ha => h.1 a fun z => ha (hq a z), h.2⟩
theorem sameX_I {M : Mem} {i k : Nat} {x : Int32} {P : Nat → Prop} (h : P i) : sameX M (setI M i k x) P := ⟨fun a ha => by funext j; exact sI_na fun q => ha (q ▸ h), rfl⟩
theorem sameX_L {M : Mem} {t n : Nat} {P : Nat → Prop} (h : P (t + 6)) : sameX M (mkL M t n) P := ⟨fun a ha => by funext j; exact mkL_o fun q => ha (q ▸ h), rfl⟩
theorem sameX_A {M : Mem} {i : Nat} {f : Nat → Int32} {P : Nat → Prop} (h : P i) : sameX M (setA M i f) P := ⟨fun a ha => by funext j; exact setA_o fun q => ha (q ▸ h), rfl⟩
theorem view_same {M M' : Mem} {t : Nat} (h : ∀ c, c ≤ 15 → c ≠ 6 → M'.1 (t + c) = M.1 (t + c)) : ∀ c, c ≠ 5 → c < 20 → view M' t c = view M t c := by
  intro c hc h20
  funext j
  simp only [view]
  split
  · rw [Nat.add_assoc, h (1 + c) (by omega) (by omega)]
  · have := h 0 (by omega) (by omega)
    rw [Nat.add_zero] at this
    rw [this]
theorem mayT_same {T T' : TT} {n k i : Nat} (h : ∀ c, c ≠ 5 → c < 20 → T' c = T c) : mayT T' n k i = mayT T n k i := by
  have e : onT T' = onT T := by funext j; simp only [onT, h 14 (by omega) (by omega), h 4 (by omega) (by omega), h 0 (by omega) (by omega), h 3 (by omega) (by omega)]
  simp only [mayT, e, h 6 (by omega) (by omega), h 7 (by omega) (by omega), h 8 (by omega) (by omega), h 0 (by omega) (by omega), h 3 (by omega) (by omega), h 14 (by omega) (by omega)]
theorem payT_same {T T' : TT} {n k : Nat} (h : ∀ c, c ≠ 5 → c < 20 → T' c = T c) : payT T' n k = payT T n k := by
  simp only [payT, h 10 (by omega) (by omega)]
  rw [fbor_congr (fun i _ => mayT_same h)]
/-- coin moved, as it is seen -/
def shT (T : TT) (i j : Nat) (x : Int32) : TT := fun c a => if c = 0 then upd (upd (T 0) i (T 0 i - x)) j (upd (T 0) i (T 0 i - x) j + x) a else T c a
theorem view_sh {M : Mem} {t i j : Nat} {x : Int32} : ∀ c, c < 20 → view (shM M t i j x) t c = shT (view M t) i j x c := by
  intro c hc
  funext a
  by_cases h0 : c = 0
  · subst h0
    simp [view, shT, shM, setI, upd]
  · simp only [view, shT, if_neg h0]
    split
    · exact shM_o (by omega)
    · exact shM_o (by omega)
theorem sh_back {M : Mem} {t i j : Nat} {x : Int32} (h : i ≠ j) : shM (shM M t i j x) t j i x = M := by
  have h' : ¬ j = i := fun q => h q.symm
  refine Prod.ext ?_ rfl
  funext a k
  simp only [shM, setI]
  by_cases ha : a = t + 1
  · subst ha
    by_cases hk : k = i
    · subst hk; simp [h, h', Int32.sub_add_cancel]
    · by_cases hk2 : k = j
      · subst hk2; simp [h, h', Int32.add_sub_cancel]
      · simp [hk, hk2]
  · simp [ha]
set_option maxRecDepth 100000 in
set_option maxHeartbeats 4000000 in
theorem c_X1_payersAfter {M : Mem} {n m : Nat} (w : TW M 92 n m) {a b k : Nat} (ha : a < n) (hb : b < n) (hab : a ≠ b) (hk : k < m) {x : Int32} (hB : BB (onL (shM M 92 a b x) 92) n) (hby : byOK M 92) : Con yX1_payersAfter cX1_payersAfter 6 (some .int) 3 [.ref 14, .int (nI a), .int (nI b), .int x, .int (nI k)] M (fun v N => v = some (.int (payT (shT (view M 92) a b x) n k)) ∧ sameX M N (fun z => z = 98)) := by
  refine Con.of (own := RX1) (ls := [some (.ref 14), some (.int (nI a)), some (.int (nI b)), some (.int x), some (.int (nI k)), none]) rfl (by decide +kernel) (Nat.le_of_ble_eq_true rfl) rfl ?_
  have ht : isTown 92 := by unfold isTown; omega
  have hn8 := w.2.1
  have w1 : TW (shM M 92 a b x) 92 n m := w.keep (shM_o (by omega)) (shM_o (by omega)) (fun _ _ => shM_o (by omega)) (fun _ _ => shM_o (by omega))
  have w2 : TW (mkL (shM M 92 a b x) 92 n) 92 n m := w1.keep (mkL_o (by omega)) (mkL_o (by omega)) (fun _ _ => mkL_o (by omega)) (fun _ _ => mkL_o (by omega))
  have hB2 : BB ((mkL (shM M 92 a b x) 92 n).1 (92 + 6)) n := fun j hj => by rw [mkL_l hj]; exact hB j hj
  have hb2 : byOK (mkL (shM M 92 a b x) 92 n) 92 := by unfold byOK; rw [mkL_o (by omega), shM_o (by omega)]; exact hby
  refine rx_aload_n (i := 0) dX1_payersAfter_0 rfl rfl ?_
  refine rx_getR 92 (k := 0) fo_X1_10 kl_14 (by decide) ti_1_0 (by decide) rfl dX1_payersAfter_1 ?_
  refine rx_iload_n (i := 1) dX1_payersAfter_4 rfl rfl ?_
  refine rx_iload_n (i := 2) dX1_payersAfter_5 rfl rfl ?_
  refine rx_iload_n (i := 3) dX1_payersAfter_6 rfl rfl ?_
  refine rx_cvN (ci := 8) mo_X8_shift lk_X1_50 (c_X8_shift ht (by omega) (by omega)) (by decide) rfl rfl (Nat.le_of_ble_eq_true rfl) kl_92 rfl dX1_payersAfter_7 ?_
  refine rx_aload_n (i := 0) dX1_payersAfter_10 rfl rfl ?_
  refine rx_getR 92 (k := 0) fo_X1_10 kl_14 (by decide) ti_1_0 (by decide) rfl dX1_payersAfter_11 ?_
  refine rx_cvN (ci := 8) mo_X8_makeList lk_X1_54 (c_X8_makeList ht w1) (by decide) rfl rfl (Nat.le_of_ble_eq_true rfl) kl_92 rfl dX1_payersAfter_14 ?_
  refine rx_aload_n (i := 0) dX1_payersAfter_17 rfl rfl ?_
  refine rx_getR 92 (k := 0) fo_X1_10 kl_14 (by decide) ti_1_0 (by decide) rfl dX1_payersAfter_18 ?_
  refine rx_iload (i := 4) dX1_payersAfter_21 rfl ?_
  refine rx_cvI (ci := 8) mo_X8_payers lk_X1_57 (c_X8_payers ht w2 hk hB2 hb2) (by decide) rfl rfl (Nat.le_of_ble_eq_true rfl) kl_92 rfl dX1_payersAfter_23 ?_
  refine rx_istore (i := 5) dX1_payersAfter_26 (by decide) rfl rfl ?_
  refine rx_aload_n (i := 0) dX1_payersAfter_28 rfl rfl ?_
  refine rx_getR 92 (k := 0) fo_X1_10 kl_14 (by decide) ti_1_0 (by decide) rfl dX1_payersAfter_29 ?_
  refine rx_iload_n (i := 2) dX1_payersAfter_32 rfl rfl ?_
  refine rx_iload_n (i := 1) dX1_payersAfter_33 rfl rfl ?_
  refine rx_iload_n (i := 3) dX1_payersAfter_34 rfl rfl ?_
  refine rx_cvN (ci := 8) mo_X8_shift lk_X1_50 (c_X8_shift ht (by omega) (by omega)) (by decide) rfl rfl (Nat.le_of_ble_eq_true rfl) kl_92 rfl dX1_payersAfter_35 ?_
  refine rx_iload (i := 5) dX1_payersAfter_38 rfl ?_
  refine rx_iret dX1_payersAfter_40 ⟨?_, ?_⟩
  · rw [paysM w1 hk, payT_same (fun c h5 h20 => by rw [view_sh c h20])]
  · have e : ∀ a', a' ≠ 98 → (shM (mkL (shM M 92 a b x) 92 n) 92 b a x).1 a' = M.1 a' := fun a' h => by
      have h1 : (shM (mkL (shM M 92 a b x) 92 n) 92 b a x).1 a' = (shM (shM M 92 a b x) 92 b a x).1 a' := by
        funext j
        simp only [shM, setI, mkL]
        simp [h]
      rw [h1, sh_back hab]
    exact ⟨e, rfl⟩
