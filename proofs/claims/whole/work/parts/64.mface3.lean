def mn2i (x y : Int32) : Int32 := if y < x then y else x
theorem mn2i_comm {x y : Int32} : mn2i x y = mn2i y x := by
  unfold mn2i
  split
  · next h => rw [if_neg (Int32.not_lt.mpr (Int32.le_of_lt h))]
  · next h =>
    split
    · rfl
    · next h2 => exact Int32.le_antisymm (Int32.not_lt.mp h) (Int32.not_lt.mp h2)
/-- the other way round -/
def swp (q : Nat) : Nat := 8 * (q % 8) + q / 8
/-- favours with some pairs set off -/
def netF (f : Nat → Int32) (P : Nat → Nat → Bool) : Nat → Int32 := fun q => if P (q / 8) (q % 8) = true then f q - mn2i (f q) (f (swp q)) else f q
/-- pairs gone through: the greater ahead of a, or it is a and the lesser ahead of b -/
def prA (a b i j : Nat) : Bool := !(decide (i = j)) && (decide (max i j < a) || (decide (max i j = a) && decide (min i j < b)))
theorem prA_b {a b i j : Nat} (hb : b < a) : prA a (b + 1) i j = (prA a b i j || (decide (i = a ∧ j = b) || decide (i = b ∧ j = a))) := by
  unfold prA
  rw [Bool.eq_iff_iff]
  simp only [Bool.and_eq_true, Bool.or_eq_true, Bool.not_eq_true', decide_eq_false_iff_not, decide_eq_true_eq]
  rcases Nat.lt_or_ge i j with h | h
  · rw [Nat.max_eq_right (by omega), Nat.min_eq_left (by omega)]; omega
  · rw [Nat.max_eq_left (by omega), Nat.min_eq_right (by omega)]; omega
theorem prA_a {a i j : Nat} : prA (a + 1) 0 i j = prA a a i j := by
  unfold prA
  rw [Bool.eq_iff_iff]
  simp only [Bool.and_eq_true, Bool.or_eq_true, Bool.not_eq_true', decide_eq_false_iff_not, decide_eq_true_eq]
  rcases Nat.lt_or_ge i j with h | h
  · rw [Nat.max_eq_right (by omega), Nat.min_eq_left (by omega)]; omega
  · rw [Nat.max_eq_left (by omega), Nat.min_eq_right (by omega)]; omega
theorem prA_0 {i j : Nat} : prA 0 0 i j = false := by
  unfold prA
  rw [Bool.eq_false_iff]
  simp only [ne_eq, Bool.and_eq_true, Bool.or_eq_true, Bool.not_eq_true', decide_eq_false_iff_not, decide_eq_true_eq]
  omega
theorem netF_0 {f : Nat → Int32} : netF f (prA 0 0) = f := by
  funext q
  unfold netF
  rw [prA_0]; rfl
/-- one more pair -/
theorem netF_s {f : Nat → Int32} {P P' : Nat → Nat → Bool} {a b : Nat} (ha : a < 8) (hb : b < 8) (hab : a ≠ b) (h : ∀ i j, P' i j = (P i j || (decide (i = a ∧ j = b) || decide (i = b ∧ j = a)))) (h0 : P a b = false) (h1 : P b a = false) :
    netF f P' = upd (upd (netF f P) (8 * a + b) (f (8 * a + b) - mn2i (f (8 * a + b)) (f (8 * b + a)))) (8 * b + a) (f (8 * b + a) - mn2i (f (8 * a + b)) (f (8 * b + a))) := by
  funext q
  simp only [upd]
  by_cases e1 : q = 8 * b + a
  · subst e1
    rw [if_pos rfl]
    unfold netF
    rw [show (8 * b + a) / 8 = b by omega, show (8 * b + a) % 8 = a by omega, h, if_pos (by simp), show swp (8 * b + a) = 8 * a + b by unfold swp; omega, mn2i_comm]
  · rw [if_neg e1]
    by_cases e2 : q = 8 * a + b
    · subst e2
      rw [if_pos rfl]
      unfold netF
      rw [show (8 * a + b) / 8 = a by omega, show (8 * a + b) % 8 = b by omega, h, if_pos (by simp), show swp (8 * a + b) = 8 * b + a by unfold swp; omega]
    · rw [if_neg e2]
      unfold netF
      have n1 : ¬ (q / 8 = a ∧ q % 8 = b) := by omega
      have n2 : ¬ (q / 8 = b ∧ q % 8 = a) := by omega
      rw [h, decide_eq_false n1, decide_eq_false n2, Bool.or_false, Bool.or_false]
theorem netF_at {f : Nat → Int32} {P : Nat → Nat → Bool} {a b : Nat} (hb : b < 8) (h : P a b = false) : netF f P (8 * a + b) = f (8 * a + b) := by
  unfold netF
  rw [show (8 * a + b) / 8 = a by omega, show (8 * a + b) % 8 = b by omega, h]; rfl
def net2 (f : Nat → Int32) (a b : Nat) : Int32 := 2 * mn2i (f (8 * a + b)) (f (8 * b + a))
/-- by how much -/
def netS (f : Nat → Int32) (n : Nat) : Int32 := fsum (fun a => fsum (fun b => net2 f a b) a) n
theorem setI_A {M : Mem} {a k : Nat} {f : Nat → Int32} {x : Int32} : setI (setA M a f) a k x = setA M a (upd f k x) := by
  refine Prod.ext ?_ rfl
  funext b j
  simp only [setI, setA, upd]
  by_cases h : b = a
  · subst h; simp
  · simp [h]
theorem setA_id {M : Mem} {a : Nat} : setA M a (M.1 a) = M := by
  refine Prod.ext ?_ rfl
  funext b j
  simp only [setA]
  split
  · next h => rw [h]
  · rfl
set_option maxRecDepth 100000 in
set_option maxHeartbeats 4000000 in
theorem l_nets_b {M : Mem} {n : Nat} (hn8 : n ≤ 8) {QQ : Nat → List (Option Value) → List Value → Mem → Prop} {a : Nat} (ha : a < n) {s0 : Int32} (K : Reach cX11_nets RX11 5 1 QQ 96 [some (.ref 140), some (.int (s0 + fsum (fun b => net2 (M.1 146) a b) a)), some (.int (nI a)), some (.int (nI a)), none] [] (setA M 146 (netF (M.1 146) (prA a a)))) : ∀ (N : Nat) (b : Nat) (s : Int32), (b ≤ a) → (s = s0 + fsum (fun b => net2 (M.1 146) a b) b) → a - b < N → Reach cX11_nets RX11 5 1 (QQ) 19 [some (.ref 140), some (.int s), some (.int (nI a)), some (.int (nI b)), none] [] (setA M 146 (netF (M.1 146) (prA a b))) := by
  intro N
  induction N with
  | zero => intro b s hb hs hm; exact absurd ‹_ < 0› (Nat.not_lt_zero _)
  | succ N ih =>
    intro b s hb hs hm
    refine rx_iload_n (i := 3) dX11_nets_19 rfl rfl ?_
    refine rx_iload_n (i := 2) dX11_nets_20 rfl rfl ?_
    refine rx_icmp_ge (tgt := 96) dX11_nets_21 (by decide) (fun c21 => ?_) (fun c21 => ?_)
    · skip
      have f21 := Int32.not_lt.mpr c21
      have e21 : b = a := by have := (nI_leI (by omega) (by omega)).mp c21; omega
      subst e21
      subst hs
      refine rx_drop 4 ?_
      exact K
    · skip
      have f21 := Int32.not_le.mp c21
      have e21 : b < a := Nat.lt_of_not_le fun q => c21 (nI_le q (by omega))
      have hp1 : prA a b a b = false := by unfold prA; rw [Bool.eq_false_iff]; simp only [ne_eq, Bool.and_eq_true, Bool.or_eq_true, Bool.not_eq_true', decide_eq_false_iff_not, decide_eq_true_eq]; rw [Nat.max_eq_left (by omega), Nat.min_eq_right (by omega)]; omega
      have hp2 : prA a b b a = false := by unfold prA; rw [Bool.eq_false_iff]; simp only [ne_eq, Bool.and_eq_true, Bool.or_eq_true, Bool.not_eq_true', decide_eq_false_iff_not, decide_eq_true_eq]; rw [Nat.max_eq_right (by omega), Nat.min_eq_left (by omega)]; omega
      refine rx_aload_n (i := 0) dX11_nets_24 rfl rfl ?_
      refine rx_getR 146 (k := 6) fo_X11_26 kl_140 (by decide) ti_11_6 (by decide) rfl dX11_nets_25 ?_
      refine rx_bipush (8) dX11_nets_28 rfl ?_
      refine rx_iload_n (i := 2) dX11_nets_30 rfl rfl ?_
      refine rx_imul dX11_nets_31 ?_
      refine rx_iload_n (i := 3) dX11_nets_32 rfl rfl ?_
      refine rx_iadd dX11_nets_33 ?_
      refine rx_top (nI (8 * a + b)) (by rw [show (8 : Int32) = nI 8 from rfl, pk_mul, nI_add]) ?_
      refine rx_ialdN kl_146 (by omega) (by first | decide | omega) dX11_nets_34 ?_
      refine rx_top (M.1 146 (8 * a + b)) ((congrFun setA_eq _).trans (netF_at (by omega) hp1)) ?_
      refine rx_aload_n (i := 0) dX11_nets_35 rfl rfl ?_
      refine rx_getR 146 (k := 6) fo_X11_26 kl_140 (by decide) ti_11_6 (by decide) rfl dX11_nets_36 ?_
      refine rx_bipush (8) dX11_nets_39 rfl ?_
      refine rx_iload_n (i := 3) dX11_nets_41 rfl rfl ?_
      refine rx_imul dX11_nets_42 ?_
      refine rx_iload_n (i := 2) dX11_nets_43 rfl rfl ?_
      refine rx_iadd dX11_nets_44 ?_
      refine rx_top (nI (8 * b + a)) (by rw [show (8 : Int32) = nI 8 from rfl, pk_mul, nI_add]) ?_
      refine rx_ialdN kl_146 (by omega) (by first | decide | omega) dX11_nets_45 ?_
      refine rx_top (M.1 146 (8 * b + a)) ((congrFun setA_eq _).trans (netF_at (by omega) hp2)) ?_
      refine rx_mmin (List.mem_of_getElem? (i := 1714) (by decide +kernel)) (by decide) (Nat.le_of_ble_eq_true rfl) dX11_nets_46 ?_
      refine rx_top (mn2i (M.1 146 (8 * a + b)) (M.1 146 (8 * b + a))) rfl ?_
      refine rx_istore (i := 4) dX11_nets_49 (by decide) rfl rfl ?_
      refine rx_aload_n (i := 0) dX11_nets_51 rfl rfl ?_
      refine rx_getR 146 (k := 6) fo_X11_26 kl_140 (by decide) ti_11_6 (by decide) rfl dX11_nets_52 ?_
      refine rx_bipush (8) dX11_nets_55 rfl ?_
      refine rx_iload_n (i := 2) dX11_nets_57 rfl rfl ?_
      refine rx_imul dX11_nets_58 ?_
      refine rx_iload_n (i := 3) dX11_nets_59 rfl rfl ?_
      refine rx_iadd dX11_nets_60 ?_
      refine rx_top (nI (8 * a + b)) (by rw [show (8 : Int32) = nI 8 from rfl, pk_mul, nI_add]) ?_
      refine rx_dup2_11 dX11_nets_61 rfl rfl ?_
      refine rx_ialdN kl_146 (by omega) (by first | decide | omega) dX11_nets_62 ?_
      refine rx_top (M.1 146 (8 * a + b)) ((congrFun setA_eq _).trans (netF_at (by omega) hp1)) ?_
      refine rx_iload (i := 4) dX11_nets_63 rfl ?_
      refine rx_isub dX11_nets_65 ?_
      refine rx_iastN kl_146 (by omega) (by first | decide | omega) dX11_nets_66 ?_
      rw [setI_A]
      refine rx_aload_n (i := 0) dX11_nets_67 rfl rfl ?_
      refine rx_getR 146 (k := 6) fo_X11_26 kl_140 (by decide) ti_11_6 (by decide) rfl dX11_nets_68 ?_
      refine rx_bipush (8) dX11_nets_71 rfl ?_
      refine rx_iload_n (i := 3) dX11_nets_73 rfl rfl ?_
      refine rx_imul dX11_nets_74 ?_
      refine rx_iload_n (i := 2) dX11_nets_75 rfl rfl ?_
      refine rx_iadd dX11_nets_76 ?_
      refine rx_top (nI (8 * b + a)) (by rw [show (8 : Int32) = nI 8 from rfl, pk_mul, nI_add]) ?_
      refine rx_dup2_11 dX11_nets_77 rfl rfl ?_
      refine rx_ialdN kl_146 (by omega) (by first | decide | omega) dX11_nets_78 ?_
      refine rx_top (M.1 146 (8 * b + a)) ((congrFun setA_eq _).trans ((if_neg (by omega)).trans (netF_at (by omega) hp2))) ?_
      refine rx_iload (i := 4) dX11_nets_79 rfl ?_
      refine rx_isub dX11_nets_81 ?_
      refine rx_iastN kl_146 (by omega) (by first | decide | omega) dX11_nets_82 ?_
      rw [setI_A, ← netF_s (P := prA a b) (P' := prA a (b + 1)) (by omega) (by omega) (by omega) (fun i j => prA_b e21) hp1 hp2]
      refine rx_iload_n (i := 1) dX11_nets_83 rfl rfl ?_
      refine rx_iconst (2) dX11_nets_84 rfl ?_
      refine rx_iload (i := 4) dX11_nets_85 rfl ?_
      refine rx_imul dX11_nets_87 ?_
      refine rx_iadd dX11_nets_88 ?_
      refine rx_istore_n (i := 1) dX11_nets_89 rfl (by decide) rfl rfl ?_
      first | refine rx_iincN (i := 3) dX11_nets_90 rfl (by decide) rfl rfl ?_ | refine rx_iinc (i := 3) dX11_nets_90 rfl rfl (by decide) rfl rfl ?_
      refine rx_goto (tgt := 19) dX11_nets_93 (by decide) ?_
      refine rx_drop 4 ?_
      exact ih (b + 1) _ (by omega) (by rw [hs]; simp only [fsum]; rw [← Int32.add_assoc]; rfl) (by omega)
set_option maxRecDepth 100000 in
set_option maxHeartbeats 4000000 in
theorem l_nets_a {M : Mem} {n : Nat} (hn : M.1 140 0 = nI n) (hn8 : n ≤ 8) : ∀ (N : Nat) (a : Nat) (s : Int32), (a ≤ n) → (s = fsum (fun a => fsum (fun b => net2 (M.1 146) a b) a) a) → n - a < N → Reach cX11_nets RX11 5 1 (FQ cX11_nets (some .int) (some (.int (netS (M.1 146) n))) (setI (setA M 146 (netF (M.1 146) (prA n 0))) 140 32 0)) 9 [some (.ref 140), some (.int s), some (.int (nI a)), none, none] [] (setA M 146 (netF (M.1 146) (prA a 0))) := by
  intro N
  induction N with
  | zero => intro a s ha hs hm; exact absurd ‹_ < 0› (Nat.not_lt_zero _)
  | succ N ih =>
    intro a s ha hs hm
    refine rx_iload_n (i := 2) dX11_nets_9 rfl rfl ?_
    refine rx_aload_n (i := 0) dX11_nets_10 rfl rfl ?_
    refine rx_getI (k := 0) fo_X11_132 kl_140 (by decide) ti_11_0 dX11_nets_11 ?_
    refine rx_top (nI n) (hn) ?_
    refine rx_icmp_ge (tgt := 102) dX11_nets_14 (by decide) (fun c14 => ?_) (fun c14 => ?_)
    · skip
      have f14 := Int32.not_lt.mpr c14
      have e14 : a = n := by have := (nI_leI (by omega) (by omega)).mp c14; omega
      subst e14
      refine rx_aload_n (i := 0) dX11_nets_102 rfl rfl ?_
      refine rx_iconst (0) dX11_nets_103 rfl ?_
      refine rx_putI (k := 32) fo_X11_198 fn_11_32 kl_140 (by decide) ty_11_32 dX11_nets_104 ?_
      refine rx_iload_n (i := 1) dX11_nets_107 rfl rfl ?_
      exact rx_fiI dX11_nets_108 hs rfl
    · skip
      have f14 := Int32.not_le.mp c14
      have e14 : a < n := Nat.lt_of_not_le fun q => c14 (nI_le q (by omega))
      refine rx_iconst (0) dX11_nets_17 rfl ?_
      refine rx_istore_n (i := 3) dX11_nets_18 rfl (by decide) rfl rfl ?_
      refine l_nets_b hn8 e14 (s0 := s) ?_ (a + 1) 0 s (Nat.zero_le _) (by simp only [fsum]; rw [Int32.add_zero]) (by omega)
      refine rx_iincN (i := 2) dX11_nets_96 rfl (by decide) rfl rfl ?_
      refine rx_goto (tgt := 9) dX11_nets_99 (by decide) ?_
      refine rx_drop 3 ?_
      rw [show netF (M.1 146) (prA a a) = netF (M.1 146) (prA (a + 1) 0) from congrArg (netF (M.1 146)) (funext fun i => funext fun j => prA_a.symm)]
      exact ih (a + 1) _ (by omega) (by rw [hs]; rfl) (by omega)
set_option maxRecDepth 100000 in
set_option maxHeartbeats 4000000 in
theorem c_X11_nets {M : Mem} {n m : Nat} (w : MW M n m) : Fun yX11_nets cX11_nets 5 (some .int) 1 [.ref 140] M (some (.int (netS (M.1 146) n))) (setI (setA (t0 M) 146 (netF (M.1 146) (prA n 0))) 140 32 0) := by
  refine Fun.of (own := RX11) ([some (.ref 140), none, none, none, none]) rfl (by decide +kernel) (Nat.le_of_ble_eq_true rfl) rfl ?_
  have w0 := w.t0
  have ⟨hn, hn8, hm, hm10, hd⟩ := w
  refine rx_aload_n (i := 0) dX11_nets_0 rfl rfl ?_
  refine rx_iconst (0) dX11_nets_1 rfl ?_
  refine rx_putI (k := 21) fo_X11_126 fn_11_21 kl_140 (by decide) ty_11_21 dX11_nets_2 ?_
  refine rx_iconst (0) dX11_nets_5 rfl ?_
  refine rx_istore_n (i := 1) dX11_nets_6 rfl (by decide) rfl rfl ?_
  refine rx_iconst (0) dX11_nets_7 rfl ?_
  refine rx_istore_n (i := 2) dX11_nets_8 rfl (by decide) rfl rfl ?_
  have h := l_nets_a (M := t0 M) ((t0_o (by omega)).trans hn) hn8 (n + 1) 0 0 (Nat.zero_le _) rfl (by omega)
  rw [netF_0, setA_id] at h
  exact h
theorem shX_back {M : Mem} {i j : Nat} {x : Int32} (h : i ≠ j) : setI (setI (shX M i j x) 141 i ((shX M i j x).1 141 i + x)) 141 j ((setI (shX M i j x) 141 i ((shX M i j x).1 141 i + x)).1 141 j - x) = M := by
  have h' : ¬ j = i := fun q => h q.symm
  refine Prod.ext ?_ rfl
  funext a k
  simp only [shX, setI]
  by_cases ha : a = 141
  · subst ha
    by_cases hk : k = i
    · subst hk; simp [h, h', Int32.sub_add_cancel]
    · by_cases hk2 : k = j
      · subst hk2; simp [h, h', Int32.add_sub_cancel]
      · simp [hk, hk2]
  · simp [ha]
theorem MW.sh {M : Mem} {n m i j : Nat} {x : Int32} (w : MW M n m) : MW (shX M i j x) n m := w.keep ((sI_na (by omega)).trans (sI_na (by omega))) ((sI_na (by omega)).trans (sI_na (by omega))) (fun _ _ => (sI_na (by omega)).trans (sI_na (by omega))) (fun _ _ => (sI_na (by omega)).trans (sI_na (by omega)))
/-- what of gifts has been seen when those ahead of g are through -/
def gSt (T : TT) (n o k g : Nat) (r : Option (Nat × Nat)) : Prop := match r with
  | none => ∀ c f, 1 ≤ c → c ≤ 8000 → f < g → ¬ gok T n o k c f
  | some (c, f) => f < g ∧ (1 ≤ c ∧ c ≤ 8000) ∧ gok T n o k c f ∧ (∀ c' f', 1 ≤ c' → c' < c → f' < g → ¬ gok T n o k c' f') ∧ ∀ f', f' < f → ¬ gok T n o k c f'
def gBest (r : Option (Nat × Nat)) : Int32 := match r with | none => -2 | some (c, _) => nI c
theorem gLe_uniq {T : TT} {n o k c f c' f' : Nat} (h : gLe T n o k c f) (h' : gLe T n o k c' f') : c = c' ∧ f = f' := by
  have hc : c = c' := by
    rcases Nat.lt_trichotomy c c' with q | q | q
    · exact absurd h.2.1 (h'.2.2.1 c f h.1 q)
    · exact q
    · exact absurd h'.2.1 (h.2.2.1 c' f' h'.1 q)
  subst hc
  refine ⟨rfl, ?_⟩
  rcases Nat.lt_trichotomy f f' with q | q | q
  · exact absurd h.2.1 (h'.2.2.2 f q)
  · exact q
  · exact absurd h'.2.1 (h.2.2.2 f' q)
def lSt (T : TT) (n i k g C : Nat) (r : Option (Nat × Nat)) : Prop := match r with
  | none => ∀ c f, 1 ≤ c → c ≤ C → f < g → ¬ lok T n i k c f
  | some (c, f) => f < g ∧ 1 ≤ c ∧ c ≤ C ∧ lok T n i k c f ∧ (∀ c' f', 1 ≤ c' → c' < c → f' < g → ¬ lok T n i k c' f') ∧ ∀ f', f' < f → ¬ lok T n i k c f'
theorem lLe_uniq {T : TT} {n o k c f c' f' : Nat} (h : lLe T n o k c f) (h' : lLe T n o k c' f') : c = c' ∧ f = f' := by
  have hc : c = c' := by
    rcases Nat.lt_trichotomy c c' with q | q | q
    · exact absurd h.2.1 (h'.2.2.1 c f h.1 q)
    · exact q
    · exact absurd h'.2.1 (h.2.2.1 c' f' h'.1 q)
  subst hc
  refine ⟨rfl, ?_⟩
  rcases Nat.lt_trichotomy f f' with q | q | q
  · exact absurd h.2.1 (h'.2.2.2 f q)
  · exact q
  · exact absurd h'.2.1 (h.2.2.2 f' q)
def mxG : Option (Nat × Nat) → Nat → Nat
  | none, K => K
  | some (c, _), K => min K (c - 1)
theorem mx_le {Kg Mx : Nat} {r : Option (Nat × Nat)} (hMx : Mx = mxG r Kg) : Mx ≤ Kg := by
  match r, hMx with
  | none, hMx => simp only [mxG] at hMx; omega
  | some (c, f), hMx => simp only [mxG] at hMx; omega
set_option maxRecDepth 100000 in
set_option maxHeartbeats 4000000 in
theorem l_gift_v {M : Mem} {n m : Nat} (w : MW M n m) (hs : sortOK (M.1 153 0)) {o k : Nat} (ho : o < n) (hk : k < m) (h10 : M.1 151 k = 0) {QQ : Nat → List (Option Value) → List Value → Mem → Prop} {g : Nat} (hg : g < n) (hgo : g ≠ o) {r : Option (Nat × Nat)} {fr wh : Int32} (hr : gSt (mv M) n o k g r) (hfw : (∀ c f, r = some (c, f) → fr = nI f ∧ wh = payT (shT (mv M) f o (nI c)) n k)) {Kg Mx : Nat} (eK : mv M 0 g - mv M 3 g = nI Kg) (hK : Kg ≤ 8000) (hMx : Mx = mxG r Kg) (K : ∀ r fr wh, gSt (mv M) n o k (g + 1) r → (∀ c f, r = some (c, f) → fr = nI f ∧ wh = payT (shT (mv M) f o (nI c)) n k) → ∀ a b c, Reach cX11_gift RX11 10 5 QQ 180 [some (.ref 140), some (.int (nI k)), some (.int (nI o)), some (.int (gBest r)), some (.int fr), some (.int wh), some (.int (nI g)), a, b, c] [] M) : ∀ (N : Nat) (v : Nat), (1 ≤ v) → (v ≤ Mx + 1) → (∀ c, 1 ≤ c → c < v → ¬ gok (mv M) n o k c g) → Mx + 1 - v < N → Reach cX11_gift RX11 10 5 (QQ) 92 [some (.ref 140), some (.int (nI k)), some (.int (nI o)), some (.int (gBest r)), some (.int fr), some (.int wh), some (.int (nI g)), some (.int (nI Mx)), some (.int (nI v)), none] [] (M) := by
  intro N
  induction N with
  | zero => intro v hv1 hvM hnot hm; exact absurd ‹_ < 0› (Nat.not_lt_zero _)
  | succ N ih =>
    intro v hv1 hvM hnot hm
    have ⟨hn, hn8, hm, hm10, hd⟩ := w
    have hMK : Mx ≤ Kg := mx_le hMx
    refine rx_iload (i := 8) dX11_gift_92 rfl ?_
    refine rx_iload (i := 7) dX11_gift_94 rfl ?_
    refine rx_icmp_gt (tgt := 180) dX11_gift_96 (by decide) (fun c96 => ?_) (fun c96 => ?_)
    · skip
      have e96 : Mx < v := (nI_ltI (by omega) (by omega)).mp c96
      refine K r fr wh ?_ hfw _ _ _
      match r, hr, hMx with
      | none, hr, hMx =>
        intro c f h1 h2 h3 q
        by_cases e : f = g
        · subst e
          have q3 := q.2.2.1
          rw [eK, nI_leI (by omega) (by omega)] at q3
          simp only [mxG] at hMx
          exact hnot c h1 (by omega) q
        · exact hr c f h1 h2 (by omega) q
      | some (c, f), hr, hMx =>
        obtain ⟨h1, h2, h3, h4, h5⟩ := hr
        refine ⟨by omega, h2, h3, fun c' f' a1 a2 a3 q => ?_, h5⟩
        by_cases e : f' = g
        · subst e
          have q3 := q.2.2.1
          rw [eK, nI_leI (by omega) (by omega)] at q3
          simp only [mxG] at hMx
          exact hnot c' a1 (by omega) q
        · exact h4 c' f' a1 a2 (by omega) q
    · skip
      have e96 : v ≤ Mx := (nI_leI (by omega) (by omega)).mp (Int32.not_lt.mp c96)
      have w2 : MW (shX M g o (nI v)) n m := w.sh
      have hKv : v ≤ Kg := by omega
      refine rx_aload_n (i := 0) dX11_gift_99 rfl rfl ?_
      refine rx_getR 141 (k := 1) fo_X11_9 kl_140 (by decide) ti_11_1 (by decide) rfl dX11_gift_100 ?_
      refine rx_iload (i := 6) dX11_gift_103 rfl ?_
      refine rx_dup2_11 dX11_gift_105 rfl rfl ?_
      refine rx_ialdN kl_141 (by omega) (by first | decide | omega) dX11_gift_106 ?_
      refine rx_iload (i := 8) dX11_gift_107 rfl ?_
      refine rx_isub dX11_gift_109 ?_
      refine rx_iastN kl_141 (by omega) (by first | decide | omega) dX11_gift_110 ?_
      refine rx_aload_n (i := 0) dX11_gift_111 rfl rfl ?_
      refine rx_getR 141 (k := 1) fo_X11_9 kl_140 (by decide) ti_11_1 (by decide) rfl dX11_gift_112 ?_
      refine rx_iload_n (i := 2) dX11_gift_115 rfl rfl ?_
      refine rx_dup2_11 dX11_gift_116 rfl rfl ?_
      refine rx_ialdN kl_141 (by omega) (by first | decide | omega) dX11_gift_117 ?_
      refine rx_iload (i := 8) dX11_gift_118 rfl ?_
      refine rx_iadd dX11_gift_120 ?_
      refine rx_iastN kl_141 (by omega) (by first | decide | omega) dX11_gift_121 ?_
      refine rx_aload_n (i := 0) dX11_gift_122 rfl rfl ?_
      refine rx_iload_n (i := 1) dX11_gift_123 rfl rfl ?_
      refine rx_cvI (ci := 11) mo_X11_mayPay lk_X11_288 (c_X11_mayPay (M := shX M g o (nI v)) w2 (show sortOK ((shX M g o (nI v)).1 153 0) from hs) hk) (by decide) rfl rfl (Nat.le_of_ble_eq_true rfl) kl_140 rfl dX11_gift_124 ?_
      have ep : fbor (mayT (mv (shX M g o (nI v))) n k) n = payT (shT (mv M) g o (nI v)) n k := by rw [mv_shX]; exact (if_pos h10).symm
      refine rx_top _ ep ?_
      refine rx_istore (i := 9) dX11_gift_127 (by decide) rfl rfl ?_
      refine rx_aload_n (i := 0) dX11_gift_129 rfl rfl ?_
      refine rx_getR 141 (k := 1) fo_X11_9 kl_140 (by decide) ti_11_1 (by decide) rfl dX11_gift_130 ?_
      refine rx_iload (i := 6) dX11_gift_133 rfl ?_
      refine rx_dup2_11 dX11_gift_135 rfl rfl ?_
      refine rx_ialdN kl_141 (by omega) (by first | decide | omega) dX11_gift_136 ?_
      refine rx_iload (i := 8) dX11_gift_137 rfl ?_
      refine rx_iadd dX11_gift_139 ?_
      refine rx_iastN kl_141 (by omega) (by first | decide | omega) dX11_gift_140 ?_
      refine rx_aload_n (i := 0) dX11_gift_141 rfl rfl ?_
      refine rx_getR 141 (k := 1) fo_X11_9 kl_140 (by decide) ti_11_1 (by decide) rfl dX11_gift_142 ?_
      refine rx_iload_n (i := 2) dX11_gift_145 rfl rfl ?_
      refine rx_dup2_11 dX11_gift_146 rfl rfl ?_
      refine rx_ialdN kl_141 (by omega) (by first | decide | omega) dX11_gift_147 ?_
      refine rx_iload (i := 8) dX11_gift_148 rfl ?_
      refine rx_isub dX11_gift_150 ?_
      refine rx_iastN kl_141 (by omega) (by first | decide | omega) dX11_gift_151 ?_
      rw [shX_back hgo]
      refine rx_iload (i := 9) dX11_gift_152 rfl ?_
      refine rx_if_ne (tgt := 160) dX11_gift_154 (by decide) (fun c154 => ?_) (fun c154 => ?_)
      · skip
        have hgk : gok (mv M) n o k v g := ⟨hg, hgo, by rw [eK]; exact nI_le hKv (by omega), c154⟩
        refine rx_iload (i := 8) dX11_gift_160 rfl ?_
        refine rx_istore_n (i := 3) dX11_gift_162 rfl (by decide) rfl rfl ?_
        refine rx_iload (i := 6) dX11_gift_163 rfl ?_
        refine rx_istore (i := 4) dX11_gift_165 (by decide) rfl rfl ?_
        refine rx_iload (i := 9) dX11_gift_167 rfl ?_
        refine rx_istore (i := 5) dX11_gift_169 (by decide) rfl rfl ?_
        refine rx_goto (tgt := 180) dX11_gift_171 (by decide) ?_
        refine K (some (v, g)) _ _ ?_ (fun c f e => by obtain ⟨rfl, rfl⟩ := Prod.mk.inj (Option.some.inj e); exact ⟨rfl, rfl⟩) _ _ _
        match r, hr, hMx with
        | none, hr, hMx =>
          exact ⟨by omega, ⟨hv1, by omega⟩, hgk, fun c' f' a1 a2 a3 => if e : f' = g then e ▸ hnot c' a1 a2 else hr c' f' a1 (by omega) (by omega), fun f' a => hr v f' hv1 (by omega) a⟩
        | some (c, f), hr, hMx =>
          obtain ⟨h1, h2, h3, h4, h5⟩ := hr
          simp only [mxG] at hMx
          exact ⟨by omega, ⟨hv1, by omega⟩, hgk, fun c' f' a1 a2 a3 => if e : f' = g then e ▸ hnot c' a1 a2 else h4 c' f' a1 (by omega) (by omega), fun f' a => h4 v f' hv1 (by omega) a⟩
      · skip
        have hngk : ¬ gok (mv M) n o k v g := fun q => q.2.2.2 c154
        refine rx_goto (tgt := 174) dX11_gift_157 (by decide) ?_
        first | refine rx_iincN (i := 8) dX11_gift_174 rfl (by decide) rfl rfl ?_ | refine rx_iinc (i := 8) dX11_gift_174 rfl rfl (by decide) rfl rfl ?_
        refine rx_goto (tgt := 92) dX11_gift_177 (by decide) ?_
        refine rx_drop 9 ?_
        exact ih (v + 1) (by omega) (by omega) (fun c h1 h2 => if e : c = v then e ▸ hngk else hnot c h1 (by omega)) (by omega)
set_option maxRecDepth 100000 in
set_option maxHeartbeats 4000000 in
theorem l_gift_g {M : Mem} {n m : Nat} (w : MW M n m) (hs : sortOK (M.1 153 0)) {o k : Nat} (ho : o < n) (hk : k < m) (h10 : M.1 151 k = 0) {QQ : Nat → List (Option Value) → List Value → Mem → Prop} (hO : OKT (mv M) n) (K : ∀ r fr wh, gSt (mv M) n o k n r → (∀ c f, r = some (c, f) → fr = nI f ∧ wh = payT (shT (mv M) f o (nI c)) n k) → Reach cX11_gift RX11 10 5 QQ 186 [some (.ref 140), some (.int (nI k)), some (.int (nI o)), some (.int (gBest r)), some (.int fr), some (.int wh), some (.int (nI n)), none, none, none] [] M) : ∀ (N : Nat) (g : Nat) (r : Option (Nat × Nat)) (fr : Int32) (wh : Int32), (g ≤ n) → (gSt (mv M) n o k g r) → ((∀ c f, r = some (c, f) → fr = nI f ∧ wh = payT (shT (mv M) f o (nI c)) n k)) → n - g < N → Reach cX11_gift RX11 10 5 (QQ) 44 [some (.ref 140), some (.int (nI k)), some (.int (nI o)), some (.int (gBest r)), some (.int fr), some (.int wh), some (.int (nI g)), none, none, none] [] (M) := by
  intro N
  induction N with
  | zero => intro g r fr wh hg hr hfw hm; exact absurd ‹_ < 0› (Nat.not_lt_zero _)
  | succ N ih =>
    intro g r fr wh hg hr hfw hm
    have ⟨hn, hn8, hm, hm10, hd⟩ := w
    refine rx_iload (i := 6) dX11_gift_44 rfl ?_
    refine rx_aload_n (i := 0) dX11_gift_46 rfl rfl ?_
    refine rx_getI (k := 0) fo_X11_132 kl_140 (by decide) ti_11_0 dX11_gift_47 ?_
    refine rx_top (nI n) (hn) ?_
    refine rx_icmp_ge (tgt := 186) dX11_gift_50 (by decide) (fun c50 => ?_) (fun c50 => ?_)
    · skip
      have f50 := Int32.not_lt.mpr c50
      have e50 : g = n := by have := (nI_leI (by omega) (by omega)).mp c50; omega
      subst e50
      exact K r fr wh hr hfw
    · skip
      have f50 := Int32.not_le.mp c50
      have e50 : g < n := Nat.lt_of_not_le fun q => c50 (nI_le q (by omega))
      refine rx_iload (i := 6) dX11_gift_53 rfl ?_
      refine rx_iload_n (i := 2) dX11_gift_55 rfl rfl ?_
      refine rx_icmp_ne (tgt := 62) dX11_gift_56 (by decide) (fun c56 => ?_) (fun c56 => ?_)
      · skip
        have e56 : g ≠ o := fun q => c56 (by rw [q])
        obtain ⟨Kg, hK31, eK⟩ := nI_of (x := mv M 0 g - mv M 3 g) (fun q => by have := Int32.lt_iff_toInt_lt.mp q; rw [hO.cnt e50, i_0] at this; have := hO.1 g e50; omega)
        have hK : Kg ≤ 8000 := by have := hO.cnt e50; rw [eK, nI_toInt hK31] at this; have := hO.1 g e50; omega
        refine rx_iload_n (i := 3) dX11_gift_62 rfl rfl ?_
        rcases r with - | ⟨c, f⟩
        · skip
          refine rx_if_ge (tgt := 75) dX11_gift_63 (by decide) (fun c63 => absurd c63 (by decide)) (fun c63 => ?_)
          refine rx_aload_n (i := 0) dX11_gift_66 rfl rfl ?_
          refine rx_iload (i := 6) dX11_gift_67 rfl ?_
          refine rx_cvI (ci := 11) mo_X11_counted lk_X11_225 (c_X11_counted (by omega)) (by decide) rfl rfl (Nat.le_of_ble_eq_true rfl) kl_140 rfl dX11_gift_69 ?_
          refine rx_top (nI Kg) (eK) ?_
          refine rx_goto (tgt := 87) dX11_gift_72 (by decide) ?_
          refine rx_istore (i := 7) dX11_gift_87 (by decide) rfl rfl ?_
          refine rx_iconst (1) dX11_gift_89 rfl ?_
          refine rx_istore (i := 8) dX11_gift_90 (by decide) rfl rfl ?_
          refine l_gift_v w hs ho hk h10 e50 e56 hr hfw eK hK (show Kg = mxG none Kg from rfl) (fun r fr wh h1 h2 a b c => ?_) (Kg + 1) 1 (Nat.le_refl 1) (by omega) (fun c h1 h2 => by omega) (by omega)
          refine rx_iincN (i := 6) dX11_gift_180 rfl (by decide) rfl rfl ?_
          refine rx_goto (tgt := 44) dX11_gift_183 (by decide) ?_
          refine rx_drop 7 ?_
          refine rx_drop 8 ?_
          refine rx_drop 9 ?_
          exact ih (g + 1) r fr wh (by omega) h1 h2 (by omega)
        · skip
          refine rx_if_ge (tgt := 75) dX11_gift_63 (by decide) (fun c63 => ?_) (fun c63 => absurd (nI_pos' (by have := hr.2.1.2; omega)) c63)
          refine rx_aload_n (i := 0) dX11_gift_75 rfl rfl ?_
          refine rx_iload (i := 6) dX11_gift_76 rfl ?_
          refine rx_cvI (ci := 11) mo_X11_counted lk_X11_225 (c_X11_counted (by omega)) (by decide) rfl rfl (Nat.le_of_ble_eq_true rfl) kl_140 rfl dX11_gift_78 ?_
          refine rx_top (nI Kg) (eK) ?_
          refine rx_iload_n (i := 3) dX11_gift_81 rfl rfl ?_
          refine rx_iconst (1) dX11_gift_82 rfl ?_
          refine rx_isub dX11_gift_83 ?_
          refine rx_top (nI (c - 1)) (by rw [show gBest (some (c, f)) = nI c from rfl, show (1 : Int32) = nI 1 from rfl, pk_sub hr.2.1.1]) ?_
          refine rx_mmin (List.mem_of_getElem? (i := 1714) (by decide +kernel)) (by decide) (Nat.le_of_ble_eq_true rfl) dX11_gift_84 ?_
          refine rx_top (nI (min Kg (c - 1))) (mn2 (by omega) (by have := hr.2.1.2; omega)) ?_
          refine rx_istore (i := 7) dX11_gift_87 (by decide) rfl rfl ?_
          refine rx_iconst (1) dX11_gift_89 rfl ?_
          refine rx_istore (i := 8) dX11_gift_90 (by decide) rfl rfl ?_
          refine l_gift_v w hs ho hk h10 e50 e56 hr hfw eK hK (show min Kg (c - 1) = mxG (some (c, f)) Kg from rfl) (fun r fr wh h1 h2 a b c => ?_) (min Kg (c - 1) + 1) 1 (Nat.le_refl 1) (by omega) (fun c h1 h2 => by omega) (by omega)
          refine rx_iincN (i := 6) dX11_gift_180 rfl (by decide) rfl rfl ?_
          refine rx_goto (tgt := 44) dX11_gift_183 (by decide) ?_
          refine rx_drop 7 ?_
          refine rx_drop 8 ?_
          refine rx_drop 9 ?_
          exact ih (g + 1) r fr wh (by omega) h1 h2 (by omega)
      · skip
        have e56 : g = o := (nI_eq (by omega) (by omega)).mp c56
        have hr2 : gSt (mv M) n o k (g + 1) r := by
          match r, hr with
          | none, hr => exact fun c f h1 h2 h3 q => if e : f = g then q.2.1 (e.trans e56) else hr c f h1 h2 (by omega) q
          | some (c, f), hr => exact ⟨by have := hr.1; omega, hr.2.1, hr.2.2.1, fun c' f' a1 a2 a3 q => if e : f' = g then q.2.1 (e.trans e56) else hr.2.2.2.1 c' f' a1 a2 (by omega) q, hr.2.2.2.2⟩
        refine rx_goto (tgt := 180) dX11_gift_59 (by decide) ?_
        first | refine rx_iincN (i := 6) dX11_gift_180 rfl (by decide) rfl rfl ?_ | refine rx_iinc (i := 6) dX11_gift_180 rfl rfl (by decide) rfl rfl ?_
        refine rx_goto (tgt := 44) dX11_gift_183 (by decide) ?_
        exact ih (g + 1) r fr wh (by omega) hr2 hfw (by omega)
set_option maxRecDepth 100000 in
set_option maxHeartbeats 4000000 in
theorem c_X11_gift {M : Mem} {n m : Nat} (w : MW M n m) (hs : sortOK (M.1 153 0)) {o k : Nat} (ho : o < n) (hk : k < m) (h10 : M.1 151 k = 0) (hO : OKT (mv M) n) (eo : M.1 147 k = nI o) : Con yX11_gift cX11_gift 10 (some .int) 5 [.ref 140, .int (nI k)] M (fun v N => frQ M N ∧ ((¬ payT (mv M) n k = 0 ∧ v = some (.int 0) ∧ N = t0 M) ∨ (payT (mv M) n k = 0 ∧ ((∃ c f, c ≤ 8000 ∧ gLe (mv M) n o k c f ∧ v = some (.int (nI c)) ∧ row2 N (nI f).toInt64 (payT (shT (mv M) f o (nI c)) n k).toInt64) ∨ (v = some (.int (-2)) ∧ N = t0 M ∧ ∀ c f, 1 ≤ c → c ≤ 8000 → ¬ gok (mv M) n o k c f))))) := by
  refine Con.of (own := RX11) (ls := [some (.ref 140), some (.int (nI k)), none, none, none, none, none, none, none, none]) rfl (by decide +kernel) (Nat.le_of_ble_eq_true rfl) rfl ?_
  have w0 := w.t0
  have ⟨hn, hn8, hm, hm10, hd⟩ := w
  refine rx_aload_n (i := 0) dX11_gift_0 rfl rfl ?_
  refine rx_iconst (0) dX11_gift_1 rfl ?_
  refine rx_putI (k := 21) fo_X11_126 fn_11_21 kl_140 (by decide) ty_11_21 dX11_gift_2 ?_
  refine rx_aload_n (i := 0) dX11_gift_5 rfl rfl ?_
  refine rx_iload_n (i := 1) dX11_gift_6 rfl rfl ?_
  refine rx_cvI (ci := 11) mo_X11_isOpen lk_X11_312 (c_X11_isOpen w0.2.2.1 (by omega)) (by decide) rfl rfl (Nat.le_of_ble_eq_true rfl) kl_140 rfl dX11_gift_7 ?_
  refine rx_top (1) (if_pos ⟨⟨nI_pos' (by omega), nI_lt hk (by omega)⟩, by rw [nI_clamp (by omega)]; exact h10⟩) ?_
  refine rx_if_ne (tgt := 15) dX11_gift_10 (by decide) (fun c10 => ?_) (fun c10 => absurd c10 (by decide))
  refine rx_aload_n (i := 0) dX11_gift_15 rfl rfl ?_
  refine rx_iload_n (i := 1) dX11_gift_16 rfl rfl ?_
  refine rx_cvI (ci := 11) mo_X11_mayPay lk_X11_288 (c_X11_mayPay w0 (show sortOK ((t0 M).1 153 0) from hs) hk) (by decide) rfl rfl (Nat.le_of_ble_eq_true rfl) kl_140 rfl dX11_gift_17 ?_
  have epp : fbor (mayT (mv (t0 M)) n k) n = payT (mv M) n k := by rw [t0_mv]; exact (if_pos h10).symm
  refine rx_top (payT (mv M) n k) (epp) ?_
  refine rx_if_eq (tgt := 25) dX11_gift_20 (by decide) (fun c20 => ?_) (fun c20 => ?_)
  · skip
    have ep := c20
    refine rx_aload_n (i := 0) dX11_gift_25 rfl rfl ?_
    refine rx_getR 147 (k := 8) fo_X11_29 kl_140 (by decide) ti_11_8 (by decide) rfl dX11_gift_26 ?_
    refine rx_iload_n (i := 1) dX11_gift_29 rfl rfl ?_
    refine rx_ialdN kl_147 (by omega) (by first | decide | omega) dX11_gift_30 ?_
    refine rx_top (nI o) (eo) ?_
    refine rx_istore_n (i := 2) dX11_gift_31 rfl (by decide) rfl rfl ?_
    refine rx_bipush (-2) dX11_gift_32 rfl ?_
    refine rx_istore_n (i := 3) dX11_gift_34 rfl (by decide) rfl rfl ?_
    refine rx_iconst (0) dX11_gift_35 rfl ?_
    refine rx_istore (i := 4) dX11_gift_36 (by decide) rfl rfl ?_
    refine rx_iconst (0) dX11_gift_38 rfl ?_
    refine rx_istore (i := 5) dX11_gift_39 (by decide) rfl rfl ?_
    refine rx_iconst (0) dX11_gift_41 rfl ?_
    refine rx_istore (i := 6) dX11_gift_42 (by decide) rfl rfl ?_
    refine l_gift_g w0 (show sortOK ((t0 M).1 153 0) from hs) ho hk h10 (by rw [t0_mv]; exact hO) (fun r fr wh hr hfw => ?_) (n + 1) 0 none 0 0 (Nat.zero_le _) (fun c f _ _ h _ => absurd h (Nat.not_lt_zero _)) (fun c f e => by cases e) (by omega)
    rw [t0_mv] at hr hfw
    refine rx_iload_n (i := 3) dX11_gift_186 rfl rfl ?_
    rcases r with - | ⟨c, f⟩
    · skip
      refine rx_if_ge (tgt := 193) dX11_gift_187 (by decide) (fun c187 => absurd c187 (by decide)) (fun c187 => ?_)
      refine rx_bipush (-2) dX11_gift_190 rfl ?_
      exact rx_iret dX11_gift_192 ⟨frQ_t0, Or.inr ⟨ep, Or.inr ⟨rfl, rfl, fun c f h1 h2 q => hr c f h1 h2 q.1 q⟩⟩⟩
    · skip
      have hc8 := hr.2.1.2
      obtain ⟨rfl, rfl⟩ := hfw c f rfl
      refine rx_if_ge (tgt := 193) dX11_gift_187 (by decide) (fun c187 => ?_) (fun c187 => absurd (nI_pos' (by omega)) c187)
      refine rx_aload_n (i := 0) dX11_gift_193 rfl rfl ?_
      refine rx_iconst (0) dX11_gift_194 rfl ?_
      refine rx_putI (k := 20) fo_X11_129 fn_11_20 kl_140 (by decide) ty_11_20 dX11_gift_195 ?_
      refine rx_aload_n (i := 0) dX11_gift_198 rfl rfl ?_
      refine rx_iload (i := 4) dX11_gift_199 rfl ?_
      refine rx_i2l dX11_gift_201 rfl ?_
      refine rx_cvN (ci := 11) mo_X11_tell lk_X11_294 (c_X11_tell (s := 0) (v := (nI f).toInt64) sI_eq (by omega)) (by decide) rfl rfl (Nat.le_of_ble_eq_true rfl) kl_140 rfl dX11_gift_202 ?_
      refine rx_aload_n (i := 0) dX11_gift_205 rfl rfl ?_
      refine rx_iload (i := 5) dX11_gift_206 rfl ?_
      refine rx_i2l dX11_gift_208 rfl ?_
      refine rx_cvN (ci := 11) mo_X11_tell lk_X11_294 (c_X11_tell (s := 1) (v := (payT (shT (mv M) f o (nI c)) n k).toInt64) mt_20 (by omega)) (by decide) rfl rfl (Nat.le_of_ble_eq_true rfl) kl_140 rfl dX11_gift_209 ?_
      refine rx_iload_n (i := 3) dX11_gift_212 rfl rfl ?_
      exact rx_iret dX11_gift_213 ⟨frQ_t0.trans ((frQ_I (by omega)).trans (frQ_mt.trans frQ_mt)), Or.inr ⟨ep, Or.inl ⟨c, f, hc8, ⟨hr.2.1.1, hr.2.2.1, fun c' f' a1 a2 q => hr.2.2.2.1 c' f' a1 a2 q.1 q, hr.2.2.2.2⟩, rfl, mt_row2⟩⟩⟩
  · skip
    have ep := c20
    refine rx_iconst (0) dX11_gift_23 rfl ?_
    exact rx_iret dX11_gift_24 ⟨frQ_t0, Or.inl ⟨ep, rfl, rfl⟩⟩
set_option maxRecDepth 100000 in
set_option maxHeartbeats 4000000 in
theorem c_X11_gift_no {M : Mem} {n m : Nat} (w : MW M n m) {y : Int32} (hx : ¬ ((0 ≤ y ∧ y < nI m) ∧ M.1 151 y.toNatClampNeg = 0)) : Fun yX11_gift cX11_gift 10 (some .int) 5 [.ref 140, .int y] M (some (.int (-1))) (t0 M) := by
  refine Fun.of (own := RX11) ([some (.ref 140), some (.int y), none, none, none, none, none, none, none, none]) rfl (by decide +kernel) (Nat.le_of_ble_eq_true rfl) rfl ?_
  have w0 := w.t0
  have ⟨hn, hn8, hm, hm10, hd⟩ := w
  refine rx_aload_n (i := 0) dX11_gift_0 rfl rfl ?_
  refine rx_iconst (0) dX11_gift_1 rfl ?_
  refine rx_putI (k := 21) fo_X11_126 fn_11_21 kl_140 (by decide) ty_11_21 dX11_gift_2 ?_
  refine rx_aload_n (i := 0) dX11_gift_5 rfl rfl ?_
  refine rx_iload_n (i := 1) dX11_gift_6 rfl rfl ?_
  refine rx_cvI (ci := 11) mo_X11_isOpen lk_X11_312 (c_X11_isOpen w0.2.2.1 (by omega)) (by decide) rfl rfl (Nat.le_of_ble_eq_true rfl) kl_140 rfl dX11_gift_7 ?_
  refine rx_if_ne (tgt := 15) dX11_gift_10 (by decide) (fun c10 => ?_) (fun c10 => ?_)
  · skip
    exact absurd (ite1n c10) hx
    skip
  · skip
    refine rx_iconst (-1) dX11_gift_13 rfl ?_
    exact rx_fiI dX11_gift_14 rfl rfl
