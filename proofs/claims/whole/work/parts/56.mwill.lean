/-- the values of the class are the stack of the model, upside down -/
def stkOf (s : Nat × (Nat → Int32)) (l : List Int32) : Prop := l.length = s.1 ∧ ∀ j, j < s.1 → l[s.1 - 1 - j]? = some (s.2 j)
theorem stk_step {lv : Int32 → Int32} {st : Int32} {s : Nat × (Nat → Int32)} {l : List Int32} (h : stkOf s l) (h40 : s.1 < 40) (hst : st < 2000 ∨ 2000 ≤ st) : stkOf (wst lv st s) (evS lv l st) := by
  obtain ⟨H, V⟩ := s
  obtain ⟨h1, h2⟩ := h
  simp only at h1 h2 h40
  have push : ∀ x, stkOf (H + 1, upd V H x) (x :: l) := fun x => by
    refine ⟨by simp [h1], fun j hj => ?_⟩
    simp only at hj ⊢
    by_cases q : j = H
    · subst q
      rw [show j + 1 - 1 - j = 0 by omega, List.getElem?_cons_zero]
      simp [upd]
    · rw [show H + 1 - 1 - j = (H - 1 - j) + 1 by omega, List.getElem?_cons_succ, h2 j (by omega)]
      simp [upd, q]
  by_cases c2 : st < 2000
  · by_cases c1 : st < 1000
    · have e1 : evS lv l st = st :: l := if_pos c1
      have e2 : wst lv st (H, V) = (H + 1, upd V H st) := by unfold wst; simp only; rw [if_pos ⟨c2, h40⟩, if_pos c1]
      rw [e1, e2]
      exact push st
    · have e1 : evS lv l st = lv (st - 1000) :: l := by unfold evS; rw [if_neg c1, if_pos c2]
      have e2 : wst lv st (H, V) = (H + 1, upd V H (lv (st - 1000))) := by unfold wst; simp only; rw [if_pos ⟨c2, h40⟩, if_neg c1]
      rw [e1, e2]
      exact push _
  · have c1 : ¬ st < 1000 := fun q => c2 (Int32.lt_trans q (by decide))
    by_cases c3 : st = 2007
    · match l, h1, h2 with
      | [], h1, h2 =>
        simp at h1
        subst h1
        have e1 : evS lv [] st = [] := by unfold evS; rw [if_neg c1, if_neg c2, if_pos c3]
        have e2 : wst lv st (0, V) = (0, V) := by unfold wst; simp only; rw [if_neg (fun q => c2 q.1), if_neg (fun q => Nat.not_lt_zero _ q.2), if_neg (by omega)]
        rw [e1, e2]
        exact ⟨rfl, h2⟩
      | a :: r, h1, h2 =>
        simp at h1
        subst h1
        have e1 : evS lv (a :: r) st = (-a) :: r := by unfold evS; rw [if_neg c1, if_neg c2, if_pos c3]
        have e2 : wst lv st (r.length + 1, V) = (r.length + 1, upd V r.length (-(V r.length))) := by unfold wst; simp only; rw [if_neg (fun q => c2 q.1), if_pos ⟨c3, by omega⟩, show r.length + 1 - 1 = r.length by omega]
        rw [e1, e2]
        have h0 := h2 r.length (by omega)
        rw [show r.length + 1 - 1 - r.length = 0 by omega, List.getElem?_cons_zero] at h0
        have h0 := Option.some.inj h0
        refine ⟨by simp, fun j hj => ?_⟩
        simp only at hj ⊢
        by_cases q : j = r.length
        · rw [q, show r.length + 1 - 1 - r.length = 0 by omega, List.getElem?_cons_zero]
          simp [upd, h0]
        · have := h2 j hj
          rw [show r.length + 1 - 1 - j = (r.length - j - 1) + 1 by omega, List.getElem?_cons_succ] at this ⊢
          rw [this]
          simp [upd, q]
    · match l, h1, h2 with
      | [], h1, h2 =>
        simp at h1
        subst h1
        have e1 : evS lv [] st = [] := by unfold evS; rw [if_neg c1, if_neg c2, if_neg c3]
        have e2 : wst lv st (0, V) = (0, V) := by unfold wst; simp only; rw [if_neg (fun q => c2 q.1), if_neg (fun q => c3 q.1), if_neg (by omega)]
        rw [e1, e2]
        exact ⟨rfl, h2⟩
      | [a], h1, h2 =>
        simp at h1
        subst h1
        have e1 : evS lv [a] st = [a] := by unfold evS; rw [if_neg c1, if_neg c2, if_neg c3]
        have e2 : wst lv st (1, V) = (1, V) := by unfold wst; simp only; rw [if_neg (fun q => c2 q.1), if_neg (fun q => c3 q.1), if_neg (by omega)]
        rw [e1, e2]
        exact ⟨rfl, h2⟩
      | b :: a :: r, h1, h2 =>
        simp at h1
        subst h1
        have e1 : evS lv (b :: a :: r) st = dnF (st - 2000) a b :: r := by unfold evS; rw [if_neg c1, if_neg c2, if_neg c3]
        have e2 : wst lv st (r.length + 1 + 1, V) = (r.length + 1, upd V r.length (dnF (st - 2000) (V r.length) (V (r.length + 1)))) := by unfold wst; simp only; rw [if_neg (fun q => c2 q.1), if_neg (fun q => c3 q.1), if_pos (by omega), show r.length + 1 + 1 - 1 = r.length + 1 by omega, show r.length + 1 + 1 - 2 = r.length by omega]
        rw [e1, e2]
        have h0 := h2 (r.length + 1) (by omega)
        rw [show r.length + 1 + 1 - 1 - (r.length + 1) = 0 by omega, List.getElem?_cons_zero] at h0
        have h0 := Option.some.inj h0
        have h3 := h2 r.length (by omega)
        rw [show r.length + 1 + 1 - 1 - r.length = 0 + 1 by omega, List.getElem?_cons_succ, List.getElem?_cons_zero] at h3
        have h3 := Option.some.inj h3
        refine ⟨by simp, fun j hj => ?_⟩
        simp only at hj ⊢
        by_cases q : j = r.length
        · rw [q, show r.length + 1 - 1 - r.length = 0 by omega, List.getElem?_cons_zero]
          simp [upd, h0, h3]
        · have := h2 j (by omega)
          rw [show r.length + 1 + 1 - 1 - j = (r.length - j - 1) + 1 + 1 by omega, List.getElem?_cons_succ, List.getElem?_cons_succ] at this
          rw [show r.length + 1 - 1 - j = (r.length - j - 1) + 1 by omega, List.getElem?_cons_succ, this]
          simp [upd, q]
theorem stk_run {lv : Int32 → Int32} {S : Nat → Int32} : ∀ {c : List Int32} {z i : Nat} {l : List Int32}, (∀ j, j < c.length → c[j]? = some (S (i + j))) → i + c.length = z → z ≤ 40 → stkOf (wrn lv S (fun _ => 0) i) l → stkOf (wrn lv S (fun _ => 0) z) (evC lv l c)
  | [], z, i, l, _, hz, _, h => by
    simp at hz
    subst hz
    exact h
  | x :: c, z, i, l, hc, hz, h40, h => by
    have hx : x = S i := by have := hc 0 (by simp); simpa using this
    have hl := wrn_le (th := lv) (S := S) (V := fun _ => 0) i
    simp at hz
    refine stk_run (S := S) (c := c) (i := i + 1) (l := evS lv l x) (fun j hj => ?_) (by omega) h40 ?_
    · have := hc (j + 1) (by simp; omega)
      rw [List.getElem?_cons_succ] at this
      rw [this, show i + (j + 1) = i + 1 + j by omega]
    · rw [hx]
      exact stk_step h (by omega) (by rcases Int32.lt_or_le (S i) 2000 with q | q; exact Or.inl q; exact Or.inr q)
/-- a rule of z steps S is the one that a text of L signs tells -/
def ruleR (S : Nat → Int32) (z : Nat) (X : Nat → Int32) (L : Nat) : Prop :=
  L ≤ 40 ∧ z ≤ 40 ∧ ((L = 0 ∧ z = 0) ∨ (0 < L ∧ (heF X (min L 40) 41 0 (0, none)).2 = (L, none) ∧ (heF X (min L 40) 41 0 (0, none)).1.length = z ∧ ∀ j, j < z → (heF X (min L 40) 41 0 (0, none)).1[j]? = some (S j)))
theorem ruleR_x {S : Nat → Int32} {z : Nat} {X : Nat → Int32} {L : Nat} (h : ruleR S z X L) (hL : 0 < L) {lv : Int32 → Int32} {x : Int32} (hx : evOK lv x (heF X (min L 40) 41 0 (0, none))) : wrX lv S z = x := by
  obtain ⟨h1, h2, ⟨q, -⟩ | ⟨-, h4, h5, h6⟩⟩ := h
  · omega
  have h7 := hx (by rw [h4]) []
  have h8 := stk_run (lv := lv) (S := S) (c := (heF X (min L 40) 41 0 (0, none)).1) (z := z) (i := 0) (l := []) (fun j hj => by rw [Nat.zero_add]; exact h6 j (by omega)) (by omega) h2 ⟨rfl, fun j hj => absurd hj (Nat.not_lt_zero _)⟩
  rw [h7] at h8
  obtain ⟨h9, h10⟩ := h8
  unfold wrX
  have e1 : (wrn lv S (fun _ => 0) z).1 = 1 := h9.symm
  rw [e1, if_pos (by decide)]
  have := h10 0 (by rw [e1]; decide)
  rw [e1] at this
  exact (Option.some.inj this).symm
theorem wrX_0 {lv : Int32 → Int32} {S : Nat → Int32} : wrX lv S 0 = 0 := rfl
/-- nothing but what reading needs has changed -/
def frS (M N : Mem) : Prop := (∀ a j, ¬ (a = 140 ∧ ((23 ≤ j ∧ j ≤ 26) ∨ j = 29 ∨ j = 30)) → N.1 a j = M.1 a j) ∧ N.2.1 = M.2.1
theorem frS.refl {M : Mem} : frS M M := ⟨fun _ _ _ => rfl, rfl⟩
theorem frS.trans {M N K : Mem} (h : frS M N) (h2 : frS N K) : frS M K := ⟨fun a j q => (h2.1 a j q).trans (h.1 a j q), h2.2.trans h.2⟩
theorem frS_I {M : Mem} {j : Nat} {x : Int32} (h : (23 ≤ j ∧ j ≤ 26) ∨ j = 29 ∨ j = 30) : frS M (setI M 140 j x) := ⟨fun b k hb => if_neg (by omega), rfl⟩
theorem frS_rdm {M : Mem} {s : PF} : frS M (rdm M s) := (frS_I (by omega)).trans (frS_I (by omega))
theorem frS.mv {M N : Mem} (h : frS M N) : mv N = mv M := by
  funext c j
  match c with
  | 0 | 1 | 2 | 3 | 4 | 6 | 7 | 8 | 9 | 10 | 11 | 12 | 13 | 14 | 15 | 16 | 17 | 18 | 19 => exact h.1 _ _ (by omega)
  | 5 => rfl
  | c + 20 => rfl
theorem frS.MW {M N : Mem} {n m : Nat} (h : frS M N) (w : MW M n m) : MW N n m := w.keep (h.1 _ _ (by omega)) (h.1 _ _ (by omega)) (fun _ _ => h.1 _ _ (by omega)) (fun _ _ => h.1 _ _ (by omega))
/-- reading begins -/
def bgM (M : Mem) (a : Nat) (L tp : Nat) : Mem := rdm (setI (setI (setR M a) 140 23 (nI L)) 140 24 (nI tp)) (0, none)
theorem bgM_RM {M : Mem} {a L tp : Nat} (hL : L ≤ 80) (ht : tp ≤ 80) (ha : a = 154 ∨ (a = 156 ∧ tp ≤ 40)) : RM (bgM M a L tp) a L tp :=
  ⟨rfl, (rdm_o (by omega)).trans ((sI_ne (by omega)).trans sI_eq), (rdm_o (by omega)).trans sI_eq, hL, ht, ha⟩
theorem bgM_fr {M : Mem} {a L tp : Nat} : frS M (bgM M a L tp) := by
  refine frS.trans ?_ frS_rdm
  refine frS.trans ?_ (frS_I (by omega))
  refine frS.trans ?_ (frS_I (by omega))
  exact ⟨fun _ _ _ => rfl, rfl⟩
set_option maxRecDepth 100000 in
set_option maxHeartbeats 4000000 in
theorem c_X11_begin {M : Mem} {a L tp : Nat} (ha : a = 154 ∨ a = 156) : Fun yX11_begin cX11_begin 4 none 0 [.ref 140, .ref a, .int (nI L), .int (nI tp)] M (none) (bgM M a L tp) := by
  refine Fun.of (own := RX11) ([some (.ref 140), some (.ref a), some (.int (nI L)), some (.int (nI tp))]) rfl (by decide +kernel) (Nat.le_of_ble_eq_true rfl) rfl ?_
  have ha0 : a ≠ 0 := by omega
  refine rx_aload_n (i := 0) dX11_begin_0 rfl rfl ?_
  refine rx_aload_n (i := 1) dX11_begin_1 rfl rfl ?_
  refine rx_putRd fo_X11_149 fn_11_22 ha0 dX11_begin_2 ?_
  refine rx_aload_n (i := 0) dX11_begin_5 rfl rfl ?_
  refine rx_iload_n (i := 2) dX11_begin_6 rfl rfl ?_
  refine rx_putI (k := 23) fo_X11_152 fn_11_23 kl_140 (by decide) ty_11_23 dX11_begin_7 ?_
  refine rx_aload_n (i := 0) dX11_begin_10 rfl rfl ?_
  refine rx_iload_n (i := 3) dX11_begin_11 rfl rfl ?_
  refine rx_putI (k := 24) fo_X11_155 fn_11_24 kl_140 (by decide) ty_11_24 dX11_begin_12 ?_
  refine rx_aload_n (i := 0) dX11_begin_15 rfl rfl ?_
  refine rx_iconst (0) dX11_begin_16 rfl ?_
  refine rx_putI (k := 25) fo_X11_158 fn_11_25 kl_140 (by decide) ty_11_25 dX11_begin_17 ?_
  refine rx_aload_n (i := 0) dX11_begin_20 rfl rfl ?_
  refine rx_iconst (-1) dX11_begin_21 rfl ?_
  refine rx_putI (k := 26) fo_X11_161 fn_11_26 kl_140 (by decide) ty_11_26 dX11_begin_22 ?_
  exact rx_fiV dX11_begin_25 rfl
set_option maxRecDepth 100000 in
set_option maxHeartbeats 4000000 in
theorem c_X11_ruleFor {M : Mem} {n m : Nat} (w : MW M n m) (hk01 : ∀ i, i < n → M.1 143 i = 0 ∨ M.1 143 i = 1) {S : Nat → Int32} {z L : Nat} (hR : ruleR S z (M.1 156) L) (hL : M.1 140 28 = nI L) {i k : Nat} (hi : i < n) (hk : k < m) : Con yX11_ruleFor cX11_ruleFor 3 (some .int) 172 [.ref 140, .int (nI i), .int (nI k)] M (fun v N => v = some (.int (ruT S z (mv M) n m i k)) ∧ frS M N) := by
  refine Con.of (own := RX11) (ls := [some (.ref 140), some (.int (nI i)), some (.int (nI k))]) rfl (by decide +kernel) (Nat.le_of_ble_eq_true rfl) rfl ?_
  have hL40 : L ≤ 40 := hR.1
  obtain ⟨K, hK⟩ : ∃ K, setI (setI (bgM M 156 L 40) 140 29 (nI i)) 140 30 (nI k) = K := ⟨_, rfl⟩
  have hF : frS M K := by rw [← hK]; exact bgM_fr.trans ((frS_I (by omega)).trans (frS_I (by omega)))
  have wK : MW K n m := hF.MW w
  have eMV : mv K = mv M := hF.mv
  have eX : M.1 156 = K.1 156 := by funext j; exact (hF.1 156 j (by omega)).symm
  have hRM : RM K 156 L 40 := by rw [← hK]; exact (bgM_RM (by omega) (by omega) (Or.inr ⟨rfl, Nat.le_refl _⟩)).keep rfl ((sI_ne (by omega)).trans (sI_ne (by omega))) ((sI_ne (by omega)).trans (sI_ne (by omega)))
  have hlv : lvOK K n m (thT (mv K) n m i k) := Or.inr ⟨i, k, hi, hk, by rw [hF.1 _ _ (by omega)]; exact hk01 i hi, by rw [← hK]; exact (sI_ne (by omega)).trans sI_eq, by rw [← hK]; exact sI_eq, rfl⟩
  have eK : setI (setI (bgM M 156 L 40) 140 29 (nI i)) 140 30 (nI k) = rdm K (0, none) := by
    rw [← hK]
    unfold bgM
    simp only [rdm_set (show ¬ (140 = 140 ∧ (29 = 25 ∨ 29 = 26)) by omega), rdm_set (show ¬ (140 = 140 ∧ (30 = 25 ∨ 30 = 26)) by omega), rdm_rdm]
  refine rx_aload_n (i := 0) dX11_ruleFor_0 rfl rfl ?_
  refine rx_getI (k := 28) fo_X11_241 kl_140 (by decide) ti_11_28 dX11_ruleFor_1 ?_
  refine rx_top (nI L) hL ?_
  refine rx_if_ne (tgt := 9) dX11_ruleFor_4 (by decide) (fun c4 => ?_) (fun c4 => ?_)
  · skip
    have e4 : 0 < L := Nat.pos_of_ne_zero fun q => c4 (by rw [q]; rfl)
    refine rx_aload_n (i := 0) dX11_ruleFor_9 rfl rfl ?_
    refine rx_aload_n (i := 0) dX11_ruleFor_10 rfl rfl ?_
    refine rx_getR 156 (k := 27) fo_X11_62 kl_140 (by decide) ti_11_27 (by decide) rfl dX11_ruleFor_11 ?_
    refine rx_aload_n (i := 0) dX11_ruleFor_14 rfl rfl ?_
    refine rx_getI (k := 28) fo_X11_241 kl_140 (by decide) ti_11_28 dX11_ruleFor_15 ?_
    refine rx_top (nI L) hL ?_
    refine rx_bipush (40) dX11_ruleFor_18 rfl ?_
    refine rx_cvN (ci := 11) mo_X11_begin lk_X11_184 (c_X11_begin (a := 156) (L := L) (tp := 40) (Or.inr rfl)) (by decide) rfl rfl (Nat.le_of_ble_eq_true rfl) kl_140 rfl dX11_ruleFor_20 ?_
    refine rx_aload_n (i := 0) dX11_ruleFor_23 rfl rfl ?_
    refine rx_iload_n (i := 1) dX11_ruleFor_24 rfl rfl ?_
    refine rx_putI (k := 29) fo_X11_65 fn_11_29 kl_140 (by decide) ty_11_29 dX11_ruleFor_25 ?_
    refine rx_aload_n (i := 0) dX11_ruleFor_28 rfl rfl ?_
    refine rx_iload_n (i := 2) dX11_ruleFor_29 rfl rfl ?_
    refine rx_putI (k := 30) fo_X11_228 fn_11_30 kl_140 (by decide) ty_11_30 dX11_ruleFor_30 ?_
    rw [eK]
    refine rx_aload_n (i := 0) dX11_ruleFor_33 rfl rfl ?_
    refine rx_iconst (0) dX11_ruleFor_34 rfl ?_
    refine rx_callV (ci := 11) mo_X11_held lk_X11_219 ((c_X11_rec hRM wK hlv (Nat.min_le_right _ _) 41 0 (Nat.zero_le _)).2 (0, none) ⟨Nat.zero_le _, fun _ e => by cases e⟩ (by have := Nat.min_le_right L 40; show min L 40 - 0 < 41; omega)) (by decide) rfl rfl (Nat.le_of_ble_eq_true rfl) kl_140 rfl dX11_ruleFor_35 ?_
    rintro _ N ⟨x, rfl, rfl, hx⟩
    exact rx_iret dX11_ruleFor_38 ⟨by rw [ruT, ← eMV]; exact congrArg (fun q => some (Value.int q)) (ruleR_x (by rw [← eX]; exact hR) e4 hx).symm, hF.trans frS_rdm⟩
  · skip
    have e4 : L = 0 := nI_0' (by omega) c4
    have e5 : z = 0 := by obtain ⟨-, -, ⟨-, q⟩ | ⟨q, -⟩⟩ := hR; exact q; omega
    subst e5
    refine rx_iconst (0) dX11_ruleFor_7 rfl ?_
    exact rx_iret dX11_ruleFor_8 ⟨by rw [ruT, wrX_0], frS.refl⟩
