/-- where the model reads, and what was wrong -/
abbrev PF : Type := Nat × Option Nat
def rdm (M : Mem) (s : PF) : Mem := setI (setI M 140 25 (nI s.1)) 140 26 (optI s.2)
theorem rdm_25 {M : Mem} {s : PF} : (rdm M s).1 140 25 = nI s.1 := (sI_ne (by omega)).trans sI_eq
theorem rdm_26 {M : Mem} {s : PF} : (rdm M s).1 140 26 = optI s.2 := sI_eq
theorem rdm_o {M : Mem} {s : PF} {a j : Nat} (h : ¬ (a = 140 ∧ (j = 25 ∨ j = 26))) : (rdm M s).1 a j = M.1 a j := (sI_ne (by omega)).trans (sI_ne (by omega))
theorem rdm_at {M : Mem} {s : PF} {q : Nat} : setI (rdm M s) 140 25 (nI q) = rdm M (q, s.2) := by
  refine Prod.ext ?_ rfl
  funext a j
  simp only [rdm, setI]
  by_cases h1 : a = 140 ∧ j = 25
  · rw [if_pos h1, if_neg (by omega), if_pos h1]
  · rw [if_neg h1]
    by_cases h2 : a = 140 ∧ j = 26
    · rw [if_pos h2, if_pos h2]
    · rw [if_neg h2, if_neg h2, if_neg h1, if_neg h1]
theorem rdm_wr {M : Mem} {s : PF} {q : Nat} : setI (rdm M s) 140 26 (nI q) = rdm M (s.1, some q) := by
  refine Prod.ext ?_ rfl
  funext a j
  simp only [rdm, setI]
  by_cases h1 : a = 140 ∧ j = 26
  · rw [if_pos h1, if_pos h1]; rfl
  · rw [if_neg h1, if_neg h1, if_neg h1]
theorem rdm_set {M : Mem} {s : PF} {a j : Nat} {x : Int32} (h : ¬ (a = 140 ∧ (j = 25 ∨ j = 26))) : setI (rdm M s) a j x = rdm (setI M a j x) s := by
  refine Prod.ext ?_ rfl
  funext b k
  simp only [rdm, setI]
  by_cases h1 : b = a ∧ k = j
  · obtain ⟨rfl, rfl⟩ := h1
    rw [if_pos ⟨rfl, rfl⟩, if_neg (by omega), if_neg (by omega), if_pos ⟨rfl, rfl⟩]
  · rw [if_neg h1, if_neg h1]
theorem rdm_rdm {M : Mem} {s t : PF} : rdm (rdm M s) t = rdm M t := by
  unfold rdm
  refine Prod.ext ?_ rfl
  funext a j
  simp only [setI]
  split
  · rfl
  · split <;> rfl
theorem rdm_2 {M : Mem} {s : PF} : (rdm M s).2 = M.2 := rfl
/-- what is read: L signs of the array a, tp at most -/
def RM (M : Mem) (a L tp : Nat) : Prop := M.2.2 = a ∧ M.1 140 23 = nI L ∧ M.1 140 24 = nI tp ∧ L ≤ 80 ∧ tp ≤ 80 ∧ (a = 154 ∨ (a = 156 ∧ tp ≤ 40))
theorem RM.kd {M : Mem} {a L tp : Nat} (h : RM M a L tp) : a ≠ 0 ∧ ∃ len, kd a = (2, len) ∧ tp ≤ len ∧ len ≤ 80 := by
  obtain ⟨-, -, -, -, h5, rfl | ⟨rfl, h⟩⟩ := h
  · exact ⟨by omega, 80, rfl, h5, by omega⟩
  · exact ⟨by omega, 40, rfl, h, by omega⟩
theorem RM.keep {M M' : Mem} {a L tp : Nat} (h : RM M a L tp) (h1 : M'.2.2 = M.2.2) (h2 : M'.1 140 23 = M.1 140 23) (h3 : M'.1 140 24 = M.1 140 24) : RM M' a L tp := by
  unfold RM; rw [h1, h2, h3]; exact h
def passP (S : Nat → Int32) (lim : Nat) (c : Int32) (s : PF) : Bool × PF := if s.2 = none ∧ kc S lim s.1 = c then (true, (s.1 + 1, none)) else (false, s)
def faultP (q : Nat) (s : PF) : PF := (s.1, match s.2 with | none => some q | some w => some w)
def needP (S : Nat → Int32) (lim : Nat) (c : Int32) (s : PF) : PF := if s.2 = none ∧ kc S lim s.1 = c then (s.1 + 1, none) else faultP s.1 s
/-- digits, d at most -/
def numM (S : Nat → Int32) (lim : Nat) : Nat → Int32 → Nat → Int32 × Nat
  | 0, v, p => (v, p)
  | d + 1, v, p => if dig (kc S lim p) = true then numM S lim d (10 * v + kc S lim p - 48) (p + 1) else (v, p)
def numP (S : Nat → Int32) (lim d : Nat) (lo hi : Int32) (s : PF) : Int32 × PF :=
  match s.2 with
  | some _ => (0, s)
  | none =>
    let r := numM S lim d 0 s.1
    if r.2 = s.1 then (0, (r.2, some r.2)) else if lo ≤ r.1 ∧ r.1 ≤ hi then (r.1, (r.2, none)) else (0, (r.2, some (r.2 - 1)))
theorem numM_le {S : Nat → Int32} {lim : Nat} : ∀ {d : Nat} {v : Int32} {p : Nat}, p ≤ lim → p ≤ (numM S lim d v p).2 ∧ (numM S lim d v p).2 ≤ lim
  | 0, _, _, h => ⟨Nat.le_refl _, h⟩
  | d + 1, v, p, h => by
    simp only [numM]
    split
    · next c => have := numM_le (S := S) (d := d) (v := 10 * v + kc S lim p - 48) (p := p + 1) (dig_lt c); omega
    · exact ⟨Nat.le_refl _, h⟩
theorem optI_n {f : Option Nat} (hf : ∀ q, f = some q → q < 2 ^ 31) : optI f = -1 ↔ f = none := by
  cases f with
  | none => exact ⟨fun _ => rfl, fun _ => rfl⟩
  | some q => exact ⟨fun h => absurd (show (0 : Int32) ≤ -1 by rw [← h]; exact nI_pos' (hf q rfl)) (by decide), fun h => by cases h⟩
/-- it stands within -/
def pOK (lim : Nat) (s : PF) : Prop := s.1 ≤ lim ∧ ∀ q, s.2 = some q → q < 2 ^ 31
theorem pass_ok {S : Nat → Int32} {lim : Nat} {c : Int32} (hc : 0 ≤ c) {s : PF} (h : pOK lim s) : pOK lim (passP S lim c s).2 := by
  unfold passP
  split
  · next q => exact ⟨kc_lt q.2 hc, fun _ e => by cases e⟩
  · exact h
theorem fault_ok {lim q : Nat} {s : PF} (hq : q < 2 ^ 31) (h : pOK lim s) : pOK lim (faultP q s) := by
  refine ⟨h.1, fun q' e => ?_⟩
  simp only [faultP] at e
  split at e
  · obtain rfl := Option.some.inj e; exact hq
  · next w' hw => obtain rfl := Option.some.inj e; exact h.2 _ hw
theorem need_ok {S : Nat → Int32} {lim : Nat} {c : Int32} (hc : 0 ≤ c) (hl : lim < 2 ^ 31) {s : PF} (h : pOK lim s) : pOK lim (needP S lim c s) := by
  unfold needP
  split
  · next q => exact ⟨kc_lt q.2 hc, fun _ e => by cases e⟩
  · exact fault_ok (by have := h.1; omega) h
theorem num_ok {S : Nat → Int32} {lim d : Nat} {lo hi : Int32} (hl : lim < 2 ^ 31) {s : PF} (h : pOK lim s) : pOK lim (numP S lim d lo hi s).2 := by
  unfold numP
  split
  · exact h
  · have hb := numM_le (S := S) (d := d) (v := 0) h.1
    simp only
    split
    · exact ⟨hb.2, fun q e => by obtain rfl := Option.some.inj e; omega⟩
    · split
      · exact ⟨hb.2, fun _ e => by cases e⟩
      · exact ⟨hb.2, fun q e => by obtain rfl := Option.some.inj e; omega⟩
set_option maxRecDepth 100000 in
set_option maxHeartbeats 4000000 in
theorem c_X11_here {M : Mem} {a L tp : Nat} (r : RM M a L tp) {s : PF} (hs : pOK (min L tp) s) : Fun yX11_here cX11_here 1 (some .int) 0 [.ref 140] (rdm M s) (some (.int (kc (M.1 a) (min L tp) s.1))) (rdm M s) := by
  refine Fun.of (own := RX11) ([some (.ref 140)]) rfl (by decide +kernel) (Nat.le_of_ble_eq_true rfl) rfl ?_
  have ⟨h2, h23, h24, hL80, ht80, h156⟩ := r
  have ⟨ha0, len, hka, hlen, hlen8⟩ := r.kd
  have hs1 := hs.1
  refine rx_aload_n (i := 0) dX11_here_0 rfl rfl ?_
  refine rx_getI (k := 25) fo_X11_158 kl_140 (by decide) ti_11_25 dX11_here_1 ?_
  refine rx_top (nI s.1) rdm_25 ?_
  refine rx_aload_n (i := 0) dX11_here_4 rfl rfl ?_
  refine rx_getI (k := 23) fo_X11_152 kl_140 (by decide) ti_11_23 dX11_here_5 ?_
  refine rx_top (nI L) ((rdm_o (by omega)).trans h23) ?_
  refine rx_icmp_ge (tgt := 34) dX11_here_8 (by decide) (fun c8 => ?_) (fun c8 => ?_)
  · skip
    have e8 : L ≤ s.1 := (nI_leI (by omega) (by omega)).mp c8
    have ek : kc (M.1 a) (min L tp) s.1 = -1 := if_neg (by omega)
    refine rx_iconst (-1) dX11_here_34 rfl ?_
    exact rx_fiI dX11_here_35 (by rw [ek]) rfl
  · skip
    have e8 : s.1 < L := Nat.lt_of_not_le fun q => c8 (nI_le q (by omega))
    refine rx_aload_n (i := 0) dX11_here_11 rfl rfl ?_
    refine rx_getI (k := 25) fo_X11_158 kl_140 (by decide) ti_11_25 dX11_here_12 ?_
    refine rx_top (nI s.1) rdm_25 ?_
    refine rx_aload_n (i := 0) dX11_here_15 rfl rfl ?_
    refine rx_getI (k := 24) fo_X11_155 kl_140 (by decide) ti_11_24 dX11_here_16 ?_
    refine rx_top (nI tp) ((rdm_o (by omega)).trans h24) ?_
    refine rx_icmp_ge (tgt := 34) dX11_here_19 (by decide) (fun c19 => ?_) (fun c19 => ?_)
    · skip
      have e19 : tp ≤ s.1 := (nI_leI (by omega) (by omega)).mp c19
      have ek : kc (M.1 a) (min L tp) s.1 = -1 := if_neg (by omega)
      refine rx_iconst (-1) dX11_here_34 rfl ?_
      exact rx_fiI dX11_here_35 (by rw [ek]) rfl
    · skip
      have e19 : s.1 < tp := Nat.lt_of_not_le fun q => c19 (nI_le q (by omega))
      have ek : kc (M.1 a) (min L tp) s.1 = M.1 a s.1 := if_pos (by omega)
      refine rx_aload_n (i := 0) dX11_here_22 rfl rfl ?_
      refine rx_getRd a fo_X11_149 h2 ha0 dX11_here_23 ?_
      refine rx_aload_n (i := 0) dX11_here_26 rfl rfl ?_
      refine rx_getI (k := 25) fo_X11_158 kl_140 (by decide) ti_11_25 dX11_here_27 ?_
      refine rx_top (nI s.1) rdm_25 ?_
      refine rx_baldN hka (by omega) (by first | decide | omega) dX11_here_30 ?_
      refine rx_top (M.1 a s.1) (rdm_o (fun q => by obtain ⟨rfl, -⟩ := q; rcases h156 with h | h <;> omega)) ?_
      refine rx_goto (tgt := 35) dX11_here_31 (by decide) ?_
      exact rx_fiI dX11_here_35 (by rw [ek]) rfl
set_option maxRecDepth 100000 in
set_option maxHeartbeats 4000000 in
theorem c_X11_fine {M : Mem} {s : PF} (hs : ∀ q, s.2 = some q → q < 2 ^ 31) : Fun yX11_fine cX11_fine 1 (some .boolean) 0 [.ref 140] (rdm M s) (some (.int (if s.2 = none then 1 else 0))) (rdm M s) := by
  refine Fun.of (own := RX11) ([some (.ref 140)]) rfl (by decide +kernel) (Nat.le_of_ble_eq_true rfl) rfl ?_
  refine rx_aload_n (i := 0) dX11_fine_0 rfl rfl ?_
  refine rx_getI (k := 26) fo_X11_161 kl_140 (by decide) ti_11_26 dX11_fine_1 ?_
  refine rx_top (optI s.2) rdm_26 ?_
  refine rx_iconst (-1) dX11_fine_4 rfl ?_
  refine rx_icmp_ne (tgt := 12) dX11_fine_5 (by decide) (fun c5 => ?_) (fun c5 => ?_)
  · skip
    have e5 : ¬ s.2 = none := fun q => c5 ((optI_n hs).mpr q)
    refine rx_iconst (0) dX11_fine_12 rfl ?_
    exact rx_fiZ dX11_fine_13 (by first | exact Or.inl rfl | exact Or.inr rfl) (by simp [e5]) rfl
  · skip
    have e5 : s.2 = none := (optI_n hs).mp c5
    refine rx_iconst (1) dX11_fine_8 rfl ?_
    refine rx_goto (tgt := 13) dX11_fine_9 (by decide) ?_
    exact rx_fiZ dX11_fine_13 (by first | exact Or.inl rfl | exact Or.inr rfl) (by simp [e5]) rfl
theorem ite1 {p : Prop} {d : Decidable p} (h : (@ite Int32 p d 1 0) = 0) : ¬ p := fun q => by rw [if_pos q] at h; exact absurd h (by decide)
theorem ite1n {p : Prop} {d : Decidable p} (h : ¬ (@ite Int32 p d 1 0) = 0) : p := Decidable.byContradiction fun q => h (if_neg q)
theorem faultP_s {q w : Nat} {s : PF} (h : s.2 = some w) : faultP q s = s := by
  obtain ⟨p, f⟩ := s
  simp only at h
  subst h
  rfl
theorem faultP_n {q : Nat} {s : PF} (h : s.2 = none) : faultP q s = (s.1, some q) := by
  obtain ⟨p, f⟩ := s
  simp only at h
  subst h
  rfl
theorem faultP_ns {q : Nat} {s : PF} (h : ¬ s.2 = none) : faultP q s = s := by
  cases e : s.2 with
  | none => exact absurd e h
  | some w => exact faultP_s e
set_option maxRecDepth 100000 in
set_option maxHeartbeats 4000000 in
theorem c_X11_fault {M : Mem} {s : PF} (hs : ∀ q, s.2 = some q → q < 2 ^ 31) {q : Nat} : Fun yX11_fault cX11_fault 2 none 1 [.ref 140, .int (nI q)] (rdm M s) (none) (rdm M (faultP q s)) := by
  refine Fun.of (own := RX11) ([some (.ref 140), some (.int (nI q))]) rfl (by decide +kernel) (Nat.le_of_ble_eq_true rfl) rfl ?_
  refine rx_aload_n (i := 0) dX11_fault_0 rfl rfl ?_
  refine rx_cvI (ci := 11) mo_X11_fine lk_X11_164 (c_X11_fine hs) (by decide) rfl rfl (Nat.le_of_ble_eq_true rfl) kl_140 rfl dX11_fault_1 ?_
  refine rx_if_eq (tgt := 12) dX11_fault_4 (by decide) (fun c4 => ?_) (fun c4 => ?_)
  · skip
    have e4 := ite1 c4
    exact rx_fiV dX11_fault_12 (by first | rfl | rw [faultP_ns e4])
  · skip
    have e4 := ite1n c4
    refine rx_aload_n (i := 0) dX11_fault_7 rfl rfl ?_
    refine rx_iload_n (i := 1) dX11_fault_8 rfl rfl ?_
    refine rx_putI (k := 26) fo_X11_161 fn_11_26 kl_140 (by decide) ty_11_26 dX11_fault_9 ?_
    rw [rdm_wr, ← faultP_n e4]
    exact rx_fiV dX11_fault_12 (by first | rfl | rw [faultP_ns e4])
set_option maxRecDepth 100000 in
set_option maxHeartbeats 4000000 in
theorem c_X11_passes {M : Mem} {a L tp : Nat} (r : RM M a L tp) {s : PF} (hs : pOK (min L tp) s) {c : Int32} : Fun yX11_passes cX11_passes 2 (some .boolean) 1 [.ref 140, .int c] (rdm M s) (some (.int (zI (passP (M.1 a) (min L tp) c s).1))) (rdm M (passP (M.1 a) (min L tp) c s).2) := by
  refine Fun.of (own := RX11) ([some (.ref 140), some (.int c)]) rfl (by decide +kernel) (Nat.le_of_ble_eq_true rfl) rfl ?_
  refine rx_aload_n (i := 0) dX11_passes_0 rfl rfl ?_
  refine rx_cvI (ci := 11) mo_X11_fine lk_X11_164 (c_X11_fine hs.2) (by decide) rfl rfl (Nat.le_of_ble_eq_true rfl) kl_140 rfl dX11_passes_1 ?_
  refine rx_if_eq (tgt := 15) dX11_passes_4 (by decide) (fun c4 => ?_) (fun c4 => ?_)
  · skip
    have e4 := ite1 c4
    have ep : passP (M.1 a) (min L tp) c s = (false, s) := if_neg (fun q => e4 q.1)
    refine rx_iconst (0) dX11_passes_15 rfl ?_
    exact rx_fiZ dX11_passes_16 (by first | exact Or.inl rfl | exact Or.inr rfl) (by rw [ep]; rfl) (by rw [ep])
  · skip
    have e4 := ite1n c4
    refine rx_aload_n (i := 0) dX11_passes_7 rfl rfl ?_
    refine rx_cvI (ci := 11) mo_X11_here lk_X11_168 (c_X11_here r hs) (by decide) rfl rfl (Nat.le_of_ble_eq_true rfl) kl_140 rfl dX11_passes_8 ?_
    refine rx_iload_n (i := 1) dX11_passes_11 rfl rfl ?_
    refine rx_icmp_eq (tgt := 17) dX11_passes_12 (by decide) (fun c12 => ?_) (fun c12 => ?_)
    · skip
      have ep : passP (M.1 a) (min L tp) c s = (true, (s.1 + 1, none)) := if_pos ⟨e4, c12⟩
      refine rx_aload_n (i := 0) dX11_passes_17 rfl rfl ?_
      refine rx_dup dX11_passes_18 rfl ?_
      refine rx_getI (k := 25) fo_X11_158 kl_140 (by decide) ti_11_25 dX11_passes_19 ?_
      refine rx_top (nI s.1) rdm_25 ?_
      refine rx_iconst (1) dX11_passes_22 rfl ?_
      refine rx_iadd dX11_passes_23 ?_
      rw [nI_1]
      refine rx_putI (k := 25) fo_X11_158 fn_11_25 kl_140 (by decide) ty_11_25 dX11_passes_24 ?_
      rw [rdm_at, e4]
      refine rx_iconst (1) dX11_passes_27 rfl ?_
      exact rx_fiZ dX11_passes_28 (by first | exact Or.inl rfl | exact Or.inr rfl) (by rw [ep]; rfl) (by rw [ep])
    · skip
      have ep : passP (M.1 a) (min L tp) c s = (false, s) := if_neg (fun q => c12 q.2)
      refine rx_iconst (0) dX11_passes_15 rfl ?_
      exact rx_fiZ dX11_passes_16 (by first | exact Or.inl rfl | exact Or.inr rfl) (by rw [ep]; rfl) (by rw [ep])
theorem needP_t {S : Nat → Int32} {lim : Nat} {c : Int32} {s : PF} (h : (passP S lim c s).1 = true) : needP S lim c s = (passP S lim c s).2 := by
  unfold passP at h ⊢
  unfold needP
  split
  · rfl
  · next q => rw [if_neg q] at h; cases h
theorem needP_f {S : Nat → Int32} {lim : Nat} {c : Int32} {s : PF} (h : (passP S lim c s).1 = false) : (passP S lim c s).2 = s ∧ needP S lim c s = faultP s.1 s := by
  unfold passP at h ⊢
  unfold needP
  split
  · next q => rw [if_pos q] at h; cases h
  · exact ⟨rfl, rfl⟩
set_option maxRecDepth 100000 in
set_option maxHeartbeats 4000000 in
theorem c_X11_need {M : Mem} {a L tp : Nat} (r : RM M a L tp) {s : PF} (hs : pOK (min L tp) s) {c : Int32} : Fun yX11_need cX11_need 2 none 2 [.ref 140, .int c] (rdm M s) (none) (rdm M (needP (M.1 a) (min L tp) c s)) := by
  refine Fun.of (own := RX11) ([some (.ref 140), some (.int c)]) rfl (by decide +kernel) (Nat.le_of_ble_eq_true rfl) rfl ?_
  refine rx_aload_n (i := 0) dX11_need_0 rfl rfl ?_
  refine rx_iload_n (i := 1) dX11_need_1 rfl rfl ?_
  refine rx_cvI (ci := 11) mo_X11_passes lk_X11_172 (c_X11_passes r hs) (by decide) rfl rfl (Nat.le_of_ble_eq_true rfl) kl_140 rfl dX11_need_2 ?_
  refine rx_if_ne (tgt := 16) dX11_need_5 (by decide) (fun c5 => ?_) (fun c5 => ?_)
  · skip
    have e5 := zI_n c5
    exact rx_fiV dX11_need_16 (by first | rw [needP_t e5] | rw [(needP_f e5).2])
  · skip
    have e5 := zI_0.mp c5
    rw [(needP_f e5).1]
    refine rx_aload_n (i := 0) dX11_need_8 rfl rfl ?_
    refine rx_aload_n (i := 0) dX11_need_9 rfl rfl ?_
    refine rx_getI (k := 25) fo_X11_158 kl_140 (by decide) ti_11_25 dX11_need_10 ?_
    refine rx_top (nI s.1) rdm_25 ?_
    refine rx_cvN (ci := 11) mo_X11_fault lk_X11_176 (c_X11_fault (q := s.1) hs.2) (by decide) rfl rfl (Nat.le_of_ble_eq_true rfl) kl_140 rfl dX11_need_13 ?_
    exact rx_fiV dX11_need_16 (by first | rw [needP_t e5] | rw [(needP_f e5).2])
theorem l48 {x : Int32} : (48 : Int64) ≤ x.toInt64 ↔ 48 ≤ x := by rw [show (48 : Int64) = (48 : Int32).toInt64 from rfl]; exact Int32.toInt64_le
theorem l57 {x : Int32} : x.toInt64 ≤ (57 : Int64) ↔ x ≤ 57 := by rw [show (57 : Int64) = (57 : Int32).toInt64 from rfl]; exact Int32.toInt64_le
theorem dig_iff {x : Int32} : dig x = true ↔ 48 ≤ x ∧ x ≤ 57 := by simp [dig]
set_option maxRecDepth 100000 in
set_option maxHeartbeats 4000000 in
theorem l_X11_number {M : Mem} {a L tp : Nat} (r : RM M a L tp) {p d : Nat} {lo hi : Int32} (hp : p ≤ min L tp) (hd : d ≤ 10) : ∀ (N : Nat) (q : Nat) (v : Int32), (p ≤ q) → (q ≤ min L tp) → (q ≤ p + d) → (numM (M.1 a) (min L tp) (p + d - q) v q = (numM (M.1 a) (min L tp) d 0 p)) → p + d - q < N → Reach cX11_number RX11 6 2 (FQ cX11_number (some .int) (some (.int (numP (M.1 a) (min L tp) d lo hi (p, none)).1)) (rdm M (numP (M.1 a) (min L tp) d lo hi (p, none)).2)) 18 [some (.ref 140), some (.int (nI d)), some (.int lo), some (.int hi), some (.int (nI p)), some (.int v)] [] (rdm M (q, none)) := by
  intro N
  induction N with
  | zero => intro q v hpq hq hqd he hm; exact absurd ‹_ < 0› (Nat.not_lt_zero _)
  | succ N ih =>
    intro q v hpq hq hqd he hm
    have ⟨h2, h23, h24, hL80, ht80, h156⟩ := r
    refine rx_aload_n (i := 0) dX11_number_18 rfl rfl ?_
    refine rx_getI (k := 25) fo_X11_158 kl_140 (by decide) ti_11_25 dX11_number_19 ?_
    refine rx_top (nI q) rdm_25 ?_
    refine rx_iload (i := 4) dX11_number_22 rfl ?_
    refine rx_iload_n (i := 1) dX11_number_24 rfl rfl ?_
    refine rx_iadd dX11_number_25 ?_
    refine rx_top (nI (p + d)) (nI_add _ _) ?_
    refine rx_icmp_ge (tgt := 74) dX11_number_26 (by decide) (fun c26 => ?_) (fun c26 => ?_)
    · skip
      have e26 : q = p + d := by have := (nI_leI (by omega) (by omega)).mp c26; omega
      have er : (numM (M.1 a) (min L tp) d 0 p) = (v, q) := by rw [← he, show p + d - q = 0 by omega]; rfl
      refine rx_aload_n (i := 0) dX11_number_74 rfl rfl ?_
      refine rx_getI (k := 25) fo_X11_158 kl_140 (by decide) ti_11_25 dX11_number_75 ?_
      refine rx_top (nI q) rdm_25 ?_
      refine rx_iload (i := 4) dX11_number_78 rfl ?_
      refine rx_icmp_ne (tgt := 94) dX11_number_80 (by decide) (fun c80 => ?_) (fun c80 => ?_)
      · skip
        have e80 : ¬ q = p := fun z => c80 (by rw [z])
        refine rx_iload (i := 5) dX11_number_94 rfl ?_
        refine rx_i2l dX11_number_96 rfl ?_
        refine rx_iload_n (i := 2) dX11_number_97 rfl rfl ?_
        refine rx_i2l dX11_number_98 rfl ?_
        refine rx_iload_n (i := 3) dX11_number_99 rfl rfl ?_
        refine rx_i2l dX11_number_100 rfl ?_
        refine rx_csI mo_X11_in lk_X11_135 c_X11_in (by decide) rfl rfl (Nat.le_of_ble_eq_true rfl) dX11_number_101 ?_
        refine rx_if_ne (tgt := 117) dX11_number_104 (by decide) (fun c104 => ?_) (fun c104 => ?_)
        · skip
          have e104 : lo ≤ v ∧ v ≤ hi := by have z := ite1n c104; rw [Int32.toInt64_le, Int32.toInt64_le] at z; exact z
          have en : numP (M.1 a) (min L tp) d lo hi (p, none) = (v, (q, none)) := by unfold numP; simp only; rw [er]; simp only; rw [if_neg e80, if_pos e104]
          refine rx_aload_n (i := 0) dX11_number_117 rfl rfl ?_
          refine rx_cvI (ci := 11) mo_X11_fine lk_X11_164 (c_X11_fine (s := (q, none)) (fun z e => by cases e)) (by decide) rfl rfl (Nat.le_of_ble_eq_true rfl) kl_140 rfl dX11_number_118 ?_
          refine rx_if_eq (tgt := 129) dX11_number_121 (by decide) (fun c121 => ?_) (fun c121 => ?_)
          · skip
            have e121 := ite1 c121
            refine rx_iconst (0) dX11_number_129 rfl ?_
            exact rx_fiI dX11_number_130 (by first | exact absurd rfl e121 | (cases e121; done) | rw [en]) (by first | exact absurd rfl e121 | (cases e121; done) | rw [en])
          · skip
            have e121 := ite1n c121
            refine rx_iload (i := 5) dX11_number_124 rfl ?_
            refine rx_goto (tgt := 130) dX11_number_126 (by decide) ?_
            exact rx_fiI dX11_number_130 (by first | exact absurd rfl e121 | (cases e121; done) | rw [en]) (by first | exact absurd rfl e121 | (cases e121; done) | rw [en])
        · skip
          have e104 : ¬ (lo ≤ v ∧ v ≤ hi) := fun z => ite1 c104 (by rw [Int32.toInt64_le, Int32.toInt64_le]; exact z)
          have en : numP (M.1 a) (min L tp) d lo hi (p, none) = (0, (q, some (q - 1))) := by unfold numP; simp only; rw [er]; simp only; rw [if_neg e80, if_neg e104]
          refine rx_aload_n (i := 0) dX11_number_107 rfl rfl ?_
          refine rx_aload_n (i := 0) dX11_number_108 rfl rfl ?_
          refine rx_getI (k := 25) fo_X11_158 kl_140 (by decide) ti_11_25 dX11_number_109 ?_
          refine rx_top (nI q) rdm_25 ?_
          refine rx_iconst (1) dX11_number_112 rfl ?_
          refine rx_isub dX11_number_113 ?_
          refine rx_top (nI (q - 1)) (by rw [show (1 : Int32) = nI 1 from rfl, pk_sub (show 1 ≤ q by omega)]) ?_
          refine rx_cvN (ci := 11) mo_X11_fault lk_X11_176 (c_X11_fault (s := (q, none)) (q := (q - 1)) (fun _ e => by cases e)) (by decide) rfl rfl (Nat.le_of_ble_eq_true rfl) kl_140 rfl dX11_number_114 ?_
          refine rx_aload_n (i := 0) dX11_number_117 rfl rfl ?_
          refine rx_cvI (ci := 11) mo_X11_fine lk_X11_164 (c_X11_fine (s := (q, some (q - 1))) (fun z e => by obtain rfl := Option.some.inj e; omega)) (by decide) rfl rfl (Nat.le_of_ble_eq_true rfl) kl_140 rfl dX11_number_118 ?_
          refine rx_if_eq (tgt := 129) dX11_number_121 (by decide) (fun c121 => ?_) (fun c121 => ?_)
          · skip
            have e121 := ite1 c121
            refine rx_iconst (0) dX11_number_129 rfl ?_
            exact rx_fiI dX11_number_130 (by first | exact absurd rfl e121 | (cases e121; done) | rw [en]) (by first | exact absurd rfl e121 | (cases e121; done) | rw [en])
          · skip
            have e121 := ite1n c121
            refine rx_iload (i := 5) dX11_number_124 rfl ?_
            refine rx_goto (tgt := 130) dX11_number_126 (by decide) ?_
            exact rx_fiI dX11_number_130 (by first | exact absurd rfl e121 | (cases e121; done) | rw [en]) (by first | exact absurd rfl e121 | (cases e121; done) | rw [en])
      · skip
        have e80 : q = p := (nI_eq (by omega) (by omega)).mp c80
        have en : numP (M.1 a) (min L tp) d lo hi (p, none) = (0, (q, some q)) := by unfold numP; simp only; rw [er]; exact if_pos e80
        refine rx_aload_n (i := 0) dX11_number_83 rfl rfl ?_
        refine rx_aload_n (i := 0) dX11_number_84 rfl rfl ?_
        refine rx_getI (k := 25) fo_X11_158 kl_140 (by decide) ti_11_25 dX11_number_85 ?_
        refine rx_top (nI q) rdm_25 ?_
        refine rx_cvN (ci := 11) mo_X11_fault lk_X11_176 (c_X11_fault (s := (q, none)) (q := q) (fun _ e => by cases e)) (by decide) rfl rfl (Nat.le_of_ble_eq_true rfl) kl_140 rfl dX11_number_88 ?_
        refine rx_goto (tgt := 117) dX11_number_91 (by decide) ?_
        refine rx_aload_n (i := 0) dX11_number_117 rfl rfl ?_
        refine rx_cvI (ci := 11) mo_X11_fine lk_X11_164 (c_X11_fine (s := (q, some q)) (fun z e => by obtain rfl := Option.some.inj e; omega)) (by decide) rfl rfl (Nat.le_of_ble_eq_true rfl) kl_140 rfl dX11_number_118 ?_
        refine rx_if_eq (tgt := 129) dX11_number_121 (by decide) (fun c121 => ?_) (fun c121 => ?_)
        · skip
          have e121 := ite1 c121
          refine rx_iconst (0) dX11_number_129 rfl ?_
          exact rx_fiI dX11_number_130 (by first | exact absurd rfl e121 | (cases e121; done) | rw [en]) (by first | exact absurd rfl e121 | (cases e121; done) | rw [en])
        · skip
          have e121 := ite1n c121
          refine rx_iload (i := 5) dX11_number_124 rfl ?_
          refine rx_goto (tgt := 130) dX11_number_126 (by decide) ?_
          exact rx_fiI dX11_number_130 (by first | exact absurd rfl e121 | (cases e121; done) | rw [en]) (by first | exact absurd rfl e121 | (cases e121; done) | rw [en])
    · skip
      have e26 : q < p + d := Nat.lt_of_not_le fun z => c26 (nI_le z (by omega))
      refine rx_aload_n (i := 0) dX11_number_29 rfl rfl ?_
      refine rx_cvI (ci := 11) mo_X11_here lk_X11_168 (c_X11_here (s := (q, none)) r ⟨hq, fun _ e => by cases e⟩) (by decide) rfl rfl (Nat.le_of_ble_eq_true rfl) kl_140 rfl dX11_number_30 ?_
      refine rx_i2l dX11_number_33 rfl ?_
      refine rx_ldc2 (own := RX11) (v := (48)) (List.mem_of_getElem? (i := 1616) (by decide +kernel)) dX11_number_34 ?_
      refine rx_ldc2 (own := RX11) (v := (57)) (List.mem_of_getElem? (i := 1617) (by decide +kernel)) dX11_number_37 ?_
      refine rx_csI mo_X11_in lk_X11_135 c_X11_in (by decide) rfl rfl (Nat.le_of_ble_eq_true rfl) dX11_number_40 ?_
      refine rx_if_eq (tgt := 74) dX11_number_43 (by decide) (fun c43 => ?_) (fun c43 => ?_)
      · skip
        have e43 : ¬ dig (kc (M.1 a) (min L tp) q) = true := fun z => ite1 c43 (by rw [l48, l57]; exact dig_iff.mp z)
        have er : (numM (M.1 a) (min L tp) d 0 p) = (v, q) := by rw [← he, show p + d - q = (p + d - q - 1) + 1 by omega]; simp only [numM]; rw [if_neg e43]
        refine rx_aload_n (i := 0) dX11_number_74 rfl rfl ?_
        refine rx_getI (k := 25) fo_X11_158 kl_140 (by decide) ti_11_25 dX11_number_75 ?_
        refine rx_top (nI q) rdm_25 ?_
        refine rx_iload (i := 4) dX11_number_78 rfl ?_
        refine rx_icmp_ne (tgt := 94) dX11_number_80 (by decide) (fun c80 => ?_) (fun c80 => ?_)
        · skip
          have e80 : ¬ q = p := fun z => c80 (by rw [z])
          refine rx_iload (i := 5) dX11_number_94 rfl ?_
          refine rx_i2l dX11_number_96 rfl ?_
          refine rx_iload_n (i := 2) dX11_number_97 rfl rfl ?_
          refine rx_i2l dX11_number_98 rfl ?_
          refine rx_iload_n (i := 3) dX11_number_99 rfl rfl ?_
          refine rx_i2l dX11_number_100 rfl ?_
          refine rx_csI mo_X11_in lk_X11_135 c_X11_in (by decide) rfl rfl (Nat.le_of_ble_eq_true rfl) dX11_number_101 ?_
          refine rx_if_ne (tgt := 117) dX11_number_104 (by decide) (fun c104 => ?_) (fun c104 => ?_)
          · skip
            have e104 : lo ≤ v ∧ v ≤ hi := by have z := ite1n c104; rw [Int32.toInt64_le, Int32.toInt64_le] at z; exact z
            have en : numP (M.1 a) (min L tp) d lo hi (p, none) = (v, (q, none)) := by unfold numP; simp only; rw [er]; simp only; rw [if_neg e80, if_pos e104]
            refine rx_aload_n (i := 0) dX11_number_117 rfl rfl ?_
            refine rx_cvI (ci := 11) mo_X11_fine lk_X11_164 (c_X11_fine (s := (q, none)) (fun z e => by cases e)) (by decide) rfl rfl (Nat.le_of_ble_eq_true rfl) kl_140 rfl dX11_number_118 ?_
            refine rx_if_eq (tgt := 129) dX11_number_121 (by decide) (fun c121 => ?_) (fun c121 => ?_)
            · skip
              have e121 := ite1 c121
              refine rx_iconst (0) dX11_number_129 rfl ?_
              exact rx_fiI dX11_number_130 (by first | exact absurd rfl e121 | (cases e121; done) | rw [en]) (by first | exact absurd rfl e121 | (cases e121; done) | rw [en])
            · skip
              have e121 := ite1n c121
              refine rx_iload (i := 5) dX11_number_124 rfl ?_
              refine rx_goto (tgt := 130) dX11_number_126 (by decide) ?_
              exact rx_fiI dX11_number_130 (by first | exact absurd rfl e121 | (cases e121; done) | rw [en]) (by first | exact absurd rfl e121 | (cases e121; done) | rw [en])
          · skip
            have e104 : ¬ (lo ≤ v ∧ v ≤ hi) := fun z => ite1 c104 (by rw [Int32.toInt64_le, Int32.toInt64_le]; exact z)
            have en : numP (M.1 a) (min L tp) d lo hi (p, none) = (0, (q, some (q - 1))) := by unfold numP; simp only; rw [er]; simp only; rw [if_neg e80, if_neg e104]
            refine rx_aload_n (i := 0) dX11_number_107 rfl rfl ?_
            refine rx_aload_n (i := 0) dX11_number_108 rfl rfl ?_
            refine rx_getI (k := 25) fo_X11_158 kl_140 (by decide) ti_11_25 dX11_number_109 ?_
            refine rx_top (nI q) rdm_25 ?_
            refine rx_iconst (1) dX11_number_112 rfl ?_
            refine rx_isub dX11_number_113 ?_
            refine rx_top (nI (q - 1)) (by rw [show (1 : Int32) = nI 1 from rfl, pk_sub (show 1 ≤ q by omega)]) ?_
            refine rx_cvN (ci := 11) mo_X11_fault lk_X11_176 (c_X11_fault (s := (q, none)) (q := (q - 1)) (fun _ e => by cases e)) (by decide) rfl rfl (Nat.le_of_ble_eq_true rfl) kl_140 rfl dX11_number_114 ?_
            refine rx_aload_n (i := 0) dX11_number_117 rfl rfl ?_
            refine rx_cvI (ci := 11) mo_X11_fine lk_X11_164 (c_X11_fine (s := (q, some (q - 1))) (fun z e => by obtain rfl := Option.some.inj e; omega)) (by decide) rfl rfl (Nat.le_of_ble_eq_true rfl) kl_140 rfl dX11_number_118 ?_
            refine rx_if_eq (tgt := 129) dX11_number_121 (by decide) (fun c121 => ?_) (fun c121 => ?_)
            · skip
              have e121 := ite1 c121
              refine rx_iconst (0) dX11_number_129 rfl ?_
              exact rx_fiI dX11_number_130 (by first | exact absurd rfl e121 | (cases e121; done) | rw [en]) (by first | exact absurd rfl e121 | (cases e121; done) | rw [en])
            · skip
              have e121 := ite1n c121
              refine rx_iload (i := 5) dX11_number_124 rfl ?_
              refine rx_goto (tgt := 130) dX11_number_126 (by decide) ?_
              exact rx_fiI dX11_number_130 (by first | exact absurd rfl e121 | (cases e121; done) | rw [en]) (by first | exact absurd rfl e121 | (cases e121; done) | rw [en])
        · skip
          have e80 : q = p := (nI_eq (by omega) (by omega)).mp c80
          have en : numP (M.1 a) (min L tp) d lo hi (p, none) = (0, (q, some q)) := by unfold numP; simp only; rw [er]; exact if_pos e80
          refine rx_aload_n (i := 0) dX11_number_83 rfl rfl ?_
          refine rx_aload_n (i := 0) dX11_number_84 rfl rfl ?_
          refine rx_getI (k := 25) fo_X11_158 kl_140 (by decide) ti_11_25 dX11_number_85 ?_
          refine rx_top (nI q) rdm_25 ?_
          refine rx_cvN (ci := 11) mo_X11_fault lk_X11_176 (c_X11_fault (s := (q, none)) (q := q) (fun _ e => by cases e)) (by decide) rfl rfl (Nat.le_of_ble_eq_true rfl) kl_140 rfl dX11_number_88 ?_
          refine rx_goto (tgt := 117) dX11_number_91 (by decide) ?_
          refine rx_aload_n (i := 0) dX11_number_117 rfl rfl ?_
          refine rx_cvI (ci := 11) mo_X11_fine lk_X11_164 (c_X11_fine (s := (q, some q)) (fun z e => by obtain rfl := Option.some.inj e; omega)) (by decide) rfl rfl (Nat.le_of_ble_eq_true rfl) kl_140 rfl dX11_number_118 ?_
          refine rx_if_eq (tgt := 129) dX11_number_121 (by decide) (fun c121 => ?_) (fun c121 => ?_)
          · skip
            have e121 := ite1 c121
            refine rx_iconst (0) dX11_number_129 rfl ?_
            exact rx_fiI dX11_number_130 (by first | exact absurd rfl e121 | (cases e121; done) | rw [en]) (by first | exact absurd rfl e121 | (cases e121; done) | rw [en])
          · skip
            have e121 := ite1n c121
            refine rx_iload (i := 5) dX11_number_124 rfl ?_
            refine rx_goto (tgt := 130) dX11_number_126 (by decide) ?_
            exact rx_fiI dX11_number_130 (by first | exact absurd rfl e121 | (cases e121; done) | rw [en]) (by first | exact absurd rfl e121 | (cases e121; done) | rw [en])
      · skip
        have e43 : dig (kc (M.1 a) (min L tp) q) = true := dig_iff.mpr (by have z := ite1n c43; rw [l48, l57] at z; exact z)
        have eq2 : q < min L tp := dig_lt e43
        refine rx_bipush (10) dX11_number_46 rfl ?_
        refine rx_iload (i := 5) dX11_number_48 rfl ?_
        refine rx_imul dX11_number_50 ?_
        refine rx_aload_n (i := 0) dX11_number_51 rfl rfl ?_
        refine rx_cvI (ci := 11) mo_X11_here lk_X11_168 (c_X11_here (s := (q, none)) r ⟨hq, fun _ e => by cases e⟩) (by decide) rfl rfl (Nat.le_of_ble_eq_true rfl) kl_140 rfl dX11_number_52 ?_
        refine rx_iadd dX11_number_55 ?_
        refine rx_bipush (48) dX11_number_56 rfl ?_
        refine rx_isub dX11_number_58 ?_
        refine rx_istore (i := 5) dX11_number_59 (by decide) rfl rfl ?_
        refine rx_aload_n (i := 0) dX11_number_61 rfl rfl ?_
        refine rx_dup dX11_number_62 rfl ?_
        refine rx_getI (k := 25) fo_X11_158 kl_140 (by decide) ti_11_25 dX11_number_63 ?_
        refine rx_top (nI q) rdm_25 ?_
        refine rx_iconst (1) dX11_number_66 rfl ?_
        refine rx_iadd dX11_number_67 ?_
        rw [nI_1]
        refine rx_putI (k := 25) fo_X11_158 fn_11_25 kl_140 (by decide) ty_11_25 dX11_number_68 ?_
        rw [rdm_at]
        refine rx_goto (tgt := 18) dX11_number_71 (by decide) ?_
        exact ih (q + 1) (10 * v + kc (M.1 a) (min L tp) q - 48) (by omega) (by omega) (by omega) (by rw [← he, show p + d - q = (p + d - (q + 1)) + 1 by omega]; simp only [numM]; rw [if_pos e43]) (by omega)
set_option maxRecDepth 100000 in
set_option maxHeartbeats 4000000 in
theorem c_X11_number {M : Mem} {a L tp : Nat} (r : RM M a L tp) {s : PF} (hs : pOK (min L tp) s) {d : Nat} {lo hi : Int32} (hd : d ≤ 10) : Fun yX11_number cX11_number 6 (some .int) 2 [.ref 140, .int (nI d), .int lo, .int hi] (rdm M s) (some (.int (numP (M.1 a) (min L tp) d lo hi s).1)) (rdm M (numP (M.1 a) (min L tp) d lo hi s).2) := by
  refine Fun.of (own := RX11) ([some (.ref 140), some (.int (nI d)), some (.int lo), some (.int hi), none, none]) rfl (by decide +kernel) (Nat.le_of_ble_eq_true rfl) rfl ?_
  refine rx_aload_n (i := 0) dX11_number_0 rfl rfl ?_
  refine rx_cvI (ci := 11) mo_X11_fine lk_X11_164 (c_X11_fine hs.2) (by decide) rfl rfl (Nat.le_of_ble_eq_true rfl) kl_140 rfl dX11_number_1 ?_
  refine rx_if_ne (tgt := 9) dX11_number_4 (by decide) (fun c4 => ?_) (fun c4 => ?_)
  · skip
    have e4 := ite1n c4
    obtain ⟨p, f⟩ := s
    simp only at e4
    subst e4
    refine rx_aload_n (i := 0) dX11_number_9 rfl rfl ?_
    refine rx_getI (k := 25) fo_X11_158 kl_140 (by decide) ti_11_25 dX11_number_10 ?_
    refine rx_top (nI p) rdm_25 ?_
    refine rx_istore (i := 4) dX11_number_13 (by decide) rfl rfl ?_
    refine rx_iconst (0) dX11_number_15 rfl ?_
    refine rx_istore (i := 5) dX11_number_16 (by decide) rfl rfl ?_
    exact l_X11_number r hs.1 hd (d + 1) p 0 (Nat.le_refl _) hs.1 (Nat.le_add_right _ _) (by rw [Nat.add_sub_cancel_left]) (by omega)
  · skip
    have e4 := ite1 c4
    have en : numP (M.1 a) (min L tp) d lo hi s = (0, s) := by
      obtain ⟨p, f⟩ := s
      cases f with
      | none => exact absurd rfl e4
      | some w => rfl
    refine rx_iconst (0) dX11_number_7 rfl ?_
    exact rx_fiI dX11_number_8 (by rw [en]) (by rw [en])
