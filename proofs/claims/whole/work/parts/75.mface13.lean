/-- a PERSON read: what, and where it ends -/
def mrp (S : Nat → Int32) (lim : Nat) (s : PF) : It × PF :=
  let a := numP S lim 3 0 999 s
  let b := numP S lim 2 0 99 (needP S lim 44 a.2)
  let k := passP S lim 33 b.2
  ((false, a.1, b.1, zI k.1, 0), k.2)
/-- who gets is another than who owes -/
def samP (o g : Int32) (s : PF) : PF := if s.2 = none ∧ g = o then faultP (s.1 - 1) s else s
/-- a DEBT read -/
def mrd (S : Nat → Int32) (lim t : Nat) (s : PF) : It × PF :=
  let o := numP S lim 1 0 (nI t - 1) (s.1 + 1, s.2)
  let g := numP S lim 1 0 (nI t - 1) (needP S lim 62 o.2)
  let x := numP S lim 2 1 99 (needP S lim 42 (samP o.1 g.1 g.2))
  let y := numP S lim 2 0 99 (needP S lim 64 x.2)
  ((true, o.1, g.1, x.1, y.1), y.2)
/-- a line told in the model's arrays, at person t or debt o -/
def mlM (M : Mem) (t o : Nat) (x : It) : Mem := if x.1 = true then setI (setI (setI (setI M 147 o x.2.1) 148 o x.2.2.1) 149 o x.2.2.2.1) 150 o x.2.2.2.2 else setI (setI (setI M 141 t x.2.1) 142 t x.2.2.1) 143 t x.2.2.2.1
theorem na154 {M : Mem} {a j : Nat} {x : Int32} (h : 154 ≠ a) : (setI M a j x).1 154 = M.1 154 := funext fun _ => sI_na h
theorem RM.I {M : Mem} {a L tp b j : Nat} {x : Int32} (h : RM M a L tp) (hb : b ≠ 140) : RM (setI M b j x) a L tp := h.keep rfl (sI_na (Ne.symm hb)) (sI_na (Ne.symm hb))
theorem sam_ok {lim : Nat} {o g : Int32} {s : PF} (hl : lim < 2 ^ 31) (h : pOK lim s) : pOK lim (samP o g s) := by
  unfold samP; split
  · exact fault_ok (by have := h.1; omega) h
  · exact h
theorem num_ge {S : Nat → Int32} {lim d : Nat} {lo hi : Int32} {s : PF} (h : s.1 ≤ lim) : s.1 ≤ (numP S lim d lo hi s).2.1 := by
  unfold numP
  split
  · exact Nat.le_refl _
  · have hb := numM_le (S := S) (d := d) (v := 0) h
    simp only
    split
    · exact hb.1
    · split <;> exact hb.1
theorem need_ge {S : Nat → Int32} {lim : Nat} {c : Int32} {s : PF} : s.1 ≤ (needP S lim c s).1 := by
  unfold needP; split
  · exact Nat.le_succ _
  · exact Nat.le_refl _
theorem sam_1 {o g : Int32} {s : PF} : (samP o g s).1 = s.1 := by unfold samP; split <;> rfl
theorem mrp_ok {S : Nat → Int32} {lim : Nat} (hl : lim < 2 ^ 31) {s : PF} (h : pOK lim s) : pOK lim (mrp S lim s).2 := pass_ok (by decide) (num_ok hl (need_ok (by decide) hl (num_ok hl h)))
theorem mrd_ok {S : Nat → Int32} {lim t : Nat} (hl : lim < 2 ^ 31) {s : PF} (h : pOK lim (s.1 + 1, s.2)) : pOK lim (mrd S lim t s).2 := num_ok hl (need_ok (by decide) hl (num_ok hl (need_ok (by decide) hl (sam_ok hl (num_ok hl (need_ok (by decide) hl (num_ok hl h)))))))
set_option maxRecDepth 100000 in
set_option maxHeartbeats 4000000 in
theorem c_X11_readOne {M : Mem} {L tp : Nat} (r : RM M 154 L tp) {s : PF} (hs : pOK (min L tp) s) {i : Nat} (hi : i < 8) : Fun yX11_readOne cX11_readOne 2 none 3 [.ref 140, .int (nI i)] (rdm M s) (none) (rdm (mlM M i 0 (mrp (M.1 154) (min L tp) s).1) (mrp (M.1 154) (min L tp) s).2) := by
  refine Fun.of (own := RX11) ([some (.ref 140), some (.int (nI i))]) rfl (by decide +kernel) (Nat.le_of_ble_eq_true rfl) rfl ?_
  have hl : min L tp < 2 ^ 31 := by have := Nat.min_le_left L tp; have := r.2.2.2.1; omega
  have h1 := num_ok (S := M.1 154) (d := 3) (lo := 0) (hi := 999) hl hs
  have h2 := need_ok (S := M.1 154) (c := 44) (by decide) hl h1
  have h3 := num_ok (S := M.1 154) (d := 2) (lo := 0) (hi := 99) hl h2
  refine rx_aload_n (i := 0) dX11_readOne_0 rfl rfl ?_
  refine rx_getR 141 (k := 1) fo_X11_9 kl_140 (by decide) ti_11_1 (by decide) rfl dX11_readOne_1 ?_
  refine rx_iload_n (i := 1) dX11_readOne_4 rfl rfl ?_
  refine rx_aload_n (i := 0) dX11_readOne_5 rfl rfl ?_
  refine rx_iconst (3) dX11_readOne_6 rfl ?_
  refine rx_iconst (0) dX11_readOne_7 rfl ?_
  refine rx_sipush (999) dX11_readOne_8 rfl ?_
  refine rx_cvI (ci := 11) mo_X11_number lk_X11_201 (c_X11_number r hs (d := 3) (lo := 0) (hi := 999) (by omega)) (by decide) rfl rfl (Nat.le_of_ble_eq_true rfl) kl_140 rfl dX11_readOne_11 ?_
  refine rx_iastN kl_141 (by omega) (by first | decide | omega) dX11_readOne_14 ?_
  rw [rdm_set (by omega)]
  refine rx_aload_n (i := 0) dX11_readOne_15 rfl rfl ?_
  refine rx_bipush (44) dX11_readOne_16 rfl ?_
  refine rx_cvN (ci := 11) mo_X11_need lk_X11_205 (c_X11_need (r.I (b := 141) (j := i) (x := (numP (M.1 154) (min L tp) 3 0 999 s).1) (by omega)) h1 (c := 44)) (by decide) rfl rfl (Nat.le_of_ble_eq_true rfl) kl_140 rfl dX11_readOne_18 ?_
  rw [na154 (by omega)]
  refine rx_aload_n (i := 0) dX11_readOne_21 rfl rfl ?_
  refine rx_getR 142 (k := 2) fo_X11_13 kl_140 (by decide) ti_11_2 (by decide) rfl dX11_readOne_22 ?_
  refine rx_iload_n (i := 1) dX11_readOne_25 rfl rfl ?_
  refine rx_aload_n (i := 0) dX11_readOne_26 rfl rfl ?_
  refine rx_iconst (2) dX11_readOne_27 rfl ?_
  refine rx_iconst (0) dX11_readOne_28 rfl ?_
  refine rx_bipush (99) dX11_readOne_29 rfl ?_
  refine rx_cvI (ci := 11) mo_X11_number lk_X11_201 (c_X11_number (r.I (b := 141) (j := i) (x := (numP (M.1 154) (min L tp) 3 0 999 s).1) (by omega)) h2 (d := 2) (lo := 0) (hi := 99) (by omega)) (by decide) rfl rfl (Nat.le_of_ble_eq_true rfl) kl_140 rfl dX11_readOne_31 ?_
  try rw [na154 (by omega)]
  refine rx_iastN kl_142 (by omega) (by first | decide | omega) dX11_readOne_34 ?_
  rw [rdm_set (by omega)]
  refine rx_aload_n (i := 0) dX11_readOne_35 rfl rfl ?_
  refine rx_getR 143 (k := 3) fo_X11_16 kl_140 (by decide) ti_11_3 (by decide) rfl dX11_readOne_36 ?_
  refine rx_iload_n (i := 1) dX11_readOne_39 rfl rfl ?_
  refine rx_aload_n (i := 0) dX11_readOne_40 rfl rfl ?_
  refine rx_bipush (33) dX11_readOne_41 rfl ?_
  refine rx_cvI (ci := 11) mo_X11_passes lk_X11_172 (c_X11_passes ((r.I (b := 141) (j := i) (x := (numP (M.1 154) (min L tp) 3 0 999 s).1) (by omega)).I (b := 142) (j := i) (x := (numP (M.1 154) (min L tp) 2 0 99 (needP (M.1 154) (min L tp) 44 (numP (M.1 154) (min L tp) 3 0 999 s).2)).1) (by omega)) h3 (c := 33)) (by decide) rfl rfl (Nat.le_of_ble_eq_true rfl) kl_140 rfl dX11_readOne_43 ?_
  try rw [na154 (by omega), na154 (by omega)]
  refine rx_zastN kl_143 (by omega) (by first | decide | omega) (zI_01 _) dX11_readOne_46 ?_
  rw [rdm_set (by omega)]
  exact rx_fiV dX11_readOne_47 rfl
set_option maxRecDepth 100000 in
set_option maxHeartbeats 4000000 in
theorem c_X11_readDebt {M : Mem} {L tp : Nat} (r : RM M 154 L tp) {s : PF} (hs : pOK (min L tp) (s.1 + 1, s.2)) {i t : Nat} (hi : i < 10) : Fun yX11_readDebt cX11_readDebt 3 none 3 [.ref 140, .int (nI i), .int (nI t)] (rdm M s) (none) (rdm (mlM M 0 i (mrd (M.1 154) (min L tp) t s).1) (mrd (M.1 154) (min L tp) t s).2) := by
  refine Fun.of (own := RX11) ([some (.ref 140), some (.int (nI i)), some (.int (nI t))]) rfl (by decide +kernel) (Nat.le_of_ble_eq_true rfl) rfl ?_
  have hl : min L tp < 2 ^ 31 := by have := Nat.min_le_left L tp; have := r.2.2.2.1; omega
  obtain ⟨o, ho⟩ : ∃ o, numP (M.1 154) (min L tp) 1 0 (nI t - 1) (s.1 + 1, s.2) = o := ⟨_, rfl⟩
  obtain ⟨u, hu⟩ : ∃ u, needP (M.1 154) (min L tp) 62 o.2 = u := ⟨_, rfl⟩
  obtain ⟨g, hg⟩ : ∃ g, numP (M.1 154) (min L tp) 1 0 (nI t - 1) u = g := ⟨_, rfl⟩
  obtain ⟨v, hv⟩ : ∃ v, needP (M.1 154) (min L tp) 42 (samP o.1 g.1 g.2) = v := ⟨_, rfl⟩
  obtain ⟨x, hx⟩ : ∃ x, numP (M.1 154) (min L tp) 2 1 99 v = x := ⟨_, rfl⟩
  obtain ⟨p, hp⟩ : ∃ p, needP (M.1 154) (min L tp) 64 x.2 = p := ⟨_, rfl⟩
  obtain ⟨y, hy⟩ : ∃ y, numP (M.1 154) (min L tp) 2 0 99 p = y := ⟨_, rfl⟩
  have eR : mrd (M.1 154) (min L tp) t s = ((true, o.1, g.1, x.1, y.1), y.2) := by simp only [mrd, ho, hu, hg, hv, hx, hp, hy]
  rw [eR]
  have k1 : pOK (min L tp) o.2 := ho ▸ num_ok hl hs
  have k2 : pOK (min L tp) u := hu ▸ need_ok (by decide) hl k1
  have k3 : pOK (min L tp) g.2 := hg ▸ num_ok hl k2
  have k4 : pOK (min L tp) (samP o.1 g.1 g.2) := sam_ok hl k3
  have k5 : pOK (min L tp) v := hv ▸ need_ok (by decide) hl k4
  have k6 : pOK (min L tp) x.2 := hx ▸ num_ok hl k5
  have k7 : pOK (min L tp) p := hp ▸ need_ok (by decide) hl k6
  have g1 : 1 ≤ g.2.1 := by
    have a1 := num_ge (S := M.1 154) (d := 1) (lo := 0) (hi := nI t - 1) (s := (s.1 + 1, s.2)) hs.1
    have a2 := need_ge (S := M.1 154) (lim := min L tp) (c := 62) (s := o.2)
    have a3 := num_ge (S := M.1 154) (d := 1) (lo := 0) (hi := nI t - 1) k2.1
    rw [ho] at a1; rw [hu] at a2; rw [hg] at a3
    have a1 : s.1 + 1 ≤ o.2.1 := a1
    omega
  have r1 := r.I (b := 147) (j := i) (x := o.1) (by omega)
  have r2 := r1.I (b := 148) (j := i) (x := g.1) (by omega)
  have r3 := r2.I (b := 149) (j := i) (x := x.1) (by omega)
  refine rx_aload_n (i := 0) dX11_readDebt_0 rfl rfl ?_
  refine rx_dup dX11_readDebt_1 rfl ?_
  refine rx_getI (k := 25) fo_X11_158 kl_140 (by decide) ti_11_25 dX11_readDebt_2 ?_
  refine rx_top (nI s.1) (rdm_25) ?_
  refine rx_iconst (1) dX11_readDebt_5 rfl ?_
  refine rx_iadd dX11_readDebt_6 ?_
  refine rx_top (nI (s.1 + 1)) (by rw [← nI_add]; rfl) ?_
  refine rx_putI (k := 25) fo_X11_158 fn_11_25 kl_140 (by decide) ty_11_25 dX11_readDebt_7 ?_
  rw [rdm_at]
  refine rx_aload_n (i := 0) dX11_readDebt_10 rfl rfl ?_
  refine rx_getR 147 (k := 8) fo_X11_29 kl_140 (by decide) ti_11_8 (by decide) rfl dX11_readDebt_11 ?_
  refine rx_iload_n (i := 1) dX11_readDebt_14 rfl rfl ?_
  refine rx_aload_n (i := 0) dX11_readDebt_15 rfl rfl ?_
  refine rx_iconst (1) dX11_readDebt_16 rfl ?_
  refine rx_iconst (0) dX11_readDebt_17 rfl ?_
  refine rx_iload_n (i := 2) dX11_readDebt_18 rfl rfl ?_
  refine rx_iconst (1) dX11_readDebt_19 rfl ?_
  refine rx_isub dX11_readDebt_20 ?_
  refine rx_cvI (ci := 11) mo_X11_number lk_X11_201 (c_X11_number r hs (d := 1) (lo := 0) (hi := nI t - 1) (by omega)) (by decide) rfl rfl (Nat.le_of_ble_eq_true rfl) kl_140 rfl dX11_readDebt_21 ?_
  rw [ho]
  refine rx_iastN kl_147 (by omega) (by first | decide | omega) dX11_readDebt_24 ?_
  rw [rdm_set (by omega)]
  refine rx_aload_n (i := 0) dX11_readDebt_25 rfl rfl ?_
  refine rx_bipush (62) dX11_readDebt_26 rfl ?_
  refine rx_cvN (ci := 11) mo_X11_need lk_X11_205 (c_X11_need r1 k1 (c := 62)) (by decide) rfl rfl (Nat.le_of_ble_eq_true rfl) kl_140 rfl dX11_readDebt_28 ?_
  rw [na154 (by omega), hu]
  refine rx_aload_n (i := 0) dX11_readDebt_31 rfl rfl ?_
  refine rx_getR 148 (k := 9) fo_X11_32 kl_140 (by decide) ti_11_9 (by decide) rfl dX11_readDebt_32 ?_
  refine rx_iload_n (i := 1) dX11_readDebt_35 rfl rfl ?_
  refine rx_aload_n (i := 0) dX11_readDebt_36 rfl rfl ?_
  refine rx_iconst (1) dX11_readDebt_37 rfl ?_
  refine rx_iconst (0) dX11_readDebt_38 rfl ?_
  refine rx_iload_n (i := 2) dX11_readDebt_39 rfl rfl ?_
  refine rx_iconst (1) dX11_readDebt_40 rfl ?_
  refine rx_isub dX11_readDebt_41 ?_
  refine rx_cvI (ci := 11) mo_X11_number lk_X11_201 (c_X11_number r1 k2 (d := 1) (lo := 0) (hi := nI t - 1) (by omega)) (by decide) rfl rfl (Nat.le_of_ble_eq_true rfl) kl_140 rfl dX11_readDebt_42 ?_
  rw [na154 (by omega), hg]
  refine rx_iastN kl_148 (by omega) (by first | decide | omega) dX11_readDebt_45 ?_
  rw [rdm_set (by omega)]
  refine rx_aload_n (i := 0) dX11_readDebt_46 rfl rfl ?_
  refine rx_cvI (ci := 11) mo_X11_fine lk_X11_164 (c_X11_fine k3.2) (by decide) rfl rfl (Nat.le_of_ble_eq_true rfl) kl_140 rfl dX11_readDebt_47 ?_
  refine rx_if_eq (tgt := 78) dX11_readDebt_50 (by decide) (fun c50 => ?_) (fun c50 => ?_)
  · skip
    have e50 := ite1 c50
    have eS : samP o.1 g.1 g.2 = g.2 := if_neg (fun q => e50 q.1)
    rw [← eS]
    refine rx_aload_n (i := 0) dX11_readDebt_78 rfl rfl ?_
    refine rx_bipush (42) dX11_readDebt_79 rfl ?_
    refine rx_cvN (ci := 11) mo_X11_need lk_X11_205 (c_X11_need r2 k4 (c := 42)) (by decide) rfl rfl (Nat.le_of_ble_eq_true rfl) kl_140 rfl dX11_readDebt_81 ?_
    rw [na154 (by omega), na154 (by omega), hv]
    refine rx_aload_n (i := 0) dX11_readDebt_84 rfl rfl ?_
    refine rx_getR 149 (k := 10) fo_X11_35 kl_140 (by decide) ti_11_10 (by decide) rfl dX11_readDebt_85 ?_
    refine rx_iload_n (i := 1) dX11_readDebt_88 rfl rfl ?_
    refine rx_aload_n (i := 0) dX11_readDebt_89 rfl rfl ?_
    refine rx_iconst (2) dX11_readDebt_90 rfl ?_
    refine rx_iconst (1) dX11_readDebt_91 rfl ?_
    refine rx_bipush (99) dX11_readDebt_92 rfl ?_
    refine rx_cvI (ci := 11) mo_X11_number lk_X11_201 (c_X11_number r2 k5 (d := 2) (lo := 1) (hi := 99) (by omega)) (by decide) rfl rfl (Nat.le_of_ble_eq_true rfl) kl_140 rfl dX11_readDebt_94 ?_
    rw [na154 (by omega), na154 (by omega), hx]
    refine rx_iastN kl_149 (by omega) (by first | decide | omega) dX11_readDebt_97 ?_
    rw [rdm_set (by omega)]
    refine rx_aload_n (i := 0) dX11_readDebt_98 rfl rfl ?_
    refine rx_bipush (64) dX11_readDebt_99 rfl ?_
    refine rx_cvN (ci := 11) mo_X11_need lk_X11_205 (c_X11_need r3 k6 (c := 64)) (by decide) rfl rfl (Nat.le_of_ble_eq_true rfl) kl_140 rfl dX11_readDebt_101 ?_
    rw [na154 (by omega), na154 (by omega), na154 (by omega), hp]
    refine rx_aload_n (i := 0) dX11_readDebt_104 rfl rfl ?_
    refine rx_getR 150 (k := 11) fo_X11_38 kl_140 (by decide) ti_11_11 (by decide) rfl dX11_readDebt_105 ?_
    refine rx_iload_n (i := 1) dX11_readDebt_108 rfl rfl ?_
    refine rx_aload_n (i := 0) dX11_readDebt_109 rfl rfl ?_
    refine rx_iconst (2) dX11_readDebt_110 rfl ?_
    refine rx_iconst (0) dX11_readDebt_111 rfl ?_
    refine rx_bipush (99) dX11_readDebt_112 rfl ?_
    refine rx_cvI (ci := 11) mo_X11_number lk_X11_201 (c_X11_number r3 k7 (d := 2) (lo := 0) (hi := 99) (by omega)) (by decide) rfl rfl (Nat.le_of_ble_eq_true rfl) kl_140 rfl dX11_readDebt_114 ?_
    rw [na154 (by omega), na154 (by omega), na154 (by omega), hy]
    refine rx_iastN kl_150 (by omega) (by first | decide | omega) dX11_readDebt_117 ?_
    rw [rdm_set (by omega)]
    exact rx_fiV dX11_readDebt_118 rfl
  · skip
    have e50 := ite1n c50
    refine rx_aload_n (i := 0) dX11_readDebt_53 rfl rfl ?_
    refine rx_getR 148 (k := 9) fo_X11_32 kl_140 (by decide) ti_11_9 (by decide) rfl dX11_readDebt_54 ?_
    refine rx_iload_n (i := 1) dX11_readDebt_57 rfl rfl ?_
    refine rx_ialdN kl_148 (by omega) (by first | decide | omega) dX11_readDebt_58 ?_
    refine rx_top (g.1) ((rdm_o (by omega)).trans sI_eq) ?_
    refine rx_aload_n (i := 0) dX11_readDebt_59 rfl rfl ?_
    refine rx_getR 147 (k := 8) fo_X11_29 kl_140 (by decide) ti_11_8 (by decide) rfl dX11_readDebt_60 ?_
    refine rx_iload_n (i := 1) dX11_readDebt_63 rfl rfl ?_
    refine rx_ialdN kl_147 (by omega) (by first | decide | omega) dX11_readDebt_64 ?_
    refine rx_top (o.1) ((rdm_o (by omega)).trans ((sI_na (by omega)).trans sI_eq)) ?_
    refine rx_icmp_ne (tgt := 78) dX11_readDebt_65 (by decide) (fun c65 => ?_) (fun c65 => ?_)
    · skip
      have eS : samP o.1 g.1 g.2 = g.2 := if_neg (fun q => c65 q.2)
      rw [← eS]
      refine rx_aload_n (i := 0) dX11_readDebt_78 rfl rfl ?_
      refine rx_bipush (42) dX11_readDebt_79 rfl ?_
      refine rx_cvN (ci := 11) mo_X11_need lk_X11_205 (c_X11_need r2 k4 (c := 42)) (by decide) rfl rfl (Nat.le_of_ble_eq_true rfl) kl_140 rfl dX11_readDebt_81 ?_
      rw [na154 (by omega), na154 (by omega), hv]
      refine rx_aload_n (i := 0) dX11_readDebt_84 rfl rfl ?_
      refine rx_getR 149 (k := 10) fo_X11_35 kl_140 (by decide) ti_11_10 (by decide) rfl dX11_readDebt_85 ?_
      refine rx_iload_n (i := 1) dX11_readDebt_88 rfl rfl ?_
      refine rx_aload_n (i := 0) dX11_readDebt_89 rfl rfl ?_
      refine rx_iconst (2) dX11_readDebt_90 rfl ?_
      refine rx_iconst (1) dX11_readDebt_91 rfl ?_
      refine rx_bipush (99) dX11_readDebt_92 rfl ?_
      refine rx_cvI (ci := 11) mo_X11_number lk_X11_201 (c_X11_number r2 k5 (d := 2) (lo := 1) (hi := 99) (by omega)) (by decide) rfl rfl (Nat.le_of_ble_eq_true rfl) kl_140 rfl dX11_readDebt_94 ?_
      rw [na154 (by omega), na154 (by omega), hx]
      refine rx_iastN kl_149 (by omega) (by first | decide | omega) dX11_readDebt_97 ?_
      rw [rdm_set (by omega)]
      refine rx_aload_n (i := 0) dX11_readDebt_98 rfl rfl ?_
      refine rx_bipush (64) dX11_readDebt_99 rfl ?_
      refine rx_cvN (ci := 11) mo_X11_need lk_X11_205 (c_X11_need r3 k6 (c := 64)) (by decide) rfl rfl (Nat.le_of_ble_eq_true rfl) kl_140 rfl dX11_readDebt_101 ?_
      rw [na154 (by omega), na154 (by omega), na154 (by omega), hp]
      refine rx_aload_n (i := 0) dX11_readDebt_104 rfl rfl ?_
      refine rx_getR 150 (k := 11) fo_X11_38 kl_140 (by decide) ti_11_11 (by decide) rfl dX11_readDebt_105 ?_
      refine rx_iload_n (i := 1) dX11_readDebt_108 rfl rfl ?_
      refine rx_aload_n (i := 0) dX11_readDebt_109 rfl rfl ?_
      refine rx_iconst (2) dX11_readDebt_110 rfl ?_
      refine rx_iconst (0) dX11_readDebt_111 rfl ?_
      refine rx_bipush (99) dX11_readDebt_112 rfl ?_
      refine rx_cvI (ci := 11) mo_X11_number lk_X11_201 (c_X11_number r3 k7 (d := 2) (lo := 0) (hi := 99) (by omega)) (by decide) rfl rfl (Nat.le_of_ble_eq_true rfl) kl_140 rfl dX11_readDebt_114 ?_
      rw [na154 (by omega), na154 (by omega), na154 (by omega), hy]
      refine rx_iastN kl_150 (by omega) (by first | decide | omega) dX11_readDebt_117 ?_
      rw [rdm_set (by omega)]
      exact rx_fiV dX11_readDebt_118 rfl
    · skip
      have eS : samP o.1 g.1 g.2 = faultP (g.2.1 - 1) g.2 := if_pos ⟨e50, c65⟩
      refine rx_aload_n (i := 0) dX11_readDebt_68 rfl rfl ?_
      refine rx_aload_n (i := 0) dX11_readDebt_69 rfl rfl ?_
      refine rx_getI (k := 25) fo_X11_158 kl_140 (by decide) ti_11_25 dX11_readDebt_70 ?_
      refine rx_top (nI g.2.1) (rdm_25) ?_
      refine rx_iconst (1) dX11_readDebt_73 rfl ?_
      refine rx_isub dX11_readDebt_74 ?_
      refine rx_top (nI (g.2.1 - 1)) (by rw [show (1 : Int32) = nI 1 from rfl, pk_sub g1]) ?_
      refine rx_cvN (ci := 11) mo_X11_fault lk_X11_176 (c_X11_fault k3.2) (by decide) rfl rfl (Nat.le_of_ble_eq_true rfl) kl_140 rfl dX11_readDebt_75 ?_
      rw [← eS]
      refine rx_aload_n (i := 0) dX11_readDebt_78 rfl rfl ?_
      refine rx_bipush (42) dX11_readDebt_79 rfl ?_
      refine rx_cvN (ci := 11) mo_X11_need lk_X11_205 (c_X11_need r2 k4 (c := 42)) (by decide) rfl rfl (Nat.le_of_ble_eq_true rfl) kl_140 rfl dX11_readDebt_81 ?_
      rw [na154 (by omega), na154 (by omega), hv]
      refine rx_aload_n (i := 0) dX11_readDebt_84 rfl rfl ?_
      refine rx_getR 149 (k := 10) fo_X11_35 kl_140 (by decide) ti_11_10 (by decide) rfl dX11_readDebt_85 ?_
      refine rx_iload_n (i := 1) dX11_readDebt_88 rfl rfl ?_
      refine rx_aload_n (i := 0) dX11_readDebt_89 rfl rfl ?_
      refine rx_iconst (2) dX11_readDebt_90 rfl ?_
      refine rx_iconst (1) dX11_readDebt_91 rfl ?_
      refine rx_bipush (99) dX11_readDebt_92 rfl ?_
      refine rx_cvI (ci := 11) mo_X11_number lk_X11_201 (c_X11_number r2 k5 (d := 2) (lo := 1) (hi := 99) (by omega)) (by decide) rfl rfl (Nat.le_of_ble_eq_true rfl) kl_140 rfl dX11_readDebt_94 ?_
      rw [na154 (by omega), na154 (by omega), hx]
      refine rx_iastN kl_149 (by omega) (by first | decide | omega) dX11_readDebt_97 ?_
      rw [rdm_set (by omega)]
      refine rx_aload_n (i := 0) dX11_readDebt_98 rfl rfl ?_
      refine rx_bipush (64) dX11_readDebt_99 rfl ?_
      refine rx_cvN (ci := 11) mo_X11_need lk_X11_205 (c_X11_need r3 k6 (c := 64)) (by decide) rfl rfl (Nat.le_of_ble_eq_true rfl) kl_140 rfl dX11_readDebt_101 ?_
      rw [na154 (by omega), na154 (by omega), na154 (by omega), hp]
      refine rx_aload_n (i := 0) dX11_readDebt_104 rfl rfl ?_
      refine rx_getR 150 (k := 11) fo_X11_38 kl_140 (by decide) ti_11_11 (by decide) rfl dX11_readDebt_105 ?_
      refine rx_iload_n (i := 1) dX11_readDebt_108 rfl rfl ?_
      refine rx_aload_n (i := 0) dX11_readDebt_109 rfl rfl ?_
      refine rx_iconst (2) dX11_readDebt_110 rfl ?_
      refine rx_iconst (0) dX11_readDebt_111 rfl ?_
      refine rx_bipush (99) dX11_readDebt_112 rfl ?_
      refine rx_cvI (ci := 11) mo_X11_number lk_X11_201 (c_X11_number r3 k7 (d := 2) (lo := 0) (hi := 99) (by omega)) (by decide) rfl rfl (Nat.le_of_ble_eq_true rfl) kl_140 rfl dX11_readDebt_114 ?_
      rw [na154 (by omega), na154 (by omega), na154 (by omega), hy]
      refine rx_iastN kl_150 (by omega) (by first | decide | omega) dX11_readDebt_117 ?_
      rw [rdm_set (by omega)]
      exact rx_fiV dX11_readDebt_118 rfl
