abbrev MT : Type := Nat × Nat × Nat × List It × PF
def mtF (S : Nat → Int32) (lim : Nat) (rc : Nat → Nat → Nat → List It → PF → MT) (t o c : Nat) (its : List It) (s : PF) : MT := if (passP S lim 59 s).1 = true then rc t o c its (passP S lim 59 s).2 else (t, o, c, its, (passP S lim 59 s).2)
/-- LINES read: how many people, debts, lines; what they tell; where it ends -/
def mtn (S : Nat → Int32) (lim : Nat) : Nat → Nat → Nat → Nat → List It → PF → MT
  | 0, t, o, c, its, s => (t, o, c, its, s)
  | f + 1, t, o, c, its, s =>
    if kc S lim s.1 = 100 then (if o = 10 then mtF S lim (mtn S lim f) t (o + 1) (c + 1) its (faultP s.1 s) else mtF S lim (mtn S lim f) t (o + 1) (c + 1) (its ++ [(mrd S lim t s).1]) (mrd S lim t s).2)
    else if t = 8 then mtF S lim (mtn S lim f) t o (c + 1) its (faultP s.1 s) else mtF S lim (mtn S lim f) (t + 1) o (c + 1) (its ++ [(mrp S lim s).1]) (mrp S lim s).2
def mitM : List It → Mem × Nat × Nat → Mem × Nat × Nat
  | [], s => s
  | x :: l, s => mitM l (mlM s.1 s.2.1 s.2.2 x, (if x.1 = true then s.2.1 else s.2.1 + 1), (if x.1 = true then s.2.2 + 1 else s.2.2))
theorem mitM_app : ∀ (l : List It) (x : It) (s : Mem × Nat × Nat), mitM (l ++ [x]) s = (mlM (mitM l s).1 (mitM l s).2.1 (mitM l s).2.2 x, (if x.1 = true then (mitM l s).2.1 else (mitM l s).2.1 + 1), (if x.1 = true then (mitM l s).2.2 + 1 else (mitM l s).2.2))
  | [], _, _ => rfl
  | y :: l, x, s => mitM_app l x _
theorem mlM_o {M : Mem} {t o a j : Nat} {x : It} (h : ¬ (141 ≤ a ∧ a ≤ 150)) : (mlM M t o x).1 a j = M.1 a j := by
  unfold mlM; split
  · rw [sI_na (by omega), sI_na (by omega), sI_na (by omega), sI_na (by omega)]
  · rw [sI_na (by omega), sI_na (by omega), sI_na (by omega)]
theorem mlM_2 {M : Mem} {t o : Nat} {x : It} : (mlM M t o x).2 = M.2 := by unfold mlM; split <;> rfl
theorem mitM_o {a j : Nat} (h : ¬ (141 ≤ a ∧ a ≤ 150)) : ∀ (l : List It) (s : Mem × Nat × Nat), (mitM l s).1.1 a j = s.1.1 a j
  | [], _ => rfl
  | x :: l, s => (mitM_o h l _).trans (mlM_o h)
theorem mitM_2 : ∀ (l : List It) (s : Mem × Nat × Nat), (mitM l s).1.2 = s.1.2
  | [], _ => rfl
  | x :: l, s => (mitM_2 l _).trans mlM_2
theorem RM.ml {M : Mem} {a L tp t o : Nat} {x : It} (h : RM M a L tp) : RM (mlM M t o x) a L tp := h.keep (by rw [mlM_2]) (mlM_o (by omega)) (mlM_o (by omega))
theorem RM.mit {M : Mem} {a L tp n m : Nat} {l : List It} (h : RM M a L tp) : RM (mitM l (M, n, m)).1 a L tp := h.keep (by rw [mitM_2]) (mitM_o (by omega) _ _) (mitM_o (by omega) _ _)
theorem mrp_ge {S : Nat → Int32} {lim : Nat} (hl : lim < 2 ^ 31) {s : PF} (h : pOK lim s) : s.1 ≤ (mrp S lim s).2.1 := by
  have h1 := num_ok (S := S) (d := 3) (lo := 0) (hi := 999) hl h
  have h2 := need_ok (S := S) (c := 44) (by decide) hl h1
  have a1 := num_ge (S := S) (d := 3) (lo := 0) (hi := 999) h.1
  have a2 := need_ge (S := S) (lim := lim) (c := 44) (s := (numP S lim 3 0 999 s).2)
  have a3 := num_ge (S := S) (d := 2) (lo := 0) (hi := 99) h2.1
  have a4 : (numP S lim 2 0 99 (needP S lim 44 (numP S lim 3 0 999 s).2)).2.1 ≤ (mrp S lim s).2.1 := by
    show _ ≤ (passP S lim 33 (numP S lim 2 0 99 (needP S lim 44 (numP S lim 3 0 999 s).2)).2).2.1
    unfold passP; split
    · exact Nat.le_succ _
    · exact Nat.le_refl _
  omega
theorem mrd_ge {S : Nat → Int32} {lim t : Nat} (hl : lim < 2 ^ 31) {s : PF} (h : pOK lim (s.1 + 1, s.2)) : s.1 ≤ (mrd S lim t s).2.1 := by
  obtain ⟨o, ho⟩ : ∃ o, numP S lim 1 0 (nI t - 1) (s.1 + 1, s.2) = o := ⟨_, rfl⟩
  obtain ⟨u, hu⟩ : ∃ u, needP S lim 62 o.2 = u := ⟨_, rfl⟩
  obtain ⟨g, hg⟩ : ∃ g, numP S lim 1 0 (nI t - 1) u = g := ⟨_, rfl⟩
  obtain ⟨v, hv⟩ : ∃ v, needP S lim 42 (samP o.1 g.1 g.2) = v := ⟨_, rfl⟩
  obtain ⟨x, hx⟩ : ∃ x, numP S lim 2 1 99 v = x := ⟨_, rfl⟩
  obtain ⟨p, hp⟩ : ∃ p, needP S lim 64 x.2 = p := ⟨_, rfl⟩
  obtain ⟨y, hy⟩ : ∃ y, numP S lim 2 0 99 p = y := ⟨_, rfl⟩
  have eR : mrd S lim t s = ((true, o.1, g.1, x.1, y.1), y.2) := by simp only [mrd, ho, hu, hg, hv, hx, hp, hy]
  rw [eR]
  have k1 : pOK lim o.2 := ho ▸ num_ok hl h
  have k2 : pOK lim u := hu ▸ need_ok (by decide) hl k1
  have k3 : pOK lim g.2 := hg ▸ num_ok hl k2
  have k4 : pOK lim (samP o.1 g.1 g.2) := sam_ok hl k3
  have k5 : pOK lim v := hv ▸ need_ok (by decide) hl k4
  have k6 : pOK lim x.2 := hx ▸ num_ok hl k5
  have k7 : pOK lim p := hp ▸ need_ok (by decide) hl k6
  have a1 := num_ge (S := S) (d := 1) (lo := 0) (hi := nI t - 1) (s := (s.1 + 1, s.2)) h.1
  have a2 := need_ge (S := S) (lim := lim) (c := 62) (s := o.2)
  have a3 := num_ge (S := S) (d := 1) (lo := 0) (hi := nI t - 1) k2.1
  have a4 := need_ge (S := S) (lim := lim) (c := 42) (s := samP o.1 g.1 g.2)
  have a5 := num_ge (S := S) (d := 2) (lo := 1) (hi := 99) k5.1
  have a6 := need_ge (S := S) (lim := lim) (c := 64) (s := x.2)
  have a7 := num_ge (S := S) (d := 2) (lo := 0) (hi := 99) k7.1
  rw [ho] at a1; rw [hu] at a2; rw [hg] at a3; rw [hv, sam_1] at a4; rw [hx] at a5; rw [hp] at a6; rw [hy] at a7
  have a1 : s.1 + 1 ≤ o.2.1 := a1
  show s.1 ≤ y.2.1
  omega
theorem pass_t {S : Nat → Int32} {lim : Nat} {c : Int32} (hc : 0 ≤ c) {s : PF} (h : (passP S lim c s).1 = true) : s.2 = none ∧ s.1 < lim ∧ (passP S lim c s).2 = (s.1 + 1, none) := by
  unfold passP at h ⊢
  split at h
  · next q => rw [if_pos q]; exact ⟨q.1, kc_lt q.2 hc, rfl⟩
  · cases h
theorem eq_nI {a b : Nat} (ha : a < 2 ^ 31) (hb : b < 2 ^ 31) (h : nI a = nI b) : a = b := by
  have h1 := (nI_leI ha hb).mp (by rw [h]; exact Int32.le_refl _)
  have h2 := (nI_leI hb ha).mp (by rw [h]; exact Int32.le_refl _)
  omega
theorem fault_nn {q : Nat} {s : PF} : ¬ (faultP q s).2 = none := by
  simp only [faultP]; split <;> exact fun h => by cases h
set_option maxRecDepth 100000 in
set_option maxHeartbeats 4000000 in
theorem l_X11_town {M0 : Mem} {n m L : Nat} (r0 : RM M0 154 L 76) {R : MT} {QQ : Nat → List (Option Value) → List Value → Mem → Prop} (K : Reach cX11_town RX11 6 4 QQ 137 [some (.ref 140), some (.int (nI R.1)), some (.int (nI R.2.1)), some (.int (nI R.2.2.1)), none, none] [] (rdm (mitM R.2.2.2.1 (M0, n, m)).1 R.2.2.2.2)) : ∀ (N : Nat) (f : Nat) (b : Bool) (t : Nat) (o : Nat) (c : Nat) (its : List It) (s : PF), ((if b = true then mtn (M0.1 154) (min L 76) f t o c its s else (t, o, c, its, s)) = R) → (pOK (min L 76) s) → (t ≤ 8) → ((mitM its (M0, n, m)).2.1 = t) → (b = true → s.2 = none ∧ min L 76 - s.1 < f ∧ o ≤ 10 ∧ (mitM its (M0, n, m)).2.2 = o) → f < N → Reach cX11_town RX11 6 4 (QQ) 48 [some (.ref 140), some (.int (nI t)), some (.int (nI o)), some (.int (nI c)), some (.int (zI b)), none] [] (rdm (mitM its (M0, n, m)).1 s) := by
  intro N
  induction N with
  | zero => intro f b t o c its s hR hs ht ht2 hb hm; exact absurd ‹_ < 0› (Nat.not_lt_zero _)
  | succ N ih =>
    intro f b t o c its s hR hs ht ht2 hb hm
    have hl : min L 76 < 2 ^ 31 := by have := Nat.min_le_right L 76; omega
    obtain ⟨Mx, hMx⟩ : ∃ Mx, (mitM its (M0, n, m)).1 = Mx := ⟨_, rfl⟩
    have rX : RM Mx 154 L 76 := hMx ▸ r0.mit
    have hSX : Mx.1 154 = M0.1 154 := by rw [← hMx]; exact funext fun j => mitM_o (by omega) _ _
    refine rx_iload (i := 4) dX11_town_48 rfl ?_
    refine rx_if_eq (tgt := 137) dX11_town_50 (by decide) (fun c50 => ?_) (fun c50 => ?_)
    · skip
      have eb : b = false := zI_0.mp c50
      subst eb
      rw [if_neg (by decide)] at hR
      subst hR
      refine rx_drop 4 ?_
      exact K
    · skip
      have eb : b = true := zI_n c50
      obtain ⟨hn0, hf, ho, hmo⟩ := hb eb
      subst eb
      rw [if_pos rfl] at hR
      obtain ⟨f1, rfl⟩ : ∃ f1, f = f1 + 1 := ⟨f - 1, by omega⟩
      rw [mtn] at hR
      rw [hMx]
      have hsF := fault_ok (q := s.1) (by have := hs.1; omega) hs
      refine rx_aload_n (i := 0) dX11_town_53 rfl rfl ?_
      refine rx_cvI (ci := 11) mo_X11_fine lk_X11_164 (c_X11_fine hs.2) (by decide) rfl rfl (Nat.le_of_ble_eq_true rfl) kl_140 rfl dX11_town_54 ?_
      refine rx_if_eq (tgt := 137) dX11_town_57 (by decide) (fun c57 => ?_) (fun c57 => ?_)
      · skip
        exact absurd hn0 (ite1 c57)
      · skip
        refine rx_aload_n (i := 0) dX11_town_60 rfl rfl ?_
        refine rx_cvI (ci := 11) mo_X11_here lk_X11_168 (c_X11_here rX hs) (by decide) rfl rfl (Nat.le_of_ble_eq_true rfl) kl_140 rfl dX11_town_61 ?_
        rw [hSX]
        refine rx_bipush (100) dX11_town_64 rfl ?_
        refine rx_icmp_ne (tgt := 98) dX11_town_66 (by decide) (fun c66 => ?_) (fun c66 => ?_)
        · skip
          rw [if_neg c66] at hR
          refine rx_iload_n (i := 1) dX11_town_98 rfl rfl ?_
          refine rx_bipush (8) dX11_town_99 rfl ?_
          refine rx_icmp_ne (tgt := 115) dX11_town_101 (by decide) (fun c101 => ?_) (fun c101 => ?_)
          · skip
            have e101 : ¬ t = 8 := fun q => c101 (by rw [q]; rfl)
            rw [if_neg e101] at hR
            refine rx_aload_n (i := 0) dX11_town_115 rfl rfl ?_
            refine rx_iload_n (i := 1) dX11_town_116 rfl rfl ?_
            refine rx_cvN (ci := 11) mo_X11_readOne lk_X11_192 (c_X11_readOne rX hs (i := t) (by omega)) (by decide) rfl rfl (Nat.le_of_ble_eq_true rfl) kl_140 rfl dX11_town_117 ?_
            rw [hSX]
            have rL := rX.ml (t := t) (o := 0) (x := (mrp (M0.1 154) (min L 76) s).1)
            have sL := mrp_ok (S := M0.1 154) hl hs
            have eL : (mlM Mx t 0 (mrp (M0.1 154) (min L 76) s).1).1 154 = M0.1 154 := (funext fun j => mlM_o (by omega)).trans hSX
            first | refine rx_iincN (i := 1) dX11_town_120 rfl (by decide) rfl rfl ?_ | refine rx_iinc (i := 1) dX11_town_120 rfl rfl (by decide) rfl rfl ?_
            first | refine rx_iincN (i := 3) dX11_town_123 rfl (by decide) rfl rfl ?_ | refine rx_iinc (i := 3) dX11_town_123 rfl rfl (by decide) rfl rfl ?_
            refine rx_aload_n (i := 0) dX11_town_126 rfl rfl ?_
            refine rx_bipush (59) dX11_town_127 rfl ?_
            refine rx_cvI (ci := 11) mo_X11_passes lk_X11_172 (c_X11_passes (a := 154) (L := L) (tp := 76) (by first | exact rL | exact rX) (by first | exact sL | exact hsF) (c := 59)) (by decide) rfl rfl (Nat.le_of_ble_eq_true rfl) kl_140 rfl dX11_town_129 ?_
            first | rw [eL] | rw [hSX]
            refine rx_istore (i := 4) dX11_town_132 (by decide) rfl rfl ?_
            refine rx_goto (tgt := 48) dX11_town_134 (by decide) ?_
            unfold mtF at hR
            have eI := mitM_app its (mrp (M0.1 154) (min L 76) s).1 (M0, n, m)
            have hx := ih f1 (passP (M0.1 154) (min L 76) 59 (mrp (M0.1 154) (min L 76) s).2).1 (t + 1) (o) (c + 1) (its ++ [(mrp (M0.1 154) (min L 76) s).1]) (passP (M0.1 154) (min L 76) 59 (mrp (M0.1 154) (min L 76) s).2).2 hR (pass_ok (by decide) (mrp_ok hl hs)) (by omega) (by rw [eI]; show _ + 1 = _; rw [ht2]) (fun hp => by
            obtain ⟨p1, p2, p3⟩ := pass_t (by decide) hp
            rw [p3]
            have hge := mrp_ge (S := M0.1 154) hl hs
            exact ⟨rfl, by show min L 76 - ((mrp (M0.1 154) (min L 76) s).2.1 + 1) < f1; omega, by omega, by rw [eI]; exact hmo⟩) (by omega)
            rw [eI, hMx, ht2] at hx
            exact hx
          · skip
            have e101 : t = 8 := eq_nI (by omega) (by omega) (show nI t = nI 8 from c101)
            rw [if_pos e101] at hR
            refine rx_aload_n (i := 0) dX11_town_104 rfl rfl ?_
            refine rx_aload_n (i := 0) dX11_town_105 rfl rfl ?_
            refine rx_getI (k := 25) fo_X11_158 kl_140 (by decide) ti_11_25 dX11_town_106 ?_
            refine rx_top (nI s.1) (rdm_25) ?_
            refine rx_cvN (ci := 11) mo_X11_fault lk_X11_176 (c_X11_fault (q := s.1) hs.2) (by decide) rfl rfl (Nat.le_of_ble_eq_true rfl) kl_140 rfl dX11_town_109 ?_
            refine rx_goto (tgt := 123) dX11_town_112 (by decide) ?_
            first | refine rx_iincN (i := 3) dX11_town_123 rfl (by decide) rfl rfl ?_ | refine rx_iinc (i := 3) dX11_town_123 rfl rfl (by decide) rfl rfl ?_
            refine rx_aload_n (i := 0) dX11_town_126 rfl rfl ?_
            refine rx_bipush (59) dX11_town_127 rfl ?_
            refine rx_cvI (ci := 11) mo_X11_passes lk_X11_172 (c_X11_passes (a := 154) (L := L) (tp := 76) (by first | exact rL | exact rX) (by first | exact sL | exact hsF) (c := 59)) (by decide) rfl rfl (Nat.le_of_ble_eq_true rfl) kl_140 rfl dX11_town_129 ?_
            first | rw [eL] | rw [hSX]
            refine rx_istore (i := 4) dX11_town_132 (by decide) rfl rfl ?_
            refine rx_goto (tgt := 48) dX11_town_134 (by decide) ?_
            unfold mtF at hR
            have hx := ih f1 (passP (M0.1 154) (min L 76) 59 (faultP s.1 s)).1 (t) (o) (c + 1) its (passP (M0.1 154) (min L 76) 59 (faultP s.1 s)).2 hR (pass_ok (by decide) hsF) (by omega) ht2 (fun hp => absurd (pass_t (by decide) hp).1 fault_nn) (by omega)
            rw [hMx] at hx
            exact hx
        · skip
          rw [if_pos c66] at hR
          have hs1 : pOK (min L 76) (s.1 + 1, s.2) := ⟨kc_lt c66 (by decide), hs.2⟩
          refine rx_iload_n (i := 2) dX11_town_69 rfl rfl ?_
          refine rx_bipush (10) dX11_town_70 rfl ?_
          refine rx_icmp_ne (tgt := 86) dX11_town_72 (by decide) (fun c72 => ?_) (fun c72 => ?_)
          · skip
            have e72 : ¬ o = 10 := fun q => c72 (by rw [q]; rfl)
            rw [if_neg e72] at hR
            refine rx_aload_n (i := 0) dX11_town_86 rfl rfl ?_
            refine rx_iload_n (i := 2) dX11_town_87 rfl rfl ?_
            refine rx_iload_n (i := 1) dX11_town_88 rfl rfl ?_
            refine rx_cvN (ci := 11) mo_X11_readDebt lk_X11_188 (c_X11_readDebt rX hs1 (i := o) (t := t) (by omega)) (by decide) rfl rfl (Nat.le_of_ble_eq_true rfl) kl_140 rfl dX11_town_89 ?_
            rw [hSX]
            have rL := rX.ml (t := 0) (o := o) (x := (mrd (M0.1 154) (min L 76) t s).1)
            have sL := mrd_ok (S := M0.1 154) (t := t) hl hs1
            have eL : (mlM Mx 0 o (mrd (M0.1 154) (min L 76) t s).1).1 154 = M0.1 154 := (funext fun j => mlM_o (by omega)).trans hSX
            first | refine rx_iincN (i := 2) dX11_town_92 rfl (by decide) rfl rfl ?_ | refine rx_iinc (i := 2) dX11_town_92 rfl rfl (by decide) rfl rfl ?_
            refine rx_goto (tgt := 123) dX11_town_95 (by decide) ?_
            first | refine rx_iincN (i := 3) dX11_town_123 rfl (by decide) rfl rfl ?_ | refine rx_iinc (i := 3) dX11_town_123 rfl rfl (by decide) rfl rfl ?_
            refine rx_aload_n (i := 0) dX11_town_126 rfl rfl ?_
            refine rx_bipush (59) dX11_town_127 rfl ?_
            refine rx_cvI (ci := 11) mo_X11_passes lk_X11_172 (c_X11_passes (a := 154) (L := L) (tp := 76) (by first | exact rL | exact rX) (by first | exact sL | exact hsF) (c := 59)) (by decide) rfl rfl (Nat.le_of_ble_eq_true rfl) kl_140 rfl dX11_town_129 ?_
            first | rw [eL] | rw [hSX]
            refine rx_istore (i := 4) dX11_town_132 (by decide) rfl rfl ?_
            refine rx_goto (tgt := 48) dX11_town_134 (by decide) ?_
            unfold mtF at hR
            have eI := mitM_app its (mrd (M0.1 154) (min L 76) t s).1 (M0, n, m)
            have hx := ih f1 (passP (M0.1 154) (min L 76) 59 (mrd (M0.1 154) (min L 76) t s).2).1 (t) (o + 1) (c + 1) (its ++ [(mrd (M0.1 154) (min L 76) t s).1]) (passP (M0.1 154) (min L 76) 59 (mrd (M0.1 154) (min L 76) t s).2).2 hR (pass_ok (by decide) (mrd_ok hl hs1)) (by omega) (by rw [eI]; exact ht2) (fun hp => by
            obtain ⟨p1, p2, p3⟩ := pass_t (by decide) hp
            rw [p3]
            have hge := mrd_ge (S := M0.1 154) (t := t) hl hs1
            exact ⟨rfl, by show min L 76 - ((mrd (M0.1 154) (min L 76) t s).2.1 + 1) < f1; omega, by omega, by rw [eI]; show _ + 1 = _; rw [hmo]⟩) (by omega)
            rw [eI, hMx, hmo] at hx
            exact hx
          · skip
            have e72 : o = 10 := eq_nI (by omega) (by omega) (show nI o = nI 10 from c72)
            rw [if_pos e72] at hR
            refine rx_aload_n (i := 0) dX11_town_75 rfl rfl ?_
            refine rx_aload_n (i := 0) dX11_town_76 rfl rfl ?_
            refine rx_getI (k := 25) fo_X11_158 kl_140 (by decide) ti_11_25 dX11_town_77 ?_
            refine rx_top (nI s.1) (rdm_25) ?_
            refine rx_cvN (ci := 11) mo_X11_fault lk_X11_176 (c_X11_fault (q := s.1) hs.2) (by decide) rfl rfl (Nat.le_of_ble_eq_true rfl) kl_140 rfl dX11_town_80 ?_
            refine rx_goto (tgt := 92) dX11_town_83 (by decide) ?_
            first | refine rx_iincN (i := 2) dX11_town_92 rfl (by decide) rfl rfl ?_ | refine rx_iinc (i := 2) dX11_town_92 rfl rfl (by decide) rfl rfl ?_
            refine rx_goto (tgt := 123) dX11_town_95 (by decide) ?_
            first | refine rx_iincN (i := 3) dX11_town_123 rfl (by decide) rfl rfl ?_ | refine rx_iinc (i := 3) dX11_town_123 rfl rfl (by decide) rfl rfl ?_
            refine rx_aload_n (i := 0) dX11_town_126 rfl rfl ?_
            refine rx_bipush (59) dX11_town_127 rfl ?_
            refine rx_cvI (ci := 11) mo_X11_passes lk_X11_172 (c_X11_passes (a := 154) (L := L) (tp := 76) (by first | exact rL | exact rX) (by first | exact sL | exact hsF) (c := 59)) (by decide) rfl rfl (Nat.le_of_ble_eq_true rfl) kl_140 rfl dX11_town_129 ?_
            first | rw [eL] | rw [hSX]
            refine rx_istore (i := 4) dX11_town_132 (by decide) rfl rfl ?_
            refine rx_goto (tgt := 48) dX11_town_134 (by decide) ?_
            unfold mtF at hR
            have hx := ih f1 (passP (M0.1 154) (min L 76) 59 (faultP s.1 s)).1 (t) (o + 1) (c + 1) its (passP (M0.1 154) (min L 76) 59 (faultP s.1 s)).2 hR (pass_ok (by decide) hsF) (by omega) ht2 (fun hp => absurd (pass_t (by decide) hp).1 fault_nn) (by omega)
            rw [hMx] at hx
            exact hx
