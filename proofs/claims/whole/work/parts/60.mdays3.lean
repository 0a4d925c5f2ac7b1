section
variable {S : Nat → Int32} {z n m : Nat}
theorem go_10 {s : DS} {k d : Nat} (h : d ≠ k) : (goT S z n m s k).1 10 d = s.1 10 d := by
  simp only [goT]
  split
  · simp only [mkT]
    rw [if_neg (by omega), if_neg (by omega), if_neg (by omega), if_neg (by omega)]
  · split
    · simp only [setT]; rw [if_neg (by omega)]
    · rfl
theorem go_c {s : DS} {k c : Nat} (h : c = 9 ∨ c = 18) : (goT S z n m s k).1 c = s.1 c := by
  funext d
  simp only [goT]
  split
  · simp only [mkT]
    rw [if_neg (by omega), if_neg (by omega), if_neg (by omega), if_neg (by omega)]
  · split
    · simp only [setT]; rw [if_neg (by omega)]
    · rfl
theorem gof_10 {d : Nat} : ∀ {l : List Nat} {s : DS}, d ∉ l → (l.foldl (goT S z n m) s).1 10 d = s.1 10 d
  | [], _, _ => rfl
  | k :: l, s, h => by
    rw [List.foldl_cons, gof_10 (fun q => h (List.mem_cons_of_mem _ q)), go_10 (fun q => h (by rw [q]; exact List.mem_cons_self))]
theorem gof_c {c : Nat} (h : c = 9 ∨ c = 18) : ∀ {l : List Nat} {s : DS}, (l.foldl (goT S z n m) s).1 c = s.1 c
  | [], _ => rfl
  | k :: l, s => by rw [List.foldl_cons, gof_c h, go_c h]
end
/-- the debts gone through when d are behind of those due on v -/
def dlv (D : Nat → Nat) (p : Nat → Bool) (m v d : Nat) : List Nat := ((List.range v).flatMap fun u => (List.range m).filter fun d => p d && decide (D d = u)) ++ (List.range d).filter fun d => p d && decide (D d = v)
theorem dlv_d {D : Nat → Nat} {p : Nat → Bool} {m v d : Nat} (h : (p d && decide (D d = v)) = true) : dlv D p m v (d + 1) = dlv D p m v d ++ [d] := by
  unfold dlv
  rw [List.range_succ, List.filter_append, List.filter_cons, if_pos h, List.filter_nil, List.append_assoc]
theorem dlv_n {D : Nat → Nat} {p : Nat → Bool} {m v d : Nat} (h : (p d && decide (D d = v)) = false) : dlv D p m v (d + 1) = dlv D p m v d := by
  unfold dlv
  rw [List.range_succ, List.filter_append, List.filter_cons, if_neg (by rw [h]; decide), List.filter_nil, List.append_nil]
theorem dlv_v {D : Nat → Nat} {p : Nat → Bool} {m v : Nat} : dlv D p m (v + 1) 0 = dlv D p m v m := by
  unfold dlv
  rw [List.range_succ, List.flatMap_append, List.flatMap_cons, List.flatMap_nil, List.append_nil, List.range_zero, List.filter_nil, List.append_nil]
theorem dlv_0 {D : Nat → Nat} {p : Nat → Bool} {m : Nat} : dlv D p m 0 0 = [] := rfl
theorem dlv_not {D : Nat → Nat} {p : Nat → Bool} {m v d : Nat} (hd : D d = v) : d ∉ dlv D p m v d := by
  intro q
  unfold dlv at q
  rcases List.mem_append.mp q with q | q
  · obtain ⟨u, hu, h⟩ := List.mem_flatMap.mp q
    have h1 := List.mem_range.mp hu
    have h2 := (List.mem_filter.mp h).2
    simp only [Bool.and_eq_true, decide_eq_true_eq] at h2
    omega
  · have := List.mem_range.mp (List.mem_filter.mp q).1
    omega
theorem flat_ext {f : Nat → List Nat} {a : Nat} (h : ∀ u, a ≤ u → f u = []) : ∀ {b : Nat}, a ≤ b → (List.range b).flatMap f = (List.range a).flatMap f
  | 0, hb => by rw [show a = 0 by omega]
  | b + 1, hb => by
    by_cases q : a = b + 1
    · rw [q]
    · rw [List.range_succ, List.flatMap_append, List.flatMap_cons, List.flatMap_nil, List.append_nil, h b (by omega), List.append_nil, flat_ext h (by omega)]
theorem dlv_all {D : Nat → Nat} {p : Nat → Bool} {m td : Nat} (h : ∀ d, d < m → p d = true → D d ≤ td ∧ D d ≤ 99) : dlv D p m (td + 1) 0 = dueLst D p m := by
  have hf : ∀ u, min (td + 1) 100 ≤ u → ((List.range m).filter fun d => p d && decide (D d = u)) = [] := fun u hu => by
    rw [List.filter_eq_nil_iff]
    intro d hd q
    simp only [Bool.and_eq_true, decide_eq_true_eq] at q
    have := h d (List.mem_range.mp hd) q.1
    omega
  unfold dlv dueLst
  rw [List.range_zero, List.filter_nil, List.append_nil, flat_ext hf (Nat.min_le_left _ _), flat_ext hf (Nat.min_le_right _ _)]
set_option maxRecDepth 100000 in
set_option maxHeartbeats 4000000 in
theorem l_goDays_d {M0 : Mem} {n m : Nat} {S : Nat → Int32} {z L : Nat} (r : MR M0 n m S z L) {s1 : DS} {td : Nat} (h9 : ∀ k, k < m → ∃ d, s1.1 9 k = nI d ∧ d ≤ 99) (h18 : s1.1 18 0 = nI td) (htd : td < 2 ^ 30) {n0 e0 : Int32} {v : Nat} (hv : v ≤ td) {QQ : Nat → List (Option Value) → List Value → Mem → Prop} (K : ∀ N, frD M0 N → DR N ((dlv (fun k => (s1.1 9 k).toNatClampNeg) (fun k => decide (s1.1 10 k = 0) && decide (s1.1 9 k ≤ s1.1 18 0)) m v m).foldl (goT S z n m) s1) → Reach cX11_goDays RX11 5 175 QQ 86 [some (.ref 140), some (.int n0), some (.int e0), some (.int (nI v)), some (.int (nI m))] [] N) : ∀ (N : Nat) (d : Nat) (M1 : Mem), (d ≤ m) → (frD M0 M1) → (DR M1 ((dlv (fun k => (s1.1 9 k).toNatClampNeg) (fun k => decide (s1.1 10 k = 0) && decide (s1.1 9 k ≤ s1.1 18 0)) m v d).foldl (goT S z n m) s1)) → m - d < N → Reach cX11_goDays RX11 5 175 (QQ) 44 [some (.ref 140), some (.int n0), some (.int e0), some (.int (nI v)), some (.int (nI d))] [] (M1) := by
  intro N
  induction N with
  | zero => intro d M1 hdm hF hD hm; exact absurd ‹_ < 0› (Nat.not_lt_zero _)
  | succ N ih =>
    intro d M1 hdm hF hD hm
    have r1 := hF.MR r
    have ⟨⟨hn, hn8, hm, hm10, hd⟩, hk01, hs, hR, hL⟩ := r1
    have ⟨d1, d2, d3, d4, d5⟩ := hD
    refine rx_iload (i := 4) dX11_goDays_44 rfl ?_
    refine rx_aload_n (i := 0) dX11_goDays_46 rfl rfl ?_
    refine rx_getI (k := 7) fo_X11_139 kl_140 (by decide) ti_11_7 dX11_goDays_47 ?_
    refine rx_top (nI m) hm ?_
    refine rx_icmp_ge (tgt := 86) dX11_goDays_50 (by decide) (fun c50 => ?_) (fun c50 => ?_)
    · skip
      have f50 := Int32.not_lt.mpr c50
      have e50 : d = m := by have := (nI_leI (by omega) (by omega)).mp c50; omega
      subst e50
      exact K M1 hF hD
    · skip
      have f50 := Int32.not_le.mp c50
      have e50 : d < m := Nat.lt_of_not_le fun q => c50 (nI_le q (by omega))
      obtain ⟨dd, e9, hdd⟩ := h9 d e50
      have e150 : M1.1 150 d = nI dd := by rw [← e9, ← congrFun (gof_c (S := S) (z := z) (n := n) (m := m) (l := dlv (fun k => (s1.1 9 k).toNatClampNeg) (fun k => decide (s1.1 10 k = 0) && decide (s1.1 9 k ≤ s1.1 18 0)) m v d) (s := s1) (Or.inl rfl)) d]; exact congrFun (d1 9 (by omega) (by omega)) d
      have eDd : (s1.1 9 d).toNatClampNeg = dd := by rw [e9, nI_clamp (by omega)]
      refine rx_aload_n (i := 0) dX11_goDays_53 rfl rfl ?_
      refine rx_getR 151 (k := 12) fo_X11_41 kl_140 (by decide) ti_11_12 (by decide) rfl dX11_goDays_54 ?_
      refine rx_iload (i := 4) dX11_goDays_57 rfl ?_
      refine rx_ialdN kl_151 (by omega) (by first | decide | omega) dX11_goDays_59 ?_
      refine rx_if_ne (tgt := 80) dX11_goDays_60 (by decide) (fun c60 => ?_) (fun c60 => ?_)
      · skip
        have hno : ((fun k => decide (s1.1 10 k = 0) && decide (s1.1 9 k ≤ s1.1 18 0)) d && decide ((fun k => (s1.1 9 k).toNatClampNeg) d = v)) = false := by
          by_cases q : dd = v
          · have hnot := dlv_not (D := (fun k => (s1.1 9 k).toNatClampNeg)) (p := (fun k => decide (s1.1 10 k = 0) && decide (s1.1 9 k ≤ s1.1 18 0))) (m := m) (v := v) (d := d) (eDd.trans q)
            have e10 : M1.1 151 d = s1.1 10 d := by rw [← gof_10 (S := S) (z := z) (n := n) (m := m) (s := s1) hnot]; exact congrFun (d1 10 (by omega) (by omega)) d
            have : ¬ s1.1 10 d = 0 := by rw [← e10]; exact c60
            simp [this]
          · have : ¬ (s1.1 9 d).toNatClampNeg = v := by rw [eDd]; exact q
            simp [this]
        first | refine rx_iincN (i := 4) dX11_goDays_80 rfl (by decide) rfl rfl ?_ | refine rx_iinc (i := 4) dX11_goDays_80 rfl rfl (by decide) rfl rfl ?_
        refine rx_goto (tgt := 44) dX11_goDays_83 (by decide) ?_
        exact ih (d + 1) M1 (by omega) hF (by rw [dlv_n hno]; exact hD) (by omega)
      · skip
        refine rx_aload_n (i := 0) dX11_goDays_63 rfl rfl ?_
        refine rx_getR 150 (k := 11) fo_X11_38 kl_140 (by decide) ti_11_11 (by decide) rfl dX11_goDays_64 ?_
        refine rx_iload (i := 4) dX11_goDays_67 rfl ?_
        refine rx_ialdN kl_150 (by omega) (by first | decide | omega) dX11_goDays_69 ?_
        refine rx_top (nI dd) e150 ?_
        refine rx_iload_n (i := 3) dX11_goDays_70 rfl rfl ?_
        refine rx_icmp_ne (tgt := 80) dX11_goDays_71 (by decide) (fun c71 => ?_) (fun c71 => ?_)
        · skip
          have hno : ((fun k => decide (s1.1 10 k = 0) && decide (s1.1 9 k ≤ s1.1 18 0)) d && decide ((fun k => (s1.1 9 k).toNatClampNeg) d = v)) = false := by
            have : ¬ (s1.1 9 d).toNatClampNeg = v := by rw [eDd]; exact fun q => c71 (by rw [q])
            simp [this]
          first | refine rx_iincN (i := 4) dX11_goDays_80 rfl (by decide) rfl rfl ?_ | refine rx_iinc (i := 4) dX11_goDays_80 rfl rfl (by decide) rfl rfl ?_
          refine rx_goto (tgt := 44) dX11_goDays_83 (by decide) ?_
          exact ih (d + 1) M1 (by omega) hF (by rw [dlv_n hno]; exact hD) (by omega)
        · skip
          have e71 : dd = v := (nI_eq (by omega) (by omega)).mp c71
          have hnot := dlv_not (D := (fun k => (s1.1 9 k).toNatClampNeg)) (p := (fun k => decide (s1.1 10 k = 0) && decide (s1.1 9 k ≤ s1.1 18 0))) (m := m) (v := v) (d := d) (eDd.trans e71)
          have e10 : M1.1 151 d = s1.1 10 d := by rw [← gof_10 (S := S) (z := z) (n := n) (m := m) (s := s1) hnot]; exact congrFun (d1 10 (by omega) (by omega)) d
          have hyes : ((fun k => decide (s1.1 10 k = 0) && decide (s1.1 9 k ≤ s1.1 18 0)) d && decide ((fun k => (s1.1 9 k).toNatClampNeg) d = v)) = true := by
            have a1 : s1.1 10 d = 0 := by rw [← e10]; exact c60
            have a2 : s1.1 9 d ≤ s1.1 18 0 := by rw [e9, h18]; exact nI_le (by omega) (by omega)
            have a3 : (s1.1 9 d).toNatClampNeg = v := eDd.trans e71
            simp [a1, a2, a3]
          refine rx_aload_n (i := 0) dX11_goDays_74 rfl rfl ?_
          refine rx_iload (i := 4) dX11_goDays_75 rfl ?_
          refine rx_callV (ci := 11) mo_X11_goDebt lk_X11_405 (c_X11_goDebt r1 hD (k := d) e50) (by decide) rfl rfl (Nat.le_of_ble_eq_true rfl) kl_140 rfl dX11_goDays_77 ?_
          rintro _ N2 ⟨rfl, hD2, hF2⟩
          first | refine rx_iincN (i := 4) dX11_goDays_80 rfl (by decide) rfl rfl ?_ | refine rx_iinc (i := 4) dX11_goDays_80 rfl rfl (by decide) rfl rfl ?_
          refine rx_goto (tgt := 44) dX11_goDays_83 (by decide) ?_
          exact ih (d + 1) N2 (by omega) (hF.trans hF2) (by rw [dlv_d hyes, List.foldl_append]; exact hD2) (by omega)
set_option maxRecDepth 100000 in
set_option maxHeartbeats 4000000 in
theorem l_goDays_v {M0 : Mem} {n m : Nat} {S : Nat → Int32} {z L : Nat} (r : MR M0 n m S z L) {s1 : DS} {td : Nat} (h9 : ∀ k, k < m → ∃ d, s1.1 9 k = nI d ∧ d ≤ 99) (h18 : s1.1 18 0 = nI td) (htd : td < 2 ^ 30) {n0 e0 : Int32} {QQ : Nat → List (Option Value) → List Value → Mem → Prop} (K : ∀ N v d, frD M0 N → DR N ((dueLst (fun k => (s1.1 9 k).toNatClampNeg) (fun k => decide (s1.1 10 k = 0) && decide (s1.1 9 k ≤ s1.1 18 0)) m).foldl (goT S z n m) s1) → Reach cX11_goDays RX11 5 175 QQ 92 [some (.ref 140), some (.int n0), some (.int e0), some (.int (nI v)), d] [] N) : ∀ (N : Nat) (v : Nat) (M1 : Mem) (dd : Option Value), (v ≤ td + 1) → (frD M0 M1) → (DR M1 ((dlv (fun k => (s1.1 9 k).toNatClampNeg) (fun k => decide (s1.1 10 k = 0) && decide (s1.1 9 k ≤ s1.1 18 0)) m v 0).foldl (goT S z n m) s1)) → td + 1 - v < N → Reach cX11_goDays RX11 5 175 (QQ) 33 [some (.ref 140), some (.int n0), some (.int e0), some (.int (nI v)), dd] [] (M1) := by
  intro N
  induction N with
  | zero => intro v M1 dd hvt hF hD hm; exact absurd ‹_ < 0› (Nat.not_lt_zero _)
  | succ N ih =>
    intro v M1 dd hvt hF hD hm
    have r1 := hF.MR r
    have ⟨d1, d2, d3, d4, d5⟩ := hD
    have e18 : M1.1 140 15 = nI td := by rw [← h18, ← congrFun (gof_c (S := S) (z := z) (n := n) (m := m) (l := dlv (fun k => (s1.1 9 k).toNatClampNeg) (fun k => decide (s1.1 10 k = 0) && decide (s1.1 9 k ≤ s1.1 18 0)) m v 0) (s := s1) (Or.inr rfl)) 0]; exact congrFun (d1 18 (by omega) (by omega)) 0
    have hall : ∀ d, d < m → (fun k => decide (s1.1 10 k = 0) && decide (s1.1 9 k ≤ s1.1 18 0)) d = true → (fun k => (s1.1 9 k).toNatClampNeg) d ≤ td ∧ (fun k => (s1.1 9 k).toNatClampNeg) d ≤ 99 := fun d hd q => by
      obtain ⟨x, e, hx⟩ := h9 d hd
      simp only [Bool.and_eq_true, decide_eq_true_eq, e, h18] at q
      show (s1.1 9 d).toNatClampNeg ≤ td ∧ (s1.1 9 d).toNatClampNeg ≤ 99
      rw [e, nI_clamp (by omega)]
      exact ⟨(nI_leI (by omega) (by omega)).mp q.2, hx⟩
    refine rx_iload_n (i := 3) dX11_goDays_33 rfl rfl ?_
    refine rx_aload_n (i := 0) dX11_goDays_34 rfl rfl ?_
    refine rx_getI (k := 15) fo_X11_402 kl_140 (by decide) ti_11_15 dX11_goDays_35 ?_
    refine rx_top (nI td) e18 ?_
    refine rx_icmp_gt (tgt := 92) dX11_goDays_38 (by decide) (fun c38 => ?_) (fun c38 => ?_)
    · skip
      have e38 : v = td + 1 := by have := (nI_ltI (by omega) (by omega)).mp c38; omega
      subst e38
      exact K M1 _ _ hF (by rw [← dlv_all hall]; exact hD)
    · skip
      have e38 : v ≤ td := (nI_leI (by omega) (by omega)).mp (Int32.not_lt.mp c38)
      refine rx_iconst (0) dX11_goDays_41 rfl ?_
      refine rx_istore (i := 4) dX11_goDays_42 (by decide) rfl rfl ?_
      refine l_goDays_d r h9 h18 htd e38 (fun N hF2 hD2 => ?_) (m + 1) 0 M1 (Nat.zero_le _) hF hD (by have := r.1.2.2.2.1; omega)
      refine rx_iincN (i := 3) dX11_goDays_86 rfl (by decide) rfl rfl ?_
      refine rx_goto (tgt := 33) dX11_goDays_89 (by decide) ?_
      exact ih (v + 1) N _ (by omega) hF2 (by rw [dlv_v]; exact hD2) (by omega)
theorem day_18 {S : Nat → Int32} {z n m : Nat} {s : DS} : (dayT S z n m s).1 18 0 = s.1 18 0 + 1 := by
  unfold dayT
  simp only [setS, if_true]
  rw [gof_c (Or.inr rfl)]
  rfl
theorem days_18 {S : Nat → Int32} {z n m td : Nat} {s : DS} (h : s.1 18 0 = nI td) : ∀ e, (daysT S z n m s e).1 18 0 = nI (td + e)
  | 0 => h
  | e + 1 => by rw [daysT, day_18, days_18 h e, nI_1]; rfl
theorem mv_15 {M : Mem} {x : Int32} : mv (setI M 140 15 x) = setS (mv M) 18 x := by
  funext c j
  simp only [setS]
  match c with
  | 18 => rw [if_pos rfl]; exact sI_eq
  | 0 | 1 | 2 | 3 | 4 | 6 | 7 | 8 | 9 | 10 | 11 | 12 | 13 | 14 | 15 | 16 | 17 | 19 => rw [if_neg (by omega)]; exact sI_ne (by omega)
  | 5 => rw [if_neg (by omega)]; rfl
  | c + 20 => rw [if_neg (by omega)]; rfl
set_option maxRecDepth 100000 in
set_option maxHeartbeats 4000000 in
theorem l_goDays {M0 : Mem} {n m : Nat} {S : Nat → Int32} {z L : Nat} (r : MR M0 n m S z L) {s0 : DS} {td N0 : Nat} (hO : okD s0.1 n m) (h18 : s0.1 18 0 = nI td) (htd : td + N0 < 2 ^ 29) : ∀ (N : Nat) (e : Nat) (M1 : Mem), (e ≤ N0) → (frD M0 M1) → (DR M1 (daysT S z n m s0 e)) → N0 - e < N → Reach cX11_goDays RX11 5 175 (RetQ cX11_goDays none (fun v N => v = none ∧ DR N (daysT S z n m s0 N0) ∧ frD M0 N)) 22 [some (.ref 140), some (.int (nI N0)), some (.int (nI e)), none, none] [] (M1) := by
  intro N
  induction N with
  | zero => intro e M1 he hF hD hm; exact absurd ‹_ < 0› (Nat.not_lt_zero _)
  | succ N ih =>
    intro e M1 he hF hD hm
    have r1 := hF.MR r
    have ⟨d1, d2, d3, d4, d5⟩ := hD
    have hn8 := r.1.2.1
    have hm10 := r.1.2.2.2.1
    have hOe := hO.days (S := S) (z := z) hn8 e
    refine rx_iload_n (i := 2) dX11_goDays_22 rfl rfl ?_
    refine rx_iload_n (i := 1) dX11_goDays_23 rfl rfl ?_
    refine rx_icmp_ge (tgt := 108) dX11_goDays_24 (by decide) (fun c24 => ?_) (fun c24 => ?_)
    · skip
      have f24 := Int32.not_lt.mpr c24
      have e24 : e = N0 := by have := (nI_leI (by omega) (by omega)).mp c24; omega
      subst e24
      exact rx_vret dX11_goDays_108 ⟨rfl, hD, hF⟩
    · skip
      have f24 := Int32.not_le.mp c24
      have e24 : e < N0 := Nat.lt_of_not_le fun q => c24 (nI_le q (by omega))
      refine rx_aload_n (i := 0) dX11_goDays_27 rfl rfl ?_
      refine rx_cvN (ci := 11) mo_X11_takeNoon lk_X11_275 (c_X11_takeNoon r1.1) (by decide) rfl rfl (Nat.le_of_ble_eq_true rfl) kl_140 rfl dX11_goDays_28 ?_
      refine rx_iconst (0) dX11_goDays_31 rfl ?_
      refine rx_istore_n (i := 3) dX11_goDays_32 rfl (by decide) rfl rfl ?_
      refine l_goDays_v r (s1 := (noonT (daysT S z n m s0 e).1 n, (daysT S z n m s0 e).2)) (td := td + e) (fun k hk => (hOe.noon.1.2.2.2 k hk).2.1) (days_18 h18 e) (by omega) (fun N v d hF2 hD2 => ?_) (td + e + 2) 0 (tkM M1 n) _ (Nat.zero_le _) (hF.trans frD_tk) ⟨by rw [mv_tk]; exact d1.noon, (tk_o (by omega)).trans d2, (tk_o (by omega)).trans d3, (tk_o (by omega)).trans d4, (tk_o (by omega)).trans d5⟩ (by omega)
      have ⟨f1, f2, f3, f4, f5⟩ := hD2
      refine rx_aload_n (i := 0) dX11_goDays_92 rfl rfl ?_
      refine rx_dup dX11_goDays_93 rfl ?_
      refine rx_getI (k := 15) fo_X11_402 kl_140 (by decide) ti_11_15 dX11_goDays_94 ?_
      refine rx_iconst (1) dX11_goDays_97 rfl ?_
      refine rx_iadd dX11_goDays_98 ?_
      refine rx_putI (k := 15) fo_X11_402 fn_11_15 kl_140 (by decide) ty_11_15 dX11_goDays_99 ?_
      refine rx_iincN (i := 2) dX11_goDays_102 rfl (by decide) rfl rfl ?_
      refine rx_goto (tgt := 22) dX11_goDays_105 (by decide) ?_
      refine rx_drop 3 ?_
      refine rx_drop 4 ?_
      refine ih (e + 1) _ (by omega) (hF2.trans (frD_I (by omega))) ⟨?_, (sI_ne (by omega)).trans f2, (sI_ne (by omega)).trans f3, (sI_ne (by omega)).trans f4, (sI_ne (by omega)).trans f5⟩ (by omega)
      rw [mv_15, show N.1 140 15 = _ from congrFun (f1 18 (by omega) (by omega)) 0]
      exact alk_setS f1
set_option maxRecDepth 100000 in
set_option maxHeartbeats 4000000 in
theorem c_X11_goDays {M : Mem} {n m : Nat} {S : Nat → Int32} {z L : Nat} (r : MR M n m S z L) {td N0 : Nat} (hO : okD (mv M) n m) (h18 : mv M 18 0 = nI td) (htd : td + N0 < 2 ^ 29) : Con yX11_goDays cX11_goDays 5 none 175 [.ref 140, .int (nI N0)] M (fun v N => v = none ∧ DR N (daysT S z n m (mv M, 0, 0, 0, 0) N0) ∧ frD M N) := by
  refine Con.of (own := RX11) (ls := [some (.ref 140), some (.int (nI N0)), none, none, none]) rfl (by decide +kernel) (Nat.le_of_ble_eq_true rfl) rfl ?_
  refine rx_aload_n (i := 0) dX11_goDays_0 rfl rfl ?_
  refine rx_iconst (0) dX11_goDays_1 rfl ?_
  refine rx_putI (k := 50) fo_X11_390 fn_11_50 kl_140 (by decide) ty_11_50 dX11_goDays_2 ?_
  refine rx_aload_n (i := 0) dX11_goDays_5 rfl rfl ?_
  refine rx_iconst (0) dX11_goDays_6 rfl ?_
  refine rx_putI (k := 51) fo_X11_393 fn_11_51 kl_140 (by decide) ty_11_51 dX11_goDays_7 ?_
  refine rx_aload_n (i := 0) dX11_goDays_10 rfl rfl ?_
  refine rx_iconst (0) dX11_goDays_11 rfl ?_
  refine rx_putI (k := 52) fo_X11_396 fn_11_52 kl_140 (by decide) ty_11_52 dX11_goDays_12 ?_
  refine rx_aload_n (i := 0) dX11_goDays_15 rfl rfl ?_
  refine rx_iconst (0) dX11_goDays_16 rfl ?_
  refine rx_putI (k := 53) fo_X11_399 fn_11_53 kl_140 (by decide) ty_11_53 dX11_goDays_17 ?_
  refine rx_iconst (0) dX11_goDays_20 rfl ?_
  refine rx_istore_n (i := 2) dX11_goDays_21 rfl (by decide) rfl rfl ?_
  have hZ : frD M (setI (setI (setI (setI M 140 50 0) 140 51 0) 140 52 0) 140 53 0) := (((frD_I (by omega)).trans (frD_I (by omega))).trans (frD_I (by omega))).trans (frD_I (by omega))
  refine (l_goDays (M0 := setI (setI (setI (setI M 140 50 0) 140 51 0) 140 52 0) 140 53 0) (hZ.MR r) (s0 := (mv M, 0, 0, 0, 0)) hO h18 htd (N0 + 1) 0 _ (Nat.zero_le _) frD.refl ⟨by rw [mv_I (by omega), mv_I (by omega), mv_I (by omega), mv_I (by omega)]; exact alk.refl, (sI_ne (by omega)).trans sI_eq, (sI_ne (by omega)).trans ((sI_ne (by omega)).trans ((sI_ne (by omega)).trans sI_eq)), (sI_ne (by omega)).trans ((sI_ne (by omega)).trans sI_eq), sI_eq⟩ (by omega)).mono ?_
  rintro pc' ls' st' N ⟨v, h1, ⟨h2, h3, h4⟩, h5⟩
  exact ⟨v, h1, ⟨h2, h3, hZ.trans h4⟩, h5⟩
