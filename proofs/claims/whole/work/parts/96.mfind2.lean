theorem nI_pos0 {a : Nat} (h : a < 2 ^ 31) : ¬ nI (a + 1) ≤ 0 ∨ a + 1 = 2 ^ 31 := by
  by_cases q : a + 1 = 2 ^ 31
  · exact Or.inr q
  · refine Or.inl fun z => ?_
    rw [i_le, nI_toInt (by omega), i_0] at z
    omega
set_option maxRecDepth 100000 in
set_option maxHeartbeats 4000000 in
theorem l_findOut {M0 : Mem} {n m : Nat} {these day : Int32} (w0 : MW M0 n m) (hs0 : sortOK (M0.1 153 0)) (hth : M0.1 140 46 = these) (ht : thOK (mv M0) m these) (hO : OKS (mv M0) n m) (hA : AOK (mv M0) n) {QQ : Nat → List (Option Value) → List Value → Mem → Prop} (KT : ∀ N S s D rk W, (vis (mv M0) n m these).1 = (true, S) → s + 1 = S.N → MI M0 N (mv M0) n these S s 80 D rk → PI (mv M0) n m these S s 60 D rk W → Reach cX11_findStates RX11 9 4 QQ 377 [some (.ref 140), some (.int day), some (.int 1), none, none, none, none, none, none] [] (N)) (KF : ∀ N, (msF M0 N n ∧ ∃ W, N.1 140 44 = nI W ∧ W ≤ 3000) → (vis (mv M0) n m these).1.1 = false → Reach cX11_findStates RX11 9 4 QQ 377 [some (.ref 140), some (.int day), some (.int 0), none, none, none, none, none, none] [] (N)) : ∀ (N : Nat) (p : Nat) (M : Mem) (S : SS) (x : XS) (Dd : Nat → Nat × Nat × Nat) (rk : Nat → Nat) (W : Nat → Nat), (vrun (mv M0) n m these (3001 - (p + 1)) (p + 1) x = vis (mv M0) n m these) → (x.1 = (true, S)) → (MI M0 M (mv M0) n these S p 80 Dd rk) → (PI (mv M0) n m these S p 60 Dd rk W) → 3001 - p < N → Reach cX11_findStates RX11 9 4 (QQ) 95 [some (.ref 140), some (.int day), some (.int 1), some (.int (nI (p + 1))), none, none, none, none, none] [] (M) := by
  intro N
  induction N with
  | zero => intro p M S x Dd rk W hvis hx1 hM hP hm; exact absurd ‹_ < 0› (Nat.not_lt_zero _)
  | succ N ih =>
    intro p M S x Dd rk W hvis hx1 hM hP hm
    obtain ⟨wn, hn8, wm, hm10, wd⟩ := id w0
    have hs := hP.2.1
    have hN3 := (repM_N hM.2.1).2
    have hf := hM.1
    refine rx_iload_n (i := 3) dX11_findStates_95 rfl rfl ?_
    refine rx_aload_n (i := 0) dX11_findStates_96 rfl rfl ?_
    refine rx_getI (k := 44) fo_X11_325 kl_140 (by decide) ti_11_44 dX11_findStates_97 ?_
    refine rx_top (nI S.N) ((repM_N hM.2.1).1) ?_
    refine rx_icmp_ge (tgt := 377) dX11_findStates_100 (by decide) (fun c100 => ?_) (fun c100 => ?_)
    · skip
      have e100 : p + 1 = S.N := by have := (nI_leI (by omega) (by omega)).mp c100; omega
      refine rx_drop 3 ?_
      exact KT M S p Dd rk W (by rw [← hvis, vrun_stop (by rw [hx1]; exact fun z => absurd z.1 (by show ¬ p + 1 < S.N; omega))]; exact hx1) e100 hM hP
      skip
    · skip
      have e100 : p + 1 < S.N := Nat.lt_of_not_le fun z => c100 (nI_le z (by omega))
      refine rx_iload_n (i := 2) dX11_findStates_103 rfl rfl ?_
      refine rx_if_eq (tgt := 377) dX11_findStates_104 (by decide) (fun c104 => absurd c104 (by decide)) (fun c104 => ?_)
      refine rx_iload_n (i := 3) dX11_findStates_107 rfl rfl ?_
      refine rx_if_le (tgt := 139) dX11_findStates_108 (by decide) (fun c108 => ?_) (fun c108 => ?_)
      · skip
        exact absurd c108 ((nI_pos0 (a := p) (by omega)).resolve_right (by omega))
        skip
      · skip
        refine rx_aload_n (i := 0) dX11_findStates_111 rfl rfl ?_
        refine rx_getR 159 (k := 35) fo_X11_74 kl_140 (by decide) ti_11_35 (by decide) rfl dX11_findStates_112 ?_
        refine rx_iload_n (i := 3) dX11_findStates_115 rfl rfl ?_
        refine rx_ialdN kl_159 (by omega) (by first | decide | omega) dX11_findStates_116 ?_
        refine rx_top (S.mk (p + 1)) ((repM_s hM.2.1 e100).1) ?_
        refine rx_csI mo_J6_bitCount_0f7a4 lk_X11_337 c_J6_bitCount_0f7a4 (by decide) rfl rfl (Nat.le_of_ble_eq_true rfl) dX11_findStates_117 ?_
        refine rx_top (nI (pcS S (p + 1))) (bcS ht hm10 hP.1 e100) ?_
        refine rx_aload_n (i := 0) dX11_findStates_120 rfl rfl ?_
        refine rx_getR 159 (k := 35) fo_X11_74 kl_140 (by decide) ti_11_35 (by decide) rfl dX11_findStates_121 ?_
        refine rx_iload_n (i := 3) dX11_findStates_124 rfl rfl ?_
        refine rx_iconst (1) dX11_findStates_125 rfl ?_
        refine rx_isub dX11_findStates_126 ?_
        refine rx_top (nI p) (nI_m 1 1 rfl (by omega)) ?_
        refine rx_ialdN kl_159 (by omega) (by first | decide | omega) dX11_findStates_127 ?_
        refine rx_top (S.mk p) ((repM_s hM.2.1 hs).1) ?_
        refine rx_csI mo_J6_bitCount_0f7a4 lk_X11_337 c_J6_bitCount_0f7a4 (by decide) rfl rfl (Nat.le_of_ble_eq_true rfl) dX11_findStates_128 ?_
        refine rx_top (nI (pcS S p)) (bcS ht hm10 hP.1 hs) ?_
        refine rx_icmp_eq (tgt := 139) dX11_findStates_131 (by decide) (fun c131 => ?_) (fun c131 => ?_)
        · skip
          have hp1 : pcS S (p + 1) ≤ 10 := pcN_le
          have hp2 : pcS S p ≤ 10 := pcN_le
          have hMP := next_same hM hP e100 ((nI_eq (by omega) (by omega)).mp c131)
          refine rx_iconst (0) dX11_findStates_139 rfl ?_
          refine rx_istore (i := 4) dX11_findStates_140 (by decide) rfl rfl ?_
          have hvs : vrun (mv M0) n m these (3001 - (p + 1)) (p + 1) x = vrun (mv M0) n m these (3001 - (p + 2)) (p + 2) (lvs (ldT (mv M0) n (S.co (p + 1))) n (p + 1) (S.mk (p + 1)) (S.co (p + 1)) (S.pr (p + 1)) (S.rw (p + 1)) these m x) := by
            rw [show 3001 - (p + 1) = 3001 - (p + 2) + 1 by omega, vrun_go (by rw [hx1]; exact e100) (by rw [hx1]), hx1]
          rw [hvs] at hvis
          have hx80 := mrun_80 (T := mv M0) (n := n) (s := p + 1) (m := m) (mk0 := S.mk (p + 1)) (c0 := S.co (p + 1)) (p0 := S.pr (p + 1)) (r0 := S.rw (p + 1)) (these := these) (x := x) hn8 hm10 ht
          rw [hx1] at hx80
          refine l_findIn (x := (true, S)) (rk := rk) w0 hs0 hth ht hO hA (fun N S2 D2 W2 r1 r2 r3 r4 => ?_) (fun N r1 r2 => ?_) 81 0 _ S Dd W 0 (by omega) rfl ⟨rfl, rfl, rfl, rfl⟩ hMP.1 hMP.2 (by omega) (fun _ _ _ _ _ => Nat.zero_le _) (by omega)
          · skip
            rw [hx80] at r1
            first | refine rx_iincN (i := 3) dX11_findStates_371 rfl (by decide) rfl rfl ?_ | refine rx_iinc (i := 3) dX11_findStates_371 rfl rfl (by decide) rfl rfl ?_
            refine rx_goto (tgt := 95) dX11_findStates_374 (by decide) ?_
            exact ih (p + 1) N S2 (lvs (ldT (mv M0) n (S.co (p + 1))) n (p + 1) (S.mk (p + 1)) (S.co (p + 1)) (S.pr (p + 1)) (S.rw (p + 1)) these m x) D2 (rk) W2 hvis r1 r3 r4 (by have := (repM_N r3.2.1).2; have := r4.2.1; omega)
          · skip
            skip
            have hff : ((lvs (ldT (mv M0) n (S.co (p + 1))) n (p + 1) (S.mk (p + 1)) (S.co (p + 1)) (S.pr (p + 1)) (S.rw (p + 1)) these m x)).1.1 = false := by rw [← hx80]; exact r2
            first | refine rx_iincN (i := 3) dX11_findStates_371 rfl (by decide) rfl rfl ?_ | refine rx_iinc (i := 3) dX11_findStates_371 rfl rfl (by decide) rfl rfl ?_
            refine rx_goto (tgt := 95) dX11_findStates_374 (by decide) ?_
            refine rx_iload_n (i := 3) dX11_findStates_95 rfl rfl ?_
            refine rx_aload_n (i := 0) dX11_findStates_96 rfl rfl ?_
            refine rx_getI (k := 44) fo_X11_325 kl_140 (by decide) ti_11_44 dX11_findStates_97 ?_
            refine rx_icmp_ge (tgt := 377) dX11_findStates_100 (by decide) (fun c100 => ?_) (fun c100 => ?_)
            · skip
              have f100 := Int32.not_lt.mpr c100
              refine rx_drop 3 ?_
              exact KF _ r1 (by rw [← hvis, vrun_stop (fun z => by rw [z.2] at hff; cases hff)]; exact hff)
            · skip
              have f100 := Int32.not_le.mp c100
              refine rx_iload_n (i := 2) dX11_findStates_103 rfl rfl ?_
              refine rx_if_eq (tgt := 377) dX11_findStates_104 (by decide) (fun c104 => ?_) (fun c104 => absurd c104 (by decide))
              refine rx_drop 3 ?_
              exact KF _ r1 (by rw [← hvis, vrun_stop (fun z => by rw [z.2] at hff; cases hff)]; exact hff)
        · skip
          have hp1 : pcS S (p + 1) ≤ 10 := pcN_le
          have hp2 : pcS S p ≤ 10 := pcN_le
          have hne : ¬ pcS S (p + 1) = pcS S p := fun z => c131 (by rw [z])
          have hMP := next_new ht hn8 hm10 hO hM hP e100 hne
          obtain ⟨l1, l2⟩ := lay_new hP e100 hne
          refine rx_aload_n (i := 0) dX11_findStates_134 rfl rfl ?_
          refine rx_iload_n (i := 3) dX11_findStates_135 rfl rfl ?_
          refine rx_cvN (ci := 11) mo_X11_orderLayer lk_X11_342 (c_X11_orderLayer (W := S.N) (f := p + 1) (e := S.N) (pa := fun o => (Dd o).1) hN3 (Nat.le_refl _) (fun o h1 h2 => ⟨by have := (hP.2.2.2.1 o (by omega) h2).2.1; omega, (hM.2.2.2.1.2 o (by omega) h2).1⟩) (by omega) (repM_N hM.2.1).1 (fun o h1 h2 => by rw [(repM_s hM.2.1 h2).1, (repM_s hM.2.1 e100).1, bcS ht hm10 hP.1 h2, bcS ht hm10 hP.1 e100, l2 o h1 h2]) (fun z => absurd z (Nat.lt_irrefl _)) e100) (by decide) rfl rfl (Nat.le_of_ble_eq_true rfl) kl_140 rfl dX11_findStates_136 ?_
          refine rx_iconst (0) dX11_findStates_139 rfl ?_
          refine rx_istore (i := 4) dX11_findStates_140 (by decide) rfl rfl ?_
          have hvs : vrun (mv M0) n m these (3001 - (p + 1)) (p + 1) x = vrun (mv M0) n m these (3001 - (p + 2)) (p + 2) (lvs (ldT (mv M0) n (S.co (p + 1))) n (p + 1) (S.mk (p + 1)) (S.co (p + 1)) (S.pr (p + 1)) (S.rw (p + 1)) these m x) := by
            rw [show 3001 - (p + 1) = 3001 - (p + 2) + 1 by omega, vrun_go (by rw [hx1]; exact e100) (by rw [hx1]), hx1]
          rw [hvs] at hvis
          have hx80 := mrun_80 (T := mv M0) (n := n) (s := p + 1) (m := m) (mk0 := S.mk (p + 1)) (c0 := S.co (p + 1)) (p0 := S.pr (p + 1)) (r0 := S.rw (p + 1)) (these := these) (x := x) hn8 hm10 ht
          rw [hx1] at hx80
          refine l_findIn (x := (true, S)) (rk := rkD S rk p) w0 hs0 hth ht hO hA (fun N S2 D2 W2 r1 r2 r3 r4 => ?_) (fun N r1 r2 => ?_) 81 0 _ S Dd W 0 (by omega) rfl ⟨rfl, rfl, rfl, rfl⟩ hMP.1 hMP.2 (by omega) (fun _ _ _ _ _ => Nat.zero_le _) (by omega)
          · skip
            rw [hx80] at r1
            first | refine rx_iincN (i := 3) dX11_findStates_371 rfl (by decide) rfl rfl ?_ | refine rx_iinc (i := 3) dX11_findStates_371 rfl rfl (by decide) rfl rfl ?_
            refine rx_goto (tgt := 95) dX11_findStates_374 (by decide) ?_
            exact ih (p + 1) N S2 (lvs (ldT (mv M0) n (S.co (p + 1))) n (p + 1) (S.mk (p + 1)) (S.co (p + 1)) (S.pr (p + 1)) (S.rw (p + 1)) these m x) D2 (rkD S rk p) W2 hvis r1 r3 r4 (by have := (repM_N r3.2.1).2; have := r4.2.1; omega)
          · skip
            skip
            have hff : ((lvs (ldT (mv M0) n (S.co (p + 1))) n (p + 1) (S.mk (p + 1)) (S.co (p + 1)) (S.pr (p + 1)) (S.rw (p + 1)) these m x)).1.1 = false := by rw [← hx80]; exact r2
            first | refine rx_iincN (i := 3) dX11_findStates_371 rfl (by decide) rfl rfl ?_ | refine rx_iinc (i := 3) dX11_findStates_371 rfl rfl (by decide) rfl rfl ?_
            refine rx_goto (tgt := 95) dX11_findStates_374 (by decide) ?_
            refine rx_iload_n (i := 3) dX11_findStates_95 rfl rfl ?_
            refine rx_aload_n (i := 0) dX11_findStates_96 rfl rfl ?_
            refine rx_getI (k := 44) fo_X11_325 kl_140 (by decide) ti_11_44 dX11_findStates_97 ?_
            refine rx_icmp_ge (tgt := 377) dX11_findStates_100 (by decide) (fun c100 => ?_) (fun c100 => ?_)
            · skip
              have f100 := Int32.not_lt.mpr c100
              refine rx_drop 3 ?_
              exact KF _ r1 (by rw [← hvis, vrun_stop (fun z => by rw [z.2] at hff; cases hff)]; exact hff)
            · skip
              have f100 := Int32.not_le.mp c100
              refine rx_iload_n (i := 2) dX11_findStates_103 rfl rfl ?_
              refine rx_if_eq (tgt := 377) dX11_findStates_104 (by decide) (fun c104 => ?_) (fun c104 => absurd c104 (by decide))
              refine rx_drop 3 ?_
              exact KF _ r1 (by rw [← hvis, vrun_stop (fun z => by rw [z.2] at hff; cases hff)]; exact hff)
