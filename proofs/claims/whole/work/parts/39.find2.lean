/-- what a search for a state answers -/
def fdQ (M : Mem) (S : SS) (mk : Int32) (c : Nat → Nat) (v : Option Value) (M' : Mem) : Prop :=
  (∃ s, s < S.N ∧ S.is mk c s ∧ v = some (.int (nI s)) ∧ M' = M) ∨
  ((∀ s, s < S.N → ¬ S.is mk c s) ∧ ((S.N < 3000 ∧ v = some (.int (nI S.N)) ∧ repC M' (S.add mk c) ∧ ∃ p, M' = nwM M p S.N mk (lN (p4 c 0)) (lN (p4 c 1))) ∨ (S.N = 3000 ∧ v = some (.int (-1)) ∧ M' = M)))
theorem hs_is {S : SS} {mk : Int32} {c : Nat → Nat} {s : Nat} (h : S.is mk c s) : hsS S s = hsN mk (lN (p4 c 0)) (lN (p4 c 1)) := by
  unfold hsS
  rw [h.1, p4_congr h.2 (by decide), p4_congr h.2 (by decide)]
set_option maxRecDepth 100000 in
set_option maxHeartbeats 4000000 in
theorem l_X5_find {M : Mem} {S : SS} {tb : Nat → Nat} (hR : repT M S tb) {mk : Int32} {c : Nat → Nat} (hc : ∀ i, c i < 65536) {z : Int64} : ∀ (N : Nat) (i : Nat), (i ≤ 8192) → (∀ e, e < i → tb ((hsN mk (lN (p4 c 0)) (lN (p4 c 1)) + e) % 8192) ≠ 0 ∧ ¬ S.is mk c (tb ((hsN mk (lN (p4 c 0)) (lN (p4 c 1)) + e) % 8192) - 1)) → 8192 - i < N → Reach cX5_find RX5 11 1 (RetQ cX5_find (some .int) (fdQ M S mk c)) 36 [some (.ref 19), some (.int mk), some (.long (lN (p4 c 0))), none, some (.long (lN (p4 c 1))), none, some (.long z), none, some (.int (nI ((hsN mk (lN (p4 c 0)) (lN (p4 c 1)) + i) % 8192))), some (.int (nI i)), none] [] (M) := by
  intro N
  induction N with
  | zero => intro i hi hb hm; exact absurd ‹_ < 0› (Nat.not_lt_zero _)
  | succ N ih =>
    intro i hi hb hm
    have ⟨h1, h2, h3, h4, h5⟩ := hR
    refine rx_iload (i := 9) dX5_find_36 rfl ?_
    refine rx_sipush (8192) dX5_find_38 rfl ?_
    refine rx_icmp_ge (tgt := 126) dX5_find_41 (by decide) (fun c41 => ?_) (fun c41 => ?_)
    · skip
      have f41 := Int32.not_lt.mpr c41
      have e41 := (nI_leI (a := 8192) (by omega) (by omega)).mp c41
      exact (h5.full (h := hsN mk (lN (p4 c 0)) (lN (p4 c 1))) (by omega) (fun e he => (hb e (by omega)).1)).elim
    · skip
      have f41 := Int32.not_le.mp c41
      have e41 : i < 8192 := Nat.lt_of_not_le fun q => c41 (nI_le q (by omega))
      have htl := h5.1 ((hsN mk (lN (p4 c 0)) (lN (p4 c 1)) + i) % 8192) (Nat.mod_lt _ (by decide))
      refine rx_aload_n (i := 0) dX5_find_44 rfl rfl ?_
      refine rx_getR 26 (k := 7) fo_X5_38 kl_19 (by decide) ti_5_7 (by decide) rfl dX5_find_45 ?_
      refine rx_iload (i := 8) dX5_find_48 rfl ?_
      refine rx_ialdN kl_26 (Nat.mod_lt _ (by decide)) (by first | decide | omega) dX5_find_50 ?_
      refine rx_top (nI (tb ((hsN mk (lN (p4 c 0)) (lN (p4 c 1)) + i) % 8192))) (h4 _ (Nat.mod_lt _ (by decide))) ?_
      refine rx_iconst (1) dX5_find_51 rfl ?_
      refine rx_isub dX5_find_52 ?_
      by_cases hz : tb ((hsN mk (lN (p4 c 0)) (lN (p4 c 1)) + i) % 8192) = 0
      · skip
        have hno := h5.none (ok := fun s => S.is mk c s) (h := hsN mk (lN (p4 c 0)) (lN (p4 c 1))) (i := i) (fun s _ h => hs_is h) hz hb
        refine rx_top (-1) (by rw [hz]; decide) ?_
        refine rx_istore (i := 10) dX5_find_53 (by decide) rfl rfl ?_
        refine rx_iload (i := 10) dX5_find_55 rfl ?_
        refine rx_if_ge (tgt := 71) dX5_find_57 (by decide) (fun c57 => absurd c57 (by decide)) (fun c57 => ?_)
        refine rx_aload_n (i := 0) dX5_find_60 rfl rfl ?_
        refine rx_iload (i := 8) dX5_find_61 rfl ?_
        refine rx_iload_n (i := 1) dX5_find_63 rfl rfl ?_
        refine rx_lload_n (i := 2) dX5_find_64 rfl rfl ?_
        refine rx_lload (i := 4) dX5_find_65 rfl ?_
        by_cases hN : S.N < 3000
        · skip
          refine rx_cvI (ci := 5) mo_X5_newState lk_X5_148 (c_X5_newState (by omega) h1 hN) (by decide) rfl rfl (Nat.le_of_ble_eq_true rfl) kl_19 rfl dX5_find_67 ?_
          exact rx_iret dX5_find_70 (Or.inr ⟨hno, Or.inl ⟨hN, rfl, rep_new ⟨h1, h2, h3, h4, h5⟩ hc hN (by omega) hz (fun e he => (hb e he).1), _, rfl⟩⟩)
        · skip
          refine rx_cvI (ci := 5) mo_X5_newState lk_X5_148 (c_X5_newState_no h1 (by omega)) (by decide) rfl rfl (Nat.le_of_ble_eq_true rfl) kl_19 rfl dX5_find_67 ?_
          exact rx_iret dX5_find_70 (Or.inr ⟨hno, Or.inr ⟨by omega, rfl, rfl⟩⟩)
      · skip
        obtain ⟨t, ht⟩ : ∃ t, tb ((hsN mk (lN (p4 c 0)) (lN (p4 c 1)) + i) % 8192) = t + 1 := ⟨tb ((hsN mk (lN (p4 c 0)) (lN (p4 c 1)) + i) % 8192) - 1, by omega⟩
        have hE := h3 t (by omega)
        refine rx_top (nI t) (by rw [ht]; exact nI_pred t) ?_
        refine rx_istore (i := 10) dX5_find_53 (by decide) rfl rfl ?_
        refine rx_iload (i := 10) dX5_find_55 rfl ?_
        refine rx_if_ge (tgt := 71) dX5_find_57 (by decide) (fun c57 => ?_) (fun c57 => absurd (nI_pos' (by omega)) c57)
        refine rx_aload_n (i := 0) dX5_find_71 rfl rfl ?_
        refine rx_getR 24 (k := 5) fo_X5_31 kl_19 (by decide) ti_5_5 (by decide) rfl dX5_find_72 ?_
        refine rx_iload (i := 10) dX5_find_75 rfl ?_
        refine rx_ialdN kl_24 (by omega) (by first | decide | omega) dX5_find_77 ?_
        refine rx_top (S.mk t) hE.1 ?_
        refine rx_iload_n (i := 1) dX5_find_78 rfl rfl ?_
        refine rx_icmp_ne (tgt := 110) dX5_find_79 (by decide) (fun c79 => ?_) (fun c79 => ?_)
        · skip
          have hni : ¬ S.is mk c t := fun q => c79 q.1
          refine rx_iload (i := 8) dX5_find_110 rfl ?_
          refine rx_iconst (1) dX5_find_112 rfl ?_
          refine rx_iadd dX5_find_113 ?_
          refine rx_top (nI (((hsN mk (lN (p4 c 0)) (lN (p4 c 1)) + i) % 8192) + 1)) (nI_1 _) ?_
          refine rx_sipush (8191) dX5_find_114 rfl ?_
          refine rx_iand dX5_find_117 ?_
          refine rx_top (nI ((hsN mk (lN (p4 c 0)) (lN (p4 c 1)) + (i + 1)) % 8192)) (by rw [and13]; congr 1; omega) ?_
          refine rx_istore (i := 8) dX5_find_118 (by decide) rfl rfl ?_
          first | refine rx_iincN (i := 9) dX5_find_120 rfl (by decide) rfl rfl ?_ | refine rx_iinc (i := 9) dX5_find_120 rfl rfl (by decide) rfl rfl ?_
          refine rx_goto (tgt := 36) dX5_find_123 (by decide) ?_
          refine rx_drop 10 ?_
          exact ih (i + 1) (by omega) (fun e he => if q : e = i then q ▸ ⟨by omega, by rw [ht]; exact hni⟩ else hb e (by omega)) (by omega)
        · skip
          refine rx_aload_n (i := 0) dX5_find_82 rfl rfl ?_
          refine rx_getR 20 (k := 1) fo_X5_18 kl_19 (by decide) ti_5_1 (by decide) rfl dX5_find_83 ?_
          refine rx_iload (i := 10) dX5_find_86 rfl ?_
          refine rx_laldN kl_20 (by omega) (by first | decide | omega) dX5_find_88 ?_
          refine rx_topL (lN (p4 (S.co t) 0)) hE.2.1 ?_
          refine rx_lload_n (i := 2) dX5_find_89 rfl rfl ?_
          refine rx_lcmp dX5_find_90 ?_
          refine rx_if_ne (tgt := 110) dX5_find_91 (by decide) (fun c91 => ?_) (fun c91 => ?_)
          · skip
            have hni : ¬ S.is mk c t := fun q => c91 ((lg_cmp_eq _ _).mpr (by rw [p4_congr q.2 (by decide)]))
            refine rx_iload (i := 8) dX5_find_110 rfl ?_
            refine rx_iconst (1) dX5_find_112 rfl ?_
            refine rx_iadd dX5_find_113 ?_
            refine rx_top (nI (((hsN mk (lN (p4 c 0)) (lN (p4 c 1)) + i) % 8192) + 1)) (nI_1 _) ?_
            refine rx_sipush (8191) dX5_find_114 rfl ?_
            refine rx_iand dX5_find_117 ?_
            refine rx_top (nI ((hsN mk (lN (p4 c 0)) (lN (p4 c 1)) + (i + 1)) % 8192)) (by rw [and13]; congr 1; omega) ?_
            refine rx_istore (i := 8) dX5_find_118 (by decide) rfl rfl ?_
            first | refine rx_iincN (i := 9) dX5_find_120 rfl (by decide) rfl rfl ?_ | refine rx_iinc (i := 9) dX5_find_120 rfl rfl (by decide) rfl rfl ?_
            refine rx_goto (tgt := 36) dX5_find_123 (by decide) ?_
            refine rx_drop 10 ?_
            exact ih (i + 1) (by omega) (fun e he => if q : e = i then q ▸ ⟨by omega, by rw [ht]; exact hni⟩ else hb e (by omega)) (by omega)
          · skip
            have e91 : p4 (S.co t) 0 = p4 c 0 := (lN_inj (p4_lt hE.2.2.2.2.2.2 _) (p4_lt hc _)).mp ((lg_cmp_eq _ _).mp c91)
            refine rx_aload_n (i := 0) dX5_find_94 rfl rfl ?_
            refine rx_getR 21 (k := 2) fo_X5_22 kl_19 (by decide) ti_5_2 (by decide) rfl dX5_find_95 ?_
            refine rx_iload (i := 10) dX5_find_98 rfl ?_
            refine rx_laldN kl_21 (by omega) (by first | decide | omega) dX5_find_100 ?_
            refine rx_topL (lN (p4 (S.co t) 1)) hE.2.2.1 ?_
            refine rx_lload (i := 4) dX5_find_101 rfl ?_
            refine rx_lcmp dX5_find_103 ?_
            refine rx_if_ne (tgt := 110) dX5_find_104 (by decide) (fun c104 => ?_) (fun c104 => ?_)
            · skip
              have hni : ¬ S.is mk c t := fun q => c104 ((lg_cmp_eq _ _).mpr (by rw [p4_congr q.2 (by decide)]))
              refine rx_iload (i := 8) dX5_find_110 rfl ?_
              refine rx_iconst (1) dX5_find_112 rfl ?_
              refine rx_iadd dX5_find_113 ?_
              refine rx_top (nI (((hsN mk (lN (p4 c 0)) (lN (p4 c 1)) + i) % 8192) + 1)) (nI_1 _) ?_
              refine rx_sipush (8191) dX5_find_114 rfl ?_
              refine rx_iand dX5_find_117 ?_
              refine rx_top (nI ((hsN mk (lN (p4 c 0)) (lN (p4 c 1)) + (i + 1)) % 8192)) (by rw [and13]; congr 1; omega) ?_
              refine rx_istore (i := 8) dX5_find_118 (by decide) rfl rfl ?_
              first | refine rx_iincN (i := 9) dX5_find_120 rfl (by decide) rfl rfl ?_ | refine rx_iinc (i := 9) dX5_find_120 rfl rfl (by decide) rfl rfl ?_
              refine rx_goto (tgt := 36) dX5_find_123 (by decide) ?_
              refine rx_drop 10 ?_
              exact ih (i + 1) (by omega) (fun e he => if q : e = i then q ▸ ⟨by omega, by rw [ht]; exact hni⟩ else hb e (by omega)) (by omega)
            · skip
              have e104 : p4 (S.co t) 1 = p4 c 1 := (lN_inj (p4_lt hE.2.2.2.2.2.2 _) (p4_lt hc _)).mp ((lg_cmp_eq _ _).mp c104)
              refine rx_iload (i := 10) dX5_find_107 rfl ?_
              exact rx_iret dX5_find_109 (Or.inl ⟨t, by omega, ⟨c79, p4_inj hE.2.2.2.2.2.2 hc e91 e104⟩, rfl, rfl⟩)
set_option maxRecDepth 100000 in
set_option maxHeartbeats 4000000 in
theorem c_X5_find {M : Mem} {S : SS} (hR : repC M S) {mk : Int32} {c : Nat → Nat} (hc : ∀ i, c i < 65536) : Con yX5_find cX5_find 11 (some .int) 1 [.ref 19, .int mk, .long (lN (p4 c 0)), .long (lN (p4 c 1))] M (fdQ M S mk c) := by
  refine Con.of (own := RX5) (ls := [some (.ref 19), some (.int mk), some (.long (lN (p4 c 0))), none, some (.long (lN (p4 c 1))), none, none, none, none, none, none]) rfl (by decide +kernel) (Nat.le_of_ble_eq_true rfl) rfl ?_
  refine rx_lload_n (i := 2) dX5_find_0 rfl rfl ?_
  refine rx_ldc2 (own := RX5) (v := (31)) (List.mem_of_getElem? (i := 1045) (by decide +kernel)) dX5_find_1 ?_
  refine rx_lmul dX5_find_4 ?_
  refine rx_lload (i := 4) dX5_find_5 rfl ?_
  refine rx_ladd dX5_find_7 ?_
  refine rx_ldc2 (own := RX5) (v := (-7046029254386353131)) (List.mem_of_getElem? (i := 1046) (by decide +kernel)) dX5_find_8 ?_
  refine rx_lmul dX5_find_11 ?_
  refine rx_iload_n (i := 1) dX5_find_12 rfl rfl ?_
  refine rx_i2l dX5_find_13 rfl ?_
  refine rx_ldc2 (own := RX5) (v := (2685821657736338717)) (List.mem_of_getElem? (i := 1047) (by decide +kernel)) dX5_find_14 ?_
  refine rx_lmul dX5_find_17 ?_
  refine rx_ladd dX5_find_18 ?_
  refine rx_lstore (i := 6) dX5_find_19 (by decide) rfl rfl ?_
  refine rx_lload (i := 6) dX5_find_21 rfl ?_
  refine rx_bipush (40) dX5_find_23 rfl ?_
  refine rx_lushr dX5_find_25 rfl ?_
  refine rx_l2i dX5_find_26 rfl ?_
  refine rx_sipush (8191) dX5_find_27 rfl ?_
  refine rx_iand dX5_find_30 ?_
  refine rx_top (nI ((hsN mk (lN (p4 c 0)) (lN (p4 c 1)) + 0) % 8192)) (hsN_I.1.trans (by rw [Nat.add_zero, Nat.mod_eq_of_lt hsN_I.2])) ?_
  refine rx_istore (i := 8) dX5_find_31 (by decide) rfl rfl ?_
  refine rx_iconst (0) dX5_find_33 rfl ?_
  refine rx_istore (i := 9) dX5_find_34 (by decide) rfl rfl ?_
  obtain ⟨tb, hR⟩ := hR
  exact l_X5_find hR hc (8192 + 1) 0 (Nat.zero_le _) (fun e he => absurd he (Nat.not_lt_zero _)) (by omega)
