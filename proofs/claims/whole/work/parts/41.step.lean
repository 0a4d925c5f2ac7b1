/-- only what the states are kept in has changed -/
def stF (M N : Mem) : Prop := (∀ a j, (a < 19 ∨ 26 < a ∨ (a = 19 ∧ j ≠ 9 ∧ j ≠ 14)) → N.1 a j = M.1 a j) ∧ (∀ a, (a < 20 ∨ 23 < a) → N.2.1 a = M.2.1 a) ∧ N.2.2 = M.2.2
theorem stF.refl {M : Mem} : stF M M := ⟨fun _ _ _ => rfl, fun _ _ => rfl, rfl⟩
theorem stF.trans {M N K : Mem} (h : stF M N) (h2 : stF N K) : stF M K := ⟨fun a j q => (h2.1 a j q).trans (h.1 a j q), fun a q => (h2.2.1 a q).trans (h.2.1 a q), h2.2.2.trans h.2.2⟩
theorem stF_J {M : Mem} {a k : Nat} {x : Int64} (h : 20 ≤ a ∧ a ≤ 23) : stF M (setJ M a k x) := ⟨fun _ _ _ => rfl, fun b hb => by funext j; exact if_neg (by omega), rfl⟩
theorem stF_I {M : Mem} {a k : Nat} {x : Int32} (h : (20 ≤ a ∧ a ≤ 26) ∨ (a = 19 ∧ (k = 9 ∨ k = 14))) : stF M (setI M a k x) := ⟨fun b j hb => if_neg (by omega), fun _ _ => rfl, rfl⟩
theorem stF_nw {M : Mem} {p N : Nat} {mk : Int32} {a b : Int64} : stF M (nwM M p N mk a b) :=
  ((((((((stF_I (by omega)).trans (stF_I (by omega))).trans (stF_I (by omega))).trans (stF_J (by omega))).trans (stF_J (by omega))).trans (stF_J (by omega))).trans (stF_I (by omega))).trans (stF_J (by omega)))
theorem nw_14 {M : Mem} {p N : Nat} {mk : Int32} {a b : Int64} : (nwM M p N mk a b).1 19 14 = M.1 19 14 := nw_o (by omega)
theorem sJ_na {M : Mem} {a k b j : Nat} {x : Int64} (h : b ≠ a) : (setJ M a k x).2.1 b j = M.2.1 b j := if_neg fun q => h q.1
section
variable {S : SS} {s t : Nat} {cost : Int32} {row j : Nat}
theorem ld_mk : (S.lead s t cost row).mk j = S.mk j := rfl
theorem ld_co : (S.lead s t cost row).co j = S.co j := rfl
theorem ld_wy : (S.lead s t cost row).wy j = if j = t then S.wy t + S.wy s else S.wy j := rfl
theorem ld_pr : (S.lead s t cost row).pr j = if (cost < S.pr t ∨ (cost = S.pr t ∧ row < S.rw t)) ∧ j = t then cost else S.pr j := by
  show (if cost < S.pr t ∨ (cost = S.pr t ∧ row < S.rw t) then upd S.pr t cost else S.pr) j = _
  by_cases h : cost < S.pr t ∨ (cost = S.pr t ∧ row < S.rw t) <;> simp [h, upd]
theorem ld_rw : (S.lead s t cost row).rw j = if (cost < S.pr t ∨ (cost = S.pr t ∧ row < S.rw t)) ∧ j = t then row else S.rw j := by
  show (if cost < S.pr t ∨ (cost = S.pr t ∧ row < S.rw t) then updN S.rw t row else S.rw) j = _
  by_cases h : cost < S.pr t ∨ (cost = S.pr t ∧ row < S.rw t) <;> simp [h, updN]
end
theorem rep_lead1 {M : Mem} {S : SS} (hR : repC M S) {s t : Nat} {cost : Int32} {row : Nat} (hl : cost < S.pr t ∨ (cost = S.pr t ∧ row < S.rw t)) : repC (setJ (setI (setJ M 22 t (S.wy t + S.wy s)) 25 t cost) 23 t (lN row)) (S.lead s t cost row) := by
  obtain ⟨tb, h1, h2, h3, h4, h5⟩ := hR
  have hI : ∀ a j, a ≠ 25 → (setJ (setI (setJ M 22 t (S.wy t + S.wy s)) 25 t cost) 23 t (lN row)).1 a j = M.1 a j := fun a j h => if_neg fun z => h z.1
  have hL : ∀ a j, a ≠ 22 → a ≠ 23 → (setJ (setI (setJ M 22 t (S.wy t + S.wy s)) 25 t cost) 23 t (lN row)).2.1 a j = M.2.1 a j := by
    intro a j h1 h2
    rw [sJ_na h2, sI_2, sJ_na h1]
  refine ⟨tb, (hI 19 9 (by decide)).trans h1, h2, fun j hj => ?_, fun p hp => (hI 26 p (by decide)).trans (h4 p hp), h5⟩
  obtain ⟨e1, e2, e3, e4, e5, e6, e7⟩ := h3 j hj
  rw [ld_mk, ld_co, ld_wy, ld_pr, ld_rw]
  refine ⟨(hI 24 j (by decide)).trans e1, (hL 20 j (by decide) (by decide)).trans e2, (hL 21 j (by decide) (by decide)).trans e3, ?_, ?_, ?_, e7⟩
  · rw [sJ_na (by decide), sI_2]
    by_cases q : j = t
    · rw [if_pos q, q]; exact if_pos ⟨rfl, rfl⟩
    · rw [if_neg q]; exact (if_neg fun z => q z.2).trans e4
  · rw [sJ_1]
    by_cases q : j = t
    · rw [if_pos ⟨hl, q⟩, q]; exact if_pos ⟨rfl, rfl⟩
    · rw [if_neg (fun z => q z.2)]; exact (if_neg fun z => q z.2).trans e5
  · by_cases q : j = t
    · rw [if_pos ⟨hl, q⟩, q]; exact if_pos ⟨rfl, rfl⟩
    · rw [if_neg (fun z => q z.2)]; exact (if_neg fun z => q z.2).trans (by rw [sI_2, sJ_na (by decide)]; exact e6)
theorem rep_lead0 {M : Mem} {S : SS} (hR : repC M S) {s t : Nat} {cost : Int32} {row : Nat} (hl : ¬ (cost < S.pr t ∨ (cost = S.pr t ∧ row < S.rw t))) : repC (setJ M 22 t (S.wy t + S.wy s)) (S.lead s t cost row) := by
  obtain ⟨tb, h1, h2, h3, h4, h5⟩ := hR
  refine ⟨tb, h1, h2, fun j hj => ?_, h4, h5⟩
  obtain ⟨e1, e2, e3, e4, e5, e6, e7⟩ := h3 j hj
  rw [ld_mk, ld_co, ld_wy, ld_pr, ld_rw, if_neg (fun z : _ ∧ j = t => hl z.1), if_neg (fun z : _ ∧ j = t => hl z.1)]
  refine ⟨e1, by rw [sJ_na (by decide)]; exact e2, by rw [sJ_na (by decide)]; exact e3, ?_, e5, by rw [sJ_na (by decide)]; exact e6, e7⟩
  by_cases q : j = t
  · rw [if_pos q, q]; exact if_pos ⟨rfl, rfl⟩
  · rw [if_neg q]; exact (if_neg fun z => q z.2).trans e4
/-- what a search leaves to a step -/
theorem fd_go {M M2 : Mem} {S : SS} {mk : Int32} {c : Nat → Nat} {w : Option Value} {s : Nat} {cost : Int32} {row : Nat} (hR : repC M S) (hD : S.dis) (hs : s < S.N) (hr : ∀ t, t < S.N → S.rw t < 2 ^ 60) (hq : fdQ M S mk c w M2) :
    (∃ t S2, w = some (.int (nI t)) ∧ t < S2.N ∧ s < S2.N ∧ repC M2 S2 ∧ S.go s mk c cost row = (true, S2.lead s t cost row) ∧ S2.pr s = S.pr s ∧ S2.rw s = S.rw s ∧ S2.rw t < 2 ^ 60 ∧ stF M M2 ∧ M2.1 19 14 = M.1 19 14) ∨
    (w = some (.int (-1)) ∧ M2 = M ∧ S.go s mk c cost row = (false, S)) := by
  rcases hq with ⟨t, ht, his, rfl, rfl⟩ | ⟨hno, ⟨hN, rfl, hR2, p, hM2⟩ | ⟨hN, rfl, rfl⟩⟩
  · exact Or.inl ⟨t, S, rfl, ht, hs, hR, by rw [SS.go, fd_some hD ht his], rfl, rfl, hr t ht, stF.refl, rfl⟩
  · refine Or.inl ⟨S.N, S.add mk c, rfl, Nat.lt_succ_self _, Nat.lt_succ_of_lt hs, hR2, by rw [SS.go, fd_none hno]; exact if_pos hN, ?_, ?_, ?_, by rw [hM2]; exact stF_nw, by rw [hM2]; exact nw_14⟩
    · rw [ad_pr, if_neg (by omega)]
    · rw [ad_rw, if_neg (by omega)]
    · rw [ad_rw, if_pos rfl]; decide
  · exact Or.inr ⟨rfl, rfl, by rw [SS.go, fd_none hno]; exact if_neg (by omega)⟩
set_option maxRecDepth 100000 in
set_option maxHeartbeats 4000000 in
theorem c_X5_step {M : Mem} {S : SS} (hR : repC M S) (hD : S.dis) {s k i o g v : Nat} (hs : s < S.N) (hk : k < 10) (hi : i < 8) (ho : o < 8) (hg : g < 8) (hio : i ≠ o) (hig : i ≠ g) (hog : o ≠ g) (eo : M.1 115 k = nI o) (eg : M.1 116 k = nI g) (ev : M.1 117 k = nI v) (hv : v < 65536) (hvc : v ≤ S.co s i) (hgv : ∀ j, shN (S.co s) i g v j < 65536) (hrs : S.rw s < 2 ^ 54) (hr : ∀ t, t < S.N → S.rw t < 2 ^ 60) : Con yX5_step cX5_step 14 none 2 [.ref 19, .int (nI s), .int (nI k), .int (nI i)] M (fun w N => w = none ∧ stF M N ∧ repC N (S.go s (S.mk s ||| bit k) (shN (S.co s) i g v) (S.pr s + priceM M 108 i k) (S.rw s * 64 + (k * 6 + rkN o g i))).2 ∧ N.1 19 14 = if (S.go s (S.mk s ||| bit k) (shN (S.co s) i g v) (S.pr s + priceM M 108 i k) (S.rw s * 64 + (k * 6 + rkN o g i))).1 = true then M.1 19 14 else 1) := by
  refine Con.of (own := RX5) (ls := [some (.ref 19), some (.int (nI s)), some (.int (nI k)), some (.int (nI i)), none, none, none, none, none, none, none, none, none, none]) rfl (by decide +kernel) (Nat.le_of_ble_eq_true rfl) rfl ?_
  have ht8 : isTown 108 := by unfold isTown; omega
  have ⟨tb0, q1, q2, q3, q4, q5⟩ := hR
  have hE := q3 s hs
  refine rx_aload_n (i := 0) dX5_step_0 rfl rfl ?_
  refine rx_getR 108 (k := 0) fo_X5_12 kl_19 (by decide) ti_5_0 (by decide) rfl dX5_step_1 ?_
  refine rx_getR 117 (k := 8) fo_X5_127 kl_108 (by decide) ti_8_8 (by decide) rfl dX5_step_4 ?_
  refine rx_iload_n (i := 2) dX5_step_7 rfl rfl ?_
  refine rx_ialdN kl_117 (by omega) (by first | decide | omega) dX5_step_8 ?_
  refine rx_top (nI v) ev ?_
  refine rx_istore (i := 4) dX5_step_9 (by decide) rfl rfl ?_
  refine rx_aload_n (i := 0) dX5_step_11 rfl rfl ?_
  refine rx_getR 108 (k := 0) fo_X5_12 kl_19 (by decide) ti_5_0 (by decide) rfl dX5_step_12 ?_
  refine rx_getR 116 (k := 7) fo_X5_130 kl_108 (by decide) ti_8_7 (by decide) rfl dX5_step_15 ?_
  refine rx_iload_n (i := 2) dX5_step_18 rfl rfl ?_
  refine rx_ialdN kl_116 (by omega) (by first | decide | omega) dX5_step_19 ?_
  refine rx_top (nI g) eg ?_
  refine rx_istore (i := 5) dX5_step_20 (by decide) rfl rfl ?_
  refine rx_aload_n (i := 0) dX5_step_22 rfl rfl ?_
  refine rx_getR 20 (k := 1) fo_X5_18 kl_19 (by decide) ti_5_1 (by decide) rfl dX5_step_23 ?_
  refine rx_iload_n (i := 1) dX5_step_26 rfl rfl ?_
  refine rx_laldN kl_20 (by omega) (by first | decide | omega) dX5_step_27 ?_
  refine rx_topL (lN (p4 (S.co s) 0)) hE.2.1 ?_
  refine rx_iload_n (i := 3) dX5_step_28 rfl rfl ?_
  refine rx_iconst (0) dX5_step_29 rfl ?_
  refine rx_iload (i := 4) dX5_step_30 rfl ?_
  refine rx_csL mo_X5_part lk_X5_101 (c_X5_part (i := i) (h := 0) (c := v) hi (by decide) (by omega)) (by decide) rfl rfl (Nat.le_of_ble_eq_true rfl) dX5_step_32 ?_
  refine rx_lsub dX5_step_35 ?_
  refine rx_topL (lN (p4 (dcr (S.co s) i v) 0)) (lnS hi (by decide) hvc) ?_
  refine rx_iload (i := 5) dX5_step_36 rfl ?_
  refine rx_iconst (0) dX5_step_38 rfl ?_
  refine rx_iload (i := 4) dX5_step_39 rfl ?_
  refine rx_csL mo_X5_part lk_X5_101 (c_X5_part (i := g) (h := 0) (c := v) hg (by decide) (by omega)) (by decide) rfl rfl (Nat.le_of_ble_eq_true rfl) dX5_step_41 ?_
  refine rx_ladd dX5_step_44 ?_
  refine rx_topL (lN (p4 (shN (S.co s) i g v) 0)) (lnA hg (by decide)) ?_
  refine rx_lstore (i := 6) dX5_step_45 (by decide) rfl rfl ?_
  refine rx_aload_n (i := 0) dX5_step_47 rfl rfl ?_
  refine rx_getR 21 (k := 2) fo_X5_22 kl_19 (by decide) ti_5_2 (by decide) rfl dX5_step_48 ?_
  refine rx_iload_n (i := 1) dX5_step_51 rfl rfl ?_
  refine rx_laldN kl_21 (by omega) (by first | decide | omega) dX5_step_52 ?_
  refine rx_topL (lN (p4 (S.co s) 1)) hE.2.2.1 ?_
  refine rx_iload_n (i := 3) dX5_step_53 rfl rfl ?_
  refine rx_iconst (1) dX5_step_54 rfl ?_
  refine rx_iload (i := 4) dX5_step_55 rfl ?_
  refine rx_csL mo_X5_part lk_X5_101 (c_X5_part (i := i) (h := 1) (c := v) hi (by decide) (by omega)) (by decide) rfl rfl (Nat.le_of_ble_eq_true rfl) dX5_step_57 ?_
  refine rx_lsub dX5_step_60 ?_
  refine rx_topL (lN (p4 (dcr (S.co s) i v) 1)) (lnS hi (by decide) hvc) ?_
  refine rx_iload (i := 5) dX5_step_61 rfl ?_
  refine rx_iconst (1) dX5_step_63 rfl ?_
  refine rx_iload (i := 4) dX5_step_64 rfl ?_
  refine rx_csL mo_X5_part lk_X5_101 (c_X5_part (i := g) (h := 1) (c := v) hg (by decide) (by omega)) (by decide) rfl rfl (Nat.le_of_ble_eq_true rfl) dX5_step_66 ?_
  refine rx_ladd dX5_step_69 ?_
  refine rx_topL (lN (p4 (shN (S.co s) i g v) 1)) (lnA hg (by decide)) ?_
  refine rx_lstore (i := 8) dX5_step_70 (by decide) rfl rfl ?_
  refine rx_aload_n (i := 0) dX5_step_72 rfl rfl ?_
  refine rx_aload_n (i := 0) dX5_step_73 rfl rfl ?_
  refine rx_getR 24 (k := 5) fo_X5_31 kl_19 (by decide) ti_5_5 (by decide) rfl dX5_step_74 ?_
  refine rx_iload_n (i := 1) dX5_step_77 rfl rfl ?_
  refine rx_ialdN kl_24 (by omega) (by first | decide | omega) dX5_step_78 ?_
  refine rx_top (S.mk s) hE.1 ?_
  refine rx_iconst (1) dX5_step_79 rfl ?_
  refine rx_iload_n (i := 2) dX5_step_80 rfl rfl ?_
  refine rx_ishl dX5_step_81 ?_
  refine rx_ior dX5_step_82 ?_
  refine rx_lload (i := 6) dX5_step_83 rfl ?_
  refine rx_lload (i := 8) dX5_step_85 rfl ?_
  refine rx_callV (ci := 5) mo_X5_find lk_X5_105 (c_X5_find hR hgv) (by decide) rfl rfl (Nat.le_of_ble_eq_true rfl) kl_19 rfl dX5_step_87 ?_
  rintro w M2 hq
  rcases fd_go (mk := S.mk s ||| bit k) (cost := S.pr s + priceM M 108 i k) (row := S.rw s * 64 + (k * 6 + rkN o g i)) hR hD hs hr hq with ⟨t, S2, rfl, ht, hs2, hR2, hgo, hp2, hw2, hrt, hF2, h14⟩ | ⟨rfl, rfl, hgo⟩
  · skip
    have ⟨tb2, q1b, q2b, q3b, q4b, q5b⟩ := hR2
    have hEs := q3b s hs2
    have hEt := q3b t ht
    have hFa : M2.1 115 k = M.1 115 k := hF2.1 _ _ (by omega)
    have hFb : M2.1 116 k = M.1 116 k := hF2.1 _ _ (by omega)
    have hPr : (if M2.1 (108 + 3) i = 1 then (0 : Int32) else M2.1 (108 + 9) k + M2.1 (108 + 9) k * M2.1 (108 + 2) i / 100) = priceM M 108 i k := by unfold priceM; rw [hF2.1 _ _ (by omega), hF2.1 _ _ (by omega), hF2.1 _ _ (by omega)]
    refine rx_istore (i := 10) dX5_step_90 (by decide) rfl rfl ?_
    refine rx_iload (i := 10) dX5_step_92 rfl ?_
    refine rx_if_ge (tgt := 103) dX5_step_94 (by decide) (fun c94 => ?_) (fun c94 => absurd (nI_pos' (by omega)) c94)
    refine rx_aload_n (i := 0) dX5_step_103 rfl rfl ?_
    refine rx_getR 22 (k := 3) fo_X5_25 kl_19 (by decide) ti_5_3 (by decide) rfl dX5_step_104 ?_
    refine rx_iload (i := 10) dX5_step_107 rfl ?_
    refine rx_dup2_11 dX5_step_109 rfl rfl ?_
    refine rx_laldN kl_22 (by omega) (by first | decide | omega) dX5_step_110 ?_
    refine rx_topL (S2.wy t) hEt.2.2.2.1 ?_
    refine rx_aload_n (i := 0) dX5_step_111 rfl rfl ?_
    refine rx_getR 22 (k := 3) fo_X5_25 kl_19 (by decide) ti_5_3 (by decide) rfl dX5_step_112 ?_
    refine rx_iload_n (i := 1) dX5_step_115 rfl rfl ?_
    refine rx_laldN kl_22 (by omega) (by first | decide | omega) dX5_step_116 ?_
    refine rx_topL (S2.wy s) hEs.2.2.2.1 ?_
    refine rx_ladd dX5_step_117 ?_
    refine rx_lastN kl_22 (by omega) (by first | decide | omega) dX5_step_118 ?_
    refine rx_aload_n (i := 0) dX5_step_119 rfl rfl ?_
    refine rx_getR 25 (k := 6) fo_X5_35 kl_19 (by decide) ti_5_6 (by decide) rfl dX5_step_120 ?_
    refine rx_iload_n (i := 1) dX5_step_123 rfl rfl ?_
    refine rx_ialdN kl_25 (by omega) (by first | decide | omega) dX5_step_124 ?_
    refine rx_top (S.pr s) (hEs.2.2.2.2.1.trans hp2) ?_
    refine rx_aload_n (i := 0) dX5_step_125 rfl rfl ?_
    refine rx_getR 108 (k := 0) fo_X5_12 kl_19 (by decide) ti_5_0 (by decide) rfl dX5_step_126 ?_
    refine rx_iload_n (i := 3) dX5_step_129 rfl rfl ?_
    refine rx_iload_n (i := 2) dX5_step_130 rfl rfl ?_
    refine rx_cvI (ci := 8) mo_X8_price lk_X5_133 ((c_X8_price ht8 hi hk).conv (v' := some (.int (priceM M 108 i k))) (congrArg (fun z => some (Value.int z)) hPr) rfl) (by decide) rfl rfl (Nat.le_of_ble_eq_true rfl) kl_108 rfl dX5_step_131 ?_
    refine rx_iadd dX5_step_134 ?_
    refine rx_istore (i := 11) dX5_step_135 (by decide) rfl rfl ?_
    refine rx_aload_n (i := 0) dX5_step_137 rfl rfl ?_
    refine rx_getR 23 (k := 4) fo_X5_28 kl_19 (by decide) ti_5_4 (by decide) rfl dX5_step_138 ?_
    refine rx_iload_n (i := 1) dX5_step_141 rfl rfl ?_
    refine rx_laldN kl_23 (by omega) (by first | decide | omega) dX5_step_142 ?_
    refine rx_topL (lN (S.rw s)) (by rw [sJ_na (by decide)]; exact hEs.2.2.2.2.2.1.trans (by rw [hw2])) ?_
    refine rx_bipush (6) dX5_step_143 rfl ?_
    refine rx_lshl dX5_step_145 rfl ?_
    refine rx_iload_n (i := 2) dX5_step_146 rfl rfl ?_
    refine rx_bipush (6) dX5_step_147 rfl ?_
    refine rx_imul dX5_step_149 ?_
    refine rx_aload_n (i := 0) dX5_step_150 rfl rfl ?_
    refine rx_iload_n (i := 3) dX5_step_151 rfl rfl ?_
    refine rx_iload_n (i := 2) dX5_step_152 rfl rfl ?_
    refine rx_cvI (ci := 5) mo_X5_rank lk_X5_136 (c_X5_rank hi hk ho hg hio hig hog (hFa.trans eo) (hFb.trans eg)) (by decide) rfl rfl (Nat.le_of_ble_eq_true rfl) kl_19 rfl dX5_step_153 ?_
    refine rx_iadd dX5_step_156 ?_
    have hrk : rkN o g i ≤ 7 := by simp only [rkN]; omega
    refine rx_top (nI (k * 6 + rkN o g i)) (by rw [show (6 : Int32) = nI 6 from rfl, pk_mul, nI_add]) ?_
    refine rx_i2l dX5_step_157 rfl ?_
    rw [nI_l (by omega)]
    refine rx_lor dX5_step_158 ?_
    refine rx_topL (lN (S.rw s * 64 + (k * 6 + rkN o g i))) (row6 (by omega)) ?_
    refine rx_lstore (i := 12) dX5_step_159 (by decide) rfl rfl ?_
    refine rx_iload (i := 11) dX5_step_161 rfl ?_
    refine rx_aload_n (i := 0) dX5_step_163 rfl rfl ?_
    refine rx_getR 25 (k := 6) fo_X5_35 kl_19 (by decide) ti_5_6 (by decide) rfl dX5_step_164 ?_
    refine rx_iload (i := 10) dX5_step_167 rfl ?_
    refine rx_ialdN kl_25 (by omega) (by first | decide | omega) dX5_step_169 ?_
    refine rx_top (S2.pr t) hEt.2.2.2.2.1 ?_
    refine rx_icmp_lt (tgt := 198) dX5_step_170 (by decide) (fun c170 => ?_) (fun c170 => ?_)
    · skip
      have f170 := Int32.not_le.mpr c170
      have hl : S.pr s + priceM M 108 i k < S2.pr t ∨ (S.pr s + priceM M 108 i k = S2.pr t ∧ S.rw s * 64 + (k * 6 + rkN o g i) < S2.rw t) := Or.inl c170
      refine rx_aload_n (i := 0) dX5_step_198 rfl rfl ?_
      refine rx_getR 25 (k := 6) fo_X5_35 kl_19 (by decide) ti_5_6 (by decide) rfl dX5_step_199 ?_
      refine rx_iload (i := 10) dX5_step_202 rfl ?_
      refine rx_iload (i := 11) dX5_step_204 rfl ?_
      refine rx_iastN kl_25 (by omega) (by first | decide | omega) dX5_step_206 ?_
      refine rx_aload_n (i := 0) dX5_step_207 rfl rfl ?_
      refine rx_getR 23 (k := 4) fo_X5_28 kl_19 (by decide) ti_5_4 (by decide) rfl dX5_step_208 ?_
      refine rx_iload (i := 10) dX5_step_211 rfl ?_
      refine rx_lload (i := 12) dX5_step_213 rfl ?_
      refine rx_lastN kl_23 (by omega) (by first | decide | omega) dX5_step_215 ?_
      have hF : stF M (setJ (setI (setJ M2 22 t (S2.wy t + S2.wy s)) 25 t (S.pr s + priceM M 108 i k)) 23 t (lN (S.rw s * 64 + (k * 6 + rkN o g i)))) := hF2.trans ((stF_J (by omega)).trans ((stF_I (by omega)).trans (stF_J (by omega))))
      have hKK := rep_lead1 hR2 (s := s) hl
      exact rx_vret dX5_step_216 ⟨rfl, hF, by rw [hgo]; exact hKK, by rw [hgo]; exact h14⟩
    · skip
      have f170 := Int32.not_lt.mp c170
      refine rx_iload (i := 11) dX5_step_173 rfl ?_
      refine rx_aload_n (i := 0) dX5_step_175 rfl rfl ?_
      refine rx_getR 25 (k := 6) fo_X5_35 kl_19 (by decide) ti_5_6 (by decide) rfl dX5_step_176 ?_
      refine rx_iload (i := 10) dX5_step_179 rfl ?_
      refine rx_ialdN kl_25 (by omega) (by first | decide | omega) dX5_step_181 ?_
      refine rx_top (S2.pr t) hEt.2.2.2.2.1 ?_
      refine rx_icmp_ne (tgt := 216) dX5_step_182 (by decide) (fun c182 => ?_) (fun c182 => ?_)
      · skip
        have hl : ¬ (S.pr s + priceM M 108 i k < S2.pr t ∨ (S.pr s + priceM M 108 i k = S2.pr t ∧ S.rw s * 64 + (k * 6 + rkN o g i) < S2.rw t)) := fun q => q.elim c170 (fun q => c182 q.1)
        have hF : stF M (setJ M2 22 t (S2.wy t + S2.wy s)) := hF2.trans (stF_J (by omega))
        have hKK := rep_lead0 hR2 (s := s) hl
        exact rx_vret dX5_step_216 ⟨rfl, hF, by rw [hgo]; exact hKK, by rw [hgo]; exact h14⟩
      · skip
        refine rx_lload (i := 12) dX5_step_185 rfl ?_
        refine rx_aload_n (i := 0) dX5_step_187 rfl rfl ?_
        refine rx_getR 23 (k := 4) fo_X5_28 kl_19 (by decide) ti_5_4 (by decide) rfl dX5_step_188 ?_
        refine rx_iload (i := 10) dX5_step_191 rfl ?_
        refine rx_laldN kl_23 (by omega) (by first | decide | omega) dX5_step_193 ?_
        refine rx_topL (lN (S2.rw t)) (by rw [sJ_na (by decide)]; exact hEt.2.2.2.2.2.1) ?_
        refine rx_lcmp dX5_step_194 ?_
        refine rx_if_ge (tgt := 216) dX5_step_195 (by decide) (fun c195 => ?_) (fun c195 => ?_)
        · skip
          have f195 := Int32.not_lt.mpr c195
          have hl : ¬ (S.pr s + priceM M 108 i k < S2.pr t ∨ (S.pr s + priceM M 108 i k = S2.pr t ∧ S.rw s * 64 + (k * 6 + rkN o g i) < S2.rw t)) := fun q => q.elim c170 (fun q => Nat.not_lt.mpr ((pk_lLE (by omega) (by omega)).mp ((lg_cmp_ge _ _).mp c195)) q.2)
          have hF : stF M (setJ M2 22 t (S2.wy t + S2.wy s)) := hF2.trans (stF_J (by omega))
          have hKK := rep_lead0 hR2 (s := s) hl
          exact rx_vret dX5_step_216 ⟨rfl, hF, by rw [hgo]; exact hKK, by rw [hgo]; exact h14⟩
        · skip
          have f195 := Int32.not_le.mp c195
          have hl : S.pr s + priceM M 108 i k < S2.pr t ∨ (S.pr s + priceM M 108 i k = S2.pr t ∧ S.rw s * 64 + (k * 6 + rkN o g i) < S2.rw t) := Or.inr ⟨c182, Nat.lt_of_not_le fun q => c195 ((lg_cmp_ge _ _).mpr ((pk_lLE (by omega) (by omega)).mpr q))⟩
          refine rx_aload_n (i := 0) dX5_step_198 rfl rfl ?_
          refine rx_getR 25 (k := 6) fo_X5_35 kl_19 (by decide) ti_5_6 (by decide) rfl dX5_step_199 ?_
          refine rx_iload (i := 10) dX5_step_202 rfl ?_
          refine rx_iload (i := 11) dX5_step_204 rfl ?_
          refine rx_iastN kl_25 (by omega) (by first | decide | omega) dX5_step_206 ?_
          refine rx_aload_n (i := 0) dX5_step_207 rfl rfl ?_
          refine rx_getR 23 (k := 4) fo_X5_28 kl_19 (by decide) ti_5_4 (by decide) rfl dX5_step_208 ?_
          refine rx_iload (i := 10) dX5_step_211 rfl ?_
          refine rx_lload (i := 12) dX5_step_213 rfl ?_
          refine rx_lastN kl_23 (by omega) (by first | decide | omega) dX5_step_215 ?_
          have hF : stF M (setJ (setI (setJ M2 22 t (S2.wy t + S2.wy s)) 25 t (S.pr s + priceM M 108 i k)) 23 t (lN (S.rw s * 64 + (k * 6 + rkN o g i)))) := hF2.trans ((stF_J (by omega)).trans ((stF_I (by omega)).trans (stF_J (by omega))))
          have hKK := rep_lead1 hR2 (s := s) hl
          exact rx_vret dX5_step_216 ⟨rfl, hF, by rw [hgo]; exact hKK, by rw [hgo]; exact h14⟩
  · skip
    have hF : stF M2 (setI M2 19 14 1) := stF_I (by omega)
    have hRN : repC (setI M2 19 14 1) S := ⟨tb0, q1, q2, q3, q4, q5⟩
    refine rx_istore (i := 10) dX5_step_90 (by decide) rfl rfl ?_
    refine rx_iload (i := 10) dX5_step_92 rfl ?_
    refine rx_if_ge (tgt := 103) dX5_step_94 (by decide) (fun c94 => absurd c94 (by decide)) (fun c94 => ?_)
    refine rx_aload_n (i := 0) dX5_step_97 rfl rfl ?_
    refine rx_iconst (1) dX5_step_98 rfl ?_
    refine rx_putZ (k := 14) fo_X5_59 fn_5_14 kl_19 (by decide) ty_5_14 (by first | exact Or.inl rfl | exact Or.inr rfl) dX5_step_99 ?_
    exact rx_vret dX5_step_102 ⟨rfl, hF, by rw [hgo]; exact hRN, by rw [hgo]; exact sI_eq⟩
