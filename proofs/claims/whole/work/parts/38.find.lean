theorem and13 {a : Nat} : nI a &&& 8191 = nI (a % 8192) := by
  refine Int32.toBitVec_inj.mp (BitVec.eq_of_toNat_eq ?_)
  rw [Int32.toBitVec_and, BitVec.toNat_and]
  show a % 2 ^ 32 &&& (2 ^ 13 - 1) = a % 8192 % 2 ^ 32
  rw [Nat.and_two_pow_sub_one_eq_mod]
  omega
theorem and13_lt {x : Int32} : ∃ k : Nat, k < 8192 ∧ x &&& 8191 = nI k := by
  refine ⟨x.toBitVec.toNat % 8192, Nat.mod_lt _ (by decide), ?_⟩
  rw [← and13]
  congr 1
  refine Int32.toBitVec_inj.mp (BitVec.eq_of_toNat_eq ?_)
  show _ = x.toBitVec.toNat % 2 ^ 32
  have := x.toBitVec.isLt
  omega
/-- where the class begins to look -/
def hsI (mk : Int32) (a b : Int64) : Int32 := ((((a * 31 + b) * (-7046029254386353131) + mk.toInt64 * 2685821657736338717).toUInt64 >>> ((40 : Int32).toInt64.toUInt64 &&& Int64.toUInt64 63)).toInt64).toInt32 &&& 8191
def hsN (mk : Int32) (a b : Int64) : Nat := (hsI mk a b).toNatClampNeg
theorem hsN_I {mk : Int32} {a b : Int64} : hsI mk a b = nI (hsN mk a b) ∧ hsN mk a b < 8192 := by
  obtain ⟨k, hk, e⟩ := and13_lt (x := ((((a * 31 + b) * (-7046029254386353131) + mk.toInt64 * 2685821657736338717).toUInt64 >>> ((40 : Int32).toInt64.toUInt64 &&& Int64.toUInt64 63)).toInt64).toInt32)
  unfold hsN
  rw [show hsI mk a b = nI k from e, nI_clamp (by omega)]
  exact ⟨rfl, hk⟩
theorem p4_congr {c c' : Nat → Nat} (h : ∀ i, i < 8 → c i = c' i) {k : Nat} (hk : k < 2) : p4 c k = p4 c' k := by
  simp only [p4]
  rw [h _ (by omega), h _ (by omega), h _ (by omega), h _ (by omega)]
def hsS (S : SS) (s : Nat) : Nat := hsN (S.mk s) (lN (p4 (S.co s) 0)) (lN (p4 (S.co s) 1))
/-- the class has these states -/
def repT (M : Mem) (S : SS) (tb : Nat → Nat) : Prop :=
  M.1 19 9 = nI S.N ∧ S.N ≤ 3000 ∧ (∀ s, s < S.N → M.1 24 s = S.mk s ∧ M.2.1 20 s = lN (p4 (S.co s) 0) ∧ M.2.1 21 s = lN (p4 (S.co s) 1) ∧ M.2.1 22 s = S.wy s ∧ M.1 25 s = S.pr s ∧ M.2.1 23 s = lN (S.rw s) ∧ ∀ i, S.co s i < 65536) ∧ (∀ p, p < 8192 → M.1 26 p = nI (tb p)) ∧ TabOK 8192 tb (hsS S) S.N
def repC (M : Mem) (S : SS) : Prop := ∃ tb, repT M S tb
def nwM (M : Mem) (p N : Nat) (mk : Int32) (a b : Int64) : Mem :=
  setJ (setI (setJ (setJ (setJ (setI (setI (setI M 19 9 (nI (N + 1))) 26 p (nI (N + 1))) 24 N mk) 20 N a) 21 N b) 22 N 0) 25 N 2147483647) 23 N 0
theorem nw_19 {M : Mem} {p N : Nat} {mk : Int32} {a b : Int64} : (nwM M p N mk a b).1 19 9 = nI (N + 1) := by simp [nwM, setI, setJ]
theorem nw_24 {M : Mem} {p N s : Nat} {mk : Int32} {a b : Int64} : (nwM M p N mk a b).1 24 s = if s = N then mk else M.1 24 s := by simp [nwM, setI, setJ]
theorem nw_25 {M : Mem} {p N s : Nat} {mk : Int32} {a b : Int64} : (nwM M p N mk a b).1 25 s = if s = N then 2147483647 else M.1 25 s := by simp [nwM, setI, setJ]
theorem nw_26 {M : Mem} {p N s : Nat} {mk : Int32} {a b : Int64} : (nwM M p N mk a b).1 26 s = if s = p then nI (N + 1) else M.1 26 s := by simp [nwM, setI, setJ]
theorem nw_20 {M : Mem} {p N s : Nat} {mk : Int32} {a b : Int64} : (nwM M p N mk a b).2.1 20 s = if s = N then a else M.2.1 20 s := by simp [nwM, setI, setJ]
theorem nw_21 {M : Mem} {p N s : Nat} {mk : Int32} {a b : Int64} : (nwM M p N mk a b).2.1 21 s = if s = N then b else M.2.1 21 s := by simp [nwM, setI, setJ]
theorem nw_22 {M : Mem} {p N s : Nat} {mk : Int32} {a b : Int64} : (nwM M p N mk a b).2.1 22 s = if s = N then 0 else M.2.1 22 s := by simp [nwM, setI, setJ]
theorem nw_23 {M : Mem} {p N s : Nat} {mk : Int32} {a b : Int64} : (nwM M p N mk a b).2.1 23 s = if s = N then 0 else M.2.1 23 s := by simp [nwM, setI, setJ]
theorem nw_o {M : Mem} {p N k j : Nat} {mk : Int32} {a b : Int64} (h : k < 19 ∨ 26 < k ∨ (k = 19 ∧ j ≠ 9)) : (nwM M p N mk a b).1 k j = M.1 k j := by
  simp only [nwM, setI, setJ]
  rw [if_neg (by omega), if_neg (by omega), if_neg (by omega), if_neg (by omega)]
section
variable {S : SS} {mk : Int32} {c : Nat → Nat} {s : Nat}
theorem ad_mk : (S.add mk c).mk s = if s = S.N then mk else S.mk s := rfl
theorem ad_co : (S.add mk c).co s = if s = S.N then c else S.co s := rfl
theorem ad_wy : (S.add mk c).wy s = if s = S.N then 0 else S.wy s := rfl
theorem ad_pr : (S.add mk c).pr s = if s = S.N then 2147483647 else S.pr s := rfl
theorem ad_rw : (S.add mk c).rw s = if s = S.N then 0 else S.rw s := rfl
end
theorem rep_new {M : Mem} {S : SS} {tb : Nat → Nat} (hR : repT M S tb) {mk : Int32} {c : Nat → Nat} (hc : ∀ i, c i < 65536) (hN : S.N < 3000) {i : Nat} (hi : i < 8192)
    (hz : tb ((hsN mk (lN (p4 c 0)) (lN (p4 c 1)) + i) % 8192) = 0) (hb : ∀ e, e < i → tb ((hsN mk (lN (p4 c 0)) (lN (p4 c 1)) + e) % 8192) ≠ 0) :
    repC (nwM M ((hsN mk (lN (p4 c 0)) (lN (p4 c 1)) + i) % 8192) S.N mk (lN (p4 c 0)) (lN (p4 c 1))) (S.add mk c) := by
  obtain ⟨h1, h2, h3, h4, h5⟩ := hR
  refine ⟨updN tb ((hsN mk (lN (p4 c 0)) (lN (p4 c 1)) + i) % 8192) (S.N + 1), nw_19, hN, fun s hs => ?_, fun p hp => ?_, ?_⟩
  · rw [nw_20, nw_21, nw_22, nw_23, nw_24, nw_25, ad_mk, ad_co, ad_wy, ad_pr, ad_rw]
    by_cases q : s = S.N
    · repeat rw [if_pos q]
      exact ⟨rfl, rfl, rfl, rfl, rfl, rfl, hc⟩
    · repeat rw [if_neg q]
      exact h3 s (by have : s < S.N + 1 := hs; omega)
  · rw [nw_26]
    simp only [updN]
    split
    · rfl
    · exact h4 p hp
  · have e : hsS (S.add mk c) = updN (hsS S) S.N (hsN mk (lN (p4 c 0)) (lN (p4 c 1))) := by
      funext s
      show hsN ((S.add mk c).mk s) (lN (p4 ((S.add mk c).co s) 0)) (lN (p4 ((S.add mk c).co s) 1)) = updN _ _ _ s
      rw [ad_mk, ad_co]
      by_cases q : s = S.N
      · repeat rw [if_pos q]
        exact (if_pos q).symm
      · repeat rw [if_neg q]
        exact (if_neg q).symm
    rw [e]
    exact h5.put (by decide) hi hz hb
set_option maxRecDepth 100000 in
set_option maxHeartbeats 4000000 in
theorem c_X5_coinIn {M : Mem} {s i : Nat} (hs : s < 3000) (hi : i < 8) {c : Nat → Nat} (hc : ∀ i, c i < 65536) (h0 : M.2.1 20 s = lN (p4 c 0)) (h1 : M.2.1 21 s = lN (p4 c 1)) : Fun yX5_coinIn cX5_coinIn 5 (some .int) 0 [.ref 19, .int (nI s), .int (nI i)] M (some (.int (nI (c i)))) (M) := by
  refine Fun.of (own := RX5) ([some (.ref 19), some (.int (nI s)), some (.int (nI i)), none, none]) rfl (by decide +kernel) (Nat.le_of_ble_eq_true rfl) rfl ?_
  refine rx_iload_n (i := 2) dX5_coinIn_0 rfl rfl ?_
  refine rx_iconst (4) dX5_coinIn_1 rfl ?_
  refine rx_icmp_ge (tgt := 14) dX5_coinIn_2 (by decide) (fun c2 => ?_) (fun c2 => ?_)
  · skip
    have f2 := Int32.not_lt.mpr c2
    have e2 : i / 4 = 1 := by
      have := (nI_leI (a := 4) (by omega) (by omega)).mp c2
      omega
    refine rx_aload_n (i := 0) dX5_coinIn_14 rfl rfl ?_
    refine rx_getR 21 (k := 2) fo_X5_22 kl_19 (by decide) ti_5_2 (by decide) rfl dX5_coinIn_15 ?_
    refine rx_iload_n (i := 1) dX5_coinIn_18 rfl rfl ?_
    refine rx_laldN kl_21 (by omega) (by first | decide | omega) dX5_coinIn_19 ?_
    refine rx_topL (lN (p4 c 1)) h1 ?_
    refine rx_lstore_n (i := 3) dX5_coinIn_20 rfl (by decide) rfl rfl ?_
    refine rx_lload_n (i := 3) dX5_coinIn_21 rfl rfl ?_
    refine rx_bipush (16) dX5_coinIn_22 rfl ?_
    refine rx_iload_n (i := 2) dX5_coinIn_24 rfl rfl ?_
    refine rx_iconst (3) dX5_coinIn_25 rfl ?_
    refine rx_iand dX5_coinIn_26 ?_
    refine rx_imul dX5_coinIn_27 ?_
    refine rx_top (nI (16 * (i % 4))) ((by decide +kernel : ∀ i, i < 8 → 16 * (nI i &&& 3) = nI (16 * (i % 4))) i hi) ?_
    refine rx_lushr dX5_coinIn_28 rfl ?_
    rw [lus16 (p4_lt hc _) (by omega)]
    refine rx_l2i dX5_coinIn_29 rfl ?_
    refine rx_ldc (own := RX5) (v := (65535)) (List.mem_of_getElem? (i := 1061) (by decide +kernel)) dX5_coinIn_30 ?_
    refine rx_iand dX5_coinIn_32 ?_
    rw [and16, p4_dig hc _ (by omega), show 4 * 1 + i % 4 = i by omega]
    exact rx_fiI dX5_coinIn_33 rfl rfl
  · skip
    have f2 := Int32.not_le.mp c2
    have e2 : i / 4 = 0 := by
      rcases Nat.lt_or_ge i 4 with q | q
      · omega
      · exact absurd (nI_le (a := 4) q (by omega)) c2
    refine rx_aload_n (i := 0) dX5_coinIn_5 rfl rfl ?_
    refine rx_getR 20 (k := 1) fo_X5_18 kl_19 (by decide) ti_5_1 (by decide) rfl dX5_coinIn_6 ?_
    refine rx_iload_n (i := 1) dX5_coinIn_9 rfl rfl ?_
    refine rx_laldN kl_20 (by omega) (by first | decide | omega) dX5_coinIn_10 ?_
    refine rx_topL (lN (p4 c 0)) h0 ?_
    refine rx_goto (tgt := 20) dX5_coinIn_11 (by decide) ?_
    refine rx_lstore_n (i := 3) dX5_coinIn_20 rfl (by decide) rfl rfl ?_
    refine rx_lload_n (i := 3) dX5_coinIn_21 rfl rfl ?_
    refine rx_bipush (16) dX5_coinIn_22 rfl ?_
    refine rx_iload_n (i := 2) dX5_coinIn_24 rfl rfl ?_
    refine rx_iconst (3) dX5_coinIn_25 rfl ?_
    refine rx_iand dX5_coinIn_26 ?_
    refine rx_imul dX5_coinIn_27 ?_
    refine rx_top (nI (16 * (i % 4))) ((by decide +kernel : ∀ i, i < 8 → 16 * (nI i &&& 3) = nI (16 * (i % 4))) i hi) ?_
    refine rx_lushr dX5_coinIn_28 rfl ?_
    rw [lus16 (p4_lt hc _) (by omega)]
    refine rx_l2i dX5_coinIn_29 rfl ?_
    refine rx_ldc (own := RX5) (v := (65535)) (List.mem_of_getElem? (i := 1061) (by decide +kernel)) dX5_coinIn_30 ?_
    refine rx_iand dX5_coinIn_32 ?_
    rw [and16, p4_dig hc _ (by omega), show 4 * 0 + i % 4 = i by omega]
    exact rx_fiI dX5_coinIn_33 rfl rfl
def rkN (o g i : Nat) : Nat := i - (if o < i then 1 else 0) - (if g < i then 1 else 0)
set_option maxRecDepth 100000 in
set_option maxHeartbeats 4000000 in
theorem c_X5_rank {M : Mem} {i k o g : Nat} (hi : i < 8) (hk : k < 10) (ho : o < 8) (hg : g < 8) (hio : i ≠ o) (hig : i ≠ g) (hog : o ≠ g) (eo : M.1 115 k = nI o) (eg : M.1 116 k = nI g) : Fun yX5_rank cX5_rank 3 (some .int) 0 [.ref 19, .int (nI i), .int (nI k)] M (some (.int (nI (rkN o g i)))) (M) := by
  refine Fun.of (own := RX5) ([some (.ref 19), some (.int (nI i)), some (.int (nI k))]) rfl (by decide +kernel) (Nat.le_of_ble_eq_true rfl) rfl ?_
  refine rx_iload_n (i := 1) dX5_rank_0 rfl rfl ?_
  refine rx_aload_n (i := 0) dX5_rank_1 rfl rfl ?_
  refine rx_getR 108 (k := 0) fo_X5_12 kl_19 (by decide) ti_5_0 (by decide) rfl dX5_rank_2 ?_
  refine rx_getR 115 (k := 6) fo_X5_139 kl_108 (by decide) ti_8_6 (by decide) rfl dX5_rank_5 ?_
  refine rx_iload_n (i := 2) dX5_rank_8 rfl rfl ?_
  refine rx_ialdN kl_115 (by omega) (by first | decide | omega) dX5_rank_9 ?_
  refine rx_top (nI o) eo ?_
  refine rx_iload_n (i := 1) dX5_rank_10 rfl rfl ?_
  refine rx_icmp_ge (tgt := 18) dX5_rank_11 (by decide) (fun c11 => ?_) (fun c11 => ?_)
  · skip
    have f11 := Int32.not_lt.mpr c11
    have e11 : ¬ o < i := fun q => nI_ge q (by omega) c11
    refine rx_iconst (0) dX5_rank_18 rfl ?_
    refine rx_isub dX5_rank_19 ?_
    refine rx_aload_n (i := 0) dX5_rank_20 rfl rfl ?_
    refine rx_getR 108 (k := 0) fo_X5_12 kl_19 (by decide) ti_5_0 (by decide) rfl dX5_rank_21 ?_
    refine rx_getR 116 (k := 7) fo_X5_130 kl_108 (by decide) ti_8_7 (by decide) rfl dX5_rank_24 ?_
    refine rx_iload_n (i := 2) dX5_rank_27 rfl rfl ?_
    refine rx_ialdN kl_116 (by omega) (by first | decide | omega) dX5_rank_28 ?_
    refine rx_top (nI g) eg ?_
    refine rx_iload_n (i := 1) dX5_rank_29 rfl rfl ?_
    refine rx_icmp_ge (tgt := 37) dX5_rank_30 (by decide) (fun c30 => ?_) (fun c30 => ?_)
    · skip
      have f30 := Int32.not_lt.mpr c30
      have e30 : ¬ g < i := fun q => nI_ge q (by omega) c30
      refine rx_iconst (0) dX5_rank_37 rfl ?_
      refine rx_isub dX5_rank_38 ?_
      refine rx_top (nI (rkN o g i)) (by
        simp only [rkN, e11, e30, if_true, if_false]
        first | rfl | skip
        try rw [show (1 : Int32) = nI 1 from rfl]
        try rw [show (0 : Int32) = nI 0 from rfl]
        rw [pk_sub (by omega), pk_sub (by omega)]) ?_
      exact rx_fiI dX5_rank_39 rfl rfl
    · skip
      have f30 := Int32.not_le.mp c30
      have e30 : g < i := Nat.lt_of_not_le fun q => c30 (nI_le q (by omega))
      refine rx_iconst (1) dX5_rank_33 rfl ?_
      refine rx_goto (tgt := 38) dX5_rank_34 (by decide) ?_
      refine rx_isub dX5_rank_38 ?_
      refine rx_top (nI (rkN o g i)) (by
        simp only [rkN, e11, e30, if_true, if_false]
        first | rfl | skip
        try rw [show (1 : Int32) = nI 1 from rfl]
        try rw [show (0 : Int32) = nI 0 from rfl]
        rw [pk_sub (by omega), pk_sub (by omega)]) ?_
      exact rx_fiI dX5_rank_39 rfl rfl
  · skip
    have f11 := Int32.not_le.mp c11
    have e11 : o < i := Nat.lt_of_not_le fun q => c11 (nI_le q (by omega))
    refine rx_iconst (1) dX5_rank_14 rfl ?_
    refine rx_goto (tgt := 19) dX5_rank_15 (by decide) ?_
    refine rx_isub dX5_rank_19 ?_
    refine rx_aload_n (i := 0) dX5_rank_20 rfl rfl ?_
    refine rx_getR 108 (k := 0) fo_X5_12 kl_19 (by decide) ti_5_0 (by decide) rfl dX5_rank_21 ?_
    refine rx_getR 116 (k := 7) fo_X5_130 kl_108 (by decide) ti_8_7 (by decide) rfl dX5_rank_24 ?_
    refine rx_iload_n (i := 2) dX5_rank_27 rfl rfl ?_
    refine rx_ialdN kl_116 (by omega) (by first | decide | omega) dX5_rank_28 ?_
    refine rx_top (nI g) eg ?_
    refine rx_iload_n (i := 1) dX5_rank_29 rfl rfl ?_
    refine rx_icmp_ge (tgt := 37) dX5_rank_30 (by decide) (fun c30 => ?_) (fun c30 => ?_)
    · skip
      have f30 := Int32.not_lt.mpr c30
      have e30 : ¬ g < i := fun q => nI_ge q (by omega) c30
      refine rx_iconst (0) dX5_rank_37 rfl ?_
      refine rx_isub dX5_rank_38 ?_
      refine rx_top (nI (rkN o g i)) (by
        simp only [rkN, e11, e30, if_true, if_false]
        first | rfl | skip
        try rw [show (1 : Int32) = nI 1 from rfl]
        try rw [show (0 : Int32) = nI 0 from rfl]
        rw [pk_sub (by omega), pk_sub (by omega)]) ?_
      exact rx_fiI dX5_rank_39 rfl rfl
    · skip
      have f30 := Int32.not_le.mp c30
      have e30 : g < i := Nat.lt_of_not_le fun q => c30 (nI_le q (by omega))
      refine rx_iconst (1) dX5_rank_33 rfl ?_
      refine rx_goto (tgt := 38) dX5_rank_34 (by decide) ?_
      refine rx_isub dX5_rank_38 ?_
      refine rx_top (nI (rkN o g i)) (by
        simp only [rkN, e11, e30, if_true, if_false]
        first | rfl | skip
        try rw [show (1 : Int32) = nI 1 from rfl]
        try rw [show (0 : Int32) = nI 0 from rfl]
        rw [pk_sub (by omega), pk_sub (by omega)]) ?_
      exact rx_fiI dX5_rank_39 rfl rfl
set_option maxRecDepth 100000 in
set_option maxHeartbeats 4000000 in
theorem c_X5_newState {M : Mem} {p N : Nat} (hp : p < 8192) (hN : M.1 19 9 = nI N) (h : N < 3000) {mk : Int32} {a b : Int64} : Fun yX5_newState cX5_newState 8 (some .int) 0 [.ref 19, .int (nI p), .int mk, .long a, .long b] M (some (.int (nI N))) (nwM M p N mk a b) := by
  refine Fun.of (own := RX5) ([some (.ref 19), some (.int (nI p)), some (.int mk), some (.long a), none, some (.long b), none, none]) rfl (by decide +kernel) (Nat.le_of_ble_eq_true rfl) rfl ?_
  refine rx_aload_n (i := 0) dX5_newState_0 rfl rfl ?_
  refine rx_getI (k := 9) fo_X5_76 kl_19 (by decide) ti_5_9 dX5_newState_1 ?_
  refine rx_top (nI N) hN ?_
  refine rx_sipush (3000) dX5_newState_4 rfl ?_
  refine rx_icmp_lt (tgt := 12) dX5_newState_7 (by decide) (fun c7 => ?_) (fun c7 => ?_)
  · skip
    have f7 := Int32.not_le.mpr c7
    refine rx_aload_n (i := 0) dX5_newState_12 rfl rfl ?_
    refine rx_getI (k := 9) fo_X5_76 kl_19 (by decide) ti_5_9 dX5_newState_13 ?_
    refine rx_top (nI N) hN ?_
    refine rx_istore (i := 7) dX5_newState_16 (by decide) rfl rfl ?_
    refine rx_aload_n (i := 0) dX5_newState_18 rfl rfl ?_
    refine rx_dup dX5_newState_19 rfl ?_
    refine rx_getI (k := 9) fo_X5_76 kl_19 (by decide) ti_5_9 dX5_newState_20 ?_
    refine rx_top (nI N) hN ?_
    refine rx_iconst (1) dX5_newState_23 rfl ?_
    refine rx_iadd dX5_newState_24 ?_
    refine rx_top (nI (N + 1)) (nI_1 N) ?_
    refine rx_putI (k := 9) fo_X5_76 fn_5_9 kl_19 (by decide) ty_5_9 dX5_newState_25 ?_
    refine rx_aload_n (i := 0) dX5_newState_28 rfl rfl ?_
    refine rx_getR 26 (k := 7) fo_X5_38 kl_19 (by decide) ti_5_7 (by decide) rfl dX5_newState_29 ?_
    refine rx_iload_n (i := 1) dX5_newState_32 rfl rfl ?_
    refine rx_aload_n (i := 0) dX5_newState_33 rfl rfl ?_
    refine rx_getI (k := 9) fo_X5_76 kl_19 (by decide) ti_5_9 dX5_newState_34 ?_
    refine rx_top (nI (N + 1)) (by simp [setI]) ?_
    refine rx_iastN kl_26 (by omega) (by first | decide | omega) dX5_newState_37 ?_
    refine rx_aload_n (i := 0) dX5_newState_38 rfl rfl ?_
    refine rx_getR 24 (k := 5) fo_X5_31 kl_19 (by decide) ti_5_5 (by decide) rfl dX5_newState_39 ?_
    refine rx_iload (i := 7) dX5_newState_42 rfl ?_
    refine rx_iload_n (i := 2) dX5_newState_44 rfl rfl ?_
    refine rx_iastN kl_24 (by omega) (by first | decide | omega) dX5_newState_45 ?_
    refine rx_aload_n (i := 0) dX5_newState_46 rfl rfl ?_
    refine rx_getR 20 (k := 1) fo_X5_18 kl_19 (by decide) ti_5_1 (by decide) rfl dX5_newState_47 ?_
    refine rx_iload (i := 7) dX5_newState_50 rfl ?_
    refine rx_lload_n (i := 3) dX5_newState_52 rfl rfl ?_
    refine rx_lastN kl_20 (by omega) (by first | decide | omega) dX5_newState_53 ?_
    refine rx_aload_n (i := 0) dX5_newState_54 rfl rfl ?_
    refine rx_getR 21 (k := 2) fo_X5_22 kl_19 (by decide) ti_5_2 (by decide) rfl dX5_newState_55 ?_
    refine rx_iload (i := 7) dX5_newState_58 rfl ?_
    refine rx_lload (i := 5) dX5_newState_60 rfl ?_
    refine rx_lastN kl_21 (by omega) (by first | decide | omega) dX5_newState_62 ?_
    refine rx_aload_n (i := 0) dX5_newState_63 rfl rfl ?_
    refine rx_getR 22 (k := 3) fo_X5_25 kl_19 (by decide) ti_5_3 (by decide) rfl dX5_newState_64 ?_
    refine rx_iload (i := 7) dX5_newState_67 rfl ?_
    refine rx_lconst (0) dX5_newState_69 rfl ?_
    refine rx_lastN kl_22 (by omega) (by first | decide | omega) dX5_newState_70 ?_
    refine rx_aload_n (i := 0) dX5_newState_71 rfl rfl ?_
    refine rx_getR 25 (k := 6) fo_X5_35 kl_19 (by decide) ti_5_6 (by decide) rfl dX5_newState_72 ?_
    refine rx_iload (i := 7) dX5_newState_75 rfl ?_
    refine rx_ldc (own := RX5) (v := (2147483647)) (List.mem_of_getElem? (i := 1052) (by decide +kernel)) dX5_newState_77 ?_
    refine rx_iastN kl_25 (by omega) (by first | decide | omega) dX5_newState_79 ?_
    refine rx_aload_n (i := 0) dX5_newState_80 rfl rfl ?_
    refine rx_getR 23 (k := 4) fo_X5_28 kl_19 (by decide) ti_5_4 (by decide) rfl dX5_newState_81 ?_
    refine rx_iload (i := 7) dX5_newState_84 rfl ?_
    refine rx_lconst (0) dX5_newState_86 rfl ?_
    refine rx_lastN kl_23 (by omega) (by first | decide | omega) dX5_newState_87 ?_
    refine rx_iload (i := 7) dX5_newState_88 rfl ?_
    exact rx_fiI dX5_newState_90 rfl rfl
  · skip
    have f7 := Int32.not_lt.mp c7
    exact absurd (nI_lt (b := 3000) h (by omega)) c7
set_option maxRecDepth 100000 in
set_option maxHeartbeats 4000000 in
theorem c_X5_newState_no {M : Mem} {p N : Nat} (hN : M.1 19 9 = nI N) (h : N = 3000) {mk : Int32} {a b : Int64} : Fun yX5_newState cX5_newState 8 (some .int) 0 [.ref 19, .int (nI p), .int mk, .long a, .long b] M (some (.int (-1))) (M) := by
  refine Fun.of (own := RX5) ([some (.ref 19), some (.int (nI p)), some (.int mk), some (.long a), none, some (.long b), none, none]) rfl (by decide +kernel) (Nat.le_of_ble_eq_true rfl) rfl ?_
  refine rx_aload_n (i := 0) dX5_newState_0 rfl rfl ?_
  refine rx_getI (k := 9) fo_X5_76 kl_19 (by decide) ti_5_9 dX5_newState_1 ?_
  refine rx_top (nI N) hN ?_
  refine rx_sipush (3000) dX5_newState_4 rfl ?_
  refine rx_icmp_lt (tgt := 12) dX5_newState_7 (by decide) (fun c7 => ?_) (fun c7 => ?_)
  · skip
    have f7 := Int32.not_le.mpr c7
    exact absurd c7 (nI_nlt (b := 3000) (by omega) (by omega))
  · skip
    have f7 := Int32.not_lt.mp c7
    refine rx_iconst (-1) dX5_newState_10 rfl ?_
    exact rx_fiI dX5_newState_11 rfl rfl
