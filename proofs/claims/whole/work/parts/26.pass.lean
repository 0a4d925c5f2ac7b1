
/-- what days may change in a memory: the town t, the counters, the order, the values -/
def pD (t z : Nat) : Prop := z = 9 ∨ z = 17 ∨ z = 18 ∨ (t ≤ z ∧ z ≤ t + 15)
/-- a memory in its days: the town is seen as s.1, the counters are s.2 -/
def dyM (M0 M : Mem) (t : Nat) (s : DS) : Prop := alk s.1 (view M t) ∧ M.1 17 1 = s.2.1 ∧ M.1 17 2 = s.2.2.1 ∧ M.1 17 3 = s.2.2.2.1 ∧ M.1 17 4 = s.2.2.2.2 ∧ sameX M0 M (pD t)
theorem view_py {M : Mem} {t o g i k : Nat} (eo : view M t 6 k = nI o) (eg : view M t 7 k = nI g) (ho : o < 8) (hg : g < 8) : alk (mkT (view M t) i k) (view (pyM M t o g i k) t) := by
  intro c h5 h20
  funext j
  have hc1 : ∀ a b, a < 15 → b < 15 → (t + 1 + a = t + b ↔ a + 1 = b) := fun a b h1 h2 => by omega
  simp only [mkT, eo, eg, nI_clamp (show o < 2 ^ 31 by omega), nI_clamp (show g < 2 ^ 31 by omega)]
  unfold pyM
  simp only
  by_cases h15 : c < 15
  · rw [show view _ t c j = _ from if_pos h15]
    simp only [setI]
    by_cases h0 : c = 0
    · subst h0
      rw [if_pos rfl, if_neg (by omega), if_neg (by omega), if_neg (by omega)]
      exact (congrFun (view_sh (M := M) (t := t) (i := i) (j := g) (x := M.1 (t + 9) k) 0 (by omega)) j).trans rfl
    · rw [if_neg h0]
      by_cases h12 : c = 12
      · subst h12
        by_cases hj : j = 8 * o + i
        · subst hj
          rw [if_neg (by omega), if_neg (by omega), if_pos ⟨by omega, rfl⟩, if_pos ⟨rfl, rfl⟩, priceM_T]; rfl
        · rw [if_neg (by omega), if_neg (by omega), if_neg (by omega), if_neg (by omega), if_neg (by omega), if_neg (by omega), shM_o (by omega)]; rfl
      · rw [if_neg (show ¬ (c = 12 ∧ j = 8 * o + i) from fun q => h12 q.1)]
        by_cases h11 : c = 11
        · subst h11
          by_cases hj : j = k
          · subst hj; rw [if_pos ⟨by omega, rfl⟩, if_neg (by omega), if_pos ⟨rfl, rfl⟩]
          · rw [if_neg (by omega), if_neg (by omega), if_neg (by omega), if_neg (by omega), if_neg (by omega), shM_o (by omega)]; rfl
        · by_cases h10 : c = 10
          · subst h10
            by_cases hj : j = k
            · subst hj; rw [if_neg (by omega), if_pos ⟨by omega, rfl⟩, if_pos ⟨rfl, rfl⟩]
            · rw [if_neg (by omega), if_neg (by omega), if_neg (by omega), if_neg (by omega), if_neg (by omega), shM_o (by omega)]; rfl
          · rw [if_neg (by omega), if_neg (by omega), if_neg (by omega), if_neg (by omega), if_neg (by omega), shM_o (by omega)]
            exact (if_pos h15).symm
  · rw [show view _ t c j = _ from if_neg h15]
    simp only [setI]
    rw [if_neg (by omega), if_neg (by omega), if_neg (by omega), if_neg (by omega), if_neg (by omega), if_neg (by omega), if_neg (by omega), shM_o (by omega)]
    exact (if_neg h15).symm
theorem pyM_s {M : Mem} {t o g i k : Nat} {P : Nat → Prop} (h : ∀ z, t < z → z ≤ t + 15 → P z) : sameX M (pyM M t o g i k) P := by
  refine ⟨fun a ha => ?_, rfl⟩
  have h1 : ∀ c, 1 ≤ c → c ≤ 15 → a ≠ t + c := fun c h2 h3 q => ha (q ▸ h (t + c) (by omega) (by omega))
  funext j
  unfold pyM
  rw [sI_na (h1 12 (by omega) (by omega)), sI_na (h1 11 (by omega) (by omega)), sI_na (h1 13 (by omega) (by omega)), shM_o (h1 1 (by omega) (by omega))]
theorem alk.mk {T T' : TT} {i k : Nat} (h : alk T T') : alk (mkT T i k) (mkT T' i k) := by
  intro c h5 h20
  funext j
  simp only [mkT, shT, prT, h 0 (by omega) (by omega), h 1 (by omega) (by omega), h 2 (by omega) (by omega), h 6 (by omega) (by omega), h 7 (by omega) (by omega), h 8 (by omega) (by omega), h 12 (by omega) (by omega), h c h5 h20]
theorem view_I {M : Mem} {t a j : Nat} {x : Int32} (h : a < t ∨ t + 15 < a) : view (setI M a j x) t = view M t := by
  funext c i
  simp only [view]
  split
  · exact sI_na (by omega)
  · exact sI_na (by omega)
theorem view_A {M : Mem} {t a : Nat} {f : Nat → Int32} (h : a < t ∨ t + 15 < a) : view (setA M a f) t = view M t := by
  funext c i
  simp only [view]
  split
  · exact setA_o (by omega)
  · exact setA_o (by omega)
theorem alk_ch {M : Mem} {t n m k z : Nat} (ht : isTown t) : alk (view M t) (view (chM M t n m k z) t) := by
  have := town_ge ht
  unfold chM
  rw [view_A (by omega)]
  intro c h5 h20
  exact view_same (fun c h1 h2 => by funext j; exact mkL_o (by omega)) c h5 h20
theorem chM_s {M : Mem} {t n m k z : Nat} : sameX M (chM M t n m k z) (pD t) := (sameX_L (P := pD t) (by unfold pD; omega)).trans (sameX_A (by unfold pD; omega))
theorem view_cn {M : Mem} {t n : Nat} : alk (noonT (view M t) n) (view (cnL M t n) t) := by
  intro c h5 h20
  funext j
  simp only [noonT]
  by_cases h4 : c = 4
  · subst h4
    by_cases hj : j < n
    · rw [if_pos ⟨rfl, hj⟩]; simp [view, cnL, hj]
    · rw [if_neg (by omega)]; simp [view, cnL, hj]
  · rw [if_neg (by omega)]
    simp only [view]
    split
    · exact cnL_o (by omega)
    · exact cnL_o (by omega)
theorem TW_of {M : Mem} {t n m : Nat} {T : TT} (h : alk T (view M t)) (hO : OKS T n m) (h15 : T 15 0 = nI n) (h16 : T 16 0 = nI m) (hn : n ≤ 8) (hm : m ≤ 10) : TW M t n m := by
  have e15 : M.1 t 15 = nI n := (congrFun (h 15 (by omega) (by omega)) 0).trans h15
  have e16 : M.1 t 16 = nI m := (congrFun (h 16 (by omega) (by omega)) 0).trans h16
  refine ⟨e15, hn, e16, hm, fun k hk => ?_⟩
  obtain ⟨-, -, o, g, ho, hg, hog, eo, eg⟩ := hO.2.2.2 k hk
  exact ⟨o, g, ho, hg, hog, (congrFun (h 6 (by omega) (by omega)) k).trans eo, (congrFun (h 7 (by omega) (by omega)) k).trans eg⟩
theorem view_set {M : Mem} {t c j : Nat} {x : Int32} (h : c < 15) : view (setI M (t + 1 + c) j x) t = setT (view M t) c j x := by
  funext c' j'
  simp only [view, setT, setI]
  by_cases h1 : c' < 15
  · rw [if_pos h1, if_pos h1]
    by_cases h2 : c' = c
    · subst h2; simp
    · rw [if_neg (by omega), if_neg (fun q => h2 q.1)]
  · rw [if_neg h1, if_neg h1, if_neg (by omega), if_neg (by omega)]
theorem alk.set {T T' : TT} {c j : Nat} {x : Int32} (h : alk T T') : alk (setT T c j x) (setT T' c j x) := by
  intro c' h5 h20
  funext j'
  simp only [setT, h c' h5 h20]
/-- a debt gone through leaves the people and debts as they are -/
def okD (T : TT) (n m : Nat) : Prop := OKS T n m ∧ T 15 0 = nI n ∧ T 16 0 = nI m
theorem okD.noon {T : TT} {n m : Nat} (h : okD T n m) : okD (noonT T n) n m := ⟨h.1.noon, h.2.1, h.2.2⟩
theorem wil_in {S : Nat → Int32} {z : Nat} {T : TT} {n m k : Nat} (hn : n ≤ 8) (h : 0 ≤ (wilT S z T n m k).1) : ∃ i, i < n ∧ (wilT S z T n m k).1 = nI i ∧ T 10 k = 0 ∧ mayT T n k i = true := by
  obtain ⟨i, h1, h2, h3, -⟩ := chs_in (by omega) h
  simp only [Bool.and_eq_true, decide_eq_true_eq] at h2
  exact ⟨i, h1, h3, h2.1, h2.2⟩
theorem okD.go {S : Nat → Int32} {z n m k : Nat} {s : DS} (h : okD s.1 n m) (hn : n ≤ 8) (hk : k < m) : okD (goT S z n m s k).1 n m := by
  simp only [goT]
  split
  · next c =>
    obtain ⟨i, h1, h2, h3, h4⟩ := wil_in hn c
    rw [h2, nI_clamp (by omega)]
    exact ⟨h.1.mk h1 hn hk h4, h.2.1, h.2.2⟩
  · split
    · exact ⟨h.1.lapse, h.2.1, h.2.2⟩
    · exact h
theorem okD.fold {S : Nat → Int32} {z n m : Nat} (hn : n ≤ 8) : ∀ (l : List Nat) (s : DS), (∀ k ∈ l, k < m) → okD s.1 n m → okD (l.foldl (goT S z n m) s).1 n m
  | [], s, _, h => h
  | k :: l, s, hl, h => okD.fold hn l _ (fun a ha => hl a (List.mem_cons_of_mem _ ha)) (h.go hn (hl k List.mem_cons_self))
theorem dueOf_lt {T : TT} {n m : Nat} (h : OKS T n m) : ∀ k ∈ dueOf T m, k < m := fun k hk => ((dueLst_mem (fun k hk => by obtain ⟨-, ⟨d, e, hd⟩, -⟩ := h.2.2.2 k hk; show (T 9 k).toNatClampNeg ≤ 99; rw [e, nI_clamp (by omega)]; exact hd) k).mp hk).1
theorem okD.day {S : Nat → Int32} {z n m : Nat} {s : DS} (h : okD s.1 n m) (hn : n ≤ 8) : okD (dayT S z n m s).1 n m := by
  have h1 : okD (noonT s.1 n) n m := h.noon
  have h2 := okD.fold (S := S) (z := z) hn (dueOf (noonT s.1 n) m) (noonT s.1 n, s.2) (dueOf_lt h1.1) h1
  exact ⟨h2.1.day, h2.2.1, h2.2.2⟩
theorem okD.days {S : Nat → Int32} {z n m : Nat} {s : DS} (h : okD s.1 n m) (hn : n ≤ 8) : ∀ d, okD (daysT S z n m s d).1 n m
  | 0 => h
  | d + 1 => (okD.days h hn d).day hn
theorem okD.alk {T T' : TT} {n m : Nat} (h : okD T n m) (e : alk T T') : okD T' n m := ⟨h.1.alk e, by rw [e 15 (by omega) (by omega)]; exact h.2.1, by rw [e 16 (by omega) (by omega)]; exact h.2.2⟩

set_option maxRecDepth 100000 in
set_option maxHeartbeats 4000000 in
theorem l_pass_in {t : Nat} (ht : isTown t) {M0 : Mem} {n m z : Nat} (hn8 : n ≤ 8) (hm10 : m ≤ 10) (hz : M0.1 7 2 = nI z) (hz40 : z ≤ 40) {S : Nat → Int32} (hS : M0.1 8 = S) {l : List Nat} (hlm : ∀ k ∈ l, k < m) (hl10 : l.length ≤ 10) {Q : Nat → List (Option Value) → List Value → Mem → Prop} {N0 e : Nat} {s0 : DS} (K : ∀ (M1 : Mem), dyM M0 M1 t (l.foldl (goT S z n m) s0) → Reach cX0_pass RX0 9 5 Q 168 ([some (.ref 17), some (.ref t), some (.ref 7), some (.int (nI N0)), some (.int (nI e)), some (.int (nI l.length)), some (.int (nI l.length)), none, none]) [] M1) : ∀ (N : Nat) (j : Nat) (s : DS) (M1 : Mem), (j ≤ l.length) → (dyM M0 M1 t s) → (okD s.1 n m) → (holds (M1.1 18) l) → ((l.drop j).foldl (goT S z n m) s = l.foldl (goT S z n m) s0) → l.length - j < N → Reach cX0_pass RX0 9 5 (Q) 44 [some (.ref 17), some (.ref t), some (.ref 7), some (.int (nI N0)), some (.int (nI e)), some (.int (nI l.length)), some (.int (nI j)), none, none] [] (M1) := by
  intro N
  induction N with
  | zero => intro j s M1 hj hd hO hho hf hm; exact absurd ‹_ < 0› (Nat.not_lt_zero _)
  | succ N ih =>
    intro j s M1 hj hd hO hho hf hm
    have hge := town_ge ht
    obtain ⟨hal, p1, p2, p3, p4, hs⟩ := hd
    have w1 : TW M1 t n m := TW_of hal hO.1 hO.2.1 hO.2.2 hn8 hm10
    have hz1 : M1.1 7 2 = nI z := by rw [hs.1 7 (by unfold pD; omega)]; exact hz
    have hS1 : M1.1 8 = S := by rw [hs.1 8 (by unfold pD; omega)]; exact hS
    have hOT : OKT (view M1 t) n := (hO.1.alk hal).T
    refine rx_iload (i := 6) dX0_pass_44 rfl ?_
    refine rx_iload (i := 5) dX0_pass_46 rfl ?_
    refine rx_icmp_ge (tgt := 168) dX0_pass_48 (by decide) (fun c48 => ?_) (fun c48 => ?_)
    · skip
      have f48 := Int32.not_lt.mpr c48
      have e48 := (nI_leI (by omega) (by omega)).mp c48
      obtain rfl : j = l.length := by omega
      rw [List.drop_length] at hf
      exact K M1 (hf ▸ ⟨hal, p1, p2, p3, p4, hs⟩)
    · skip
      have f48 := Int32.not_le.mp c48
      have e48 : j < l.length := Nat.not_le.mp fun q => c48 (nI_le q (by omega))
      obtain ⟨k, hk⟩ : ∃ k, k = l.getD j 0 := ⟨_, rfl⟩
      have hkl : k ∈ l := by rw [hk, List.getD_eq_getElem?_getD, List.getElem?_eq_getElem e48]; exact List.getElem_mem _
      have hkm := hlm k hkl
      have hdr : l.drop j = k :: l.drop (j + 1) := by rw [List.drop_eq_getElem_cons e48, hk]; simp [List.getD_eq_getElem?_getD, List.getElem?_eq_getElem e48]
      rw [hdr, List.foldl_cons] at hf
      refine rx_aload_n (i := 0) dX0_pass_51 rfl rfl ?_
      refine rx_getR 18 (k := 0) fo_X0_9 kl_17 (by decide) ti_0_0 (by decide) rfl dX0_pass_52 ?_
      refine rx_iload (i := 6) dX0_pass_55 rfl ?_
      refine rx_ialdN kl_18 (by omega) (by first | decide | omega) dX0_pass_57 ?_
      refine rx_top (nI k) (by rw [hk]; exact hho j e48) ?_
      refine rx_istore (i := 7) dX0_pass_58 (by decide) rfl rfl ?_
      refine rx_aload_n (i := 2) dX0_pass_60 rfl rfl ?_
      refine rx_aload_n (i := 1) dX0_pass_61 rfl rfl ?_
      refine rx_iload (i := 7) dX0_pass_62 rfl ?_
      refine rx_cvI (ci := 3) mo_X3_chosen lk_X0_38 (c_X3_chosen ht w1 hkm hz1 hz40 (fun j hj => by rw [onL_T]; exact hOT.bb j hj) hOT.2) (by decide) rfl rfl (Nat.le_of_ble_eq_true rfl) kl_7 rfl dX0_pass_64 ?_
      refine rx_top (wilT S z s.1 n m k).1 (by rw [chs_T w1 hkm, hS1, wilT_alk hal]) ?_
      have hal2 : alk s.1 (view (chM M1 t n m k z) t) := hal.trans (alk_ch ht)
      have hs2 : sameX M0 (chM M1 t n m k z) (pD t) := hs.trans chM_s
      have h17 : ∀ a, a = 17 ∨ a = 18 → (chM M1 t n m k z).1 a = M1.1 a := fun a h => by funext j; unfold chM; rw [setA_o (by omega), mkL_o (by omega)]
      obtain ⟨-, ⟨dd, ed, hd99⟩, o, g, ho, hg, hog, eo, eg⟩ := hO.1.2.2.2 k hkm
      have w2 : TW (chM M1 t n m k z) t n m := TW_of hal2 hO.1 hO.2.1 hO.2.2 hn8 hm10
      have g7 : (chM M1 t n m k z).1 (t + 7) k = nI o := (congrFun (hal2 6 (by omega) (by omega)) k).trans eo
      have g8 : (chM M1 t n m k z).1 (t + 8) k = nI g := (congrFun (hal2 7 (by omega) (by omega)) k).trans eg
      have g9 : (chM M1 t n m k z).1 (t + 9) k = s.1 8 k := congrFun (hal2 8 (by omega) (by omega)) k
      have g10 : (chM M1 t n m k z).1 (t + 10) k = s.1 9 k := congrFun (hal2 9 (by omega) (by omega)) k
      have g15 : (chM M1 t n m k z).1 (t + 15) 3 = s.1 14 3 := congrFun (hal2 14 (by omega) (by omega)) 3
      have g18 : (chM M1 t n m k z).1 t 18 = s.1 18 0 := congrFun (hal2 18 (by omega) (by omega)) 0
      refine rx_istore (i := 8) dX0_pass_67 (by decide) rfl rfl ?_
      refine rx_iload (i := 8) dX0_pass_69 rfl ?_
      refine rx_if_lt (tgt := 120) dX0_pass_71 (by decide) (fun c71 => ?_) (fun c71 => ?_)
      · skip
        have f71 := Int32.not_le.mpr c71
        have e71 : ¬ 0 ≤ (wilT S z s.1 n m k).1 := Int32.not_le.mpr c71
        refine rx_aload_n (i := 1) dX0_pass_120 rfl rfl ?_
        refine rx_getI (k := 18) fo_X0_50 (kt_0 ht) (by decide) ti_8_18 dX0_pass_121 ?_
        refine rx_top (s.1 18 0) g18 ?_
        refine rx_aload_n (i := 1) dX0_pass_124 rfl rfl ?_
        refine rx_getR (t + 10) (k := 9) fo_X0_53 (kt_0 ht) (by decide) ti_8_9 (by rintro ⟨-, h⟩; omega) (rt_T ht 9 _ (by omega)) dX0_pass_125 ?_
        refine rx_iload (i := 7) dX0_pass_128 rfl ?_
        refine rx_ialdN (kt_10 ht) (by omega) (by first | decide | omega) dX0_pass_130 ?_
        refine rx_top (s.1 9 k) g10 ?_
        refine rx_aload_n (i := 1) dX0_pass_131 rfl rfl ?_
        refine rx_getR (t + 15) (k := 14) fo_X0_56 (kt_0 ht) (by decide) ti_8_14 (by rintro ⟨-, h⟩; omega) (rt_T ht 14 _ (by omega)) dX0_pass_132 ?_
        refine rx_iconst (3) dX0_pass_135 rfl ?_
        refine rx_ialdN (k := 3) (kt_15 ht) (by omega) (by first | decide | omega) dX0_pass_136 ?_
        refine rx_top (s.1 14 3) g15 ?_
        refine rx_iadd dX0_pass_137 ?_
        refine rx_icmp_lt (tgt := 162) dX0_pass_138 (by decide) (fun c138 => ?_) (fun c138 => ?_)
        · skip
          have f138 := Int32.not_le.mpr c138
          first | refine rx_iincN (i := 6) dX0_pass_162 rfl (by decide) rfl rfl ?_ | refine rx_iinc (i := 6) dX0_pass_162 rfl rfl (by decide) rfl rfl ?_
          refine rx_goto (tgt := 44) dX0_pass_165 (by decide) ?_
          refine rx_drop 7 ?_
          refine rx_drop 8 ?_
          have hgo : goT S z n m s k = s := by simp only [goT]; rw [if_neg e71, if_neg (Int32.not_le.mpr c138)]
          rw [hgo] at hf
          exact ih (j + 1) s _ (by omega) ⟨hal2, by rw [h17 17 (Or.inl rfl)]; exact p1, by rw [h17 17 (Or.inl rfl)]; exact p2, by rw [h17 17 (Or.inl rfl)]; exact p3, by rw [h17 17 (Or.inl rfl)]; exact p4, hs2⟩ hO (by rw [h17 18 (Or.inr rfl)]; exact hho) hf (by omega)
        · skip
          have f138 := Int32.not_lt.mp c138
          have f138' := f138
          refine rx_aload_n (i := 1) dX0_pass_141 rfl rfl ?_
          refine rx_getR (t + 11) (k := 10) fo_X0_59 (kt_0 ht) (by decide) ti_8_10 (by rintro ⟨-, h⟩; omega) (rt_T ht 10 _ (by omega)) dX0_pass_142 ?_
          refine rx_iload (i := 7) dX0_pass_145 rfl ?_
          refine rx_iconst (2) dX0_pass_147 rfl ?_
          refine rx_iastN (kt_11 ht) (by omega) (by first | decide | omega) dX0_pass_148 ?_
          refine rx_aload_n (i := 0) dX0_pass_149 rfl rfl ?_
          refine rx_dup dX0_pass_150 rfl ?_
          refine rx_getI (k := 4) fo_X0_25 kl_17 (by decide) ti_0_4 dX0_pass_151 ?_
          refine rx_iconst (1) dX0_pass_154 rfl ?_
          refine rx_iload (i := 7) dX0_pass_155 rfl ?_
          refine rx_ishl dX0_pass_157 ?_
          refine rx_ior dX0_pass_158 ?_
          refine rx_putI (k := 4) fo_X0_25 fn_0_4 kl_17 (by decide) ty_0_4 dX0_pass_159 ?_
          first | refine rx_iincN (i := 6) dX0_pass_162 rfl (by decide) rfl rfl ?_ | refine rx_iinc (i := 6) dX0_pass_162 rfl rfl (by decide) rfl rfl ?_
          refine rx_goto (tgt := 44) dX0_pass_165 (by decide) ?_
          refine rx_drop 7 ?_
          refine rx_drop 8 ?_
          have hgo : goT S z n m s k = (setT s.1 10 k 2, s.2.1, s.2.2.1, s.2.2.2.1, s.2.2.2.2 ||| bit k) := by simp only [goT]; rw [if_neg e71, if_pos f138']
          rw [hgo] at hf
          exact ih (j + 1) (setT s.1 10 k 2, s.2.1, s.2.2.1, s.2.2.2.1, s.2.2.2.2 ||| bit k) _ (by omega) ⟨by rw [view_I (by omega), show t + 11 = t + 1 + 10 by omega, view_set (by omega)]; exact hal2.set, by rw [sI_ne (by omega), sI_na (by omega), h17 17 (Or.inl rfl)]; exact p1, by rw [sI_ne (by omega), sI_na (by omega), h17 17 (Or.inl rfl)]; exact p2, by rw [sI_ne (by omega), sI_na (by omega), h17 17 (Or.inl rfl)]; exact p3, by rw [sI_eq, sI_na (by omega), h17 17 (Or.inl rfl), p4]; rfl, (hs2.trans (sameX_I (by unfold pD; omega))).trans (sameX_I (by unfold pD; omega))⟩ ⟨hO.1.lapse, hO.2.1, hO.2.2⟩ (fun a ha => by rw [sI_na (by omega), sI_na (by omega), h17 18 (Or.inr rfl)]; exact hho a ha) hf (by omega)
      · skip
        have f71 := Int32.not_lt.mp c71
        have e71 : 0 ≤ (wilT S z s.1 n m k).1 := Int32.not_lt.mp c71
        obtain ⟨i, hi, ei, e10, emay⟩ := wil_in hn8 e71
        have hprice : priceM (chM M1 t n m k z) t i k = prT s.1 i k := by rw [priceM_T]; simp only [prT, hal2 1 (by omega) (by omega), hal2 2 (by omega) (by omega), hal2 8 (by omega) (by omega)]
        refine rx_aload_n (i := 0) dX0_pass_74 rfl rfl ?_
        refine rx_dup dX0_pass_75 rfl ?_
        refine rx_getI (k := 2) fo_X0_19 kl_17 (by decide) ti_0_2 dX0_pass_76 ?_
        refine rx_aload_n (i := 1) dX0_pass_79 rfl rfl ?_
        refine rx_iload (i := 8) dX0_pass_80 rfl ?_
        refine rx_top (nI i) ei ?_
        refine rx_iload (i := 7) dX0_pass_82 rfl ?_
        refine rx_cvI (ci := 8) mo_X8_makePayment lk_X0_44 (c_X8_makePayment ht w2 hi hkm ho hg g7 g8) (by decide) rfl rfl (Nat.le_of_ble_eq_true rfl) (kt_0 ht) rfl dX0_pass_84 ?_
        refine rx_iadd dX0_pass_87 ?_
        refine rx_putI (k := 2) fo_X0_19 fn_0_2 kl_17 (by decide) ty_0_2 dX0_pass_88 ?_
        refine rx_aload_n (i := 0) dX0_pass_91 rfl rfl ?_
        refine rx_dup dX0_pass_92 rfl ?_
        refine rx_getI (k := 3) fo_X0_22 kl_17 (by decide) ti_0_3 dX0_pass_93 ?_
        refine rx_aload_n (i := 1) dX0_pass_96 rfl rfl ?_
        refine rx_getR (t + 9) (k := 8) fo_X0_48 (kt_0 ht) (by decide) ti_8_8 (by rintro ⟨-, h⟩; omega) (rt_T ht 8 _ (by omega)) dX0_pass_97 ?_
        refine rx_iload (i := 7) dX0_pass_100 rfl ?_
        refine rx_ialdN (kt_9 ht) (by omega) (by first | decide | omega) dX0_pass_102 ?_
        refine rx_iadd dX0_pass_103 ?_
        refine rx_putI (k := 3) fo_X0_22 fn_0_3 kl_17 (by decide) ty_0_3 dX0_pass_104 ?_
        refine rx_aload_n (i := 0) dX0_pass_107 rfl rfl ?_
        refine rx_dup dX0_pass_108 rfl ?_
        refine rx_getI (k := 1) fo_X0_15 kl_17 (by decide) ti_0_1 dX0_pass_109 ?_
        refine rx_iconst (1) dX0_pass_112 rfl ?_
        refine rx_iadd dX0_pass_113 ?_
        refine rx_putI (k := 1) fo_X0_15 fn_0_1 kl_17 (by decide) ty_0_1 dX0_pass_114 ?_
        refine rx_goto (tgt := 162) dX0_pass_117 (by decide) ?_
        first | refine rx_iincN (i := 6) dX0_pass_162 rfl (by decide) rfl rfl ?_ | refine rx_iinc (i := 6) dX0_pass_162 rfl rfl (by decide) rfl rfl ?_
        refine rx_goto (tgt := 44) dX0_pass_165 (by decide) ?_
        refine rx_drop 7 ?_
        refine rx_drop 8 ?_
        have hgo : goT S z n m s k = (mkT s.1 i k, s.2.1 + 1, s.2.2.1 + prT s.1 i k, s.2.2.2.1 + s.1 8 k, s.2.2.2.2) := by simp only [goT]; rw [if_pos e71, ei, nI_clamp (by omega)]
        rw [hgo] at hf
        have hpy : ∀ a, a = 17 ∨ a = 18 → (pyM (chM M1 t n m k z) t o g i k).1 a = (chM M1 t n m k z).1 a := fun a h => (pyM_s (P := fun z => t < z ∧ z ≤ t + 15) (fun z h1 h2 => ⟨h1, h2⟩)).1 a (by omega)
        have hpy9 : (pyM (chM M1 t n m k z) t o g i k).1 (t + 9) k = s.1 8 k := by unfold pyM; rw [sI_na (by omega), sI_na (by omega), sI_na (by omega), shM_o (by omega)]; exact g9
        exact ih (j + 1) (mkT s.1 i k, s.2.1 + 1, s.2.2.1 + prT s.1 i k, s.2.2.2.1 + s.1 8 k, s.2.2.2.2) _ (by omega) ⟨by rw [view_I (by omega), view_I (by omega), view_I (by omega)]; exact (hal2.mk).trans (view_py g7 g8 (by omega) (by omega)), by rw [sI_eq, sI_ne (by omega), sI_ne (by omega), hpy 17 (Or.inl rfl), h17 17 (Or.inl rfl), p1], by rw [sI_ne (by omega), sI_ne (by omega), sI_eq, h17 17 (Or.inl rfl), p2, hprice], by rw [sI_ne (by omega), sI_eq, sI_ne (by omega), sI_na (by omega), hpy 17 (Or.inl rfl), h17 17 (Or.inl rfl), p3, hpy9], by rw [sI_ne (by omega), sI_ne (by omega), sI_ne (by omega), hpy 17 (Or.inl rfl), h17 17 (Or.inl rfl)]; exact p4, (((hs2.trans (pyM_s (fun z h1 h2 => by unfold pD; omega))).trans (sameX_I (by unfold pD; omega))).trans (sameX_I (by unfold pD; omega))).trans (sameX_I (by unfold pD; omega))⟩ ⟨hO.1.mk hi hn8 hkm emay, hO.2.1, hO.2.2⟩ (fun a ha => by rw [sI_na (by omega), sI_na (by omega), sI_na (by omega), hpy 18 (Or.inr rfl), h17 18 (Or.inr rfl)]; exact hho a ha) hf (by omega)
