/-- how many stand at 0 -/
def cntO (f : Nat → Int32) : Nat → Nat
  | 0 => 0
  | n + 1 => cntO f n + if f n = 0 then 1 else 0
theorem cntO_cg {f g : Nat → Int32} : ∀ {n : Nat}, (∀ k, k < n → g k = f k) → cntO g n = cntO f n
  | 0, _ => rfl
  | n + 1, h => by simp only [cntO]; rw [cntO_cg (n := n) (fun k hk => h k (by omega)), h n (by omega)]
theorem cntO_le {f : Nat → Int32} : ∀ {n : Nat}, cntO f n ≤ n
  | 0 => Nat.le_refl _
  | n + 1 => by
    have := cntO_le (f := f) (n := n)
    simp only [cntO]
    split <;> omega
theorem cntO_put {f g : Nat → Int32} {k : Nat} (h0 : f k = 0) (h1 : g k ≠ 0) (he : ∀ j, j ≠ k → g j = f j) : ∀ {n : Nat}, k < n → cntO g n + 1 = cntO f n
  | n + 1, hk => by
    simp only [cntO]
    by_cases e : k = n
    · subst e
      rw [if_pos h0, if_neg h1, cntO_cg (fun j hj => he j (by omega))]
    · have := cntO_put h0 h1 he (n := n) (by omega)
      rw [he n (fun z => e z.symm)]
      omega
theorem cntO_pos {f : Nat → Int32} {k : Nat} (h0 : f k = 0) : ∀ {n : Nat}, k < n → 0 < cntO f n
  | n + 1, hk => by
    simp only [cntO]
    by_cases e : k = n
    · subst e; rw [if_pos h0]; omega
    · have := cntO_pos h0 (n := n) (by omega)
      omega
/-- as many PAYMENTS as DEBTS at most -/
theorem UOK_cnt {K : Nat → Int32} {n m dx : Nat} : ∀ {u : Nat} {T : TT}, UOK K n m dx u T → u + cntO (T 10) m ≤ m
  | 0, T, _ => by have := cntO_le (f := T 10) (n := m); omega
  | u + 1, T, ⟨T', i, k, a1, a2, a3, a4, a5, a7, a8⟩ => by
    have h1 := UOK_cnt a8
    have e : T 10 = mkT T' i k 10 := a7 10 (by omega) (by omega)
    have h2 := cntO_put (f := T' 10) (g := mkT T' i k 10) (k := k) a5.1 (by rw [mk_10, if_pos rfl]; decide) (fun j hj => by rw [mk_10, if_neg hj]) a2
    rw [e]
    omega
theorem mk_o {T : TT} {i k c : Nat} (h0 : c ≠ 0) (h1 : c ≠ 10) (h2 : c ≠ 11) (h3 : c ≠ 12) : mkT T i k c = T c := by
  funext j
  unfold mkT
  rw [if_neg h0, if_neg (fun z => h3 z.1), if_neg (fun z => h1 z.1), if_neg (fun z => h2 z.1)]
theorem pay_S {T : TT} {n m dx i k : Nat} (h : twS T n m dx) (hi : i < n) (hn : n ≤ 8) (hk : k < m) (hmay : mayT T n k i = true) : twS (mkT T i k) n m dx := by
  obtain ⟨hc, h6, h7⟩ := mayT_cnt hmay
  obtain ⟨⟨s1, s2⟩, -, o, g, ho, hg, hog, eo, eg⟩ := h.1.1.2.2.2 k hk
  have hig : i ≠ g := fun q => h7 (by rw [eg, q])
  refine twS_sh (x := T 8 k) h hi hg hig (by omega) hc ?_ (fun c hc => mk_o (by omega) (by omega) (by omega) (by omega)) ?_
  · funext j
    simp only [mkT, if_true, eg, nI_clamp (show g < 2 ^ 31 by omega)]
  · intro j hj h10
    rw [mk_10] at h10
    rw [mk_11]
    by_cases e : j = k
    · rw [if_pos e] at h10; exact absurd h10 (by decide)
    · rw [if_neg e] at h10 ⊢; exact h.2.2.2.2.1 j hj h10
theorem pay_P {T T' : TT} {n m dx i k : Nat} (h : twP T T' n m dx) (hi : i < n) (hn : n ≤ 8) (hk : k < m) (hmay : mayT T n k i = true) : twP (mkT T i k) (mkT T' i k) n m dx := by
  obtain ⟨p1, p2, p3, p4, p5⟩ := h
  refine ⟨pay_S p1 hi hn hk hmay, p2.mk p1.1.1 hn hi hk, fun j hj => ?_, ?_, ?_⟩
  · rw [mk_12, mk_12, (p2.1.2.1 k hk).1, prT_ag p2.1 hk hi, p3 j hj]
  · rw [mk_o (by omega) (by omega) (by omega) (by omega), mk_o (by omega) (by omega) (by omega) (by omega)]; exact p4
  · unfold lenT
    rw [mk_o (by omega) (by omega) (by omega) (by omega), mk_o (by omega) (by omega) (by omega) (by omega), mk_o (by omega) (by omega) (by omega) (by omega), mk_o (by omega) (by omega) (by omega) (by omega)]
    exact p5
theorem mv_157 {M : Mem} {j : Nat} {x : Int32} : mv (setI M 157 j x) = mv M := by
  funext c a
  by_cases hc : c ≠ 5 ∧ c < 20
  · rw [mv_mo hc, mv_mo hc]
    refine sI_na ?_
    unfold mo
    repeat' split
    all_goals omega
  · rw [mv_no hc, mv_no hc]
theorem s_pay {M : Mem} {n m dx tn : Nat} (h : Sim M n m dx tn) (y x : Int32) : Two yX10_pay cX10_pay 3 (some .int) 4 yX11_pay cX11_pay 3 4 [.int y, .int x] M n m dx tn := by
  have q := h.q
  have ag := q.ag
  have hO := q.okC
  have n8 := q.n8
  have m10 := q.m10
  by_cases hx : (0 ≤ y ∧ y < nI n) ∧ 0 ≤ x ∧ x < nI m
  · obtain ⟨i, hi, rfl⟩ := rngI hx.1 (by omega)
    obtain ⟨k, hk, rfl⟩ := rngI hx.2 (by omega)
    obtain ⟨-, -, o, g, ho, hg, hog, eo, eg⟩ := hO.1.2.2.2 k hk
    have e10 : M.1 151 k = M.1 39 k := (ag.1.2.1 k hk).2.2.2.2
    have e6 : M.1 147 k = M.1 35 k := (ag.1.2.1 k hk).1
    have e7 : M.1 148 k = M.1 36 k := (ag.1.2.1 k hk).2.1
    have pe := mayT_ag ag.1 hO.1 n8 hk hi
    by_cases hp : M.1 39 k = 0 ∧ mayT (view M 28) n k i = true
    · obtain ⟨u, b1, b2, b3, b4, b5⟩ := q.2.2.2.2.2.2.1
      have hu : u < 10 := by
        have z1 := UOK_cnt b5
        have z2 := cntO_pos (f := view M 28 10) (k := k) hp.1 hk
        omega
      have hC := c_X10_pay q.1 hO.1.T hi hk ho hg eo eg b2 hu hp.1 hp.2
      obtain ⟨N, eN⟩ : ∃ N, N = pyM (setI (setI (mkL M 28 n) 1 u (nI k)) 0 14 (nI (u + 1))) 28 o g i k := ⟨_, rfl⟩
      rw [← eN] at hC
      have ek : ∀ a b, ¬ (a = 29 ∨ a = 34 ∨ (39 ≤ a ∧ a ≤ 41)) → ¬ (a = 0 ∧ b = 14) → ¬ (a = 1 ∧ b = u) → N.1 a b = M.1 a b := fun a b h1 h2 h3 => by
        rw [eN]
        unfold pyM
        rw [sI_na (by omega), sI_na (by omega), sI_na (by omega), shM_na (by omega), sI_ne h2, sI_ne h3, mkL_o (by omega)]
      have e014 : N.1 0 14 = nI (u + 1) := by
        rw [eN]
        unfold pyM
        rw [sI_na (by omega), sI_na (by omega), sI_na (by omega), shM_na (by omega)]
        exact sI_eq
      have e1u : N.1 1 u = nI k := by
        rw [eN]
        unfold pyM
        rw [sI_na (by omega), sI_na (by omega), sI_na (by omega), shM_na (by omega), sI_na (by omega)]
        exact sI_eq
      have e2 : N.2.1 = M.2.1 := by rw [eN]; rfl
      have e140 : ∀ a b, 140 ≤ a → N.1 a b = M.1 a b := fun a b h140 => ek a b (by omega) (by omega) (by omega)
      have emN : mv N = mv M := mv_eq e140
      have w1 : MW N n m := q.2.1.keep (e140 _ _ (by omega)) (e140 _ _ (by omega)) (fun _ _ => e140 _ _ (by omega)) (fun _ _ => e140 _ _ (by omega))
      have vN : alk (mkT (view M 28) i k) (view N 28) := by
        have z1 : alk (view M 28) (view (setI (setI (mkL M 28 n) 1 u (nI k)) 0 14 (nI (u + 1))) 28) := by
          rw [view_I (by omega), view_I (by omega)]
          exact fcR.vw (fcK_L (M := M) (n := n)).1
        have z2 : alk (mkT (view (setI (setI (mkL M 28 n) 1 u (nI k)) 0 14 (nI (u + 1))) 28) i k) (view N 28) := by
          rw [eN]
          exact view_py ((congrFun (z1 6 (by omega) (by omega)) k).trans eo) ((congrFun (z1 7 (by omega) (by omega)) k).trans eg) (by omega) (by omega)
        exact (z1.mk (i := i) (k := k)).trans z2
      have hM := c_X11_pay w1 (fun j hj => by rw [e140 143 j (by omega)]; exact q.k01 j hj) (by rw [e140 153 0 (by omega)]; exact q.srt) hi hk ho hg ((e140 147 k (by omega)).trans (e6.trans eo)) ((e140 148 k (by omega)).trans (e7.trans eg)) ((e140 140 32 (by omega)).trans b3) hu ((e140 151 k (by omega)).trans (e10.trans hp.1)) (by rw [emN, pe]; exact hp.2)
      rw [emN, prT_ag ag.1 hk hi] at hM
      obtain ⟨K, eK⟩ : ∃ K, K = mM (setI (setI (t0 N) 157 u (nI k)) 140 32 (nI (u + 1))) o g i k := ⟨_, rfl⟩
      rw [← eK] at hM
      have ej : ∀ a b, ¬ (a = 141 ∧ b = i) → ¬ (a = 141 ∧ b = g) → ¬ (a = 146 ∧ b = 8 * o + i) → ¬ (a = 151 ∧ b = k) → ¬ (a = 152 ∧ b = k) → ¬ (a = 140 ∧ (b = 21 ∨ b = 32)) → ¬ (a = 157 ∧ b = u) → K.1 a b = N.1 a b := fun a b h1 h2 h3 h4 h5 h6 h7 => by
        rw [eK]
        unfold mM
        rw [sI_ne h5, sI_ne h4, sI_ne h3, shX_ne h1 h2, sI_ne (by omega), sI_ne h7, t0_o (by omega)]
      have f32 : K.1 140 32 = nI (u + 1) := by
        rw [eK]
        unfold mM
        rw [sI_na (by omega), sI_na (by omega), sI_na (by omega), shX_na (by omega)]
        exact sI_eq
      have f157 : K.1 157 u = nI k := by
        rw [eK]
        unfold mM
        rw [sI_na (by omega), sI_na (by omega), sI_na (by omega), shX_na (by omega), sI_na (by omega)]
        exact sI_eq
      have fe2 : K.2.1 = M.2.1 := by rw [eK]; exact e2
      have vK : view K 28 = view N 28 := by
        funext c j
        unfold view
        split
        · exact ej _ _ (by omega) (by omega) (by omega) (by omega) (by omega) (by omega) (by omega)
        · exact ej _ _ (by omega) (by omega) (by omega) (by omega) (by omega) (by omega) (by omega)
      have mK : mv K = mkT (mv M) i k := by
        rw [eK, mv_mM (o := o) (g := g) (by rw [sI_na (by omega), sI_na (by omega), t0_o (by omega), e140 147 k (by omega)]; exact e6.trans eo) (by rw [sI_na (by omega), sI_na (by omega), t0_o (by omega), e140 148 k (by omega)]; exact e7.trans eg) (by omega) (by omega), mv_I (by omega), mv_157, t0_mv, emN]
      have fr : ∀ a b, ¬ (a = 29 ∨ a = 34 ∨ (39 ≤ a ∧ a ≤ 41)) → ¬ (a = 0 ∧ b = 14) → a ≠ 1 → psK a b = 1000 → ¬ (a = 140 ∧ (b = 21 ∨ b = 32)) → a ≠ 157 → K.1 a b = M.1 a b := fun a b h1 h2 h3 h4 h5 h6 => by
        rw [ej a b (pK_no h4 (by omega)) (pK_no h4 (by omega)) (pK_no h4 (by omega)) (pK_no h4 (by omega)) (pK_no h4 (by omega)) h5 (fun z => h6 z.1), ek a b h1 h2 (fun z => h3 z.1)]
      have fr2 : ∀ a b, ¬ (a = 29 ∨ a = 34 ∨ (39 ≤ a ∧ a ≤ 41)) → ¬ (a = 0 ∧ b = 14) → a ≠ 1 → ¬ (a = 141 ∨ a = 146 ∨ a = 151 ∨ a = 152 ∨ a = 157) → ¬ (a = 140 ∧ (b = 21 ∨ b = 32)) → K.1 a b = M.1 a b := fun a b h1 h2 h3 h4 h5 => by
        rw [ej a b (by omega) (by omega) (by omega) (by omega) (by omega) h5 (by omega), ek a b h1 h2 (fun z => h3 z.1)]
      refine two_f hC hM ⟨n, m, tn, (sim_h h ⟨⟨fun a b q1 q2 q3 q4 => fr a b (by omega) (by omega) (by omega) q3 (by omega) (by omega), fun a _ _ _ => by rw [fe2]⟩, fun b => ⟨fr2 _ _ (by omega) (by omega) (by omega) (by omega) (by omega), fr2 _ _ (by omega) (by omega) (by omega) (by omega) (by omega), fr2 _ _ (by omega) (by omega) (by omega) (by omega) (by omega), fr2 _ _ (by omega) (by omega) (by omega) (by omega) (by omega)⟩, ⟨fr2 _ _ (by omega) (by omega) (by omega) (by omega) (by omega), fr2 _ _ (by omega) (by omega) (by omega) (by omega) (by omega), fr2 _ _ (by omega) (by omega) (by omega) (by omega) (by omega), fr2 _ _ (by omega) (by omega) (by omega) (by omega) (by omega), fr2 _ _ (by omega) (by omega) (by omega) (by omega) (by omega), fr2 _ _ (by omega) (by omega) (by omega) (by omega) (by omega)⟩, fe2⟩ ?_ ?_).dx (by omega)⟩
      · rw [vK, mK]
        exact twP_alk (pay_P q.2.2.1 hi n8 hk hp.2) vN
      · have eA : ∀ b, b ≠ u → K.1 1 b = M.1 1 b := fun b hb => by rw [ej 1 b (by omega) (by omega) (by omega) (by omega) (by omega) (by omega) (by omega), ek 1 b (by omega) (by omega) (by omega)]
        have eA2 : K.1 1 u = nI k := by rw [ej 1 u (by omega) (by omega) (by omega) (by omega) (by omega) (by omega) (by omega)]; exact e1u
        refine ⟨u + 1, by omega, by rw [ej 0 14 (by omega) (by omega) (by omega) (by omega) (by omega) (by omega) (by omega)]; exact e014, f32, fun b hb => ?_, ⟨view M 28, i, k, hi, hk, eA2, q.2.2.1.1, ⟨hp.1, (mayT_cnt hp.2).2.2⟩, by rw [vK]; exact vN, UOK_cg (fun b hb => eA b (by omega)) b5⟩⟩
        by_cases z : b = u
        · rw [z, f157, eA2]
        · rw [eA b z, ej 157 b (by omega) (by omega) (by omega) (by omega) (by omega) (by omega) (by omega), e140 157 b (by omega)]
          exact b4 b (by omega)
    · refine two_q h (c_X10_pay_2 q.1 hO.1.T hi hk hp) (fun v N hv => by
        rcases hv.2 with e | e
        · rw [e]; exact ⟨fcR.refl.V, h.v⟩
        · rw [e]; exact ⟨fcK_L.1.V, SV_fr h.v fcK_L.1⟩) fun v N hv qN em => ?_
      have hM := c_X11_pay_2 qN.2.1 qN.k01 qN.srt hi hk (fun z => hp ⟨(congrFun (congrFun em 10) k).symm.trans z.1 |> fun y => e10.symm.trans y, by rw [em, pe] at z; exact z.2⟩)
      refine Con.mono hM fun v' K hk' => ?_
      obtain ⟨rfl, rfl⟩ := hk'
      refine ⟨hv.1.symm, frQ_t0.B, ?_⟩
      rcases hv.2 with e | e
      · rw [e]; exact simW_k h.w fcK.refl.W frQ_t0.B (t0_o (by omega)) rfl
      · rw [e]; exact simW_k h.w fcK_L.W frQ_t0.B (t0_o (by omega)) rfl
  · exact two_0 h (c_X10_pay_no q.1 hx) (c_X11_pay_no q.2.1 hx)
/-- a PAYMENT undone -/
def unT (T : TT) (o g i k : Nat) : TT := setT (setT (setT (setT (setT T 0 i (T 0 i + T 8 k)) 0 g (setT T 0 i (T 0 i + T 8 k) 0 g - T 8 k)) 12 (8 * o + i) (T 12 (8 * o + i) - prT T i k)) 10 k 0) 11 k (-1)
theorem un_0 {T : TT} {o g i k j : Nat} (hig : i ≠ g) : unT T o g i k 0 j = if j = g then T 0 g - T 8 k else if j = i then T 0 i + T 8 k else T 0 j := by
  unfold unT
  rw [setT_o (by omega), setT_o (by omega), setT_o (by omega)]
  by_cases e : j = g
  · subst e
    rw [if_pos rfl]
    unfold setT
    rw [if_pos ⟨rfl, rfl⟩, if_neg (fun z => hig z.2.symm)]
  · rw [if_neg e]
    by_cases e2 : j = i
    · subst e2
      rw [if_pos rfl]
      unfold setT
      rw [if_neg (fun z => e z.2), if_pos ⟨rfl, rfl⟩]
    · rw [if_neg e2]
      unfold setT
      rw [if_neg (fun z => e z.2), if_neg (fun z => e2 z.2)]
theorem un_12 {T : TT} {o g i k j : Nat} : unT T o g i k 12 j = if j = 8 * o + i then T 12 j - prT T i k else T 12 j := by
  unfold unT
  rw [setT_o (by omega), setT_o (by omega)]
  by_cases e : j = 8 * o + i
  · subst e; rw [if_pos rfl]; exact if_pos ⟨rfl, rfl⟩
  · rw [if_neg e]
    show (if 12 = 12 ∧ j = 8 * o + i then _ else _) = _
    rw [if_neg (fun z => e z.2), setT_o (by omega), setT_o (by omega)]
theorem un_10 {T : TT} {o g i k j : Nat} : unT T o g i k 10 j = if j = k then 0 else T 10 j := by
  unfold unT
  rw [setT_o (by omega)]
  by_cases e : j = k
  · rw [if_pos e]; exact if_pos ⟨rfl, e⟩
  · rw [if_neg e]
    show (if 10 = 10 ∧ j = k then _ else _) = _
    rw [if_neg (fun z => e z.2), setT_o (by omega), setT_o (by omega), setT_o (by omega)]
theorem un_11 {T : TT} {o g i k j : Nat} : unT T o g i k 11 j = if j = k then -1 else T 11 j := by
  unfold unT
  by_cases e : j = k
  · rw [if_pos e]; exact if_pos ⟨rfl, e⟩
  · rw [if_neg e]
    show (if 11 = 11 ∧ j = k then _ else _) = _
    rw [if_neg (fun z => e z.2), setT_o (by omega), setT_o (by omega), setT_o (by omega), setT_o (by omega)]
theorem un_o {T : TT} {o g i k c : Nat} (h0 : c ≠ 0) (h1 : c ≠ 10) (h2 : c ≠ 11) (h3 : c ≠ 12) : unT T o g i k c = T c := by
  unfold unT
  rw [setT_o h2, setT_o h1, setT_o h3, setT_o h0, setT_o h0]
theorem sub_add_i (x y : Int32) : x - y + y = x := Int32.sub_add_cancel x y
theorem add_sub_i (x y : Int32) : x + y - y = x := Int32.add_sub_cancel x y
/-- what a PAYMENT changed is as before -/
theorem mk_0 {T : TT} {i k g j : Nat} (eg : T 7 k = nI g) (hg : g < 8) (hig : i ≠ g) : mkT T i k 0 j = if j = g then T 0 g + T 8 k else if j = i then T 0 i - T 8 k else T 0 j := by
  have cg : (T 7 k).toNatClampNeg = g := by rw [eg, nI_clamp (by omega)]
  unfold mkT
  rw [if_pos rfl, cg]
  unfold shT
  rw [if_pos rfl]
  unfold upd
  by_cases e : j = g
  · rw [if_pos e, if_pos e, if_neg (fun z => hig z.symm)]
  · rw [if_neg e, if_neg e]
theorem un_D {T U : TT} {n m o g i k : Nat} (h : agD (mkT T i k) U n m) (hi : i < n) (hk : k < m) (ho : o < 8) (hg : g < n) (hn : n ≤ 8) (eo : T 6 k = nI o) (eg : T 7 k = nI g) (hig : i ≠ g) (h10 : T 10 k = 0) (h11 : T 11 k = -1) (f12 : ∀ j, j < 64 → U 12 j = mkT T i k 12 j) : agD T (unT U o g i k) n m ∧ ∀ j, j < 64 → unT U o g i k 12 j = T 12 j := by
  have co : (T 6 k).toNatClampNeg = o := by rw [eo, nI_clamp (by omega)]
  have e8 : U 8 k = T 8 k := by rw [(h.1.2.1 k hk).2.2.1, mk_o (by omega) (by omega) (by omega) (by omega)]
  have ep : prT U i k = prT T i k := by
    rw [prT_ag h.1 hk hi]
    unfold prT
    rw [mk_o (by omega) (by omega) (by omega) (by omega), mk_o (by omega) (by omega) (by omega) (by omega), mk_o (by omega) (by omega) (by omega) (by omega)]
  have g12 : ∀ j, j < 64 → unT U o g i k 12 j = T 12 j := fun j hj => by
    rw [un_12, f12 j hj, mk_12, co, ep]
    by_cases e : j = 8 * o + i
    · rw [if_pos e, if_pos e, add_sub_i]
    · rw [if_neg e, if_neg e]
  refine ⟨⟨⟨fun j hj => ⟨?_, ?_, ?_, ?_, ?_⟩, fun j hj => ⟨?_, ?_, ?_, ?_, ?_⟩, ?_, ?_, ?_⟩, fun j hj => ?_, fun a b ha hb => g12 _ (by omega), ?_, ?_⟩, g12⟩
  · rw [un_0 hig, e8]
    by_cases e : j = g
    · rw [if_pos e, (h.1.1 g hg).1, mk_0 eg (by omega) hig, if_pos rfl, add_sub_i, e]
    · rw [if_neg e]
      by_cases e2 : j = i
      · rw [if_pos e2, (h.1.1 i hi).1, mk_0 eg (by omega) hig, if_neg hig, if_pos rfl, sub_add_i, e2]
      · rw [if_neg e2, (h.1.1 j hj).1, mk_0 eg (by omega) hig, if_neg e, if_neg e2]
  · rw [un_o (by omega) (by omega) (by omega) (by omega), (h.1.1 j hj).2.1, mk_o (by omega) (by omega) (by omega) (by omega)]
  · rw [un_o (by omega) (by omega) (by omega) (by omega), (h.1.1 j hj).2.2.1, mk_o (by omega) (by omega) (by omega) (by omega)]
  · rw [un_o (by omega) (by omega) (by omega) (by omega), (h.1.1 j hj).2.2.2.1, mk_o (by omega) (by omega) (by omega) (by omega)]
  · rw [un_o (by omega) (by omega) (by omega) (by omega), (h.1.1 j hj).2.2.2.2, mk_o (by omega) (by omega) (by omega) (by omega)]
  · rw [un_o (by omega) (by omega) (by omega) (by omega), (h.1.2.1 j hj).1, mk_o (by omega) (by omega) (by omega) (by omega)]
  · rw [un_o (by omega) (by omega) (by omega) (by omega), (h.1.2.1 j hj).2.1, mk_o (by omega) (by omega) (by omega) (by omega)]
  · rw [un_o (by omega) (by omega) (by omega) (by omega), (h.1.2.1 j hj).2.2.1, mk_o (by omega) (by omega) (by omega) (by omega)]
  · rw [un_o (by omega) (by omega) (by omega) (by omega), (h.1.2.1 j hj).2.2.2.1, mk_o (by omega) (by omega) (by omega) (by omega)]
  · rw [un_10]
    by_cases e : j = k
    · rw [if_pos e, e, h10]
    · rw [if_neg e, (h.1.2.1 j hj).2.2.2.2, mk_10, if_neg e]
  · rw [un_o (by omega) (by omega) (by omega) (by omega), h.1.2.2.1, mk_o (by omega) (by omega) (by omega) (by omega)]
  · rw [un_o (by omega) (by omega) (by omega) (by omega), h.1.2.2.2.1, mk_o (by omega) (by omega) (by omega) (by omega)]
  · rw [un_o (by omega) (by omega) (by omega) (by omega), h.1.2.2.2.2, mk_o (by omega) (by omega) (by omega) (by omega)]
  · rw [un_11]
    by_cases e : j = k
    · rw [if_pos e, e, h11]
    · rw [if_neg e, h.2.1 j hj, mk_11, if_neg e]
  · rw [un_o (by omega) (by omega) (by omega) (by omega), h.2.2.2.1, mk_o (by omega) (by omega) (by omega) (by omega)]
  · rw [un_o (by omega) (by omega) (by omega) (by omega), h.2.2.2.2, mk_o (by omega) (by omega) (by omega) (by omega)]
theorem mv_uM {M : Mem} {o g i k : Nat} (ho : o < 8) (hi : i < 8) : mv (uM M o g i k) = unT (mv M) o g i k := by
  have f0 : ∀ (N : Mem) (b : Nat) (u : Int32), mv (setI N 141 b u) = setT (mv N) 0 b u := fun N b u => mv_set (M := N) (c := 0) (j := b) (x := u) (by omega) (by omega)
  have f12 : ∀ (N : Mem) (b : Nat) (u : Int32), mv (setI N 146 b u) = setT (mv N) 12 b u := fun N b u => mv_set (M := N) (c := 12) (j := b) (x := u) (by omega) (by omega)
  have f10 : ∀ (N : Mem) (b : Nat) (u : Int32), mv (setI N 151 b u) = setT (mv N) 10 b u := fun N b u => mv_set (M := N) (c := 10) (j := b) (x := u) (by omega) (by omega)
  have f11 : ∀ (N : Mem) (b : Nat) (u : Int32), mv (setI N 152 b u) = setT (mv N) 11 b u := fun N b u => mv_set (M := N) (c := 11) (j := b) (x := u) (by omega) (by omega)
  unfold uM
  simp only []
  rw [f11, f10, f12, f0, f0, show (setI M 141 i (M.1 141 i + M.1 149 k)).1 141 g = setT (mv M) 0 i (M.1 141 i + M.1 149 k) 0 g from congrFun (congrFun (f0 M i (M.1 141 i + M.1 149 k)) 0) g]
  rfl
theorem alk_up {M : Mem} {T : TT} {n m dx o g i k : Nat} (h : alk (mkT T i k) (view M 28)) (hS : twS T n m dx) (hi : i < n) (hn : n ≤ 8) (hk : k < m) (ho : o < n) (hg : g < n) (eo : T 6 k = nI o) (eg : T 7 k = nI g) (hig : i ≠ g) (h10 : T 10 k = 0) : alk T (view (upM M 28 o g i k) 28) := fun c h5 h20 => by
  have co : (T 6 k).toNatClampNeg = o := by rw [eo, nI_clamp (by omega)]
  have e : ∀ c, c ≠ 5 → c < 20 → c ≠ 0 → c ≠ 10 → c ≠ 11 → c ≠ 12 → view M 28 c = T c := fun c a1 a2 a3 a4 a5 a6 => (h c a1 a2).trans (mk_o a3 a4 a5 a6)
  have e8 : M.1 (28 + 9) k = T 8 k := congrFun (e 8 (by omega) (by omega) (by omega) (by omega) (by omega) (by omega)) k
  have epr : priceM M 28 i k = prT T i k := by
    have z : priceM M 28 i k = prT (view M 28) i k := rfl
    rw [z]
    unfold prT
    rw [e 2 (by omega) (by omega) (by omega) (by omega) (by omega) (by omega), e 8 (by omega) (by omega) (by omega) (by omega) (by omega) (by omega), e 1 (by omega) (by omega) (by omega) (by omega) (by omega) (by omega)]
  have f12 : ∀ (N : Mem) (b : Nat) (u : Int32), view (setI N (28 + 13) b u) 28 = setT (view N 28) 12 b u := fun N b u => view_set (M := N) (t := 28) (c := 12) (j := b) (x := u) (by omega)
  have f10 : ∀ (N : Mem) (b : Nat) (u : Int32), view (setI N (28 + 11) b u) 28 = setT (view N 28) 10 b u := fun N b u => view_set (M := N) (t := 28) (c := 10) (j := b) (x := u) (by omega)
  have f11 : ∀ (N : Mem) (b : Nat) (u : Int32), view (setI N (28 + 12) b u) 28 = setT (view N 28) 11 b u := fun N b u => view_set (M := N) (t := 28) (c := 11) (j := b) (x := u) (by omega)
  have ev : view (upM M 28 o g i k) 28 = setT (setT (setT (view (shM M 28 g i (T 8 k)) 28) 12 (8 * o + i) (M.1 (28 + 13) (8 * o + i) - prT T i k)) 10 k 0) 11 k (-1) := by
    unfold upM
    simp only []
    rw [f11, f10, f12, e8, epr]
  rw [ev]
  have es : ∀ c, c < 20 → view (shM M 28 g i (T 8 k)) 28 c = shT (view M 28) g i (T 8 k) c := fun c hc => view_sh c hc
  funext j
  by_cases c11 : c = 11
  · subst c11
    by_cases ej : j = k
    · rw [show setT (setT (setT (view (shM M 28 g i (T 8 k)) 28) 12 (8 * o + i) (M.1 (28 + 13) (8 * o + i) - prT T i k)) 10 k 0) 11 k (-1) 11 j = -1 from if_pos ⟨rfl, ej⟩, ej]
      exact (hS.2.2.2.2.1 k hk h10).symm
    · rw [show setT (setT (setT (view (shM M 28 g i (T 8 k)) 28) 12 (8 * o + i) (M.1 (28 + 13) (8 * o + i) - prT T i k)) 10 k 0) 11 k (-1) 11 j = view (shM M 28 g i (T 8 k)) 28 11 j from (if_neg fun z => ej z.2).trans (by rw [setT_o (by omega), setT_o (by omega)]), es 11 (by omega), shT_o (by omega), h 11 (by omega) (by omega), mk_11, if_neg ej]
  · rw [setT_o c11]
    by_cases c10 : c = 10
    · subst c10
      by_cases ej : j = k
      · rw [show setT (setT (view (shM M 28 g i (T 8 k)) 28) 12 (8 * o + i) (M.1 (28 + 13) (8 * o + i) - prT T i k)) 10 k 0 10 j = 0 from if_pos ⟨rfl, ej⟩, ej]
        exact h10.symm
      · rw [show setT (setT (view (shM M 28 g i (T 8 k)) 28) 12 (8 * o + i) (M.1 (28 + 13) (8 * o + i) - prT T i k)) 10 k 0 10 j = view (shM M 28 g i (T 8 k)) 28 10 j from (if_neg fun z => ej z.2).trans (by rw [setT_o (by omega)]), es 10 (by omega), shT_o (by omega), h 10 (by omega) (by omega), mk_10, if_neg ej]
    · rw [setT_o c10]
      by_cases c12 : c = 12
      · subst c12
        have e12 : M.1 (28 + 13) (8 * o + i) = T 12 (8 * o + i) + prT T i k := by
          have z := congrFun (h 12 (by omega) (by omega)) (8 * o + i)
          rw [mk_12, co, if_pos rfl] at z
          exact z
        by_cases ej : j = 8 * o + i
        · rw [show setT (view (shM M 28 g i (T 8 k)) 28) 12 (8 * o + i) (M.1 (28 + 13) (8 * o + i) - prT T i k) 12 j = M.1 (28 + 13) (8 * o + i) - prT T i k from if_pos ⟨rfl, ej⟩, e12, add_sub_i, ej]
        · rw [show setT (view (shM M 28 g i (T 8 k)) 28) 12 (8 * o + i) (M.1 (28 + 13) (8 * o + i) - prT T i k) 12 j = view (shM M 28 g i (T 8 k)) 28 12 j from if_neg fun z => ej z.2, es 12 (by omega), shT_o (by omega), h 12 (by omega) (by omega), mk_12, co, if_neg ej]
      · rw [setT_o c12, es c h20]
        by_cases c0 : c = 0
        · subst c0
          have e0 : ∀ j, view M 28 0 j = if j = g then T 0 g + T 8 k else if j = i then T 0 i - T 8 k else T 0 j := fun j => (congrFun (h 0 (by omega) (by omega)) j).trans (mk_0 eg (by omega) hig)
          simp only [shT, if_true, upd]
          rw [e0 g, if_pos rfl, add_sub_i]
          by_cases ej : j = i
          · rw [if_pos ej, if_neg hig, e0 i, if_neg hig, if_pos rfl, sub_add_i, ej]
          · rw [if_neg ej]
            by_cases ej2 : j = g
            · rw [if_pos ej2, ej2]
            · rw [if_neg ej2, e0 j, if_neg ej2, if_neg ej]
        · rw [shT_o c0]
          exact congrFun (e c h5 h20 c0 c10 c11 c12) j
theorem s_undo {M : Mem} {n m dx tn : Nat} (h : Sim M n m dx tn)  : Two yX10_undo cX10_undo 1 (some .int) 2 yX11_undo cX11_undo 1 2 [] M n m dx tn := by
  have q := h.q
  have ag := q.ag
  have hO := q.okC
  have n8 := q.n8
  have m10 := q.m10
  obtain ⟨u0, b1, b2, b3, b4, b5⟩ := q.2.2.2.2.2.2.1
  cases u0 with
  | zero => exact two_0 h (c_X10_undo_no b2) (c_X11_undo_no b3)
  | succ u =>
    obtain ⟨T', i, k, hi, hk, ek1, hS, ⟨h10, hig0⟩, hal, hU⟩ := b5
    obtain ⟨-, -, o, g, ho, hg, hog, eo, eg⟩ := hS.1.1.2.2.2 k hk
    have al : ∀ c, c ≠ 5 → c < 20 → c ≠ 0 → c ≠ 10 → c ≠ 11 → c ≠ 12 → view M 28 c = T' c := fun c a1 a2 a3 a4 a5 a6 => (hal c a1 a2).trans (mk_o a3 a4 a5 a6)
    have eo1 : M.1 35 k = nI o := (congrFun (al 6 (by omega) (by omega) (by omega) (by omega) (by omega) (by omega)) k).trans eo
    have eg1 : M.1 36 k = nI g := (congrFun (al 7 (by omega) (by omega) (by omega) (by omega) (by omega) (by omega)) k).trans eg
    have ep : M.1 40 k = nI i := by
      have z := congrFun (hal 11 (by omega) (by omega)) k
      rw [mk_11, if_pos rfl] at z
      exact z
    have hig : i ≠ g := fun z => hig0 (by rw [eg, z])
    have h11 : T' 11 k = -1 := hS.2.2.2.2.1 k hk h10
    have hC := c_X10_undo q.1 hi hk ho hg eo1 eg1 b2 (by omega) ek1 ep
    obtain ⟨N, eN⟩ : ∃ N, N = upM (setI M 0 14 (nI u)) 28 o g i k := ⟨_, rfl⟩
    rw [← eN] at hC
    have ek : ∀ a b, ¬ (a = 29 ∨ (39 ≤ a ∧ a ≤ 41)) → ¬ (a = 0 ∧ b = 14) → N.1 a b = M.1 a b := fun a b h1 h2 => by
      rw [eN]
      unfold upM
      simp only []
      rw [sI_na (by omega), sI_na (by omega), sI_na (by omega), shM_na (by omega), sI_ne h2]
    have e014 : N.1 0 14 = nI u := by
      rw [eN]
      unfold upM
      simp only []
      rw [sI_na (by omega), sI_na (by omega), sI_na (by omega), shM_na (by omega)]
      exact sI_eq
    have e2 : N.2.1 = M.2.1 := by rw [eN]; rfl
    have e140 : ∀ a b, 140 ≤ a → N.1 a b = M.1 a b := fun a b h140 => ek a b (by omega) (by omega)
    have emN : mv N = mv M := mv_eq e140
    have w1 : MW N n m := q.2.1.keep (e140 _ _ (by omega)) (e140 _ _ (by omega)) (fun _ _ => e140 _ _ (by omega)) (fun _ _ => e140 _ _ (by omega))
    have vN : alk T' (view N 28) := by
      rw [eN]
      refine alk_up (M := setI M 0 14 (nI u)) ?_ hS hi n8 hk ho hg eo eg hig h10
      rw [view_I (by omega)]; exact hal
    have agm : agD (mkT T' i k) (mv M) n m := (alk_D hal).trans ag
    have f6 : M.1 147 k = nI o := ((ag.1.2.1 k hk).1).trans eo1
    have f7 : M.1 148 k = nI g := ((ag.1.2.1 k hk).2.1).trans eg1
    have f11 : M.1 152 k = nI i := (ag.2.1 k hk).trans ep
    have hM := c_X11_undo w1 (fun j hj => by rw [e140 143 j (by omega)]; exact q.k01 j hj) (by rw [e140 153 0 (by omega)]; exact q.srt) hi hk ho hg ((e140 147 k (by omega)).trans f6) ((e140 148 k (by omega)).trans f7) ((e140 140 32 (by omega)).trans b3) (by omega) (by rw [e140 157 u (by omega), b4 u (by omega)]; exact ek1) ((e140 152 k (by omega)).trans f11)
    obtain ⟨K, eK⟩ : ∃ K, K = uM (setI (t0 N) 140 32 (nI u)) o g i k := ⟨_, rfl⟩
    rw [← eK] at hM
    have ej : ∀ a b, ¬ (a = 141 ∧ b = i) → ¬ (a = 141 ∧ b = g) → ¬ (a = 146 ∧ b = 8 * o + i) → ¬ (a = 151 ∧ b = k) → ¬ (a = 152 ∧ b = k) → ¬ (a = 140 ∧ (b = 21 ∨ b = 32)) → K.1 a b = N.1 a b := fun a b h1 h2 h3 h4 h5 h6 => by
      rw [eK]
      unfold uM
      simp only []
      rw [sI_ne h5, sI_ne h4, sI_ne h3, sI_ne h2, sI_ne h1, sI_ne (by omega), t0_o (by omega)]
    have f32 : K.1 140 32 = nI u := by
      rw [eK]
      unfold uM
      simp only []
      rw [sI_na (by omega), sI_na (by omega), sI_na (by omega), sI_na (by omega), sI_na (by omega)]
      exact sI_eq
    have fe2 : K.2.1 = M.2.1 := by rw [eK]; exact e2
    have vK : view K 28 = view N 28 := by
      funext c j
      unfold view
      split
      · exact ej _ _ (by omega) (by omega) (by omega) (by omega) (by omega) (by omega)
      · exact ej _ _ (by omega) (by omega) (by omega) (by omega) (by omega) (by omega)
    have mK : mv K = unT (mv M) o g i k := by
      rw [eK, mv_uM (by omega) (by omega), mv_I (by omega), t0_mv, emN]
    have f12 : ∀ j, j < 64 → mv M 12 j = mkT T' i k 12 j := fun j hj => (q.2.2.1.2.2.1 j hj).trans (congrFun (hal 12 (by omega) (by omega)) j)
    obtain ⟨uD, u12⟩ := un_D agm hi hk (by omega) hg n8 eo eg hig h10 h11 f12
    have fr : ∀ a b, ¬ (a = 29 ∨ (39 ≤ a ∧ a ≤ 41)) → ¬ (a = 0 ∧ b = 14) → psK a b = 1000 → ¬ (a = 140 ∧ (b = 21 ∨ b = 32)) → K.1 a b = M.1 a b := fun a b h1 h2 h4 h5 => by
      rw [ej a b (pK_no h4 (by omega)) (pK_no h4 (by omega)) (pK_no h4 (by omega)) (pK_no h4 (by omega)) (pK_no h4 (by omega)) h5, ek a b h1 h2]
    have fr2 : ∀ a b, ¬ (a = 29 ∨ (39 ≤ a ∧ a ≤ 41)) → ¬ (a = 0 ∧ b = 14) → ¬ (a = 141 ∨ a = 146 ∨ a = 151 ∨ a = 152) → ¬ (a = 140 ∧ (b = 21 ∨ b = 32)) → K.1 a b = M.1 a b := fun a b h1 h2 h4 h5 => by
      rw [ej a b (by omega) (by omega) (by omega) (by omega) (by omega) h5, ek a b h1 h2]
    refine two_f hC hM ⟨n, m, tn, (sim_h h ⟨⟨fun a b q1 q2 q3 q4 => fr a b (by omega) (by omega) q3 (by omega), fun a _ _ _ => by rw [fe2]⟩, fun b => ⟨fr2 _ _ (by omega) (by omega) (by omega) (by omega), fr2 _ _ (by omega) (by omega) (by omega) (by omega), fr2 _ _ (by omega) (by omega) (by omega) (by omega), fr2 _ _ (by omega) (by omega) (by omega) (by omega)⟩, ⟨fr2 _ _ (by omega) (by omega) (by omega) (by omega), fr2 _ _ (by omega) (by omega) (by omega) (by omega), fr2 _ _ (by omega) (by omega) (by omega) (by omega), fr2 _ _ (by omega) (by omega) (by omega) (by omega), fr2 _ _ (by omega) (by omega) (by omega) (by omega), fr2 _ _ (by omega) (by omega) (by omega) (by omega)⟩, fe2⟩ ?_ ?_).dx (by omega)⟩
    · rw [vK, mK]
      refine twP_alk ⟨hS, uD, u12, ?_, ?_⟩ vN
      · rw [un_o (by omega) (by omega) (by omega) (by omega)]
        exact q.2.2.1.2.2.2.1.trans (congrFun (al 19 (by omega) (by omega) (by omega) (by omega) (by omega) (by omega)) 0)
      · unfold lenT
        rw [un_o (by omega) (by omega) (by omega) (by omega), un_o (by omega) (by omega) (by omega) (by omega), ← al 17 (by omega) (by omega) (by omega) (by omega) (by omega) (by omega), ← al 13 (by omega) (by omega) (by omega) (by omega) (by omega) (by omega)]
        exact q.2.2.1.2.2.2.2
    · have eA : ∀ b, K.1 1 b = M.1 1 b := fun b => fr2 _ _ (by omega) (by omega) (by omega) (by omega)
      refine ⟨u, by omega, by rw [ej 0 14 (by omega) (by omega) (by omega) (by omega) (by omega) (by omega)]; exact e014, f32, fun b hb => ?_, ?_⟩
      · rw [eA b, fr2 157 b (by omega) (by omega) (by omega) (by omega)]
        exact b4 b (by omega)
      · rw [show K.1 1 = M.1 1 from funext eA, vK]
        exact UOK_alk vN hU
