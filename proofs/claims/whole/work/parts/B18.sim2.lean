/-- what ties them, but the row and the States that are kept -/
def SimQ (M : Mem) (n m dx tn : Nat) : Prop := TW M 28 n m ∧ MW M n m ∧ twP (view M 28) (mv M) n m dx ∧ (M.1 140 55 = nI tn ∧ tn ≤ n + m) ∧ simX M ∧ simR M ∧ simU M n m dx ∧ simK M n m dx tn 0 60 15 ∧ simK M n m dx tn 1 76 16
theorem Sim.q {M : Mem} {n m dx tn : Nat} (h : Sim M n m dx tn) : SimQ M n m dx tn := ⟨h.1, h.2.1, h.2.2.1, h.2.2.2.1, h.2.2.2.2.1, h.2.2.2.2.2.1, h.2.2.2.2.2.2.2.1, h.2.2.2.2.2.2.2.2.1, h.2.2.2.2.2.2.2.2.2.1⟩
theorem Sim.w {M : Mem} {n m dx tn : Nat} (h : Sim M n m dx tn) : simW M := h.2.2.2.2.2.2.1
theorem Sim.v {M : Mem} {n m dx tn : Nat} (h : Sim M n m dx tn) : SV M n m := h.2.2.2.2.2.2.2.2.2.2
theorem SimQ.sim {M : Mem} {n m dx tn : Nat} (h : SimQ M n m dx tn) (w : simW M) (v : SV M n m) : Sim M n m dx tn := ⟨h.1, h.2.1, h.2.2.1, h.2.2.2.1, h.2.2.2.2.1, h.2.2.2.2.2.1, w, h.2.2.2.2.2.2.1, h.2.2.2.2.2.2.2.1, h.2.2.2.2.2.2.2.2, v⟩
theorem mv_eq {M N : Mem} (h : ∀ a j, 140 ≤ a → N.1 a j = M.1 a j) : mv N = mv M := by
  funext c j
  by_cases hc : c ≠ 5 ∧ c < 20
  · rw [mv_mo hc, mv_mo hc]
    refine h _ _ ?_
    unfold mo
    split
    · omega
    · split
      · omega
      · split
        · omega
        · split
          · omega
          · split <;> omega
  · rw [mv_no hc, mv_no hc]
theorem simK_c {M N : Mem} {n m dx tn s t f : Nat} (h : simK M n m dx tn s t f) (h1 : N.1 0 f = M.1 0 f) (h2 : ∀ a j, 140 ≤ a → N.1 a j = M.1 a j) (h3 : alk (view M t) (view N t)) : simK N n m dx tn s t f := by
  unfold simK at h ⊢
  rw [h1, h2 174 s (by omega), h2 175 s (by omega)]
  refine h.imp id fun ⟨a1, a2, n1, m1, t1, a3, a4, a5, a6, a7⟩ => ⟨a1, a2, n1, m1, t1, a3, a4, a5, a6, ?_⟩
  have e : mv (agM N (133 * s) 133) = mv (agM M (133 * s) 133) := mv_eq fun a j ha => by
    show (if psK a j < 133 then N.1 173 (133 * s + psK a j) else N.1 a j) = (if psK a j < 133 then M.1 173 (133 * s + psK a j) else M.1 a j)
    rw [h2 173 _ (by omega), h2 a j ha]
  rw [e]
  exact twP_alk a7 h3
/-- the class has called quietly -/
theorem simQ_c {M N : Mem} {n m dx tn : Nat} (h : SimQ M n m dx tn) (f : fcV M N) : SimQ N n m dx tn := by
  have k : ∀ a j, ¬ scr a → ¬ (a = 4 ∧ j = 1) → ¬ ((19 ≤ a ∧ a ≤ 27) ∨ (108 ≤ a ∧ a ≤ 123)) → N.1 a j = M.1 a j := f.1
  have k140 : ∀ a j, 140 ≤ a → N.1 a j = M.1 a j := fun a j ha => k a j (by unfold scr; omega) (by omega) (by omega)
  have v28 : alk (view M 28) (view N 28) := fun c h5 h20 => view_same (M := M) (M' := N) (t := 28) (fun c' h1 h2 => by funext j; exact k _ _ (by unfold scr; omega) (by omega) (by omega)) c h5 h20
  have v60 : alk (view M 60) (view N 60) := fun c h5 h20 => view_same (M := M) (M' := N) (t := 60) (fun c' h1 h2 => by funext j; exact k _ _ (by unfold scr; omega) (by omega) (by omega)) c h5 h20
  have v76 : alk (view M 76) (view N 76) := fun c h5 h20 => view_same (M := M) (M' := N) (t := 76) (fun c' h1 h2 => by funext j; exact k _ _ (by unfold scr; omega) (by omega) (by omega)) c h5 h20
  obtain ⟨a1, a2, a3, a4, a5, a6, a7, a8, a9⟩ := h
  refine ⟨a1.keep (k _ _ (by unfold scr; omega) (by omega) (by omega)) (k _ _ (by unfold scr; omega) (by omega) (by omega)) (fun _ _ => k _ _ (by unfold scr; omega) (by omega) (by omega)) (fun _ _ => k _ _ (by unfold scr; omega) (by omega) (by omega)),
    a2.keep (k140 _ _ (by omega)) (k140 _ _ (by omega)) (fun _ _ => k140 _ _ (by omega)) (fun _ _ => k140 _ _ (by omega)), ?_, ⟨(k140 _ _ (by omega)).trans a4.1, a4.2⟩, ?_, ?_, ?_,
    simK_c a8 (k _ _ (by unfold scr; omega) (by omega) (by omega)) k140 v60, simK_c a9 (k _ _ (by unfold scr; omega) (by omega) (by omega)) k140 v76⟩
  · rw [mv_eq k140]; exact twP_alk a3 v28
  · obtain ⟨t, b1, b2, b3, b4⟩ := a5
    refine ⟨t, b1, (k _ _ (by unfold scr; omega) (by omega) (by omega)).trans b2, (k140 _ _ (by omega)).trans b3, fun j hj => ?_⟩
    rw [k 3 j (by unfold scr; omega) (by omega) (by omega), k140 154 j (by omega)]
    exact b4 j hj
  · obtain ⟨z, L, b1, b2, b3, b4⟩ := a6
    refine ⟨z, L, b1, (k _ _ (by unfold scr; omega) (by omega) (by omega)).trans b2, (k140 _ _ (by omega)).trans b3, ?_⟩
    rw [show N.1 8 = M.1 8 from funext fun j => k 8 j (by unfold scr; omega) (by omega) (by omega), show N.1 156 = M.1 156 from funext fun j => k140 156 j (by omega)]
    exact b4
  · obtain ⟨u, b1, b2, b3, b4, b5⟩ := a7
    refine ⟨u, b1, (k _ _ (by unfold scr; omega) (by omega) (by omega)).trans b2, (k140 _ _ (by omega)).trans b3, fun j hj => ?_, ?_⟩
    · rw [k 1 j (by unfold scr; omega) (by omega) (by omega), k140 157 j (by omega)]; exact b4 j hj
    · rw [show N.1 1 = M.1 1 from funext fun j => k 1 j (by unfold scr; omega) (by omega) (by omega)]
      exact UOK_alk v28 b5
/-- the model has called quietly -/
theorem simQ_m {M N : Mem} {n m dx tn : Nat} (h : SimQ M n m dx tn) (f : frB M N) : SimQ N n m dx tn := by
  have k : ∀ a j, a < 140 → N.1 a j = M.1 a j := fun a j ha => frB_in f (by omega) (by omega) (by omega)
  have ev : ∀ t, t ≤ 120 → view N t = view M t := fun t ht => by
    funext c j
    unfold view
    split
    · exact k _ _ (by omega)
    · exact k _ _ (by omega)
  obtain ⟨a1, a2, a3, a4, a5, a6, a7, a8, a9⟩ := h
  have hn := a1.2.1
  have hm := a1.2.2.2.1
  have hK : ∀ {s t fl : Nat}, t ≤ 120 → simK M n m dx tn s t fl → simK N n m dx tn s t fl := fun {s t fl} ht hk => by
    unfold simK at hk ⊢
    rw [k 0 fl (by omega), show N.1 174 s = M.1 174 s from frB_in f (by omega) (by omega) (by omega), show N.1 175 s = M.1 175 s from frB_in f (by omega) (by omega) (by omega), ev t ht]
    exact hk.imp id fun ⟨b1, b2, n1, m1, t1, b3, b4, b5, b6, b7⟩ => ⟨b1, b2, n1, m1, t1, b3, b4, b5, b6, twP_q b7 (frB_ag f) (by omega) (by omega)⟩
  refine ⟨a1.keep (k _ _ (by omega)) (k _ _ (by omega)) (fun _ _ => k _ _ (by omega)) (fun _ _ => k _ _ (by omega)), f.MW a2, ?_, ⟨(frB_in f (by omega) (by omega) (by omega)).trans a4.1, a4.2⟩, ?_, ?_, ?_, hK (by omega) a8, hK (by omega) a9⟩
  · rw [ev 28 (by omega)]; exact twP_q a3 (frB_q f) hn hm
  · obtain ⟨t, b1, b2, b3, b4⟩ := a5
    refine ⟨t, b1, (k _ _ (by omega)).trans b2, (frB_in f (by omega) (by omega) (by omega)).trans b3, fun j hj => ?_⟩
    rw [k 3 j (by omega), show N.1 154 j = M.1 154 j from frB_in f (by omega) (by omega) (by omega)]
    exact b4 j hj
  · obtain ⟨z, L, b1, b2, b3, b4⟩ := a6
    refine ⟨z, L, b1, (k _ _ (by omega)).trans b2, (frB_in f (by omega) (by omega) (by omega)).trans b3, ?_⟩
    rw [show N.1 8 = M.1 8 from funext fun j => k 8 j (by omega), show N.1 156 = M.1 156 from funext fun j => frB_in f (by omega) (by omega) (by omega)]
    exact b4
  · obtain ⟨u, b1, b2, b3, b4, b5⟩ := a7
    refine ⟨u, b1, (k _ _ (by omega)).trans b2, (frB_in f (by omega) (by omega) (by omega)).trans b3, fun j hj => ?_, ?_⟩
    · rw [k 1 j (by omega), show N.1 157 j = M.1 157 j from frB_in f (by omega) (by omega) (by omega)]; exact b4 j hj
    · rw [show N.1 1 = M.1 1 from funext fun j => k 1 j (by omega), ev 28 (by omega)]
      exact b5
theorem SV_m {M N : Mem} {n m : Nat} (h : SV M n m) (f : frB M N) : SV N n m := by
  have k : ∀ a j, a < 140 → N.1 a j = M.1 a j := fun a j ha => frB_in f (by omega) (by omega) (by omega)
  exact SV_cg h (fun a j _ _ => k _ _ (by omega)) (fun a _ _ => f.2 a (by omega) (by omega)) (fun a j _ _ => k _ _ (by omega)) ⟨fun j _ => ⟨k _ _ (by omega), k _ _ (by omega)⟩, fun j _ => ⟨k _ _ (by omega), k _ _ (by omega), k _ _ (by omega), k _ _ (by omega)⟩⟩
/-- rows -/
theorem frB_row {M N : Mem} (f : frB M N) : N.1 4 1 = M.1 4 1 ∧ N.2.1 5 = M.2.1 5 := ⟨frB_in f (by omega) (by omega) (by omega), f.2 5 (by omega) (by omega)⟩
theorem simW_k {M N K : Mem} (h : simW M) (f : fcW M N) (g : frB N K) (g1 : K.1 140 20 = N.1 140 20) (g2 : K.2.1 155 = N.2.1 155) : simW K := by
  obtain ⟨s, a1, a2, a3, a4⟩ := h
  refine ⟨s, a1, (frB_row g).1.trans (f.2.1.trans a2), g1.trans ((f.1.1 140 20 (by unfold scr; omega) (by omega) (by omega)).trans a3), fun j hj => ?_⟩
  rw [(frB_row g).2, f.2.2, g2, f.1.2.1 155 (by omega) (by omega)]
  exact a4 j hj
theorem simW_1 {N K : Mem} {a : Int64} (h : row1C N a) (g : frB N K) (h2 : row1 K a) : simW K :=
  ⟨1, by omega, (frB_row g).1.trans h.1, h2.1, fun j hj => by rw [(frB_row g).2, show j = 0 by omega, h.2]; exact h2.2⟩
theorem simW_2 {N K : Mem} {a b : Int64} (h : row2C N a b) (g : frB N K) (h2 : row2 K a b) : simW K :=
  ⟨2, by omega, (frB_row g).1.trans h.1, h2.1, fun j hj => by
    rw [(frB_row g).2]
    rcases (show j = 0 ∨ j = 1 by omega) with z | z
    · rw [z, h.2.1]; exact h2.2.1
    · rw [z, h.2.2]; exact h2.2.2⟩
theorem simW_4 {N K : Mem} {a b c d : Int64} (h : row4C N a b c d) (g : frB N K) (h2 : row4 K a b c d) : simW K :=
  ⟨4, by omega, (frB_row g).1.trans h.1, h2.1, fun j hj => by
    rw [(frB_row g).2]
    rcases (show j = 0 ∨ j = 1 ∨ j = 2 ∨ j = 3 by omega) with z | z | z | z
    · rw [z, h.2.1]; exact h2.2.1
    · rw [z, h.2.2.1]; exact h2.2.2.1
    · rw [z, h.2.2.2.1]; exact h2.2.2.2.1
    · rw [z, h.2.2.2.2]; exact h2.2.2.2.2⟩
theorem simW_N {N K : Mem} {l : Nat} {f : Nat → Int64} (hl : l ≤ 10) (h : rowNC N l f) (g : frB N K) (h2 : rowN K l f) : simW K :=
  ⟨l, hl, (frB_row g).1.trans h.1, h2.1, fun j hj => by rw [(frB_row g).2, h.2 j hj]; exact h2.2 j hj⟩
/-- an answer of the kind that is told -/
def tyR (ret : Option FieldType) (v : Option Value) : Prop := match ret with
  | some .long => ∃ a : Int64, v = some (.long a)
  | _ => ∃ a : Int32, v = some (.int a)
theorem tyI (a : Int32) : tyR (some .int) (some (.int a)) := ⟨a, rfl⟩
theorem tyZ (a : Int32) : tyR (some .boolean) (some (.int a)) := ⟨a, rfl⟩
theorem tyL (a : Int64) : tyR (some .long) (some (.long a)) := ⟨a, rfl⟩
/-- A CALL OF THE CLASS, THEN ONE OF THE MODEL: the same answer, and what ties them stays -/
def Two (yC : MethodName) (cC : ByteArray) (nC : Nat) (ret : Option FieldType) (dC : Nat) (yM : MethodName) (cM : ByteArray) (nM dM : Nat) (As : List Value) (M : Mem) (n m dx tn : Nat) : Prop :=
  ∃ V : Option Value → Mem → Prop, Con yC cC nC ret dC (.ref 0 :: As) M V ∧ (∀ v N, V v N → tyR ret v) ∧ ∀ v N, V v N → Con yM cM nM ret dM (.ref 140 :: As) N (fun v' K => v' = v ∧ ∃ n' m' tn', Sim K n' m' (dx + 60) tn')
theorem twS_dx {T : TT} {n m dx dy : Nat} (h : twS T n m dx) (hd : dx ≤ dy) : twS T n m dy := ⟨h.1, h.2.1, h.2.2.1, h.2.2.2.1, h.2.2.2.2.1, by obtain ⟨d, e, f⟩ := h.2.2.2.2.2; exact ⟨d, by omega, f⟩⟩
theorem twP_dx {T T' : TT} {n m dx dy : Nat} (h : twP T T' n m dx) (hd : dx ≤ dy) : twP T T' n m dy := ⟨twS_dx h.1 hd, h.2⟩
theorem UOK_dx {K : Nat → Int32} {n m dx dy : Nat} (hd : dx ≤ dy) : ∀ {u : Nat} {T : TT}, UOK K n m dx u T → UOK K n m dy u T
  | 0, _, _ => trivial
  | _ + 1, _, ⟨T', i, k, a1, a2, a3, a4, a5, a7, a8⟩ => ⟨T', i, k, a1, a2, a3, twS_dx a4 hd, a5, a7, UOK_dx hd a8⟩
theorem simK_dx {M : Mem} {n m dx dy tn s t f : Nat} (hd : dx ≤ dy) (h : simK M n m dx tn s t f) : simK M n m dy tn s t f := by
  unfold simK at h ⊢
  exact h.imp id fun ⟨a1, a2, n1, m1, t1, a3, a4, a5, a6, a7⟩ => ⟨a1, a2, n1, m1, t1, a3, a4, a5, a6, twP_dx a7 hd⟩
theorem Sim.dx {M : Mem} {n m dx dy tn : Nat} (h : Sim M n m dx tn) (hd : dx ≤ dy) : Sim M n m dy tn := by
  obtain ⟨a1, a2, a3, a4, a5, a6, a7, ⟨u, b1, b2, b3, b4, b5⟩, a9, a10, a11⟩ := h
  exact ⟨a1, a2, twP_dx a3 hd, a4, a5, a6, a7, ⟨u, b1, b2, b3, b4, UOK_dx hd b5⟩, simK_dx hd a9, simK_dx hd a10, a11⟩
