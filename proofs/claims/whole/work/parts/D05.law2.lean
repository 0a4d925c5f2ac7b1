/-! THE FOUR THAT THROW, in the class and in the model -/
theorem setJ_at {M : Mem} {i k : Nat} {x : Int64} : (setJ M i k x).2.1 i k = x := if_pos ⟨rfl, rfl⟩
theorem setJ_na {M : Mem} {i k a : Nat} {x : Int64} (h : a ≠ i) : (setJ M i k x).2.1 a = M.2.1 a := funext fun _ => if_neg fun z => h z.1
theorem t0_21 {M : Mem} : (t0 M).1 140 21 = 0 := sI_eq
section
variable {M N : Mem} {n m dx tn : Nat}
theorem Sim.J {x : Int64} (h : Sim M n m dx tn) : Sim (setJ M 176 0 x) n m dx tn :=
  ⟨h.1, h.2.1, h.2.2.1, h.2.2.2.1, h.2.2.2.2.1, h.2.2.2.2.2.1, simW_kk h.w rfl rfl (setJ_na (by omega)) (setJ_na (by omega)), h.2.2.2.2.2.2.2.1, h.2.2.2.2.2.2.2.2.1, h.2.2.2.2.2.2.2.2.2.1,
    SV_cg h.v (fun _ _ _ _ => rfl) (fun a _ _ => setJ_na (by omega)) (fun _ _ _ _ => rfl) ⟨fun _ _ => ⟨rfl, rfl⟩, fun _ _ => ⟨rfl, rfl, rfl, rfl⟩⟩⟩
theorem Sim.cK (h : Sim M n m dx tn) (f : fcK M N) : Sim N n m dx tn := (simQ_c h.q f.W.1).sim (simW_kk h.w f.2.1 (f.1.1 140 20 (by unfold scr; omega) (by omega)) f.2.2 (f.1.2.1 155 (by omega))) (SV_fr h.v f.1)
theorem Sim.mB (h : Sim M n m dx tn) (g : frB M N) (g1 : N.1 140 20 = M.1 140 20) (g2 : N.2.1 155 = M.2.1 155) : Sim N n m dx tn := (simQ_m h.q g).sim (simW_k h.w fcK.refl.W g g1 g2) (SV_m h.v g)
theorem Sim.z0 (h : Sim M n m dx tn) : Sim (t0 M) n m dx tn := h.mB frQ_t0.B (t0_o (by omega)) rfl
theorem Sim.z1 (h : Sim M n m dx tn) : Sim (setI (t0 M) 140 21 1) n m dx tn := h.z0.mB (frQ_I (by omega)).B (sI_ne (by omega)) rfl
theorem ofT_ag {T T' : TT} {i : Nat} {x : Int32} (h : agD T T' n m) (hi : i < n) : ofT T' n m i x = ofT T n m i x := by
  obtain ⟨a, b, c, d, e⟩ := h.1.1 i hi
  have f1 : fsum (fun k => if T' 10 k = 0 ∧ T' 6 k = nI i then T' 8 k else 0) m = fsum (fun k => if T 10 k = 0 ∧ T 6 k = nI i then T 8 k else 0) m := fsum_congr fun k hk => by
    obtain ⟨e6, e7, e8, e9, e10⟩ := h.1.2.1 k hk
    rw [e6, e8, e10]
  have f2 : fsum (fun k => if T' 10 k = 0 ∧ T' 7 k = nI i then T' 8 k else 0) m = fsum (fun k => if T 10 k = 0 ∧ T 7 k = nI i then T 8 k else 0) m := fsum_congr fun k hk => by
    obtain ⟨e6, e7, e8, e9, e10⟩ := h.1.2.1 k hk
    rw [e7, e8, e10]
  have f3 : fsum (fun j => T' 12 (8 * i + j)) n = fsum (fun j => T 12 (8 * i + j)) n := fsum_congr fun j hj => h.2.2.1 i j hi hj
  have f4 : fsum (fun j => T' 12 (8 * j + i)) n = fsum (fun j => T 12 (8 * j + i)) n := fsum_congr fun j hj => h.2.2.1 j i hj hi
  unfold ofT
  rw [a, b, c, d, onT_ag h.1 hi, f1, f2, f3, f4]
theorem deT_ag {T T' : TT} {k : Nat} {x : Int32} (h : agD T T' n m) (hk : k < m) : deT T' k x = deT T k x := by
  obtain ⟨e6, e7, e8, e9, e10⟩ := h.1.2.1 k hk
  unfold deT
  rw [e6, e7, e8, e9, e10, h.2.1 k hk]
/-- the answer of both, or that both refuse -/
def TrI (yC : MethodName) (cC : ByteArray) (nC dC dT : Nat) (yM : MethodName) (cM : ByteArray) (nM dM : Nat) (As : List Value) (M : Mem) (n m dx tn : Nat) : Prop :=
  (∃ V : Option Value → Mem → Prop, Con yC cC nC (some .int) dC (.ref 0 :: As) M V ∧ (∀ v N, V v N → ∃ a : Int32, v = some (.int a)) ∧ ∀ (a : Int32) (N : Mem), V (some (.int a)) N → Con yM cM nM (some .int) dM (.ref 140 :: As) (setJ N 176 0 a.toInt64) (fun v K => v = some (.int a) ∧ K.1 140 21 = 0 ∧ K.2.1 176 0 = a.toInt64 ∧ ∃ n' m' tn', Sim K n' m' (dx + 60) tn'))
  ∨ (Thr yC cC nC (some .int) dT (.ref 0 :: As) M ∧ Con yM cM nM (some .int) dM (.ref 140 :: As) M (fun v K => (∃ a : Int32, v = some (.int a)) ∧ K.1 140 21 = 1 ∧ ∃ n' m' tn', Sim K n' m' (dx + 60) tn'))
def TrL (yC : MethodName) (cC : ByteArray) (nC dC dT : Nat) (yM : MethodName) (cM : ByteArray) (nM dM : Nat) (As : List Value) (M : Mem) (n m dx tn : Nat) : Prop :=
  (∃ V : Option Value → Mem → Prop, Con yC cC nC (some .long) dC (.ref 0 :: As) M V ∧ (∀ v N, V v N → ∃ a : Int64, v = some (.long a)) ∧ ∀ (a : Int64) (N : Mem), V (some (.long a)) N → Con yM cM nM (some .long) dM (.ref 140 :: As) (setJ N 176 0 a) (fun v K => v = some (.long a) ∧ K.1 140 21 = 0 ∧ K.2.1 176 0 = a ∧ ∃ n' m' tn', Sim K n' m' (dx + 60) tn'))
  ∨ (Thr yC cC nC (some .long) dT (.ref 0 :: As) M ∧ Con yM cM nM (some .long) dM (.ref 140 :: As) M (fun v K => (∃ a : Int64, v = some (.long a)) ∧ K.1 140 21 = 1 ∧ ∃ n' m' tn', Sim K n' m' (dx + 60) tn'))
theorem q_of (h : Sim M n m dx tn) (y x : Int32) : TrI yX10_of cX10_of 3 2 6 yX11_of cX11_of 3 2 [.int y, .int x] M n m dx tn := by
  have q := h.q
  have ag := q.ag
  have n8 := q.n8
  have m10 := q.m10
  by_cases hx : (0 ≤ y ∧ y < nI n) ∧ 0 ≤ x ∧ x ≤ 8
  · obtain ⟨i, hi, rfl⟩ := rngI hx.1 (by omega)
    refine Or.inl ⟨_, c_X10_of q.1 hi hx.2, fun v N hv => ⟨_, hv.1⟩, fun a N hv => ?_⟩
    obtain ⟨ea, eN⟩ := hv
    have hN : Sim N n m dx tn ∧ mv N = mv M := by
      rcases eN with e | e
      · rw [e]; exact ⟨h, rfl⟩
      · rw [e]; exact ⟨h.cK fcK_L, fcV_mv fcK_L.W.1⟩
    have hJ := hN.1.J (x := a.toInt64)
    refine Con.mono (c_X11_of (M := setJ N 176 0 a.toInt64) hJ.2.1 hi (hJ.q.k01 i hi) hx.2) fun v K hk => ?_
    obtain ⟨rfl, rfl⟩ := hk
    refine ⟨?_, t0_21, setJ_at, n, m, tn, hJ.z0.dx (by omega)⟩
    rw [show mv (setJ N 176 0 a.toInt64) = mv M from hN.2, ofT_ag ag hi]
    exact ea.symm
  · refine Or.inr ⟨t_X10_of q.1 hx, Con.mono (c_X11_of_no q.2.1 hx) fun v K hk => ?_⟩
    obtain ⟨rfl, rfl⟩ := hk
    exact ⟨⟨_, rfl⟩, sI_eq, n, m, tn, h.z1.dx (by omega)⟩
theorem q_debt (h : Sim M n m dx tn) (y x : Int32) : TrI yX10_debt cX10_debt 3 1 6 yX11_debt cX11_debt 3 2 [.int y, .int x] M n m dx tn := by
  have q := h.q
  have ag := q.ag
  have n8 := q.n8
  have m10 := q.m10
  by_cases hx : (0 ≤ y ∧ y < nI m) ∧ 0 ≤ x ∧ x ≤ 5
  · obtain ⟨i, hi, rfl⟩ := rngI hx.1 (by omega)
    refine Or.inl ⟨_, c_X10_debt q.1 hi hx.2, fun v N hv => ⟨_, hv.1⟩, fun a N hv => ?_⟩
    obtain ⟨ea, rfl⟩ := hv
    have hJ := h.J (x := a.toInt64)
    refine Con.mono (c_X11_debt hJ.2.1 hi hx.2) fun v K hk => ?_
    obtain ⟨rfl, rfl⟩ := hk
    refine ⟨?_, t0_21, setJ_at, n, m, tn, hJ.z0.dx (by omega)⟩
    rw [ea]
    exact congrArg (fun z => some (Value.int z)) (deT_ag ag hi)
  · refine Or.inr ⟨t_X10_debt q.1 hx, Con.mono (c_X11_debt_no q.2.1 hx) fun v K hk => ?_⟩
    obtain ⟨rfl, rfl⟩ := hk
    exact ⟨⟨_, rfl⟩, sI_eq, n, m, tn, h.z1.dx (by omega)⟩
theorem q_row (h : Sim M n m dx tn) (x : Int32) : TrL yX10_row cX10_row 2 0 6 yX11_row cX11_row 2 1 [.int x] M n m dx tn := by
  have q := h.q
  obtain ⟨s, b1, b2, b3, b4⟩ := h.w
  by_cases hx : 0 ≤ x ∧ x < nI s
  · obtain ⟨i, hi, rfl⟩ := rngI hx (by omega)
    refine Or.inl ⟨_, c_X10_row b2 b1 hi, fun v N hv => ⟨_, hv.1⟩, fun a N hv => ?_⟩
    obtain ⟨ea, rfl⟩ := hv
    have hJ := h.J (x := a)
    refine Con.mono (c_X11_row (M := setJ N 176 0 a) b3 (by omega) hi) fun v K hk => ?_
    obtain ⟨rfl, rfl⟩ := hk
    refine ⟨?_, t0_21, setJ_at, n, m, tn, hJ.z0.dx (by omega)⟩
    rw [ea, setJ_na (by omega), b4 i hi]
  · refine Or.inr ⟨t_X10_row b2 hx, Con.mono (c_X11_row_no b3 (by omega) hx) fun v K hk => ?_⟩
    obtain ⟨rfl, rfl⟩ := hk
    exact ⟨⟨_, rfl⟩, sI_eq, n, m, tn, h.z1.dx (by omega)⟩
theorem q_pays (h : Sim M n m dx tn) (hd : dx ≤ 60000) (y v w : Int32) : TrI yX10_pays cX10_pays 4 7 7 yX11_pays cX11_pays 7 177 [.int y, .int v, .int w] M n m dx tn := by
  have q := h.q
  have ag := q.ag
  have hO := q.okC
  have n8 := q.n8
  have m10 := q.m10
  have e0 : ∀ i, i < n → M.1 141 i = M.1 29 i := fun i hi => (ag.1.1 i hi).1
  by_cases hx : (0 ≤ y ∧ y < nI n) ∧ (0 ≤ v ∧ v ≤ M.1 29 y.toNatClampNeg) ∧ 0 ≤ w ∧ w ≤ 60
  · obtain ⟨hx1, hx2, hx3⟩ := hx
    obtain ⟨i, hi, rfl⟩ := rngI hx1 (by omega)
    obtain ⟨N0, hN0, rfl⟩ := rngJ (n := 60) hx3 (by omega)
    rw [nI_clamp (by omega)] at hx2
    obtain ⟨z, L, hz, hz2, -⟩ := q.MR
    refine Or.inl ⟨_, c_X10_pays q.1 hO hz2 hz hN0 hi hx2, fun v N hv => ⟨_, hv.1⟩, fun a N hv => ?_⟩
    obtain ⟨ea, hf⟩ := hv
    have hN := h.cK hf
    have hJ := hN.J (x := a.toInt64)
    have em : mv (setJ N 176 0 a.toInt64) = mv M := show mv N = mv M from fcV_mv hf.W.1
    obtain ⟨z', L', hz', hz2', r⟩ := hJ.q.MR
    have ez : z' = z := by
      have e1 : (setJ N 176 0 a.toInt64).1 7 2 = M.1 7 2 := hf.1.1 7 2 (by unfold scr; omega) (by omega)
      rw [hz2, hz2'] at e1
      have e2 := congrArg Int32.toInt e1
      rw [nI_toInt (by omega), nI_toInt (by omega)] at e2
      omega
    have e8 : (setJ N 176 0 a.toInt64).1 8 = M.1 8 := funext fun j => hf.1.1 8 j (by unfold scr; omega) (by omega)
    rw [e8, ez] at r
    obtain ⟨d, hdd, e18⟩ := hJ.q.day
    have e141 : (setJ N 176 0 a.toInt64).1 141 i = M.1 29 i := (hf.1.1 141 i (by unfold scr; omega) (by omega)).trans (e0 i hi)
    refine Con.mono (c_X11_pays (M := setJ N 176 0 a.toInt64) r (td := d) hJ.q.okM e18 (by omega) hN0 hi (by rw [e141]; exact hx2)) fun v' K hk => ?_
    obtain ⟨rfl, hg, g20, g21, g155⟩ := hk
    refine ⟨?_, g21, (congrFun (hg.2 176 (by omega) (by omega)) 0).trans setJ_at, n, m, tn, (hJ.mB hg g20 g155).dx (by omega)⟩
    rw [ea, em, hbX_ag ag.hid (hO.hid hx2) n8 hi, hbX_ag ag.hid (hO.hid ⟨Int32.le_refl _, Int32.le_trans hx2.1 hx2.2⟩) n8 hi]
  · refine Or.inr ⟨t_X10_pays q.1 hx, Con.mono (c_X11_pays_no q.2.1 fun z => hx ?_) fun v K hk => ?_⟩
    · obtain ⟨z1, z2, z3⟩ := z
      obtain ⟨i, hi, rfl⟩ := rngI z1 (by omega)
      rw [nI_clamp (by omega), e0 i hi] at z2
      refine ⟨z1, ?_, z3⟩
      rw [nI_clamp (by omega)]
      exact z2
    · obtain ⟨rfl, rfl⟩ := hk
      exact ⟨⟨_, rfl⟩, sI_eq, n, m, tn, h.z1.dx (by omega)⟩
end
