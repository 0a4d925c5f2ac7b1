/-! what the class's town and the model's show alike -/
section
variable {T T' : TT} {n m : Nat}
theorem ptT_ag (h : agV T T' n m) (hO : OKS T n m) (hn : n ≤ 8) {k i : Nat} {srt : Int32} (hk : k < m) (hi : i < n) : ptT T' n srt k i = ptT T n srt k i := by
  unfold ptT
  obtain ⟨-, -, o, g, ho, hg, hog, eo, eg⟩ := hO.2.2.2 k hk
  rw [(h.2.1 k hk).1, (h.2.1 k hk).2.1, h.2.2.2.1, eo, nI_clamp (by omega)]
  rw [blw_congr (L := onT T') (L' := onT T) (fun j hj => onT_ag h hj) ho hi]
theorem thV_ag (h : agV T T' n m) {x : Int32} : thV T' m x = thV T m x := by
  unfold thV
  refine fbor_congr fun k hk => ?_
  unfold dueT
  rw [(h.2.1 k hk).2.2.2.2, (h.2.1 k hk).2.2.2.1]
theorem sumT_ag (h : agV T T' n m) {b : Int32} : sumT T' m b = sumT T m b := fsum_congr fun k hk => by rw [(h.2.1 k hk).2.2.1]
theorem lfT_ag (h : agV T T' n m) (hO : OKS T n m) (hn : n ≤ 8) {srt b who : Int32} : lfT T' n m srt b who = lfT T n m srt b who := by
  unfold lfT
  refine fbor_congr fun k hk => ?_
  rw [fbor_congr (fun i hi => ptT_ag h hO hn hk hi)]
theorem bdT_ag (h : agV T T' n m) (hO : OKS T n m) (hn : n ≤ 8) {srt b who : Int32} : bdT T' n m srt b who = bdT T n m srt b who := by
  unfold bdT
  rw [lfT_ag h hO hn, sumT_ag h, fsum_congr (g := fun k => if bt who k = true then T 0 k - T 3 k else 0) (fun k hk => by rw [(h.1 k hk).1, (h.1 k hk).2.2.2.1])]
theorem floT_ag (h : agV T T' n m) (hO : OKS T n m) (hn : n ≤ 8) {srt b : Int32} : floT T' n m srt b = floT T n m srt b := by
  unfold floT
  rw [show (fun k => bdT T' n m srt b (nI k)) = fun k => bdT T n m srt b (nI k) from funext fun k => bdT_ag h hO hn]
theorem notT_ag (h : agV T T' n m) (hO : OKS T n m) (hn : n ≤ 8) {srt b : Int32} : notT T' n m srt b = notT T n m srt b := by
  unfold notT
  refine fbor_congr fun k hk => ?_
  rw [(h.2.1 k hk).2.2.1, fbor_congr (fun i hi => ptT_ag h hO hn hk hi), fsum_congr (g := fun i => if bt (fbor (ptT T n srt k) n) i = true then T 0 i - T 3 i else 0) (fun i hi => by rw [(h.1 i hi).1, (h.1 i hi).2.2.2.1])]
theorem lwF_ag (h : agV T T' n m) : ∀ {i : Nat}, i ≤ n → 0 < n → lwF T' i = lwF T i
  | 0, _, _ => rfl
  | i + 1, hi, h0 => by
    have hl : lwF T i < n := by
      rcases Nat.eq_zero_or_pos i with q | q
      · rw [q]; exact h0
      · have := lwF_lt (T := T) q; omega
    simp only [lwF]
    rw [lwF_ag h (i := i) (by omega) h0, onT_ag h (by omega), onT_ag h hl]
theorem lwB_ag (h : agV T T' n m) (h0 : 0 < n) : lwB T' n = lwB T n := by
  unfold lwB
  refine fbor_congr fun i hi => ?_
  rw [lwF_ag h (Nat.le_refl _) h0, onT_ag h hi, onT_ag h (lwF_lt h0)]
theorem lwD_ag (h : agV T T' n m) (h0 : 0 < n) : lwD T' n m = lwD T n m := by
  unfold lwD
  refine fbor_congr fun k hk => ?_
  rw [lwB_ag h h0, (h.2.1 k hk).2.2.2.2, (h.2.1 k hk).1]
theorem AOK_ag (h : agV T T' n m) (hA : AOK T n) : AOK T' n := fun i hi => by
  obtain ⟨e0, e1, e2, e3, e4⟩ := h.1 i hi
  rw [e1, e2]; exact hA i hi
theorem bSo_ag {S : Nat → Int32} {z N0 : Nat} (h : agD T T' n m) (hO : okD T n m) (hn : n ≤ 8) : bSo S z n m T' N0 = bSo S z n m T N0 := by
  funext i
  unfold bSo
  exact congrArg (fun q => q.2.2.1) (dsX_ag (h.put (x := nI i)) hO.put hn).2
theorem vsX_ag (h : agV T T' n m) (hO : OKS T n m) (hn : n ≤ 8) (hm : m ≤ 10) {x : Int32} : vis T' n m (thV T' m x) = vsX T n m x := by
  unfold vsX
  rw [thV_ag h]
  exact vis_ag hn hm h hO fun i hi => by have := hO.1 i hi; omega
end
/-! what Sim gives to both -/
section
variable {M : Mem} {n m dx tn : Nat}
theorem SimQ.okC (h : SimQ M n m dx tn) : okD (view M 28) n m := h.2.2.1.1.1
theorem SimQ.aC (h : SimQ M n m dx tn) : AOK (view M 28) n := h.2.2.1.1.2.1
theorem SimQ.ag (h : SimQ M n m dx tn) : agD (view M 28) (mv M) n m := h.2.2.1.2.1
theorem SimQ.n8 (h : SimQ M n m dx tn) : n ≤ 8 := h.1.2.1
theorem SimQ.m10 (h : SimQ M n m dx tn) : m ≤ 10 := h.1.2.2.2.1
theorem SimQ.srt (h : SimQ M n m dx tn) : sortOK (M.1 153 0) := by
  have e : M.1 153 0 = view M 28 14 0 := h.ag.1.2.2.1
  rw [e]; exact h.2.2.1.1.2.2.2.1
theorem SimQ.s0 (h : SimQ M n m dx tn) : M.1 153 0 = M.1 43 0 := h.ag.1.2.2.1
theorem SimQ.okM (h : SimQ M n m dx tn) : okD (mv M) n m := ⟨h.okC.1.ag h.ag.1, h.2.1.1, h.2.1.2.2.1⟩
theorem SimQ.aM (h : SimQ M n m dx tn) : AOK (mv M) n := AOK_ag h.ag.1 h.aC
theorem SimQ.k01 (h : SimQ M n m dx tn) : ∀ i, i < n → M.1 143 i = 0 ∨ M.1 143 i = 1 := fun i hi => (h.aM i hi).2
theorem SimQ.MR (h : SimQ M n m dx tn) : ∃ z L, z ≤ 40 ∧ M.1 7 2 = nI z ∧ MR M n m (M.1 8) z L := by
  obtain ⟨z, L, a, b, c, d⟩ := h.2.2.2.2.2.1
  exact ⟨z, L, a, b, h.2.1, h.k01, h.srt, d, c⟩
theorem SimQ.day (h : SimQ M n m dx tn) : ∃ d, d ≤ dx ∧ mv M 18 0 = nI d := by
  obtain ⟨d, e, f⟩ := h.2.2.1.1.2.2.2.2.2
  exact ⟨d, e, h.ag.2.2.2.2.trans f⟩
theorem fcV_mv {N : Mem} (f : fcV M N) : mv N = mv M := mv_eq fun a j ha => f.1 a j (by unfold scr; omega) (by omega) (by omega)
/-- both called quietly -/
theorem two_q {yC yM : MethodName} {cC cM : ByteArray} {nC nM dC dM : Nat} {ret : Option FieldType} {As : List Value} {V : Option Value → Mem → Prop} (h : Sim M n m dx tn) (hC : Con yC cC nC ret dC (.ref 0 :: As) M V) (hV : ∀ v N, V v N → fcV M N ∧ SV N n m) (hM : ∀ v N, V v N → SimQ N n m dx tn → mv N = mv M → Con yM cM nM ret dM (.ref 140 :: As) N (fun v' K => v' = v ∧ frB N K ∧ simW K)) (hT : ∀ v N, V v N → tyR ret v := by
  intro v N hv
  first
  | (obtain ⟨rfl, -⟩ := hv; (first | exact tyI _ | exact tyZ _ | exact tyL _); done)
  | (obtain ⟨_, -, -, -, rfl, -⟩ := hv; (first | exact tyI _ | exact tyZ _ | exact tyL _); done)
  | (rcases hv with ⟨-, rfl, -⟩ | ⟨-, rfl, -⟩ <;> first | exact tyI _ | exact tyZ _ | exact tyL _)
  | (obtain ⟨-, ⟨-, -, rfl, -⟩ | ⟨-, rfl, -⟩⟩ := hv <;> first | exact tyI _ | exact tyZ _ | exact tyL _)
  | (obtain ⟨-, ⟨-, rfl, -⟩ | ⟨-, rfl, -⟩⟩ := hv <;> first | exact tyI _ | exact tyZ _ | exact tyL _)
  | (rcases hv with ⟨-, rfl, -⟩ | ⟨-, ⟨_, _, -, -, rfl, -⟩ | ⟨rfl, -⟩⟩ <;> first | exact tyI _ | exact tyZ _ | exact tyL _)
  | (obtain ⟨-, ⟨-, -, ⟨-, rfl, -⟩ | ⟨-, rfl, -⟩⟩ | ⟨-, rfl, -⟩⟩ := hv <;> first | exact tyI _ | exact tyZ _ | exact tyL _)
  | (obtain ⟨-, ⟨-, -, ⟨-, rfl, -⟩ | ⟨_, _, -, rfl, -⟩⟩ | ⟨-, rfl, -⟩⟩ := hv <;> first | exact tyI _ | exact tyZ _ | exact tyL _)) : Two yC cC nC ret dC yM cM nM dM As M n m dx tn :=
  ⟨V, hC, hT, fun v N hv => (hM v N hv (simQ_c h.q (hV v N hv).1) (fcV_mv (hV v N hv).1)).mono fun v' K ⟨e, f, w⟩ => ⟨e, n, m, tn, ((simQ_m (simQ_c h.q (hV v N hv).1) f).sim w (SV_m (hV v N hv).2 f)).dx (by omega)⟩⟩
/-- both refuse, or look only -/
theorem two_0 {yC yM : MethodName} {cC cM : ByteArray} {nC nM dC dM : Nat} {ret : Option FieldType} {As : List Value} {w : Option Value} (h : Sim M n m dx tn) (hC : Fun yC cC nC ret dC (.ref 0 :: As) M w M) (hM : Fun yM cM nM ret dM (.ref 140 :: As) M w (t0 M)) (hT : tyR ret w := by first | exact tyI _ | exact tyZ _ | exact tyL _) : Two yC cC nC ret dC yM cM nM dM As M n m dx tn :=
  two_q (hT := fun v N hv => by rw [hv.1]; exact hT) h hC (fun v N hv => by rw [hv.2]; exact ⟨fcR.refl.V, h.v⟩) fun v N hv _ _ => by
    obtain ⟨rfl, rfl⟩ := hv
    refine Con.mono hM fun v' K hk => ?_
    obtain ⟨rfl, rfl⟩ := hk
    exact ⟨rfl, frQ_t0.B, simW_k h.w fcK.refl.W frQ_t0.B (t0_o (by omega)) rfl⟩
end
theorem rngI {x : Int32} {n : Nat} (h : 0 ≤ x ∧ x < nI n) (hn : n < 2 ^ 31) : ∃ i, i < n ∧ x = nI i := by
  obtain ⟨e, hb⟩ := i_nI (x := x) (by have := h.1; rw [i_le, i_0] at this; exact this)
  refine ⟨x.toNatClampNeg, ?_, e⟩
  have h2 := h.2
  rw [e, Int32.lt_iff_toInt_lt, nI_toInt hb, nI_toInt hn] at h2
  omega
theorem rngJ {x : Int32} {n : Nat} (h : 0 ≤ x ∧ x ≤ nI n) (hn : n < 2 ^ 31) : ∃ i, i ≤ n ∧ x = nI i := by
  obtain ⟨e, hb⟩ := i_nI (x := x) (by have := h.1; rw [i_le, i_0] at this; exact this)
  refine ⟨x.toNatClampNeg, ?_, e⟩
  have h2 := h.2
  rw [e, i_le, nI_toInt hb, nI_toInt hn] at h2
  omega
