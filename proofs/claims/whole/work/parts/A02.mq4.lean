def pw (x : Nat) : Nat := pcN (nI x) 10
theorem pcN_sub {x y : Int32} : ∀ {e : Nat}, (∀ j, j < e → bt x j = true → bt y j = true) → pcN x e ≤ pcN y e ∧ (pcN x e = pcN y e → ∀ j, j < e → bt x j = bt y j)
  | 0, _ => ⟨Nat.le_refl _, fun _ j hj => absurd hj (Nat.not_lt_zero _)⟩
  | e + 1, h => by
    obtain ⟨h1, h2⟩ := pcN_sub (e := e) (fun j hj => h j (by omega))
    have h3 := h e (by omega)
    simp only [pcN]
    cases hx : bt x e <;> cases hy : bt y e
    · refine ⟨by simpa using h1, fun z j hj => ?_⟩
      by_cases q : j = e
      · rw [q, hx, hy]
      · exact h2 (by simpa using z) j (by omega)
    · simp
      refine ⟨by omega, fun z => by omega⟩
    · rw [hx, hy] at h3; cases h3 rfl
    · simp
      refine ⟨h1, fun z j hj => ?_⟩
      by_cases q : j = e
      · rw [q, hx, hy]
      · exact h2 z j (by omega)
theorem pw_le {x : Nat} : pw x ≤ 10 := pcN_le
theorem b_lt {x : Nat} (h : x < 1024) {j : Nat} (hj : bt (nI x) j = true) : j < 10 := by
  have e : nI x &&& 1023 = nI x := by
    refine Int32.toBitVec_inj.mp (BitVec.eq_of_toNat_eq ?_)
    rw [Int32.toBitVec_and, BitVec.toNat_and]
    show x % 2 ^ 32 &&& (2 ^ 10 - 1) = x % 2 ^ 32
    rw [Nat.and_two_pow_sub_one_eq_mod]
    omega
  refine Nat.lt_of_not_le fun z => ?_
  rw [← e, b_and] at hj
  by_cases h32 : j < 32
  · rw [b_1023 j h32] at hj
    simp at hj; omega
  · rw [b_big (x := (1023 : Int32)) (by omega), Bool.and_false] at hj; cases hj
theorem pw_sub {x y : Nat} (hx : x < 1024) (hy : y < 1024) (h : ∀ j, bt (nI x) j = true → bt (nI y) j = true) : pw x ≤ pw y ∧ (pw x = pw y → x = y) := by
  obtain ⟨h1, h2⟩ := pcN_sub (x := nI x) (y := nI y) (e := 10) (fun j _ => h j)
  refine ⟨h1, fun z => ?_⟩
  have h3 := h2 z
  refine (nI_eq (by omega) (by omega)).mp (b_ext fun j _ => ?_)
  by_cases q : j < 10
  · exact h3 j q
  · rw [Bool.eq_false_iff.mpr fun z => q (b_lt hx z), Bool.eq_false_iff.mpr fun z => q (b_lt hy z)]
theorem bc_pw {x : Nat} (h : x < 1024) : bcnt (nI x) = nI (pw x) := bc10 x h
/-- fewer bits, or as many and less -/
def lexL (x y : Nat) : Prop := pw x < pw y ∨ (pw x = pw y ∧ x < y)
theorem fewB_iff {x y : Nat} (hx : x < 1024) (hy : y < 1024) : fewB (nI x) (nI y) = true ↔ lexL x y := by
  have px := pw_le (x := x)
  have py := pw_le (x := y)
  have e : (nI (pw x) - nI (pw y)).toInt = (pw x : Int) - pw y := by rw [i_sub (by rw [nI_toInt (by omega), nI_toInt (by omega)]; omega) (by rw [nI_toInt (by omega), nI_toInt (by omega)]; omega), nI_toInt (by omega), nI_toInt (by omega)]
  unfold fewB lexL
  rw [bc_pw hx, bc_pw hy]
  simp only [Bool.or_eq_true, Bool.and_eq_true, decide_eq_true_eq]
  have h0 : ¬ nI y < 0 := fun z => by rw [Int32.lt_iff_toInt_lt, nI_toInt (by omega), i_0] at z; omega
  have h1 : nI (pw x) - nI (pw y) < 0 ↔ pw x < pw y := by rw [Int32.lt_iff_toInt_lt, e, i_0]; omega
  have h2 : nI (pw x) - nI (pw y) = 0 ↔ pw x = pw y := by rw [← Int32.toInt_inj, e, i_0]; omega
  have h3 : nI x < nI y ↔ x < y := nI_ltI (by omega) (by omega)
  rw [h1, h2, h3]
  simp [h0]
theorem fewB_m1 {a : Int32} : fewB a (-1) = true := by
  unfold fewB
  rw [show decide ((-1 : Int32) < 0) = true by decide]
  rfl
/-- the fewest of those so far: none, or one of them that none comes before -/
theorem fewN_sp {q : Nat → Bool} {f : Nat → Int32} {p : Nat → Nat} : ∀ {e : Nat}, (∀ t, t < e → f t = nI (p t) ∧ p t < 1024) → (fewN q f e = -1 ∧ ∀ t, t < e → q t = false) ∨ ∃ t, t < e ∧ q t = true ∧ fewN q f e = nI (p t) ∧ ∀ u, u < e → q u = true → ¬ lexL (p u) (p t)
  | 0, _ => Or.inl ⟨rfl, fun t ht => absurd ht (Nat.not_lt_zero _)⟩
  | e + 1, h => by
    obtain ⟨f1, f2⟩ := h e (by omega)
    simp only [fewN]
    rcases fewN_sp (q := q) (e := e) (fun t ht => h t (by omega)) with ⟨a1, a2⟩ | ⟨t, t1, t2, t3, t4⟩
    · rw [a1, fewB_m1]
      by_cases z : q e = true
      · rw [if_pos ⟨z, rfl⟩]
        refine Or.inr ⟨e, by omega, z, f1, fun u hu hq => ?_⟩
        by_cases y : u = e
        · subst y; unfold lexL; omega
        · rw [a2 u (by omega)] at hq; cases hq
      · rw [if_neg fun y => z y.1]
        refine Or.inl ⟨rfl, fun t ht => ?_⟩
        by_cases y : t = e
        · rw [y]; simpa using z
        · exact a2 t (by omega)
    · rw [t3, f1]
      have hiff := fewB_iff f2 (h t (by omega)).2
      by_cases z : q e = true ∧ fewB (nI (p e)) (nI (p t)) = true
      · rw [if_pos z]
        have hl := hiff.mp z.2
        refine Or.inr ⟨e, by omega, z.1, rfl, fun u hu hq y => ?_⟩
        by_cases c : u = e
        · subst c; unfold lexL at y; omega
        · have := t4 u (by omega) hq
          unfold lexL at this hl y
          omega
      · rw [if_neg z]
        refine Or.inr ⟨t, by omega, t2, rfl, fun u hu hq y => ?_⟩
        by_cases c : u = e
        · subst c; exact z ⟨hq, hiff.mpr y⟩
        · exact t4 u (by omega) hq y
theorem py_nI {T : TT} {n m : Nat} (hn : n ≤ 8) {S : SS} {t : Nat} : ∃ k, k < 2 ^ n ∧ pyS T n m S t = nI k := by
  obtain ⟨k, hk, e⟩ := small10 (x := pyS T n m S t) (fun j hj => by
    unfold pyS ptS at hj
    rw [b_fbor _ n (by omega)] at hj
    simp at hj; omega)
  refine ⟨k, ?_, e⟩
  have : ∀ j, n ≤ j → bt (nI k) j = false := fun j hj => by
    rw [← e]
    unfold pyS ptS
    rw [b_fbor _ n (by omega)]
    simp; omega
  refine Nat.lt_pow_two_of_testBit _ fun j hj => ?_
  have h2 := this j hj
  unfold bt at h2
  have h3 : (nI k).toBitVec.getLsbD j = (k % 2 ^ 32).testBit j := rfl
  rw [h3, Nat.mod_eq_of_lt (by omega)] at h2
  exact h2
/-- some can pay all, these alone -/
def canW (T : TT) (n m : Nat) (these : Int32) (S : SS) (who : Nat) : Prop := ∃ t, t < S.N ∧ S.mk t = these ∧ ∀ j, bt (pyS T n m S t) j = true → bt (nI who) j = true
/-- the best so far, before w -/
def bsW (T : TT) (n m : Nat) (these : Int32) (S : SS) (w : Nat) (b : Int32) : Prop := (b = -1 ∧ ∀ v, v < w → ¬ canW T n m these S v) ∨ ∃ v, v < w ∧ b = nI v ∧ canW T n m these S v ∧ ∀ u, u < w → canW T n m these S u → ¬ lexL u v
theorem bsW_end {T : TT} {n m : Nat} {these : Int32} {S : SS} {b : Int32} (hn : n ≤ 8) (h : bsW T n m these S (2 ^ n) b) : b = fewN (fun t => decide (S.mk t = these)) (pyS T n m S) S.N := by
  have h2n : 2 ^ n ≤ 256 := (by decide +kernel : ∀ n, n ≤ 8 → 2 ^ n ≤ 256) n hn
  have hp : ∀ t, ∃ k, k < 2 ^ n ∧ pyS T n m S t = nI k := fun t => py_nI hn
  have hp2 : ∀ t, pyS T n m S t = nI (pyS T n m S t).toNatClampNeg ∧ (pyS T n m S t).toNatClampNeg < 2 ^ n := fun t => by
    obtain ⟨k, hk, e⟩ := hp t
    rw [e, nI_clamp (by omega)]; exact ⟨rfl, hk⟩
  have hf := fewN_sp (q := fun t => decide (S.mk t = these)) (f := pyS T n m S) (p := fun t => (pyS T n m S t).toNatClampNeg) (e := S.N) (fun t _ => ⟨(hp2 t).1, by have := (hp2 t).2; omega⟩)
  have hself : ∀ t, t < S.N → S.mk t = these → canW T n m these S (pyS T n m S t).toNatClampNeg := fun t h1 h2 => ⟨t, h1, h2, fun j hj => by rw [← (hp2 t).1]; exact hj⟩
  rcases hf with ⟨f1, f2⟩ | ⟨t, t1, t2, t3, t4⟩
  · rw [f1]
    rcases h with ⟨h1, -⟩ | ⟨v, v1, v2, ⟨t, y1, y2, y3⟩, v4⟩
    · exact h1
    · have := f2 t y1; simp [y2] at this
  · have t2 : S.mk t = these := by simpa using t2
    rw [t3]
    rcases h with ⟨h1, h2⟩ | ⟨v, v1, v2, ⟨u, y1, y2, y3⟩, v4⟩
    · exact absurd (hself t t1 t2) (h2 _ (hp2 t).2)
    · have a1 := v4 _ (hp2 t).2 (hself t t1 t2)
      have a2 := t4 u y1 (by simpa using y2)
      obtain ⟨s1, s2⟩ := pw_sub (x := (pyS T n m S u).toNatClampNeg) (y := v) (by have := (hp2 u).2; omega) (by omega) (fun j hj => y3 j (by rw [(hp2 u).1]; exact hj))
      rw [v2]
      refine congrArg nI ?_
      unfold lexL at a1 a2
      omega
theorem bsW_S1 {T : TT} {n m : Nat} {these : Int32} {S : SS} {w v : Nat} (h : bsW T n m these S w (nI v)) (hv : v < 1024) (hw : w < 1024) (hl : pw v ≤ pw w) : bsW T n m these S (w + 1) (nI v) := by
  rcases h with ⟨h1, -⟩ | ⟨v', v1, v2, v3, v4⟩
  · exact absurd h1 (nI_nm1 (by omega))
  · obtain rfl : v = v' := (nI_eq (by omega) (by omega)).mp v2
    refine Or.inr ⟨v, by omega, rfl, v3, fun u hu hc => ?_⟩
    by_cases q : u = w
    · subst q; unfold lexL; omega
    · exact v4 u (by omega) hc
theorem bsW_S2 {T : TT} {n m : Nat} {these : Int32} {S : SS} {w : Nat} {b : Int32} (h : bsW T n m these S w b) (hc : ¬ canW T n m these S w) : bsW T n m these S (w + 1) b := by
  rcases h with ⟨h1, h2⟩ | ⟨v', v1, v2, v3, v4⟩
  · refine Or.inl ⟨h1, fun v hv => ?_⟩
    by_cases q : v = w
    · rw [q]; exact hc
    · exact h2 v (by omega)
  · refine Or.inr ⟨v', by omega, v2, v3, fun u hu hc2 => ?_⟩
    by_cases q : u = w
    · rw [q] at hc2; exact absurd hc2 hc
    · exact v4 u (by omega) hc2
theorem bsW_S3 {T : TT} {n m : Nat} {these : Int32} {S : SS} {w : Nat} {b : Int32} (h : bsW T n m these S w b) (hw : w < 1024) (hc : canW T n m these S w) (hb : b = -1 ∨ ∃ v, v < 1024 ∧ b = nI v ∧ pw w < pw v) : bsW T n m these S (w + 1) (nI w) := by
  refine Or.inr ⟨w, by omega, rfl, hc, fun u hu hcu => ?_⟩
  by_cases q : u = w
  · rw [q]; unfold lexL; omega
  · rcases h with ⟨h1, h2⟩ | ⟨v', v1, v2, v3, v4⟩
    · exact absurd hcu (h2 u (by omega))
    · rcases hb with hb | ⟨v, hv, hb, hp⟩
      · rw [hb] at v2; exact absurd v2.symm (nI_nm1 (by omega))
      · obtain rfl : v = v' := (nI_eq (by omega) (by omega)).mp (hb.symm.trans v2)
        have := v4 u (by omega) hcu
        unfold lexL at this ⊢
        omega
theorem sh1 : ∀ n, n ≤ 8 → (1 : Int32) <<< (nI n &&& 31) = nI (2 ^ n) := by decide +kernel
set_option maxRecDepth 100000 in
set_option maxHeartbeats 4000000 in
theorem l_X11_fewest {M : Mem} {n m : Nat} {th x : Int32} {S : SS} {D : Nat → Nat × Nat × Nat} {rk W : Nat → Nat} {T : TT} (hn : M.1 140 0 = nI n) (hn8 : n ≤ 8) (hm10 : m ≤ 10) (hO : OKS T n m) (ht : thOK T m th) (hF : FS M T n m th S D rk W) (h46 : M.1 140 46 = th) : ∀ (N : Nat) (q : Nat) (b : Int32) (N1 : Mem), (q ≤ 2 ^ n) → (bsW T n m th S q b) → (frO M N1) → 2 ^ n - q < N → Reach cX11_fewest RX11 4 5 (RetQ cX11_fewest (some .int) (fun v N => (fewN (fun t => decide (S.mk t = th)) (pyS T n m S) S.N = -1 ∧ v = some (.int (-2)) ∧ frK M N) ∨ (fewN (fun t => decide (S.mk t = th)) (pyS T n m S) S.N ≠ -1 ∧ v = some (.int (bcnt (fewN (fun t => decide (S.mk t = th)) (pyS T n m S) S.N))) ∧ frQ M N ∧ row1 N (fewN (fun t => decide (S.mk t = th)) (pyS T n m S) S.N).toInt64))) 29 [some (.ref 140), some (.int x), some (.int b), some (.int (nI q))] [] (N1) := by
  intro N
  induction N with
  | zero => intro q b N1 hq hb hf hm; exact absurd ‹_ < 0› (Nat.not_lt_zero _)
  | succ N ih =>
    intro q b N1 hq hb hf hm
    have h2n : 2 ^ n ≤ 256 := (by decide +kernel : ∀ n, n ≤ 8 → 2 ^ n ≤ 256) n hn8
    have hN3 := (repM_N hF.2.1).2
    have hC := hF.cx ht hn8 hm10 hO
    refine rx_iload_n (i := 3) dX11_fewest_29 rfl rfl ?_
    refine rx_iconst (1) dX11_fewest_30 rfl ?_
    refine rx_aload_n (i := 0) dX11_fewest_31 rfl rfl ?_
    refine rx_getI (k := 0) fo_X11_132 kl_140 (by decide) ti_11_0 dX11_fewest_32 ?_
    refine rx_top (nI n) (by rw [hf.1 140 (by omega)]; exact hn) ?_
    refine rx_ishl dX11_fewest_35 ?_
    refine rx_top (nI (2 ^ n)) (sh1 n hn8) ?_
    refine rx_icmp_ge (tgt := 74) dX11_fewest_36 (by decide) (fun c36 => ?_) (fun c36 => ?_)
    · skip
      have f36 := Int32.not_lt.mpr c36
      have e36 : q = 2 ^ n := by have := (nI_leI (by omega) (by omega)).mp c36; omega
      subst e36
      have hfin := bsW_end hn8 hb
      refine rx_iload_n (i := 2) dX11_fewest_74 rfl rfl ?_
      refine rx_iconst (-1) dX11_fewest_75 rfl ?_
      refine rx_icmp_ne (tgt := 82) dX11_fewest_76 (by decide) (fun c76 => ?_) (fun c76 => ?_)
      · skip
        have e76 : fewN (fun t => decide (S.mk t = th)) (pyS T n m S) S.N ≠ -1 := hfin ▸ c76
        refine rx_aload_n (i := 0) dX11_fewest_82 rfl rfl ?_
        refine rx_iconst (0) dX11_fewest_83 rfl ?_
        refine rx_putI (k := 20) fo_X11_129 fn_11_20 kl_140 (by decide) ty_11_20 dX11_fewest_84 ?_
        refine rx_aload_n (i := 0) dX11_fewest_87 rfl rfl ?_
        refine rx_iload_n (i := 2) dX11_fewest_88 rfl rfl ?_
        refine rx_i2l dX11_fewest_89 rfl ?_
        refine rx_cvN (ci := 11) mo_X11_tell lk_X11_294 (c_X11_tell (s := 0) sI_eq (by omega)) (by decide) rfl rfl (Nat.le_of_ble_eq_true rfl) kl_140 rfl dX11_fewest_90 ?_
        refine rx_iload_n (i := 2) dX11_fewest_93 rfl rfl ?_
        refine rx_csI mo_J6_bitCount_0f7a4 lk_X11_337 c_J6_bitCount_0f7a4 (by decide) rfl rfl (Nat.le_of_ble_eq_true rfl) dX11_fewest_94 ?_
        exact rx_iret dX11_fewest_97 (Or.inr ⟨e76, by rw [hfin], hf.K.1.trans ((frQ_I (by omega)).trans frQ_mt), by rw [hfin]; exact mt_row1⟩)
      · skip
        have e76 : fewN (fun t => decide (S.mk t = th)) (pyS T n m S) S.N = -1 := hfin ▸ c76
        refine rx_bipush (-2) dX11_fewest_79 rfl ?_
        exact rx_iret dX11_fewest_81 (Or.inl ⟨e76, rfl, hf.K⟩)
    · skip
      have f36 := Int32.not_le.mp c36
      have e36 : q < 2 ^ n := Nat.lt_of_not_le fun z => c36 (nI_le z (by omega))
      have canq : canW T n m th S q ↔ ∃ t, t < S.N ∧ S.mk t = th ∧ rch T n th S (nI q) t := ⟨fun ⟨t, t1, t2, t3⟩ => ⟨t, t1, t2, (rch_sub ht hn8 hm10 hO hC t1).mpr t3⟩, fun ⟨t, t1, t2, t3⟩ => ⟨t, t1, t2, (rch_sub ht hn8 hm10 hO hC t1).mp t3⟩⟩
      refine rx_iload_n (i := 2) dX11_fewest_39 rfl rfl ?_
      refine rx_iconst (-1) dX11_fewest_40 rfl ?_
      refine rx_icmp_eq (tgt := 58) dX11_fewest_41 (by decide) (fun c41 => ?_) (fun c41 => ?_)
      · skip
        have hcase : b = -1 ∨ ∃ v, v < 1024 ∧ b = nI v ∧ pw q < pw v := Or.inl c41
        refine rx_aload_n (i := 0) dX11_fewest_58 rfl rfl ?_
        refine rx_iload_n (i := 3) dX11_fewest_59 rfl rfl ?_
        refine rx_callV (ci := 11) mo_X11_canAll lk_X11_371 (c_X11_canAll (who := nI q) hn8 hm10 hO ht (hf.fs hF) (by rw [hf.1 140 (by omega)]; exact h46)) (by decide) rfl rfl (Nat.le_of_ble_eq_true rfl) kl_140 rfl dX11_fewest_60 ?_
        rintro w9 N2 ⟨hf2, hcan⟩
        rcases hcan with ⟨rfl, hcan⟩ | ⟨rfl, hcan⟩
        · skip
          have hback := ih (q + 1) (nI q) N2 (by omega) (bsW_S3 hb (by omega) (canq.mpr hcan) hcase) (hf.trans hf2) (by omega)
          refine rx_if_eq (tgt := 68) dX11_fewest_63 (by decide) (fun c63 => absurd c63 (by decide)) (fun c63 => ?_)
          refine rx_iload_n (i := 3) dX11_fewest_66 rfl rfl ?_
          refine rx_istore_n (i := 2) dX11_fewest_67 rfl (by decide) rfl rfl ?_
          first | refine rx_iincN (i := 3) dX11_fewest_68 rfl (by decide) rfl rfl ?_ | refine rx_iinc (i := 3) dX11_fewest_68 rfl rfl (by decide) rfl rfl ?_
          refine rx_goto (tgt := 29) dX11_fewest_71 (by decide) ?_
          exact hback
        · skip
          have hback := ih (q + 1) _ N2 (by omega) (bsW_S2 hb (fun z => hcan (canq.mp z))) (hf.trans hf2) (by omega)
          refine rx_if_eq (tgt := 68) dX11_fewest_63 (by decide) (fun c63 => ?_) (fun c63 => absurd rfl c63)
          first | refine rx_iincN (i := 3) dX11_fewest_68 rfl (by decide) rfl rfl ?_ | refine rx_iinc (i := 3) dX11_fewest_68 rfl rfl (by decide) rfl rfl ?_
          refine rx_goto (tgt := 29) dX11_fewest_71 (by decide) ?_
          exact hback
      · skip
        obtain ⟨v, v1, v2⟩ : ∃ v, v < 2 ^ n ∧ b = nI v := by
          rcases hb with ⟨h1, -⟩ | ⟨v, v1, v2, -⟩
          · exact absurd h1 c41
          · exact ⟨v, by omega, v2⟩
        subst v2
        have pq := pw_le (x := q)
        have pv := pw_le (x := v)
        refine rx_iload_n (i := 3) dX11_fewest_44 rfl rfl ?_
        refine rx_csI mo_J6_bitCount_0f7a4 lk_X11_337 c_J6_bitCount_0f7a4 (by decide) rfl rfl (Nat.le_of_ble_eq_true rfl) dX11_fewest_45 ?_
        refine rx_top (nI (pw q)) (bc_pw (by omega)) ?_
        refine rx_iload_n (i := 2) dX11_fewest_48 rfl rfl ?_
        refine rx_csI mo_J6_bitCount_0f7a4 lk_X11_337 c_J6_bitCount_0f7a4 (by decide) rfl rfl (Nat.le_of_ble_eq_true rfl) dX11_fewest_49 ?_
        refine rx_top (nI (pw v)) (bc_pw (by omega)) ?_
        refine rx_icmp_lt (tgt := 58) dX11_fewest_52 (by decide) (fun c52 => ?_) (fun c52 => ?_)
        · skip
          have hcase : nI v = -1 ∨ ∃ u, u < 1024 ∧ nI v = nI u ∧ pw q < pw u := Or.inr ⟨v, by omega, rfl, (nI_ltI (by omega) (by omega)).mp c52⟩
          refine rx_aload_n (i := 0) dX11_fewest_58 rfl rfl ?_
          refine rx_iload_n (i := 3) dX11_fewest_59 rfl rfl ?_
          refine rx_callV (ci := 11) mo_X11_canAll lk_X11_371 (c_X11_canAll (who := nI q) hn8 hm10 hO ht (hf.fs hF) (by rw [hf.1 140 (by omega)]; exact h46)) (by decide) rfl rfl (Nat.le_of_ble_eq_true rfl) kl_140 rfl dX11_fewest_60 ?_
          rintro w9 N2 ⟨hf2, hcan⟩
          rcases hcan with ⟨rfl, hcan⟩ | ⟨rfl, hcan⟩
          · skip
            have hback := ih (q + 1) (nI q) N2 (by omega) (bsW_S3 hb (by omega) (canq.mpr hcan) hcase) (hf.trans hf2) (by omega)
            refine rx_if_eq (tgt := 68) dX11_fewest_63 (by decide) (fun c63 => absurd c63 (by decide)) (fun c63 => ?_)
            refine rx_iload_n (i := 3) dX11_fewest_66 rfl rfl ?_
            refine rx_istore_n (i := 2) dX11_fewest_67 rfl (by decide) rfl rfl ?_
            first | refine rx_iincN (i := 3) dX11_fewest_68 rfl (by decide) rfl rfl ?_ | refine rx_iinc (i := 3) dX11_fewest_68 rfl rfl (by decide) rfl rfl ?_
            refine rx_goto (tgt := 29) dX11_fewest_71 (by decide) ?_
            exact hback
          · skip
            have hback := ih (q + 1) _ N2 (by omega) (bsW_S2 hb (fun z => hcan (canq.mp z))) (hf.trans hf2) (by omega)
            refine rx_if_eq (tgt := 68) dX11_fewest_63 (by decide) (fun c63 => ?_) (fun c63 => absurd rfl c63)
            first | refine rx_iincN (i := 3) dX11_fewest_68 rfl (by decide) rfl rfl ?_ | refine rx_iinc (i := 3) dX11_fewest_68 rfl rfl (by decide) rfl rfl ?_
            refine rx_goto (tgt := 29) dX11_fewest_71 (by decide) ?_
            exact hback
        · skip
          have hback := ih (q + 1) (nI v) N1 (by omega) (bsW_S1 hb (by omega) (by omega) (Nat.le_of_not_lt fun z => c52 (nI_lt z (by omega)))) hf (by omega)
          refine rx_goto (tgt := 68) dX11_fewest_55 (by decide) ?_
          first | refine rx_iincN (i := 3) dX11_fewest_68 rfl (by decide) rfl rfl ?_ | refine rx_iinc (i := 3) dX11_fewest_68 rfl rfl (by decide) rfl rfl ?_
          refine rx_goto (tgt := 29) dX11_fewest_71 (by decide) ?_
          exact hback
set_option maxRecDepth 100000 in
set_option maxHeartbeats 4000000 in
theorem c_X11_fewest {M : Mem} {n m : Nat} {x : Int32} (w : MW M n m) (hs : sortOK (M.1 153 0)) (hO : OKS (mv M) n m) (hA : AOK (mv M) n) (hx : 0 ≤ x ∧ x ≤ 99) : Con yX11_fewest cX11_fewest 4 (some .int) 5 [.ref 140, .int x] M (fun v N => ((vis (mv M) n m (thV (mv M) m x)).1.1 = true ∧ ((fewN (fun t => decide ((vis (mv M) n m (thV (mv M) m x)).1.2.mk t = (thV (mv M) m x))) (pyS (mv M) n m (vis (mv M) n m (thV (mv M) m x)).1.2) (vis (mv M) n m (thV (mv M) m x)).1.2.N = -1 ∧ v = some (.int (-2)) ∧ frK M N) ∨ (fewN (fun t => decide ((vis (mv M) n m (thV (mv M) m x)).1.2.mk t = (thV (mv M) m x))) (pyS (mv M) n m (vis (mv M) n m (thV (mv M) m x)).1.2) (vis (mv M) n m (thV (mv M) m x)).1.2.N ≠ -1 ∧ v = some (.int (bcnt (fewN (fun t => decide ((vis (mv M) n m (thV (mv M) m x)).1.2.mk t = (thV (mv M) m x))) (pyS (mv M) n m (vis (mv M) n m (thV (mv M) m x)).1.2) (vis (mv M) n m (thV (mv M) m x)).1.2.N))) ∧ frQ M N ∧ row1 N (fewN (fun t => decide ((vis (mv M) n m (thV (mv M) m x)).1.2.mk t = (thV (mv M) m x))) (pyS (mv M) n m (vis (mv M) n m (thV (mv M) m x)).1.2) (vis (mv M) n m (thV (mv M) m x)).1.2.N).toInt64))) ∨ ((vis (mv M) n m (thV (mv M) m x)).1.1 = false ∧ v = some (.int (-3)) ∧ frK M N)) := by
  refine Con.of (own := RX11) (ls := [some (.ref 140), some (.int x), none, none]) rfl (by decide +kernel) (Nat.le_of_ble_eq_true rfl) rfl ?_
  have w0 := w.t0
  have ⟨hn, hn8, hm, hm10, hd⟩ := w
  refine rx_aload_n (i := 0) dX11_fewest_0 rfl rfl ?_
  refine rx_iconst (0) dX11_fewest_1 rfl ?_
  refine rx_putI (k := 21) fo_X11_126 fn_11_21 kl_140 (by decide) ty_11_21 dX11_fewest_2 ?_
  refine rx_iload_n (i := 1) dX11_fewest_5 rfl rfl ?_
  refine rx_csI mo_X11_isDay lk_X11_355 c_X11_isDay (by decide) rfl rfl (Nat.le_of_ble_eq_true rfl) dX11_fewest_6 ?_
  refine rx_top (1) (if_pos hx) ?_
  refine rx_if_ne (tgt := 14) dX11_fewest_9 (by decide) (fun c9 => ?_) (fun c9 => absurd c9 (by decide))
  refine rx_aload_n (i := 0) dX11_fewest_14 rfl rfl ?_
  refine rx_iload_n (i := 1) dX11_fewest_15 rfl rfl ?_
  refine rx_callV (ci := 11) mo_X11_findStates lk_X11_358 (c_X11_findStates (M := t0 M) (x := x) w0 (show sortOK ((t0 M).1 153 0) from hs) (by rw [t0_mv]; exact hO) (by rw [t0_mv]; exact hA)) (by decide) rfl rfl (Nat.le_of_ble_eq_true rfl) kl_140 rfl dX11_fewest_16 ?_
  rintro _ N0 ⟨rfl, hK, h46, -, hF⟩
  rw [t0_mv] at h46 hF ⊢
  have hK := frK_t0.trans hK
  have wN := frQ.MW hK.1 w
  refine rx_if_ne (tgt := 25) dX11_fewest_19 (by decide) (fun c19 => ?_) (fun c19 => ?_)
  · skip
    have hok : (vis (mv M) n m (thV (mv M) m x)).1.1 = true := zI_n c19
    obtain ⟨D, rk, W, hF⟩ := hF hok
    refine rx_iconst (-1) dX11_fewest_25 rfl ?_
    refine rx_istore_n (i := 2) dX11_fewest_26 rfl (by decide) rfl rfl ?_
    refine rx_iconst (0) dX11_fewest_27 rfl ?_
    refine rx_istore_n (i := 3) dX11_fewest_28 rfl (by decide) rfl rfl ?_
    refine (l_X11_fewest wN.1 hn8 hm10 hO (thV_OK hm10) hF h46 (x := x) (2 ^ n + 1) 0 (-1) N0 (Nat.zero_le _) (Or.inl ⟨rfl, fun v hv => absurd hv (Nat.not_lt_zero _)⟩) frO.refl (Nat.lt_succ_of_le (Nat.sub_le _ _))).mono ?_
    rintro pc' ls' st' N ⟨v, h1, h2, h5⟩
    exact ⟨v, h1, Or.inl ⟨hok, h2.imp (fun z => ⟨z.1, z.2.1, hK.trans z.2.2⟩) fun z => ⟨z.1, z.2.1, hK.1.trans z.2.2.1, z.2.2.2⟩⟩, h5⟩
  · skip
    have hok : (vis (mv M) n m (thV (mv M) m x)).1.1 = false := zI_0.mp c19
    refine rx_bipush (-3) dX11_fewest_22 rfl ?_
    exact rx_iret dX11_fewest_24 (Or.inr ⟨hok, rfl, hK⟩)
set_option maxRecDepth 100000 in
set_option maxHeartbeats 4000000 in
theorem c_X11_fewest_no {M : Mem} {x : Int32} (hx : ¬ (0 ≤ x ∧ x ≤ 99)) : Fun yX11_fewest cX11_fewest 4 (some .int) 5 [.ref 140, .int x] M (some (.int (-1))) (t0 M) := by
  refine Fun.of (own := RX11) ([some (.ref 140), some (.int x), none, none]) rfl (by decide +kernel) (Nat.le_of_ble_eq_true rfl) rfl ?_
  refine rx_aload_n (i := 0) dX11_fewest_0 rfl rfl ?_
  refine rx_iconst (0) dX11_fewest_1 rfl ?_
  refine rx_putI (k := 21) fo_X11_126 fn_11_21 kl_140 (by decide) ty_11_21 dX11_fewest_2 ?_
  refine rx_iload_n (i := 1) dX11_fewest_5 rfl rfl ?_
  refine rx_csI mo_X11_isDay lk_X11_355 c_X11_isDay (by decide) rfl rfl (Nat.le_of_ble_eq_true rfl) dX11_fewest_6 ?_
  refine rx_if_ne (tgt := 14) dX11_fewest_9 (by decide) (fun c9 => ?_) (fun c9 => ?_)
  · skip
    exact absurd (ite1n c9) hx
    skip
  · skip
    refine rx_iconst (-1) dX11_fewest_12 rfl ?_
    exact rx_fiI dX11_fewest_13 rfl rfl
