def oS (T : TT) (n : Nat) (these : Int32) (S : SS) (s w : Nat) : Prop := S.mk s = these ∨ ∃ k i u, 8 * k + i < w ∧ eg T n these S s k i u ∧ u < S.N ∧ onW T n these S u
def pS (T : TT) (n : Nat) (these : Int32) (S : SS) (s w i : Nat) : Prop := ∃ p k u, p < S.N ∧ (s < p ∨ (p = s ∧ 8 * k + i < w)) ∧ eg T n these S p k i u ∧ u < S.N ∧ onW T n these S u
def pH (T : TT) (n : Nat) (these : Int32) (S : SS) (e i : Nat) : Prop := ∃ p k u, p < S.N ∧ e ≤ p ∧ eg T n these S p k i u ∧ u < S.N ∧ onW T n these S u
theorem oS_0 {T : TT} {n : Nat} {these : Int32} {S : SS} {s : Nat} : oS T n these S s 0 ↔ S.mk s = these := ⟨fun h => h.elim id fun ⟨k, i, u, h1, _⟩ => by omega, Or.inl⟩
theorem oS_80 {T : TT} {n m : Nat} {these : Int32} (ht : thOK T m these) (hn : n ≤ 8) (hm : m ≤ 10) (hO : OKS T n m) {S : SS} {s : Nat} : oS T n these S s 80 ↔ onW T n these S s := by
  rw [onW_iff]
  refine ⟨fun h => h.imp id fun ⟨k, i, u, h1, h2, h3, h4⟩ => ⟨k, i, u, h2, h3, h4⟩, fun h => h.imp id fun ⟨k, i, u, h2, h3, h4⟩ => ⟨k, i, u, ?_, h2, h3, h4⟩⟩
  obtain ⟨k1, i1, -⟩ := lq_og ht hn hO h2.1
  omega
theorem pS_0 {T : TT} {n : Nat} {these : Int32} {S : SS} {s i : Nat} : pS T n these S s 0 i ↔ pH T n these S (s + 1) i :=
  ⟨fun ⟨p, k, u, h1, h2, h3⟩ => ⟨p, k, u, h1, by omega, h3⟩, fun ⟨p, k, u, h1, h2, h3⟩ => ⟨p, k, u, h1, by omega, h3⟩⟩
theorem pS_80 {T : TT} {n m : Nat} {these : Int32} (ht : thOK T m these) (hn : n ≤ 8) (hm : m ≤ 10) (hO : OKS T n m) {S : SS} {s i : Nat} : pS T n these S s 80 i ↔ pH T n these S s i := by
  refine ⟨fun ⟨p, k, u, h1, h2, h3⟩ => ⟨p, k, u, h1, by omega, h3⟩, fun ⟨p, k, u, h1, h2, h3⟩ => ⟨p, k, u, h1, ?_, h3⟩⟩
  obtain ⟨k1, i1, -⟩ := lq_og ht hn hO h3.1.1
  omega
theorem oS_n {T : TT} {n m : Nat} {these : Int32} (ht : thOK T m these) (hn : n ≤ 8) (hO : OKS T n m) {S : SS} {s w : Nat} (h : ∀ u, eg T n these S s (w / 8) (w % 8) u → u < S.N → ¬ onW T n these S u) : (oS T n these S s (w + 1) ↔ oS T n these S s w) ∧ ∀ i, pS T n these S s (w + 1) i ↔ pS T n these S s w i := by
  have key : ∀ k i u, eg T n these S s k i u → u < S.N → onW T n these S u → 8 * k + i < w + 1 → 8 * k + i < w := fun k i u h2 h3 h4 h1 => by
    obtain ⟨k1, i1, -⟩ := lq_og ht hn hO h2.1
    by_cases e : 8 * k + i = w
    · exfalso
      obtain rfl : k = w / 8 := by omega
      obtain rfl : i = w % 8 := by omega
      exact h u h2 h3 h4
    · omega
  refine ⟨⟨fun h => h.imp id fun ⟨k, i, u, h1, h2, h3, h4⟩ => ⟨k, i, u, key k i u h2 h3 h4 h1, h2, h3, h4⟩, fun h => h.imp id fun ⟨k, i, u, h1, h2, h3, h4⟩ => ⟨k, i, u, by omega, h2, h3, h4⟩⟩, fun i => ⟨fun ⟨p, k, u, h1, h2, h3, h4, h5⟩ => ⟨p, k, u, h1, ?_, h3, h4, h5⟩, fun ⟨p, k, u, h1, h2, h3, h4, h5⟩ => ⟨p, k, u, h1, by omega, h3, h4, h5⟩⟩⟩
  rcases h2 with h2 | ⟨h2, h6⟩
  · exact Or.inl h2
  · subst h2; exact Or.inr ⟨rfl, key k i u h3 h4 h5 h6⟩
theorem oS_t {T : TT} {n m : Nat} {these : Int32} (ht : thOK T m these) (hn : n ≤ 8) (hO : OKS T n m) {S : SS} {s w u : Nat} (hs : s < S.N) (h : eg T n these S s (w / 8) (w % 8) u) (hu : u < S.N) (ho : onW T n these S u) : oS T n these S s (w + 1) ∧ ∀ i, pS T n these S s (w + 1) i ↔ pS T n these S s w i ∨ i = w % 8 := by
  refine ⟨Or.inr ⟨_, _, u, by omega, h, hu, ho⟩, fun i => ⟨fun ⟨p, k, u', h1, h2, h3, h4, h5⟩ => ?_, fun z => ?_⟩⟩
  · obtain ⟨k1, i1, -⟩ := lq_og ht hn hO h3.1
    by_cases e : i = w % 8
    · exact Or.inr e
    · exact Or.inl ⟨p, k, u', h1, by omega, h3, h4, h5⟩
  · rcases z with ⟨p, k, u', h1, h2, h3, h4, h5⟩ | z
    · exact ⟨p, k, u', h1, by omega, h3, h4, h5⟩
    · subst z; exact ⟨s, w / 8, u, hs, Or.inr ⟨rfl, by omega⟩, h, hu, ho⟩
/-- a sum from e on -/
def nsU (f : Nat → Nat) (e N : Nat) : Nat := nsm (fun t => if e ≤ t then f t else 0) N
theorem nsU_N {f : Nat → Nat} {N : Nat} : nsU f N N = 0 := by
  unfold nsU
  rw [nsm_congr (g := fun _ => 0) (fun k hk => if_neg (by omega))]
  induction N with
  | zero => rfl
  | succ N ih => simp only [nsm]; rw [show nsm (fun _ => 0) N = 0 from by clear ih; induction N with | zero => rfl | succ N ih => simp only [nsm]; rw [ih]]
theorem nsU_0 {f : Nat → Nat} {N : Nat} : nsU f 0 N = nsm f N := nsm_congr fun k _ => if_pos (Nat.zero_le _)
theorem nsU_S {f : Nat → Nat} {e N : Nat} (h : e < N) : nsU f e N = nsU f (e + 1) N + f e := by
  have := nsm_one (f := fun t => if e + 1 ≤ t then f t else 0) (g := fun t => if e ≤ t then f t else 0) h (fun k _ hk => by
    by_cases q : e ≤ k
    · rw [if_pos q, if_pos (by omega)]
    · rw [if_neg q, if_neg (by omega)])
  rw [if_neg (show ¬ e + 1 ≤ e by omega), if_pos (Nat.le_refl e), Nat.add_zero] at this
  exact this
theorem lsum_N {S : SS} {th : Int32} {W : Nat → Nat} : ∀ {e : Nat}, (∀ t, t < e → S.wy t = lN (W t)) → lsum (fun s => if S.mk s = th then S.wy s else 0) e = lN (nsm (fun t => if S.mk t = th then W t else 0) e)
  | 0, _ => rfl
  | e + 1, h => by
    simp only [lsum, nsm]
    rw [lsum_N (e := e) (fun t ht => h t (by omega)), ← lN_add, h e (by omega)]
    by_cases q : S.mk e = th
    · rw [if_pos q, if_pos q]
    · rw [if_neg q, if_neg q]; rfl
theorem lN_pos {a : Nat} (h : a < 2 ^ 63) : (0 : Int64) < lN a ↔ 0 < a := by
  have e : (lN a).toInt = a := by
    show (Int64.ofNat a).toInt = a
    rw [Int64.toInt_ofNat_of_lt h]
  rw [Int64.lt_iff_toInt_lt, e, show (0 : Int64).toInt = 0 from rfl]
  omega
theorem nsm_pos {f : Nat → Nat} : ∀ {e : Nat}, 0 < nsm f e ↔ ∃ t, t < e ∧ 0 < f t
  | 0 => ⟨fun h => absurd h (Nat.lt_irrefl _), fun ⟨t, h, _⟩ => absurd h (Nat.not_lt_zero _)⟩
  | e + 1 => by
    have := nsm_pos (f := f) (e := e)
    simp only [nsm]
    refine ⟨fun h => ?_, fun ⟨t, h1, h2⟩ => ?_⟩
    · by_cases q : 0 < f e
      · exact ⟨e, by omega, q⟩
      · obtain ⟨t, h1, h2⟩ := this.mp (by omega)
        exact ⟨t, by omega, h2⟩
    · by_cases q : t = e
      · subst q; omega
      · have := this.mpr ⟨t, by omega, h2⟩; omega
theorem b_orI {f : Nat → Int32} {i : Nat} : ∀ {e : Nat}, bt (orI f e) i = true ↔ ∃ t, t < e ∧ bt (f t) i = true
  | 0 => by simp [orI, b_0]
  | e + 1 => by
    simp only [orI, b_or, Bool.or_eq_true, b_orI (e := e)]
    refine ⟨fun h => h.elim (fun ⟨t, h1, h2⟩ => ⟨t, by omega, h2⟩) fun h => ⟨e, by omega, h⟩, fun ⟨t, h1, h2⟩ => ?_⟩
    by_cases q : t = e
    · subst q; exact Or.inr h2
    · exact Or.inl ⟨t, by omega, h2⟩
theorem pay_or {T : TT} {n m : Nat} {these : Int32} (ht : thOK T m these) (hn : n ≤ 8) (hm : m ≤ 10) (hO : OKS T n m) {S : SS} {D : Nat → Nat × Nat × Nat} (hC : CX T n m these S D) {pay : Int32} (h : ∀ i, i < 32 → (bt pay i = true ↔ pH T n these S 0 i)) : pay = orI (fun s => if S.mk s = these then pyS T n m S s else 0) S.N := by
  refine b_ext fun i hi => ?_
  have h2 := h i hi
  have h3 := pay_iff ht hn hm hO hC (i := i)
  have h4 := b_orI (f := fun s => if S.mk s = these then pyS T n m S s else 0) (i := i) (e := S.N)
  refine Bool.eq_iff_iff.mpr (h2.trans (Iff.trans ?_ h4.symm))
  refine Iff.trans ⟨fun ⟨p, k, u, h1, _, h3, h4, h5⟩ => ⟨p, k, u, h1, h3, h4, h5⟩, fun ⟨p, k, u, h1, h3, h4, h5⟩ => ⟨p, k, u, h1, Nat.zero_le _, h3, h4, h5⟩⟩ (h3.trans ?_)
  refine ⟨fun ⟨t, h1, h2, h3⟩ => ⟨t, h1, by rw [if_pos h2]; exact h3⟩, fun ⟨t, h1, h2⟩ => ?_⟩
  by_cases q : S.mk t = these
  · rw [if_pos q] at h2; exact ⟨t, h1, q, h2⟩
  · rw [if_neg q, b_0] at h2; cases h2
theorem all_b : ∀ n, n ≤ 8 → (1 : Int32) <<< (nI n &&& 31) - 1 = fbor (fun _ => true) n := by decide +kernel
theorem sub1 (e : Nat) : nI (e + 1) - 1 = nI e := by rw [nI_succ, Int32.add_sub_cancel]
theorem addm1 (x : Int32) : x + Int32.ofInt (-1) = x - 1 := by rw [Int32.sub_eq_add_neg]; rfl
set_option maxRecDepth 100000 in
set_option maxHeartbeats 4000000 in
theorem l_waysIn {M : Mem} {n m : Nat} {T : TT} {th x : Int32} {S : SS} {D : Nat → Nat × Nat × Nat} {rk W : Nat → Nat} (hn8 : n ≤ 8) (hm10 : m ≤ 10) (hO : OKS T n m) (ht : thOK T m th) (hF : FS M T n m th S D rk W) (h46 : M.1 140 46 = th) {e : Nat} (he : e < S.N) {l : Int64} {an : Int32} {QQ : Nat → List (Option Value) → List Value → Mem → Prop} (K : ∀ N pay, frO M N → (∀ t, e ≤ t → t < S.N → (N.1 167 t = 1 ∧ onW T n th S t) ∨ (N.1 167 t = 0 ∧ ¬ onW T n th S t)) → (∀ i, i < 32 → (bt pay i = true ↔ pH T n th S e i)) → Reach cX11_ways RX11 9 5 QQ 191 [some (.ref 140), some (.int x), some (.long l), none, some (.int an), some (.int pay), some (.int (nI e)), none, none] [] N) : ∀ (N : Nat) (q : Nat) (pay : Int32) (N1 : Mem), (q ≤ 80) → (frO M N1) → (((∀ t, e < t → t < S.N → (N1.1 167 t = 1 ∧ onW T n th S t) ∨ (N1.1 167 t = 0 ∧ ¬ onW T n th S t)) ∧ ((N1.1 167 e = 1 ∧ oS T n th S e q) ∨ (N1.1 167 e = 0 ∧ ¬ oS T n th S e q)))) → (∀ i, i < 32 → (bt pay i = true ↔ pS T n th S e q i)) → 80 - q < N → Reach cX11_ways RX11 9 5 (QQ) 124 [some (.ref 140), some (.int x), some (.long l), none, some (.int an), some (.int pay), some (.int (nI e)), some (.int (nI q)), none] [] (N1) := by
  intro N
  induction N with
  | zero => intro q pay N1 hq hf ho hp hm; exact absurd ‹_ < 0› (Nat.not_lt_zero _)
  | succ N ih =>
    intro q pay N1 hq hf ho hp hm
    have hN3 := (repM_N hF.2.1).2
    have hC := hF.cx ht hn8 hm10 hO
    have hFN := hf.fs hF
    have n46 : N1.1 140 46 = th := by rw [hf.1 140 (by omega)]; exact h46
    refine rx_iload (i := 7) dX11_ways_124 rfl ?_
    refine rx_bipush (80) dX11_ways_126 rfl ?_
    refine rx_icmp_ge (tgt := 191) dX11_ways_128 (by decide) (fun c128 => ?_) (fun c128 => ?_)
    · skip
      have f128 := Int32.not_lt.mpr c128
      have e128 : q = 80 := by have := (nI_leI (a := 80) (by omega) (by omega)).mp c128; omega
      subst e128
      refine rx_drop 7 ?_
      refine K N1 pay hf (fun t h1 h2 => ?_) (fun i hi => (hp i hi).trans (pS_80 ht hn8 hm10 hO))
      by_cases z : t = e
      · subst z; rw [← oS_80 ht hn8 hm10 hO]; exact ho.2
      · exact ho.1 t (by omega) h2
      skip
    · skip
      have f128 := Int32.not_le.mp c128
      have e128 : q < 80 := Nat.lt_of_not_le fun z => c128 (nI_le (a := 80) z (by omega))
      have hld := hFN.ld (k := q / 8) (i := q % 8) he (by omega) (by omega)
      rw [show 8 * (q / 8) + q % 8 = q by omega] at hld
      refine rx_aload_n (i := 0) dX11_ways_131 rfl rfl ?_
      refine rx_getR 161 (k := 37) fo_X11_81 kl_140 (by decide) ti_11_37 (by decide) rfl dX11_ways_132 ?_
      refine rx_bipush (80) dX11_ways_135 rfl ?_
      refine rx_iload (i := 6) dX11_ways_137 rfl ?_
      refine rx_imul dX11_ways_139 ?_
      refine rx_iload (i := 7) dX11_ways_140 rfl ?_
      refine rx_iadd dX11_ways_142 ?_
      refine rx_top (nI (80 * e + q)) (ix80 e q) ?_
      refine rx_ialdN kl_161 (by omega) (by first | decide | omega) dX11_ways_143 ?_
      refine rx_istore (i := 8) dX11_ways_144 (by decide) rfl rfl ?_
      refine rx_iload (i := 8) dX11_ways_146 rfl ?_
      refine rx_iconst (-1) dX11_ways_148 rfl ?_
      refine rx_icmp_eq (tgt := 185) dX11_ways_149 (by decide) (fun c149 => ?_) (fun c149 => ?_)
      · skip
        have e149 : lq T n th S e (q / 8) (q % 8) = false := by
          cases hq : lq T n th S e (q / 8) (q % 8) with
          | false => rfl
          | true =>
            obtain ⟨u, u1, u2, u3⟩ := hld.2 hq
            exact absurd (u3.symm.trans c149) (nI_nm1 (by omega))
        have hsk := oS_n ht hn8 hO (S := S) (s := e) (w := q) (fun v hv hv2 => by rw [hv.1] at e149; cases e149)
        have hback := ih (q + 1) pay N1 (by omega) hf ⟨ho.1, by rw [hsk.1]; exact ho.2⟩ (fun i hi => (hp i hi).trans (hsk.2 i).symm) (by omega)
        first | refine rx_iincN (i := 7) dX11_ways_185 rfl (by decide) rfl rfl ?_ | refine rx_iinc (i := 7) dX11_ways_185 rfl rfl (by decide) rfl rfl ?_
        refine rx_goto (tgt := 124) dX11_ways_188 (by decide) ?_
        refine rx_drop 8 ?_
        exact hback
      · skip
        have e149 : lq T n th S e (q / 8) (q % 8) = true := by
          cases hq : lq T n th S e (q / 8) (q % 8) with
          | true => rfl
          | false => exact absurd (hld.1 hq) c149
        obtain ⟨u, u1, u2, u3⟩ := hld.2 e149
        have hut := eg_lt ht hn8 hm10 hC he u1
        have hou := ho.1 u hut u2
        refine rx_aload_n (i := 0) dX11_ways_152 rfl rfl ?_
        refine rx_getR 167 (k := 43) fo_X11_99 kl_140 (by decide) ti_11_43 (by decide) rfl dX11_ways_153 ?_
        refine rx_iload (i := 8) dX11_ways_156 rfl ?_
        refine rx_top (nI u) (u3) ?_
        refine rx_zaldN kl_167 (by omega) (by first | decide | omega) dX11_ways_158 ?_
        refine rx_if_ne (tgt := 165) dX11_ways_159 (by decide) (fun c159 => ?_) (fun c159 => ?_)
        · skip
          have e159 : onW T n th S u := hou.elim (fun z => z.2) fun z => absurd z.1 c159
          have hst := oS_t ht hn8 hO (S := S) (s := e) (w := q) he u1 u2 e159
          refine rx_aload_n (i := 0) dX11_ways_165 rfl rfl ?_
          refine rx_getR 167 (k := 43) fo_X11_99 kl_140 (by decide) ti_11_43 (by decide) rfl dX11_ways_166 ?_
          refine rx_iload (i := 6) dX11_ways_169 rfl ?_
          refine rx_iconst (1) dX11_ways_171 rfl ?_
          refine rx_zastN kl_167 (by omega) (by first | decide | omega) (by first | exact Or.inl rfl | exact Or.inr rfl) dX11_ways_172 ?_
          refine rx_iload (i := 5) dX11_ways_173 rfl ?_
          refine rx_iconst (1) dX11_ways_175 rfl ?_
          refine rx_iload (i := 7) dX11_ways_176 rfl ?_
          refine rx_bipush (8) dX11_ways_178 rfl ?_
          refine rx_irem dX11_ways_180 (by decide) ?_
          refine rx_top (nI (q % 8)) (w8r q e128) ?_
          refine rx_ishl dX11_ways_181 ?_
          refine rx_ior dX11_ways_182 ?_
          have hback := ih (q + 1) (pay ||| bit (q % 8)) (setI N1 167 e 1) (by omega) (hf.trans frO_I) ⟨fun t h1 h2 => by rw [sI_ne (by omega)]; exact ho.1 t h1 h2, Or.inl ⟨sI_eq, hst.1⟩⟩ (fun i hi => by
            rw [b_or, b_bit (by omega), hst.2 i, ← hp i hi]
            simp) (by omega)
          refine rx_istore (i := 5) dX11_ways_183 (by decide) rfl rfl ?_
          first | refine rx_iincN (i := 7) dX11_ways_185 rfl (by decide) rfl rfl ?_ | refine rx_iinc (i := 7) dX11_ways_185 rfl rfl (by decide) rfl rfl ?_
          refine rx_goto (tgt := 124) dX11_ways_188 (by decide) ?_
          refine rx_drop 8 ?_
          exact hback
        · skip
          have e159 : ¬ onW T n th S u := hou.elim (fun z => absurd (z.1.symm.trans c159) (by decide)) fun z => z.2
          have hsk := oS_n ht hn8 hO (S := S) (s := e) (w := q) (fun v hv hv2 => by rw [hC.1.1 v u hv2 u2 (hv.2.1.trans u1.2.1.symm) (fun j hj => (hv.2.2 j hj).trans (u1.2.2 j hj).symm)]; exact e159)
          have hback := ih (q + 1) pay N1 (by omega) hf ⟨ho.1, by rw [hsk.1]; exact ho.2⟩ (fun i hi => (hp i hi).trans (hsk.2 i).symm) (by omega)
          refine rx_goto (tgt := 185) dX11_ways_162 (by decide) ?_
          first | refine rx_iincN (i := 7) dX11_ways_185 rfl (by decide) rfl rfl ?_ | refine rx_iinc (i := 7) dX11_ways_185 rfl rfl (by decide) rfl rfl ?_
          refine rx_goto (tgt := 124) dX11_ways_188 (by decide) ?_
          refine rx_drop 8 ?_
          exact hback
set_option maxRecDepth 100000 in
set_option maxHeartbeats 4000000 in
theorem l_waysOut {M : Mem} {n m : Nat} {T : TT} {th x : Int32} {S : SS} {D : Nat → Nat × Nat × Nat} {rk W : Nat → Nat} (hn8 : n ≤ 8) (hm10 : m ≤ 10) (hO : OKS T n m) (ht : thOK T m th) (hF : FS M T n m th S D rk W) (h46 : M.1 140 46 = th) (hn : M.1 140 0 = nI n) : ∀ (N : Nat) (e : Nat) (l : Int64) (an : Int32) (pay : Int32) (N1 : Mem), (e ≤ S.N) → (frO M N1) → (∀ t, e ≤ t → t < S.N → (N1.1 167 t = 1 ∧ onW T n th S t) ∨ (N1.1 167 t = 0 ∧ ¬ onW T n th S t)) → (∀ i, i < 32 → (bt pay i = true ↔ pH T n th S e i)) → (l = (lN (nsU (fun t => if S.mk t = th then W t else 0) e S.N))) → ((an = 1 ∧ (∃ t, e ≤ t ∧ t < S.N ∧ S.mk t = th)) ∨ (an = 0 ∧ ¬ (∃ t, e ≤ t ∧ t < S.N ∧ S.mk t = th))) → e < N → Reach cX11_ways RX11 9 5 (RetQ cX11_ways (some .long) (fun v N => v = some (.long (lsum (fun s => if S.mk s = th then S.wy s else 0) S.N)) ∧ ((0 < lsum (fun s => if S.mk s = th then S.wy s else 0) S.N ∧ frQ M N ∧ row1 N (fbor (fun _ => true) n &&& (orI (fun s => if S.mk s = th then pyS T n m S s else 0) S.N ^^^ -1)).toInt64) ∨ (¬ 0 < lsum (fun s => if S.mk s = th then S.wy s else 0) S.N ∧ frK M N)))) 44 [some (.ref 140), some (.int x), some (.long l), none, some (.int an), some (.int pay), some (.int (nI e - 1)), none, none] [] (N1) := by
  intro N
  induction N with
  | zero => intro e l an pay N1 he1 hf ho hp hl ha hm; exact absurd ‹_ < 0› (Nat.not_lt_zero _)
  | succ N ih =>
    intro e l an pay N1 he1 hf ho hp hl ha hm
    have hN3 := (repM_N hF.2.1).2
    have hC := hF.cx ht hn8 hm10 hO
    have hFN := hf.fs hF
    have n46 : N1.1 140 46 = th := by rw [hf.1 140 (by omega)]; exact h46
    refine rx_iload (i := 6) dX11_ways_44 rfl ?_
    refine rx_if_lt (tgt := 197) dX11_ways_46 (by decide) (fun c46 => ?_) (fun c46 => ?_)
    · skip
      have e46 : e = 0 := by
        cases e with
        | zero => rfl
        | succ e => rw [sub1, Int32.lt_iff_toInt_lt, nI_toInt (by omega), i_0] at c46; omega
      subst e46
      rw [nsU_0] at hl
      have hfull := hF.1.full
      have hsum : lsum (fun s => if S.mk s = th then S.wy s else 0) S.N = lN (nsm (fun t => if S.mk t = th then W t else 0) S.N) := lsum_N fun t ht' => (hF.1.2.2.2.2.2.2.1 t ht').1
      have hpos : 0 < lsum (fun s => if S.mk s = th then S.wy s else 0) S.N ↔ ∃ t, 0 ≤ t ∧ t < S.N ∧ S.mk t = th := by
        rw [hsum, lN_pos (Nat.lt_of_le_of_lt hfull (by decide)), nsm_pos]
        refine ⟨fun ⟨t, z1, z2⟩ => ⟨t, Nat.zero_le _, z1, Decidable.byContradiction fun y => ?_⟩, fun ⟨t, _, z1, z2⟩ => ⟨t, z1, ?_⟩⟩
        · rw [if_neg y] at z2; exact absurd z2 (Nat.lt_irrefl _)
        · rw [if_pos z2]; exact (hF.1.2.2.2.2.2.2.1 t z1).2
      refine rx_iload (i := 4) dX11_ways_197 rfl ?_
      refine rx_if_ne (tgt := 204) dX11_ways_199 (by decide) (fun c199 => ?_) (fun c199 => ?_)
      · skip
        have e199 : ∃ t, 0 ≤ t ∧ t < S.N ∧ S.mk t = th := ha.elim (fun z => z.2) fun z => absurd z.1 c199
        refine rx_aload_n (i := 0) dX11_ways_204 rfl rfl ?_
        refine rx_iconst (0) dX11_ways_205 rfl ?_
        refine rx_putI (k := 20) fo_X11_129 fn_11_20 kl_140 (by decide) ty_11_20 dX11_ways_206 ?_
        refine rx_aload_n (i := 0) dX11_ways_209 rfl rfl ?_
        refine rx_iconst (1) dX11_ways_210 rfl ?_
        refine rx_aload_n (i := 0) dX11_ways_211 rfl rfl ?_
        refine rx_getI (k := 0) fo_X11_132 kl_140 (by decide) ti_11_0 dX11_ways_212 ?_
        refine rx_top (nI n) ((sI_ne (by omega)).trans (by rw [hf.1 140 (by omega)]; exact hn)) ?_
        refine rx_ishl dX11_ways_215 ?_
        refine rx_iconst (1) dX11_ways_216 rfl ?_
        refine rx_isub dX11_ways_217 ?_
        refine rx_top (fbor (fun _ => true) n) (all_b n hn8) ?_
        refine rx_iload (i := 5) dX11_ways_218 rfl ?_
        refine rx_iconst (-1) dX11_ways_220 rfl ?_
        refine rx_ixor dX11_ways_221 ?_
        refine rx_iand dX11_ways_222 ?_
        refine rx_i2l dX11_ways_223 rfl ?_
        refine rx_cvN (ci := 11) mo_X11_tell lk_X11_294 (c_X11_tell (s := 0) sI_eq (by omega)) (by decide) rfl rfl (Nat.le_of_ble_eq_true rfl) kl_140 rfl dX11_ways_224 ?_
        refine rx_lload_n (i := 2) dX11_ways_227 rfl rfl ?_
        exact rx_lret dX11_ways_228 ⟨by rw [hl, hsum], Or.inl ⟨hpos.mpr e199, hf.K.1.trans ((frQ_I (by omega)).trans frQ_mt), by rw [pay_or ht hn8 hm10 hO hC hp]; exact mt_row1⟩⟩
      · skip
        have e199 : ¬ ∃ t, 0 ≤ t ∧ t < S.N ∧ S.mk t = th := ha.elim (fun z => absurd (z.1.symm.trans c199) (by decide)) fun z => z.2
        refine rx_lconst (0) dX11_ways_202 rfl ?_
        exact rx_lret dX11_ways_203 ⟨by
          have h0 : nsm (fun t => if S.mk t = th then W t else 0) S.N = 0 := Nat.eq_zero_of_not_pos fun z => e199 (hpos.mp (by rw [hsum, lN_pos (Nat.lt_of_le_of_lt hfull (by decide))]; exact z))
          rw [hsum, h0]; rfl, Or.inr ⟨fun z => e199 (hpos.mp z), hf.K⟩⟩
    · skip
      obtain ⟨e0, rfl⟩ : ∃ e0, e = e0 + 1 := by
        cases e with
        | zero => exact absurd (by decide) c46
        | succ e => exact ⟨e, rfl⟩
      have he : e0 < S.N := by omega
      have hwy := (hF.1.2.2.2.2.2.2.1 e0 he).1
      rw [sub1]
      obtain ⟨e, rfl⟩ : ∃ z, z = e0 := ⟨_, rfl⟩
      refine rx_aload_n (i := 0) dX11_ways_49 rfl rfl ?_
      refine rx_getR 167 (k := 43) fo_X11_99 kl_140 (by decide) ti_11_43 (by decide) rfl dX11_ways_50 ?_
      refine rx_iload (i := 6) dX11_ways_53 rfl ?_
      refine rx_aload_n (i := 0) dX11_ways_55 rfl rfl ?_
      refine rx_getR 159 (k := 35) fo_X11_74 kl_140 (by decide) ti_11_35 (by decide) rfl dX11_ways_56 ?_
      refine rx_iload (i := 6) dX11_ways_59 rfl ?_
      refine rx_ialdN kl_159 (by omega) (by first | decide | omega) dX11_ways_61 ?_
      refine rx_top (S.mk e) ((repM_s hFN.2.1 he).1) ?_
      refine rx_aload_n (i := 0) dX11_ways_62 rfl rfl ?_
      refine rx_getI (k := 46) fo_X11_331 kl_140 (by decide) ti_11_46 dX11_ways_63 ?_
      refine rx_top (th) (n46) ?_
      refine rx_icmp_ne (tgt := 73) dX11_ways_66 (by decide) (fun c66 => ?_) (fun c66 => ?_)
      · skip
        have e66 : ¬ S.mk e = th := c66
        have hoS : (((setI N1 167 e 0).1 167 e = 1 ∧ oS T n th S e 0) ∨ ((setI N1 167 e 0).1 167 e = 0 ∧ ¬ oS T n th S e 0)) := by
          rw [sI_eq, oS_0]
          exact Or.inr ⟨rfl, e66⟩
        have hoT : ∀ t, e < t → t < S.N → ((setI N1 167 e 0).1 167 t = 1 ∧ onW T n th S t) ∨ ((setI N1 167 e 0).1 167 t = 0 ∧ ¬ onW T n th S t) := fun t h1 h2 => by
          rw [sI_ne (by omega)]; exact ho t (by omega) h2
        have hpS : ∀ i, i < 32 → (bt pay i = true ↔ pS T n th S e 0 i) := fun i hi => (hp i hi).trans pS_0.symm
        refine rx_iconst (0) dX11_ways_73 rfl ?_
        refine rx_zastN kl_167 (by omega) (by first | decide | omega) (by first | exact Or.inl rfl | exact Or.inr rfl) dX11_ways_74 ?_
        refine rx_iload (i := 4) dX11_ways_75 rfl ?_
        refine rx_if_ne (tgt := 90) dX11_ways_77 (by decide) (fun c77 => ?_) (fun c77 => ?_)
        · skip
          have ha1 : (∃ t, e + 1 ≤ t ∧ t < S.N ∧ S.mk t = th) := ha.elim (fun z => z.2) fun z => absurd z.1 c77
          refine rx_iconst (1) dX11_ways_90 rfl ?_
          refine rx_goto (tgt := 95) dX11_ways_91 (by decide) ?_
          refine rx_istore (i := 4) dX11_ways_95 (by decide) rfl rfl ?_
          refine rx_lload_n (i := 2) dX11_ways_97 rfl rfl ?_
          refine rx_aload_n (i := 0) dX11_ways_98 rfl rfl ?_
          refine rx_getR 167 (k := 43) fo_X11_99 kl_140 (by decide) ti_11_43 (by decide) rfl dX11_ways_99 ?_
          refine rx_iload (i := 6) dX11_ways_102 rfl ?_
          refine rx_zaldN kl_167 (by omega) (by first | decide | omega) dX11_ways_104 ?_
          refine rx_top (0) (sI_eq) ?_
          refine rx_if_eq (tgt := 118) dX11_ways_105 (by decide) (fun c105 => ?_) (fun c105 => absurd c105 (by decide))
          refine rx_lconst (0) dX11_ways_118 rfl ?_
          refine rx_ladd dX11_ways_119 ?_
          refine rx_lstore_n (i := 2) dX11_ways_120 rfl (by decide) rfl rfl ?_
          refine rx_iconst (0) dX11_ways_121 rfl ?_
          refine rx_istore (i := 7) dX11_ways_122 (by decide) rfl rfl ?_
          have hl2 : l + 0 = (lN (nsU (fun t => if S.mk t = th then W t else 0) e S.N)) := by
            rw [hl, nsU_S he]
            rw [if_neg e66, Nat.add_zero]; exact Int64.add_zero _
          have ha2 : (( 1 : Int32) = 1 ∧ (∃ t, e ≤ t ∧ t < S.N ∧ S.mk t = th)) ∨ ((1 : Int32) = 0 ∧ ¬ (∃ t, e ≤ t ∧ t < S.N ∧ S.mk t = th)) := Or.inl ⟨rfl, ha1.elim fun t z => ⟨t, by omega, z.2⟩⟩
          refine l_waysIn hn8 hm10 hO ht hF h46 he (fun N pay2 hf2 ho2 hp2 => ?_) 81 0 pay (setI N1 167 e 0) (by omega) (hf.trans frO_I) ⟨hoT, hoS⟩ hpS (by omega)
          refine rx_iinc (i := 6) dX11_ways_191 rfl rfl (by decide) rfl rfl ?_
          refine rx_goto (tgt := 44) dX11_ways_194 (by decide) ?_
          rw [addm1]
          rw [hl2]
          exact ih e _ _ pay2 N (by omega) hf2 ho2 hp2 rfl ha2 (by omega)
        · skip
          have ha0 : ¬ (∃ t, e + 1 ≤ t ∧ t < S.N ∧ S.mk t = th) := ha.elim (fun z => absurd (z.1.symm.trans c77) (by decide)) fun z => z.2
          refine rx_aload_n (i := 0) dX11_ways_80 rfl rfl ?_
          refine rx_getR 167 (k := 43) fo_X11_99 kl_140 (by decide) ti_11_43 (by decide) rfl dX11_ways_81 ?_
          refine rx_iload (i := 6) dX11_ways_84 rfl ?_
          refine rx_zaldN kl_167 (by omega) (by first | decide | omega) dX11_ways_86 ?_
          refine rx_top (0) (sI_eq) ?_
          refine rx_if_eq (tgt := 94) dX11_ways_87 (by decide) (fun c87 => ?_) (fun c87 => absurd c87 (by decide))
          refine rx_iconst (0) dX11_ways_94 rfl ?_
          refine rx_istore (i := 4) dX11_ways_95 (by decide) rfl rfl ?_
          refine rx_lload_n (i := 2) dX11_ways_97 rfl rfl ?_
          refine rx_aload_n (i := 0) dX11_ways_98 rfl rfl ?_
          refine rx_getR 167 (k := 43) fo_X11_99 kl_140 (by decide) ti_11_43 (by decide) rfl dX11_ways_99 ?_
          refine rx_iload (i := 6) dX11_ways_102 rfl ?_
          refine rx_zaldN kl_167 (by omega) (by first | decide | omega) dX11_ways_104 ?_
          refine rx_top (0) (sI_eq) ?_
          refine rx_if_eq (tgt := 118) dX11_ways_105 (by decide) (fun c105 => ?_) (fun c105 => absurd c105 (by decide))
          refine rx_lconst (0) dX11_ways_118 rfl ?_
          refine rx_ladd dX11_ways_119 ?_
          refine rx_lstore_n (i := 2) dX11_ways_120 rfl (by decide) rfl rfl ?_
          refine rx_iconst (0) dX11_ways_121 rfl ?_
          refine rx_istore (i := 7) dX11_ways_122 (by decide) rfl rfl ?_
          have hl2 : l + 0 = (lN (nsU (fun t => if S.mk t = th then W t else 0) e S.N)) := by
            rw [hl, nsU_S he]
            rw [if_neg e66, Nat.add_zero]; exact Int64.add_zero _
          have ha2 : (( 0 : Int32) = 1 ∧ (∃ t, e ≤ t ∧ t < S.N ∧ S.mk t = th)) ∨ ((0 : Int32) = 0 ∧ ¬ (∃ t, e ≤ t ∧ t < S.N ∧ S.mk t = th)) := Or.inr ⟨rfl, fun ⟨t, z1, z2, z3⟩ => by
              by_cases y : t = e
              · subst y; exact e66 z3
              · exact ha0 ⟨t, by omega, z2, z3⟩⟩
          refine l_waysIn hn8 hm10 hO ht hF h46 he (fun N pay2 hf2 ho2 hp2 => ?_) 81 0 pay (setI N1 167 e 0) (by omega) (hf.trans frO_I) ⟨hoT, hoS⟩ hpS (by omega)
          refine rx_iinc (i := 6) dX11_ways_191 rfl rfl (by decide) rfl rfl ?_
          refine rx_goto (tgt := 44) dX11_ways_194 (by decide) ?_
          rw [addm1]
          rw [hl2]
          exact ih e _ _ pay2 N (by omega) hf2 ho2 hp2 rfl ha2 (by omega)
      · skip
        have e66 : S.mk e = th := c66
        have hoS : (((setI N1 167 e 1).1 167 e = 1 ∧ oS T n th S e 0) ∨ ((setI N1 167 e 1).1 167 e = 0 ∧ ¬ oS T n th S e 0)) := by
          rw [sI_eq, oS_0]
          exact Or.inl ⟨rfl, e66⟩
        have hoT : ∀ t, e < t → t < S.N → ((setI N1 167 e 1).1 167 t = 1 ∧ onW T n th S t) ∨ ((setI N1 167 e 1).1 167 t = 0 ∧ ¬ onW T n th S t) := fun t h1 h2 => by
          rw [sI_ne (by omega)]; exact ho t (by omega) h2
        have hpS : ∀ i, i < 32 → (bt pay i = true ↔ pS T n th S e 0 i) := fun i hi => (hp i hi).trans pS_0.symm
        refine rx_iconst (1) dX11_ways_69 rfl ?_
        refine rx_goto (tgt := 74) dX11_ways_70 (by decide) ?_
        refine rx_zastN kl_167 (by omega) (by first | decide | omega) (by first | exact Or.inl rfl | exact Or.inr rfl) dX11_ways_74 ?_
        refine rx_iload (i := 4) dX11_ways_75 rfl ?_
        refine rx_if_ne (tgt := 90) dX11_ways_77 (by decide) (fun c77 => ?_) (fun c77 => ?_)
        · skip
          have ha1 : (∃ t, e + 1 ≤ t ∧ t < S.N ∧ S.mk t = th) := ha.elim (fun z => z.2) fun z => absurd z.1 c77
          refine rx_iconst (1) dX11_ways_90 rfl ?_
          refine rx_goto (tgt := 95) dX11_ways_91 (by decide) ?_
          refine rx_istore (i := 4) dX11_ways_95 (by decide) rfl rfl ?_
          refine rx_lload_n (i := 2) dX11_ways_97 rfl rfl ?_
          refine rx_aload_n (i := 0) dX11_ways_98 rfl rfl ?_
          refine rx_getR 167 (k := 43) fo_X11_99 kl_140 (by decide) ti_11_43 (by decide) rfl dX11_ways_99 ?_
          refine rx_iload (i := 6) dX11_ways_102 rfl ?_
          refine rx_zaldN kl_167 (by omega) (by first | decide | omega) dX11_ways_104 ?_
          refine rx_top (1) (sI_eq) ?_
          refine rx_if_eq (tgt := 118) dX11_ways_105 (by decide) (fun c105 => absurd c105 (by decide)) (fun c105 => ?_)
          refine rx_aload_n (i := 0) dX11_ways_108 rfl rfl ?_
          refine rx_getR 166 (k := 42) fo_X11_96 kl_140 (by decide) ti_11_42 (by decide) rfl dX11_ways_109 ?_
          refine rx_iload (i := 6) dX11_ways_112 rfl ?_
          refine rx_laldN kl_166 (by omega) (by first | decide | omega) dX11_ways_114 ?_
          refine rx_topL (S.wy e) ((repM_s hFN.2.1 he).2.2.1) ?_
          refine rx_goto (tgt := 119) dX11_ways_115 (by decide) ?_
          refine rx_ladd dX11_ways_119 ?_
          refine rx_lstore_n (i := 2) dX11_ways_120 rfl (by decide) rfl rfl ?_
          refine rx_iconst (0) dX11_ways_121 rfl ?_
          refine rx_istore (i := 7) dX11_ways_122 (by decide) rfl rfl ?_
          have hl2 : l + S.wy e = (lN (nsU (fun t => if S.mk t = th then W t else 0) e S.N)) := by
            rw [hl, nsU_S he]
            rw [if_pos e66, hwy, lN_add]
          have ha2 : (( 1 : Int32) = 1 ∧ (∃ t, e ≤ t ∧ t < S.N ∧ S.mk t = th)) ∨ ((1 : Int32) = 0 ∧ ¬ (∃ t, e ≤ t ∧ t < S.N ∧ S.mk t = th)) := Or.inl ⟨rfl, ha1.elim fun t z => ⟨t, by omega, z.2⟩⟩
          refine l_waysIn hn8 hm10 hO ht hF h46 he (fun N pay2 hf2 ho2 hp2 => ?_) 81 0 pay (setI N1 167 e 1) (by omega) (hf.trans frO_I) ⟨hoT, hoS⟩ hpS (by omega)
          refine rx_iinc (i := 6) dX11_ways_191 rfl rfl (by decide) rfl rfl ?_
          refine rx_goto (tgt := 44) dX11_ways_194 (by decide) ?_
          rw [addm1]
          rw [hl2]
          exact ih e _ _ pay2 N (by omega) hf2 ho2 hp2 rfl ha2 (by omega)
        · skip
          have ha0 : ¬ (∃ t, e + 1 ≤ t ∧ t < S.N ∧ S.mk t = th) := ha.elim (fun z => absurd (z.1.symm.trans c77) (by decide)) fun z => z.2
          refine rx_aload_n (i := 0) dX11_ways_80 rfl rfl ?_
          refine rx_getR 167 (k := 43) fo_X11_99 kl_140 (by decide) ti_11_43 (by decide) rfl dX11_ways_81 ?_
          refine rx_iload (i := 6) dX11_ways_84 rfl ?_
          refine rx_zaldN kl_167 (by omega) (by first | decide | omega) dX11_ways_86 ?_
          refine rx_top (1) (sI_eq) ?_
          refine rx_if_eq (tgt := 94) dX11_ways_87 (by decide) (fun c87 => absurd c87 (by decide)) (fun c87 => ?_)
          refine rx_iconst (1) dX11_ways_90 rfl ?_
          refine rx_goto (tgt := 95) dX11_ways_91 (by decide) ?_
          refine rx_istore (i := 4) dX11_ways_95 (by decide) rfl rfl ?_
          refine rx_lload_n (i := 2) dX11_ways_97 rfl rfl ?_
          refine rx_aload_n (i := 0) dX11_ways_98 rfl rfl ?_
          refine rx_getR 167 (k := 43) fo_X11_99 kl_140 (by decide) ti_11_43 (by decide) rfl dX11_ways_99 ?_
          refine rx_iload (i := 6) dX11_ways_102 rfl ?_
          refine rx_zaldN kl_167 (by omega) (by first | decide | omega) dX11_ways_104 ?_
          refine rx_top (1) (sI_eq) ?_
          refine rx_if_eq (tgt := 118) dX11_ways_105 (by decide) (fun c105 => absurd c105 (by decide)) (fun c105 => ?_)
          refine rx_aload_n (i := 0) dX11_ways_108 rfl rfl ?_
          refine rx_getR 166 (k := 42) fo_X11_96 kl_140 (by decide) ti_11_42 (by decide) rfl dX11_ways_109 ?_
          refine rx_iload (i := 6) dX11_ways_112 rfl ?_
          refine rx_laldN kl_166 (by omega) (by first | decide | omega) dX11_ways_114 ?_
          refine rx_topL (S.wy e) ((repM_s hFN.2.1 he).2.2.1) ?_
          refine rx_goto (tgt := 119) dX11_ways_115 (by decide) ?_
          refine rx_ladd dX11_ways_119 ?_
          refine rx_lstore_n (i := 2) dX11_ways_120 rfl (by decide) rfl rfl ?_
          refine rx_iconst (0) dX11_ways_121 rfl ?_
          refine rx_istore (i := 7) dX11_ways_122 (by decide) rfl rfl ?_
          have hl2 : l + S.wy e = (lN (nsU (fun t => if S.mk t = th then W t else 0) e S.N)) := by
            rw [hl, nsU_S he]
            rw [if_pos e66, hwy, lN_add]
          have ha2 : (( 1 : Int32) = 1 ∧ (∃ t, e ≤ t ∧ t < S.N ∧ S.mk t = th)) ∨ ((1 : Int32) = 0 ∧ ¬ (∃ t, e ≤ t ∧ t < S.N ∧ S.mk t = th)) := Or.inl ⟨rfl, e, Nat.le_refl _, he, e66⟩
          refine l_waysIn hn8 hm10 hO ht hF h46 he (fun N pay2 hf2 ho2 hp2 => ?_) 81 0 pay (setI N1 167 e 1) (by omega) (hf.trans frO_I) ⟨hoT, hoS⟩ hpS (by omega)
          refine rx_iinc (i := 6) dX11_ways_191 rfl rfl (by decide) rfl rfl ?_
          refine rx_goto (tgt := 44) dX11_ways_194 (by decide) ?_
          rw [addm1]
          rw [hl2]
          exact ih e _ _ pay2 N (by omega) hf2 ho2 hp2 rfl ha2 (by omega)
set_option maxRecDepth 100000 in
set_option maxHeartbeats 4000000 in
theorem c_X11_ways {M : Mem} {n m : Nat} {x : Int32} (w : MW M n m) (hs : sortOK (M.1 153 0)) (hO : OKS (mv M) n m) (hA : AOK (mv M) n) (hx : 0 ≤ x ∧ x ≤ 99) : Con yX11_ways cX11_ways 9 (some .long) 5 [.ref 140, .int x] M (fun v N => ((vis (mv M) n m (thV (mv M) m x)).1.1 = true ∧ v = some (.long (lsum (fun s => if (vis (mv M) n m (thV (mv M) m x)).1.2.mk s = (thV (mv M) m x) then (vis (mv M) n m (thV (mv M) m x)).1.2.wy s else 0) (vis (mv M) n m (thV (mv M) m x)).1.2.N)) ∧ ((0 < lsum (fun s => if (vis (mv M) n m (thV (mv M) m x)).1.2.mk s = (thV (mv M) m x) then (vis (mv M) n m (thV (mv M) m x)).1.2.wy s else 0) (vis (mv M) n m (thV (mv M) m x)).1.2.N ∧ frQ M N ∧ row1 N (fbor (fun _ => true) n &&& (orI (fun s => if (vis (mv M) n m (thV (mv M) m x)).1.2.mk s = (thV (mv M) m x) then pyS (mv M) n m (vis (mv M) n m (thV (mv M) m x)).1.2 s else 0) (vis (mv M) n m (thV (mv M) m x)).1.2.N ^^^ -1)).toInt64) ∨ (¬ 0 < lsum (fun s => if (vis (mv M) n m (thV (mv M) m x)).1.2.mk s = (thV (mv M) m x) then (vis (mv M) n m (thV (mv M) m x)).1.2.wy s else 0) (vis (mv M) n m (thV (mv M) m x)).1.2.N ∧ frK M N))) ∨ ((vis (mv M) n m (thV (mv M) m x)).1.1 = false ∧ v = some (.long (-3)) ∧ frK M N)) := by
  refine Con.of (own := RX11) (ls := [some (.ref 140), some (.int x), none, none, none, none, none, none, none]) rfl (by decide +kernel) (Nat.le_of_ble_eq_true rfl) rfl ?_
  have w0 := w.t0
  have ⟨hn, hn8, hm, hm10, hd⟩ := w
  refine rx_aload_n (i := 0) dX11_ways_0 rfl rfl ?_
  refine rx_iconst (0) dX11_ways_1 rfl ?_
  refine rx_putI (k := 21) fo_X11_126 fn_11_21 kl_140 (by decide) ty_11_21 dX11_ways_2 ?_
  refine rx_iload_n (i := 1) dX11_ways_5 rfl rfl ?_
  refine rx_csI mo_X11_isDay lk_X11_355 c_X11_isDay (by decide) rfl rfl (Nat.le_of_ble_eq_true rfl) dX11_ways_6 ?_
  refine rx_top (1) (if_pos hx) ?_
  refine rx_if_ne (tgt := 16) dX11_ways_9 (by decide) (fun c9 => ?_) (fun c9 => absurd c9 (by decide))
  refine rx_aload_n (i := 0) dX11_ways_16 rfl rfl ?_
  refine rx_iload_n (i := 1) dX11_ways_17 rfl rfl ?_
  refine rx_callV (ci := 11) mo_X11_findStates lk_X11_358 (c_X11_findStates (M := t0 M) (x := x) w0 (show sortOK ((t0 M).1 153 0) from hs) (by rw [t0_mv]; exact hO) (by rw [t0_mv]; exact hA)) (by decide) rfl rfl (Nat.le_of_ble_eq_true rfl) kl_140 rfl dX11_ways_18 ?_
  rintro _ N0 ⟨rfl, hK, h46, -, hF⟩
  rw [t0_mv] at h46 hF ⊢
  have hK := frK_t0.trans hK
  have wN := frQ.MW hK.1 w
  refine rx_if_ne (tgt := 28) dX11_ways_21 (by decide) (fun c21 => ?_) (fun c21 => ?_)
  · skip
    have hok : (vis (mv M) n m (thV (mv M) m x)).1.1 = true := zI_n c21
    obtain ⟨D, rk, W, hF⟩ := hF hok
    have hN3 := (repM_N hF.2.1).2
    refine rx_lconst (0) dX11_ways_28 rfl ?_
    refine rx_lstore_n (i := 2) dX11_ways_29 rfl (by decide) rfl rfl ?_
    refine rx_iconst (0) dX11_ways_30 rfl ?_
    refine rx_istore (i := 4) dX11_ways_31 (by decide) rfl rfl ?_
    refine rx_iconst (0) dX11_ways_33 rfl ?_
    refine rx_istore (i := 5) dX11_ways_34 (by decide) rfl rfl ?_
    refine rx_aload_n (i := 0) dX11_ways_36 rfl rfl ?_
    refine rx_getI (k := 44) fo_X11_325 kl_140 (by decide) ti_11_44 dX11_ways_37 ?_
    refine rx_top (nI (vis (mv M) n m (thV (mv M) m x)).1.2.N) ((repM_N hF.2.1).1) ?_
    refine rx_iconst (1) dX11_ways_40 rfl ?_
    refine rx_isub dX11_ways_41 ?_
    refine rx_istore (i := 6) dX11_ways_42 (by decide) rfl rfl ?_
    refine (l_waysOut hn8 hm10 hO (thV_OK hm10) hF h46 wN.1 (x := x) ((vis (mv M) n m (thV (mv M) m x)).1.2.N + 1) (vis (mv M) n m (thV (mv M) m x)).1.2.N 0 0 0 N0 (Nat.le_refl _) frO.refl (fun t h1 h2 => absurd h2 (by omega)) (fun i hi => ?_) ?_ (Or.inr ⟨rfl, fun ⟨t, z1, z2, _⟩ => by omega⟩) (by omega)).mono ?_
    · rw [b_0]; exact ⟨fun z => absurd z (by decide), fun ⟨p, k, u, z1, z2, _⟩ => by omega⟩
    · rw [nsU_N]; rfl
    rintro pc' ls' st' N ⟨v, h1, ⟨h2, h3⟩, h5⟩
    exact ⟨v, h1, Or.inl ⟨hok, h2, h3.imp (fun z => ⟨z.1, hK.1.trans z.2.1, z.2.2⟩) fun z => ⟨z.1, hK.trans z.2⟩⟩, h5⟩
  · skip
    have hok : (vis (mv M) n m (thV (mv M) m x)).1.1 = false := zI_0.mp c21
    refine rx_ldc2 (own := RX11) (v := (-3)) (List.mem_of_getElem? (i := 1891) (by decide +kernel)) dX11_ways_24 ?_
    exact rx_lret dX11_ways_27 (Or.inr ⟨hok, rfl, hK⟩)
set_option maxRecDepth 100000 in
set_option maxHeartbeats 4000000 in
theorem c_X11_ways_no {M : Mem} {x : Int32} (hx : ¬ (0 ≤ x ∧ x ≤ 99)) : Fun yX11_ways cX11_ways 9 (some .long) 5 [.ref 140, .int x] M (some (.long (-1))) (t0 M) := by
  refine Fun.of (own := RX11) ([some (.ref 140), some (.int x), none, none, none, none, none, none, none]) rfl (by decide +kernel) (Nat.le_of_ble_eq_true rfl) rfl ?_
  refine rx_aload_n (i := 0) dX11_ways_0 rfl rfl ?_
  refine rx_iconst (0) dX11_ways_1 rfl ?_
  refine rx_putI (k := 21) fo_X11_126 fn_11_21 kl_140 (by decide) ty_11_21 dX11_ways_2 ?_
  refine rx_iload_n (i := 1) dX11_ways_5 rfl rfl ?_
  refine rx_csI mo_X11_isDay lk_X11_355 c_X11_isDay (by decide) rfl rfl (Nat.le_of_ble_eq_true rfl) dX11_ways_6 ?_
  refine rx_if_ne (tgt := 16) dX11_ways_9 (by decide) (fun c9 => ?_) (fun c9 => ?_)
  · skip
    exact absurd (ite1n c9) hx
    skip
  · skip
    refine rx_ldc2 (own := RX11) (v := (-1)) (List.mem_of_getElem? (i := 1890) (by decide +kernel)) dX11_ways_12 ?_
    exact rx_fiL dX11_ways_15 rfl rfl
