theorem cntB_le {p : Nat → Bool} {a : Nat} : ∀ {n : Nat}, cntB p a n ≤ n
  | 0 => Nat.le_refl _
  | n + 1 => by
    have := cntB_le (p := p) (a := a) (n := n)
    simp only [cntB]
    split <;> omega
theorem cntB_congr {p q : Nat → Bool} {a : Nat} : ∀ {n : Nat}, (∀ o, a ≤ o → o < a + n → p o = q o) → cntB p a n = cntB q a n
  | 0, _ => rfl
  | n + 1, h => by
    simp only [cntB]
    rw [cntB_congr (n := n) (fun o h1 h2 => h o h1 (by omega)), h (a + n) (by omega) (by omega)]
theorem cntB_mono {p q : Nat → Bool} {a : Nat} : ∀ {n : Nat}, (∀ o, a ≤ o → o < a + n → p o = true → q o = true) → cntB p a n ≤ cntB q a n
  | 0, _ => Nat.le_refl _
  | n + 1, h => by
    have h1 := cntB_mono (p := p) (q := q) (a := a) (n := n) (fun o h1 h2 => h o h1 (by omega))
    have h2 := h (a + n) (by omega) (by omega)
    simp only [cntB]
    by_cases e : p (a + n) = true
    · rw [if_pos e, if_pos (h2 e)]; omega
    · rw [if_neg e]; split <;> omega
theorem cntB_lt {p q : Nat → Bool} {a u : Nat} : ∀ {n : Nat}, (∀ o, a ≤ o → o < a + n → p o = true → q o = true) → a ≤ u → u < a + n → p u = false → q u = true → cntB p a n < cntB q a n
  | 0, _, h1, h2, _, _ => by omega
  | n + 1, h, h1, h2, hp, hq => by
    have m := cntB_mono (p := p) (q := q) (a := a) (n := n) (fun o h1 h2 => h o h1 (by omega))
    have h3 := h (a + n) (by omega) (by omega)
    simp only [cntB]
    by_cases e : u = a + n
    · rw [← e, if_neg (by rw [hp]; decide), if_pos hq]; omega
    · have := cntB_lt (p := p) (q := q) (a := a) (n := n) (fun o h1 h2 => h o h1 (by omega)) h1 (by omega) hp hq
      by_cases e : p (a + n) = true
      · rw [if_pos e, if_pos (h3 e)]; omega
      · rw [if_neg e]; split <;> omega
def rkL (S : SS) (f e s : Nat) : Nat := cntB (fun o => decide (S.rw o < S.rw s)) f (e - f)
theorem rkL_iff {S : SS} {f e p q : Nat} (hp : f ≤ p ∧ p < e) (hq : f ≤ q ∧ q < e) : rkL S f e p < rkL S f e q ↔ S.rw p < S.rw q := by
  refine ⟨fun h => Nat.lt_of_not_le fun z => ?_, fun h => ?_⟩
  · have := cntB_mono (p := fun o => decide (S.rw o < S.rw q)) (q := fun o => decide (S.rw o < S.rw p)) (a := f) (n := e - f) (fun o _ _ h => by simp at h ⊢; omega)
    unfold rkL at h
    omega
  · exact cntB_lt (u := p) (fun o _ _ h2 => by simp at h2 ⊢; omega) hp.1 (by omega) (by simp) (by simpa using h)
/-- what the model's memory says of its states, so far -/
def RR (M : Mem) (S : SS) (D : Nat → Nat × Nat × Nat) : Prop := ∀ t, 0 < t → t < S.N → M.1 163 t = nI (D t).1 ∧ M.1 164 t = nI (8 * (D t).2.1 + (D t).2.2)
theorem rwL_eq {T : TT} {n m : Nat} {these : Int32} (ht : thOK T m these) (hn : n ≤ 8) (hm : m ≤ 10) (hO : OKS T n m) {S : SS} {M : Mem} {s C o q : Nat} {D : Nat → Nat × Nat × Nat} {rk W : Nat → Nat} (hP : PI T n m these S s C D rk W) (hR : RR M S D) (h165 : ∀ t, t < S.N → pcS S t ≤ pcS S s → M.1 165 t = nI (rk t)) (hrk : ∀ t, rk t < 3001) (hN : S.N ≤ 3000) (ho : 0 < o ∧ o < S.N) (hq : 0 < q ∧ q < S.N) (hpc : pcS S o = pcS S q) :
    rwL M o q (D o).1 (D q).1 = decide (S.rw o < S.rw q) := by
  obtain ⟨a1, a2, a3⟩ := hP.pd o ho.1 ho.2
  obtain ⟨b1, b2, b3⟩ := hP.pd q hq.1 hq.2
  have ca := cd_60 ht hn hm hO a2.1
  have cb := cd_60 ht hn hm hO b2.1
  have pa := eg_pc ht hn hm a2
  have pb := eg_pc ht hn hm b2
  have l1 := hP.2.2.1.2 o ho.2
  obtain ⟨k1, k2, -⟩ := lq_og ht hn hO a2.1
  obtain ⟨d1, d2, -⟩ := lq_og ht hn hO b2.1
  unfold rwL
  rw [(hR o ho.1 ho.2).1, (hR q hq.1 hq.2).1, (hR o ho.1 ho.2).2, (hR q hq.1 hq.2).2]
  by_cases e : (D o).1 = (D q).1
  · rw [if_pos (by rw [e])]
    have := cd_iff ht hn hO a2.1 b2.1
    rw [a3, b3, e]
    refine decide_eq_decide.mpr ((nI_ltI (by omega) (by omega)).trans ?_)
    omega
  · rw [if_neg (fun z => e ((nI_eq (by omega) (by omega)).mp z))]
    have hne : S.rw (D o).1 ≠ S.rw (D q).1 := fun z => e (row_inj ht hn hm hO hP.1 hP.pd ((D o).1 + 1) (D o).1 (D q).1 (by omega) (by omega) (by omega) (by omega) z)
    have := hP.2.2.2.2.2.1 (D o).1 (D q).1 (by omega) (by omega) (by omega) (by omega)
    rw [h165 (D o).1 (by omega) (by omega), h165 (D q).1 (by omega) (by omega), a3, b3]
    have r1 := hrk (D o).1
    have r2 := hrk (D q).1
    refine decide_eq_decide.mpr ((nI_ltI (by omega) (by omega)).trans ?_)
    omega
theorem and10_lt {x : Int32} : ∃ k : Nat, k < 1024 ∧ x &&& 1023 = nI k := by
  refine ⟨(x &&& 1023).toBitVec.toNat, ?_, ?_⟩
  · rw [Int32.toBitVec_and, BitVec.toNat_and]
    exact Nat.lt_of_le_of_lt Nat.and_le_right (by decide)
  · refine Int32.toBitVec_inj.mp (BitVec.eq_of_toNat_eq ?_)
    show _ = (x &&& 1023).toBitVec.toNat % 2 ^ 32
    exact (Nat.mod_eq_of_lt (BitVec.isLt _)).symm
theorem b_1023 : ∀ j, j < 32 → bt 1023 j = decide (j < 10) := by decide +kernel
theorem small10 {x : Int32} (h : ∀ j, bt x j = true → j < 10) : ∃ k : Nat, k < 1024 ∧ x = nI k := by
  obtain ⟨k, hk, e⟩ := and10_lt (x := x)
  refine ⟨k, hk, e ▸ b_ext fun j hj => ?_⟩
  rw [b_and, b_1023 j hj]
  by_cases q : bt x j = true
  · rw [q]; simp [h j q]
  · have : bt x j = false := by simpa using q
    rw [this]; rfl
theorem bc10 : ∀ k, k < 1024 → bcnt (nI k) = nI (pcN (nI k) 10) := by decide +kernel
theorem bcnt_pc {x : Int32} (h : ∀ j, bt x j = true → j < 10) : bcnt x = nI (pcN x 10) := by
  obtain ⟨k, hk, rfl⟩ := small10 h
  exact bc10 k hk
theorem bcS {T : TT} {n m : Nat} {these : Int32} (ht : thOK T m these) (hm : m ≤ 10) {S : SS} (hE : EX T n m these S) {t : Nat} (h : t < S.N) : bcnt (S.mk t) = nI (pcS S t) := bcnt_pc fun j hj => by have := (ht j ((hE.2.2 t h).1 j hj)).1; omega
theorem MI.next {M0 M N : Mem} {T : TT} {n : Nat} {these : Int32} {S : SS} {s : Nat} {D : Nat → Nat × Nat × Nat} {rk rk' : Nat → Nat} (h : MI M0 M T n these S s 80 D rk) (hN : ∀ a j, ¬ (a = 165 ∧ s + 1 ≤ j) → N.1 a j = M.1 a j) (h2 : N.2 = M.2) (hrk : ∀ t, t < S.N → pcS S t ≤ pcS S (s + 1) → N.1 165 t = nI (rk' t)) (hrk2 : ∀ t, rk' t < 3001) : MI M0 N T n these S (s + 1) 0 D rk' := by
  obtain ⟨b1, b2, b3, b4, b5, b6, b7⟩ := h
  have e : ∀ a, a ≠ 165 → N.1 a = M.1 a := fun a ha => funext fun j => hN a j (by omega)
  unfold MI lsW
  rw [e 162 (by omega), e 163 (by omega), e 164 (by omega), e 161 (by omega)]
  refine ⟨b1.trans ⟨fun a j q => hN a j (by omega), fun a _ => by rw [h2], by rw [h2]⟩, repM_keep b2 (by rw [e 140 (by omega)]) (e _ (by omega)) (e _ (by omega)) (by rw [h2]) (e _ (by omega)), b3, b4, ⟨hrk, hrk2⟩, fun t ht w' hw' => ?_, fun w' hw' => absurd hw' (Nat.not_lt_zero _)⟩
  by_cases q : t = s
  · subst q; exact b7 w' hw'
  · exact b6 t (by omega) w' hw'
theorem vrun_stop {T : TT} {n m : Nat} {these : Int32} {s : Nat} {x : XS} (h : ¬ (s < x.1.2.N ∧ x.1.1 = true)) : ∀ {f : Nat}, vrun T n m these f s x = x
  | 0 => rfl
  | f + 1 => by simp only [vrun]; rw [if_neg h]
theorem vrun_go {T : TT} {n m : Nat} {these : Int32} {s f : Nat} {x : XS} (h : s < x.1.2.N) (h2 : x.1.1 = true) : vrun T n m these (f + 1) s x = vrun T n m these f (s + 1) (lvs (ldT T n (x.1.2.co s)) n s (x.1.2.mk s) (x.1.2.co s) (x.1.2.pr s) (x.1.2.rw s) these m x) := by
  simp only [vrun]; rw [if_pos ⟨h, h2⟩]
/-- a new layer: all behind s -/
theorem lay_new {T : TT} {n m : Nat} {these : Int32} {S : SS} {s C : Nat} {D : Nat → Nat × Nat × Nat} {rk W : Nat → Nat} (hP : PI T n m these S s C D rk W) (hs : s + 1 < S.N) (hne : ¬ pcS S (s + 1) = pcS S s) : pcS S (s + 1) = pcS S s + 1 ∧ ∀ t, s + 1 ≤ t → t < S.N → pcS S t = pcS S (s + 1) := by
  have h1 := hP.2.2.1.1 s (s + 1) (by omega) hs
  have h2 := hP.2.2.1.2 (s + 1) hs
  refine ⟨by omega, fun t h3 h4 => ?_⟩
  have h5 := hP.2.2.1.1 (s + 1) t h3 h4
  have h6 := hP.2.2.1.2 t h4
  omega
theorem next_same {T : TT} {n m : Nat} {these : Int32} {S : SS} {s : Nat} {D : Nat → Nat × Nat × Nat} {rk W : Nat → Nat} {M0 M : Mem} (hM : MI M0 M T n these S s 80 D rk) (hP : PI T n m these S s 60 D rk W) (hs : s + 1 < S.N) (he : pcS S (s + 1) = pcS S s) : MI M0 M T n these S (s + 1) 0 D rk ∧ PI T n m these S (s + 1) 0 D rk W :=
  ⟨hM.next (fun _ _ _ => rfl) rfl (fun t ht h => hM.2.2.2.2.1.1 t ht (by omega)) hM.2.2.2.2.1.2, hP.next hs fun p q hp hq h1 h2 => hP.2.2.2.2.2.1 p q hp hq h1 (by omega)⟩
def rkD (S : SS) (rk : Nat → Nat) (s : Nat) : Nat → Nat := fun t => if s + 1 ≤ t ∧ t < S.N then rkL S (s + 1) S.N t else rk t
theorem next_new {T : TT} {n m : Nat} {these : Int32} (ht : thOK T m these) (hn : n ≤ 8) (hm : m ≤ 10) (hO : OKS T n m) {S : SS} {s : Nat} {D : Nat → Nat × Nat × Nat} {rk W : Nat → Nat} {M0 M : Mem} (hM : MI M0 M T n these S s 80 D rk) (hP : PI T n m these S s 60 D rk W) (hs : s + 1 < S.N) (hne : ¬ pcS S (s + 1) = pcS S s) : MI M0 (orM M (fun o => (D o).1) (s + 1) S.N S.N) T n these S (s + 1) 0 D (rkD S rk s) ∧ PI T n m these S (s + 1) 0 D (rkD S rk s) W := by
  obtain ⟨l1, l2⟩ := lay_new hP hs hne
  have hN := (repM_N hM.2.1).2
  have hmono := hP.2.2.1.1
  refine ⟨hM.next (fun a j h => or_o h) rfl (fun t htN h => ?_) (fun t => ?_), hP.next hs fun p q hp hq h1 h2 => ?_⟩
  · by_cases q : s + 1 ≤ t
    · rw [show rkD S rk s t = rkL S (s + 1) S.N t from if_pos ⟨q, htN⟩]
      refine (if_pos ⟨rfl, q, htN⟩).trans (congrArg nI ?_)
      refine cntB_congr fun o h1 h2 => ?_
      exact rwL_eq ht hn hm hO hP hM.2.2.2.1.2 hM.2.2.2.2.1.1 hM.2.2.2.2.1.2 hN ⟨by omega, by omega⟩ ⟨by omega, htN⟩ (by rw [l2 o h1 (by omega), l2 t q htN])
    · rw [show rkD S rk s t = rk t from if_neg (fun z => q z.1)]
      rw [or_o (by omega)]
      have := hmono t s (by omega) (by omega)
      exact hM.2.2.2.2.1.1 t htN this
  · unfold rkD
    split
    · have : rkL S (s + 1) S.N t ≤ S.N - (s + 1) := cntB_le
      omega
    · exact hM.2.2.2.2.1.2 t
  · by_cases z : s + 1 ≤ p
    · have zq : s + 1 ≤ q := Nat.le_of_not_lt fun y => by
        have a1 := hmono q s (by omega) (by omega)
        have a2 := l2 p z hp
        omega
      rw [show rkD S rk s p = rkL S (s + 1) S.N p from if_pos ⟨z, hp⟩, show rkD S rk s q = rkL S (s + 1) S.N q from if_pos ⟨zq, hq⟩]
      exact rkL_iff ⟨z, hp⟩ ⟨zq, hq⟩
    · have a1 := hmono p s (by omega) (by omega)
      have zq : ¬ s + 1 ≤ q := fun y => by
        have a2 := l2 q y hq
        omega
      rw [show rkD S rk s p = rk p from if_neg (fun y => z y.1), show rkD S rk s q = rk q from if_neg (fun y => zq y.1)]
      exact hP.2.2.2.2.2.1 p q hp hq h1 a1
/-- all states found -/
def FS (N : Mem) (T : TT) (n m : Nat) (these : Int32) (S : SS) (D : Nat → Nat × Nat × Nat) (rk W : Nat → Nat) : Prop :=
  PI T n m these S (S.N - 1) 60 D rk W ∧ repM N S n ∧ (∀ t, t < S.N → N.1 162 t = S.pr t) ∧ RR N S D ∧ (∀ t, t < S.N → N.1 165 t = nI (rk t)) ∧ (∀ t, rk t < 3001) ∧ ∀ t, t < S.N → ∀ w, w < 80 → lsW T n these S N t w
theorem FS.of {T : TT} {n m : Nat} {these : Int32} {S : SS} {s : Nat} {D : Nat → Nat × Nat × Nat} {rk W : Nat → Nat} {M0 M N : Mem} (hM : MI M0 M T n these S s 80 D rk) (hP : PI T n m these S s 60 D rk W) (hs : s + 1 = S.N) (hN : ∀ a, (a = 140 ∨ (159 ≤ a ∧ a ≤ 168)) → N.1 a = M.1 a) (h2 : N.2.1 166 = M.2.1 166) : FS N T n m these S D rk W := by
  obtain ⟨b1, b2, b3, b4, b5, b6, b7⟩ := hM
  unfold FS RR lsW
  rw [hN 162 (by omega), hN 163 (by omega), hN 164 (by omega), hN 165 (by omega), hN 161 (by omega), show S.N - 1 = s by omega]
  refine ⟨hP, repM_keep b2 (by rw [hN 140 (by omega)]) (hN _ (by omega)) (hN _ (by omega)) h2 (hN _ (by omega)), b3, b4.2, fun t ht => b5.1 t ht (hP.2.2.1.1 t s (by omega) (by omega)), b5.2, fun t ht w hw => ?_⟩
  by_cases q : t = s
  · subst q; exact b7 w hw
  · exact b6 t (by omega) w hw
