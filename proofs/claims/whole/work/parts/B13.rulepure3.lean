def RESH (X : Nat → Int32) (lim deep i : Nat) (c w : List Int32) (Cp : Nat → Int32) (dg : Nat) (r : PR) : Prop :=
  (r.2.2 = none → r.2.1 ≤ lim ∧ i ≤ r.2.1 ∧ (¬ kc X lim r.2.1 = 43 ∧ ¬ kc X lim r.2.1 = 45 ∧ ¬ kc X lim r.2.1 = 42 ∧ ¬ kc X lim r.2.1 = 47) ∧
    ∃ c' p Cp' dg', r.1 = c' ++ p ∧ (∀ a ∈ p, 1 ≤ strg a) ∧ rnL X i r.2.1 (c, w, Cp, deep, dg, 1) (c ++ c', p ++ w, Cp', deep, dg', 0) ∧ (∀ d, d < deep → (Cp' d = 0 ↔ Cp d = 0)) ∧ (kc X lim r.2.1 = 60 ∨ kc X lim r.2.1 = 62 ∨ kc X lim r.2.1 = 61 → ¬ Cp' deep = 0) ∧ NXL X lim r.2.1 dg') ∧
  ∀ q, r.2.2 = some q → BDL X lim i (c, w, Cp, deep, dg, 1) q
theorem Esu_4 {y : Int32} (h : Esu y) : ¬ y = 43 ∧ ¬ y = 45 ∧ ¬ y = 42 ∧ ¬ y = 47 := ⟨h.2.1, h.2.2, h.1.2.1, h.1.2.2⟩
theorem cmp_ok {X : Nat → Int32} {lim deep lo i : Nat} {su : PF → PR} (hsu : goodL X lim (wlL 2) 2 Esu deep lo su) {c w : List Int32} {Cp : Nat → Int32} {dg : Nat} (hlo : lo ≤ i) (hw : wlL 1 w) (hC0 : Cp deep = 0) {v : PR} (hR : RESL X lim 2 Esu deep i c w Cp dg v) (hn : v.2.2 = none) {k o : Int32} (ho : kc X lim v.2.1 = o) (hO : 0 ≤ o ∧ dig o = false ∧ ¬ o = 41 ∧ ¬ ax1 o < 0 ∧ ax1 o < 3 ∧ 2000 + ax1 o = k ∧ strg k = 1) :
    RESH X lim deep i c w Cp dg (v.1 ++ (su (v.2.1 + 1, none)).1 ++ [k], (su (v.2.1 + 1, none)).2) := by
  obtain ⟨hl, hi, hE, c', p, Cp', dg', e1, hp, hr, hC, hN⟩ := hR.1 hn
  obtain ⟨q0, q1, q2, q3, q4, q5, q6⟩ := hO
  have hjl : v.2.1 < lim := kc_lt ho q0
  have ey : X v.2.1 = o := by rw [← ho]; exact (if_pos hjl).symm
  have hC' : Cp' deep = 0 := (hC deep (Nat.le_refl _)).mpr hC0
  have hst := rnL_one (X := X) (i := v.2.1) (by
    rw [ey]
    exact op_st (c1 := c ++ c') (p := p) (w := w) (Cp := Cp') (dp := deep) (dg := dg') q1 q2 q3 (fun _ => hC') (by rw [q5, q6]; exact fun a ha => Int32.le_trans (by decide) (hp a ha)) (by rw [q5, q6]; exact hw))
  rw [q5, if_pos (Or.inr q4)] at hst
  have hrun := rnL_trans hr hst
  have hf' := hsu (v.2.1 + 1) (c ++ c' ++ p) (k :: w) (upd Cp' deep 1) 0 (by omega) (by omega) (fun a w2 z => by cases z; rw [q6]; decide)
  refine ⟨fun hn2 => ?_, fun q hq => BDL_pre hrun (hf'.2 q hq)⟩
  obtain ⟨b1, b2, b3, c2, p2, Cp2, dg2, e2, hp2, hr2, hC2, hN2⟩ := hf'.1 hn2
  refine ⟨b1, by show i ≤ (su (v.2.1 + 1, none)).2.1; omega, Esu_4 b3, c' ++ p ++ c2, p2 ++ [k], Cp2, dg2, ?_, ?_, ?_, ?_, ?_, hN2⟩
  · show v.1 ++ (su (v.2.1 + 1, none)).1 ++ [k] = _
    rw [e1, e2]; simp
  · intro a ha
    rcases List.mem_append.mp ha with z | z
    · exact Int32.le_trans (by decide) (hp2 a z)
    · rw [List.mem_singleton.mp z, q6]; exact Int32.le_refl _
  · have := rnL_trans hrun hr2
    rw [show c ++ (c' ++ p ++ c2) = c ++ c' ++ p ++ c2 by simp, show p2 ++ [k] ++ w = p2 ++ k :: w by simp]
    exact this
  · intro d hd
    rw [hC2 d (by omega), ← hC d (by omega)]
    unfold upd
    rw [if_neg (by omega)]
  · intro _ z
    have := (hC2 deep (Nat.le_refl _)).mp z
    unfold upd at this
    rw [if_pos rfl] at this
    exact absurd this (by decide)
theorem heP_ok {X : Nat → Int32} {lim deep lo i : Nat} {su : PF → PR} (hsu : goodL X lim (wlL 2) 2 Esu deep lo su) {c w : List Int32} {Cp : Nat → Int32} {dg : Nat} (hlo : lo ≤ i) (hil : i ≤ lim) (hw : wlL 1 w) (hC0 : Cp deep = 0) :
    RESH X lim deep i c w Cp dg (heP X lim su (i, none)) := by
  have hR := hsu i c w Cp dg hlo hil (wl_lt (by decide) hw)
  unfold heP
  simp only
  split
  · next q => exact cmp_ok hsu hlo hw hC0 hR q.1 q.2 (by decide)
  · next q1 =>
    split
    · next q => exact cmp_ok hsu hlo hw hC0 hR q.1 q.2 (by decide)
    · next q2 =>
      split
      · next q => exact cmp_ok hsu hlo hw hC0 hR q.1 q.2 (by decide)
      · next q3 =>
        refine ⟨fun hn => ?_, hR.2⟩
        obtain ⟨hl, hi, hE, c', p, Cp', dg', e1, hp, hr, hC, hN⟩ := hR.1 hn
        exact ⟨hl, hi, Esu_4 hE, c', p, Cp', dg', e1, fun a ha => Int32.le_trans (by decide) (hp a ha), hr, fun d hd => hC d (by omega), fun z => absurd z (fun z => z.elim (fun y => q1 ⟨hn, y⟩) fun z => z.elim (fun y => q2 ⟨hn, y⟩) fun y => q3 ⟨hn, y⟩), hN⟩
theorem lst_1 {y : Int32} {c w : List Int32} {Cp : Nat → Int32} {dp dg : Nat} : lst y (c, w, Cp, dp, dg, 1) = lth y (c, w, Cp, dp, dg, 1) := if_neg (show ¬ (1 : Int32) = 0 by decide)
theorem n_st : ∀ a, a < 100 → ∀ d, d < 10 → 10 * nI a + nI (48 + d) - 48 = nI (10 * a + d) ∧ nI a * 10 + (nI (48 + d) - 48) = nI (10 * a + d) := by decide +kernel
theorem n_st0 : ∀ d, d < 10 → 10 * 0 + nI (48 + d) - 48 = nI d ∧ nI (48 + d) - 48 = nI d := by decide +kernel
theorem dig_ex {y : Int32} (h : dig y = true) : ∃ d, d < 10 ∧ y = nI (48 + d) := by
  obtain ⟨h1, h2⟩ := dig_iff.mp h
  rw [i_le] at h1 h2
  have e48 : (48 : Int32).toInt = 48 := rfl
  have e57 : (57 : Int32).toInt = 57 := rfl
  obtain ⟨e, hb⟩ := i_nI (x := y) (by omega)
  have hv : y.toInt = (y.toNatClampNeg : Int) := by rw [e, nI_toInt hb, nI_clamp hb]
  exact ⟨y.toNatClampNeg - 48, by omega, by rw [show 48 + (y.toNatClampNeg - 48) = y.toNatClampNeg by omega]; exact e⟩
theorem num_run {X : Nat → Int32} {lim : Nat} {c w : List Int32} {Cp : Nat → Int32} {dp : Nat} : ∀ (f dg p a : Nat), dg + f = 3 → 1 ≤ dg → a < 10 ^ dg → p ≤ lim →
    ∃ b dg', (numM X lim f (nI a) p).1 = nI b ∧ b < 1000 ∧ rnL X p (numM X lim f (nI a) p).2 (c ++ [nI a], w, Cp, dp, dg, 0) (c ++ [nI b], w, Cp, dp, dg', 0) ∧ NXL X lim (numM X lim f (nI a) p).2 dg'
  | 0, dg, p, a, h3, h1, ha, hp => by
    have e : dg = 3 := by omega
    subst e
    exact ⟨a, 3, rfl, ha, rnL_refl, fun _ q => by omega⟩
  | f + 1, dg, p, a, h3, h1, ha, hp => by
    have ha3 : a < 100 := by
      rcases (show dg = 1 ∨ dg = 2 by omega) with z | z
      · subst z; have : (10 : Nat) ^ 1 = 10 := rfl; omega
      · subst z; have : (10 : Nat) ^ 2 = 100 := rfl; omega
    simp only [numM]
    by_cases hd : dig (kc X lim p) = true
    · rw [if_pos hd]
      have hpl := dig_lt hd
      have ey : kc X lim p = X p := if_pos hpl
      obtain ⟨d, hd9, ed⟩ := dig_ex hd
      obtain ⟨s1, s2⟩ := n_st a ha3 d hd9
      rw [ed, s1]
      have hb : 10 * a + d < 10 ^ (dg + 1) := by rw [Nat.pow_succ]; omega
      obtain ⟨b, dg', e1, hb1, hr, hN⟩ := num_run (X := X) (lim := lim) (c := c) (w := w) (Cp := Cp) (dp := dp) f (dg + 1) (p + 1) (10 * a + d) (by omega) (by omega) hb (by omega)
      refine ⟨b, dg', e1, hb1, rnL_trans (rnL_one ?_) hr, hN⟩
      rw [ey] at hd ed
      unfold lst
      rw [if_pos rfl]
      unfold lbe
      simp only
      rw [if_pos hd, if_pos (by omega), last_c, List.dropLast_concat, ed, s2]
    · rw [if_neg hd]
      exact ⟨a, dg, rfl, by omega, rnL_refl, fun q => absurd q hd⟩
theorem thP_ok {X : Nat → Int32} {lim : Nat} (hl : lim ≤ 40) : ∀ (f deep : Nat), deep ≤ 4 → goodL X lim (fun _ => True) 4 (fun _ => True) deep (lim + 1 - f) (thP X lim f deep)
  | 0, deep, _ => fun i c w Cp dg hlo hil _ => by omega
  | f + 1, deep, hdp => fun i c w Cp dg hlo hil _ => by
    simp only [thP]
    by_cases q1 : kc X lim i = 45
    · rw [if_pos ⟨trivial, q1⟩]
      have hj := kc_lt q1 (by decide)
      have ey : X i = 45 := by rw [← q1]; exact (if_pos hj).symm
      have hrun : rnL X i (i + 1) (c, w, Cp, deep, dg, 1) (c, 2007 :: w, Cp, deep, dg, 1) := rnL_one (by rw [ey]; rfl)
      have hf := thP_ok (X := X) hl f deep hdp (i + 1) c (2007 :: w) Cp dg (by omega) (by omega) trivial
      refine ⟨fun hn => ?_, fun q hq => BDL_pre hrun (hf.2 q hq)⟩
      obtain ⟨b1, b2, b3, c2, p2, Cp2, dg2, e2, hp2, hr2, hC2, hN2⟩ := hf.1 hn
      refine ⟨b1, by show i ≤ (thP X lim f deep (i + 1, none)).2.1; omega, trivial, c2, p2 ++ [2007], Cp2, dg2, ?_, ?_, ?_, hC2, hN2⟩
      · show (thP X lim f deep (i + 1, none)).1 ++ [2007] = _
        rw [e2]; simp
      · intro a ha
        rcases List.mem_append.mp ha with z | z
        · exact hp2 a z
        · rw [List.mem_singleton.mp z]; decide
      · have := rnL_trans hrun hr2
        rw [show p2 ++ [2007] ++ w = p2 ++ 2007 :: w by simp]
        exact this
    · rw [if_neg (fun z => q1 z.2), if_neg (fun z => z trivial)]
      by_cases q2 : kc X lim i = 40 ∧ deep < 4
      · rw [if_pos q2]
        have hj := kc_lt q2.1 (by decide)
        have ey : X i = 40 := by rw [← q2.1]; exact (if_pos hj).symm
        have hrun : rnL X i (i + 1) (c, w, Cp, deep, dg, 1) (c, 2008 :: w, upd Cp (deep + 1) 0, deep + 1, dg, 1) := rnL_one (by
          rw [ey]
          show (if deep < 4 then (true, c, 2008 :: w, upd Cp (deep + 1) 0, deep + 1, dg, 1) else (false, c, w, Cp, deep, dg, 1)) = _
          rw [if_pos q2.2])
        have hth := thP_ok (X := X) hl f (deep + 1) (by omega)
        have hh := heP_ok (suP_ok hl (prP_ok hl hth)) (i := i + 1) (c := c) (w := 2008 :: w) (Cp := upd Cp (deep + 1) 0) (dg := dg) (by omega) (by omega) (fun a w2 z => by cases z; decide) (by unfold upd; rw [if_pos rfl])
        obtain ⟨h, eh⟩ : ∃ h, h = heP X lim (suP X lim (prP X lim (thP X lim f (deep + 1)))) (i + 1, none) := ⟨_, rfl⟩
        rw [← eh] at hh ⊢
        obtain ⟨hh1, hh2⟩ := hh
        cases hs : h.2.2 with
        | some q =>
          have en : needP X lim 41 h.2 = h.2 := by
            unfold needP faultP
            rw [if_neg (fun z => by rw [hs] at z; cases z.1), hs]
            exact Prod.ext rfl hs.symm
          refine ⟨fun hn => ?_, fun q' hq => ?_⟩
          · have : (needP X lim 41 h.2).2 = none := hn
            rw [en, hs] at this
            cases this
          · have : (needP X lim 41 h.2).2 = some q' := hq
            rw [en] at this
            exact BDL_pre hrun (hh2 q' this)
        | none =>
          obtain ⟨b1, b2, b3, c2, p2, Cp2, dg2, e2, hp2, hr2, hC2, hcm, hN2⟩ := hh1 hs
          by_cases q3 : kc X lim h.2.1 = 41
          · have en : needP X lim 41 h.2 = (h.2.1 + 1, none) := if_pos ⟨hs, q3⟩
            rw [en]
            have hj2 := kc_lt q3 (by decide)
            have ey2 : X h.2.1 = 41 := by rw [← q3]; exact (if_pos hj2).symm
            have hrun2 : rnL X h.2.1 (h.2.1 + 1) (c ++ c2, p2 ++ 2008 :: w, Cp2, deep + 1, dg2, 0) (c ++ (c2 ++ p2), w, Cp2, deep, 0, 0) := rnL_one (by
              rw [ey2]
              show (if 1 ≤ deep + 1 then (true, (lStl 1 (c ++ c2) (p2 ++ 2008 :: w)).1, (lStl 1 (c ++ c2) (p2 ++ 2008 :: w)).2.drop 1, Cp2, deep + 1 - 1, 0, (0 : Int32)) else (false, c ++ c2, p2 ++ 2008 :: w, Cp2, deep + 1, 0, 0)) = _
              rw [if_pos (by omega), lS_all hp2 (fun a w2 z => by cases z; decide)]
              simp)
            refine ⟨fun _ => ⟨hj2, by show i ≤ h.2.1 + 1; omega, trivial, c2 ++ p2, [], Cp2, 0, ?_, fun a ha => absurd ha List.not_mem_nil, ?_, ?_, fun _ q => by omega⟩, fun q hq => by cases hq⟩
            · show h.1 = _
              rw [e2]; simp
            · exact rnL_trans hrun (rnL_trans hr2 hrun2)
            · intro d hd
              rw [hC2 d (by omega)]
              unfold upd
              rw [if_neg (by omega)]
          · have en : needP X lim 41 h.2 = (h.2.1, some h.2.1) := by
              unfold needP faultP
              rw [if_neg (fun z => q3 z.2), hs]
            rw [en]
            refine ⟨fun hn => (by cases hn), fun q hq => ?_⟩
            have eq : h.2.1 = q := Option.some.inj hq
            rw [← eq]
            refine ⟨b1, _, rnL_trans hrun hr2, ?_⟩
            by_cases hjl : h.2.1 < lim
            · exact stuckL hjl hN2 (fun z => absurd z q3) b3 hcm
            · unfold badL
              rw [if_neg hjl]
              exact fun z => absurd z.2 (by show ¬ deep + 1 = 0; omega)
      · rw [if_neg q2]
        by_cases q3 : dig (kc X lim i) = true
        · rw [if_pos q3]
          have hj := dig_lt q3
          have ey : kc X lim i = X i := if_pos hj
          obtain ⟨d, hd9, ed⟩ := dig_ex q3
          obtain ⟨s1, s2⟩ := n_st0 d hd9
          obtain ⟨b, dg', e1, hb1, hr, hN⟩ := num_run (X := X) (lim := lim) (c := c) (w := w) (Cp := Cp) (dp := deep) 2 1 (i + 1) d rfl (Nat.le_refl _) (by omega) hj
          have en : numM X lim 3 0 i = numM X lim 2 (nI d) (i + 1) := by
            show (if dig (kc X lim i) = true then numM X lim 2 (10 * 0 + kc X lim i - 48) (i + 1) else (0, i)) = _
            rw [if_pos q3, ed, s1]
          have hle := numM_le (S := X) (lim := lim) (d := 2) (v := nI d) (p := i + 1) hj
          have ep : numP X lim 3 0 999 (i, none) = (nI b, ((numM X lim 2 (nI d) (i + 1)).2, none)) := by
            unfold numP
            simp only
            rw [en, if_neg (by omega), e1, if_pos ⟨nI_pos' (by omega), nI_le (b := 999) (by omega) (by omega)⟩]
          rw [ep]
          have hrun : rnL X i (i + 1) (c, w, Cp, deep, dg, 1) (c ++ [nI d], w, Cp, deep, 1, 0) := rnL_one (by
            rw [ey] at q3 q1 ed
            have q2' : ¬ X i = 40 := fun z => by rw [z] at q3; exact absurd q3 (by decide)
            rw [lst_1]
            unfold lth
            simp only
            rw [if_neg q1, if_neg q2', if_neg (fun z => by rw [z.2] at q3; cases q3), if_pos q3, if_pos q3, ed, s2])
          refine ⟨fun _ => ⟨hle.2, by show i ≤ (numM X lim 2 (nI d) (i + 1)).2; omega, trivial, [nI b], [], Cp, dg', rfl, fun a ha => absurd ha List.not_mem_nil, rnL_trans hrun hr, fun _ _ => Iff.rfl, hN⟩, fun q hq => by cases hq⟩
        · rw [if_neg q3]
          by_cases q4 : ltx (kc X lim i) = 8
          · rw [if_pos q4]
            refine ⟨fun hn => (by cases hn), fun q hq => ?_⟩
            have eq : i = q := Option.some.inj hq
            rw [← eq]
            refine ⟨hil, _, rnL_refl, ?_⟩
            unfold badL
            by_cases hj : i < lim
            · rw [if_pos hj]
              have ey : kc X lim i = X i := if_pos hj
              rw [ey] at q1 q2 q3 q4
              rw [lst_1]
              unfold lth
              simp only
              rw [if_neg q1]
              by_cases z : X i = 40
              · rw [if_pos z, if_neg (fun y => q2 ⟨z, y⟩)]
              · rw [if_neg z, if_pos ⟨q4, Bool.eq_false_iff.mpr q3⟩]
            · rw [if_neg hj]
              exact fun z => absurd (show (1 : Int32) = 0 from z.1) (by decide)
          · rw [if_neg q4]
            have hj : i < lim := by
              rcases Nat.lt_or_ge i lim with z | z
              · exact z
              · exact absurd (by rw [show kc X lim i = -1 from if_neg (by omega)]; decide) q4
            have ey : kc X lim i = X i := if_pos hj
            refine ⟨fun _ => ⟨hj, by show i ≤ i + 1; omega, trivial, [1000 + nI (ltx (kc X lim i))], [], Cp, 0, rfl, fun a ha => absurd ha List.not_mem_nil, rnL_one ?_, fun _ _ => Iff.rfl, fun _ q => by omega⟩, fun q hq => by cases hq⟩
            rw [ey] at q1 q2 q3 q4 ⊢
            have q2' : ¬ X i = 40 := fun z => q4 (by rw [z]; decide)
            rw [lst_1]
            unfold lth
            simp only
            rw [if_neg q1, if_neg q2', if_neg (fun z => q4 z.1), if_neg q3, if_neg q3]
            rfl
