/-! THE CLASS'S READER OF A TOWN AND THE MODEL'S -/
theorem sY_c2 : ∀ k, k < 256 → (nI k = 33 ↔ sgY k = 33) ∧ (nI k = 42 ↔ sgY k = 42) ∧ (nI k = 44 ↔ sgY k = 44) ∧ (nI k = 59 ↔ sgY k = 59) ∧ (nI k = 62 ↔ sgY k = 62) ∧ (nI k = 64 ↔ sgY k = 64) ∧ (nI k = 100 ↔ sgY k = 100) := by decide +kernel
section
variable {A B : Nat → Int32} {L lim : Nat}
theorem kc_R (hs : sgR A B L) (hl : lim ≤ L) (p : Nat) : (kc A lim p = -1 ∧ kc B lim p = -1) ∨ ∃ k, k < 256 ∧ kc A lim p = nI k ∧ kc B lim p = sgY k := by
  unfold kc
  by_cases h : p < lim
  · rw [if_pos h, if_pos h]; exact Or.inr (hs p (by omega))
  · rw [if_neg h, if_neg h]; exact Or.inl ⟨rfl, rfl⟩
theorem kc_dig (hs : sgR A B L) (hl : lim ≤ L) (p : Nat) : dig (kc A lim p) = dig (kc B lim p) := by
  rcases kc_R hs hl p with ⟨e1, e2⟩ | ⟨k, hk, e1, e2⟩
  · rw [e1, e2]
  · rw [e1, e2, sY_dig k hk]
theorem kc_eqd (hs : sgR A B L) (hl : lim ≤ L) {p : Nat} (h : dig (kc B lim p) = true) : kc A lim p = kc B lim p := by
  rcases kc_R hs hl p with ⟨e1, e2⟩ | ⟨k, hk, e1, e2⟩
  · rw [e1, e2]
  · rw [e2] at h; rw [e1, e2, sY_eq k hk h]
theorem kc_c (hs : sgR A B L) (hl : lim ≤ L) (p : Nat) : (kc A lim p = 33 ↔ kc B lim p = 33) ∧ (kc A lim p = 42 ↔ kc B lim p = 42) ∧ (kc A lim p = 44 ↔ kc B lim p = 44) ∧ (kc A lim p = 59 ↔ kc B lim p = 59) ∧ (kc A lim p = 62 ↔ kc B lim p = 62) ∧ (kc A lim p = 64 ↔ kc B lim p = 64) ∧ (kc A lim p = 100 ↔ kc B lim p = 100) := by
  rcases kc_R hs hl p with ⟨e1, e2⟩ | ⟨k, hk, e1, e2⟩
  · rw [e1, e2]; exact ⟨Iff.rfl, Iff.rfl, Iff.rfl, Iff.rfl, Iff.rfl, Iff.rfl, Iff.rfl⟩
  · rw [e1, e2]; exact sY_c2 k hk
theorem n_stA : ∀ a, a < 100 → ∀ d, d < 10 → (if (0 : Int32) < nI a then nI a else 0) * 10 + nI (48 + d) - 48 = nI (10 * a + d) := by decide +kernel
theorem n_stA0 : ∀ d, d < 10 → (if (0 : Int32) < -1 then (-1 : Int32) else 0) * 10 + nI (48 + d) - 48 = nI d := by decide +kernel
theorem num_AB (hs : sgR A B L) (hl : lim ≤ L) : ∀ (d e a p : Nat), d + e ≤ 3 → a < 10 ^ e → p ≤ lim → ∃ b q, b < 10 ^ (d + e) ∧ p ≤ q ∧ q ≤ lim ∧ numM B lim d (nI a) p = (nI b, q) ∧ numS A lim d (nI a) p = (nI b, q)
  | 0, e, a, p, h, ha, hp => ⟨a, p, by rw [Nat.zero_add]; exact ha, Nat.le_refl _, hp, rfl, rfl⟩
  | d + 1, e, a, p, h, ha, hp => by
    have ha3 : a < 100 := by
      rcases (show e = 0 ∨ e = 1 ∨ e = 2 by omega) with z | z | z
      · subst z; have : (10 : Nat) ^ 0 = 1 := rfl; omega
      · subst z; have : (10 : Nat) ^ 1 = 10 := rfl; omega
      · subst z; have : (10 : Nat) ^ 2 = 100 := rfl; omega
    simp only [numM, numS]
    rw [kc_dig hs hl p]
    by_cases hd : dig (kc B lim p) = true
    · rw [if_pos hd, if_pos hd, kc_eqd hs hl hd]
      have hpl := dig_lt hd
      obtain ⟨x, hx, ex⟩ := dig_ex hd
      rw [ex, (n_st a ha3 x hx).1, n_stA a ha3 x hx]
      have hb : 10 * a + x < 10 ^ (e + 1) := by rw [Nat.pow_succ]; omega
      obtain ⟨b, q, h1, h2, h3, h4, h5⟩ := num_AB hs hl d (e + 1) (10 * a + x) (p + 1) (by omega) hb hpl
      exact ⟨b, q, by rw [show d + 1 + e = d + (e + 1) by omega]; exact h1, by omega, h3, h4, h5⟩
    · rw [if_neg hd, if_neg hd]
      refine ⟨a, p, Nat.lt_of_lt_of_le ha (Nat.pow_le_pow_right (by omega) (by omega)), Nat.le_refl _, hp, rfl, rfl⟩
theorem numP_AB (hs : sgR A B L) (hl : lim ≤ L) {d p : Nat} (hd3 : d ≤ 2) (hp : p ≤ lim) :
    (dig (kc B lim p) = true ∧ ∃ b q, b < 10 ^ (d + 1) ∧ p < q ∧ q ≤ lim ∧ numS A lim (d + 1) (-1) p = (nI b, q) ∧ ∀ lo hi, numP B lim (d + 1) lo hi (p, none) = if lo ≤ nI b ∧ nI b ≤ hi then (nI b, (q, none)) else (0, (q, some (q - 1)))) ∨
    (dig (kc B lim p) = false ∧ numS A lim (d + 1) (-1) p = (-1, p) ∧ ∀ lo hi, numP B lim (d + 1) lo hi (p, none) = (0, (p, some p))) := by
  by_cases hd : dig (kc B lim p) = true
  · have hpl := dig_lt hd
    obtain ⟨x, hx, ex⟩ := dig_ex hd
    obtain ⟨b, q, h1, h2, h3, h4, h5⟩ := num_AB hs hl d 1 x (p + 1) (by omega) (by omega) hpl
    refine Or.inl ⟨hd, b, q, h1, by omega, h3, ?_, fun lo hi => ?_⟩
    · simp only [numS]
      rw [kc_dig hs hl p, if_pos hd, kc_eqd hs hl hd, ex, n_stA0 x hx]
      exact h5
    · have e : numM B lim (d + 1) 0 p = (nI b, q) := by
        simp only [numM]
        rw [if_pos hd, ex, (n_st0 x hx).1]
        exact h4
      unfold numP
      simp only
      rw [e, if_neg (by show ¬ q = p; omega)]
  · refine Or.inr ⟨Bool.eq_false_iff.mpr hd, ?_, fun lo hi => ?_⟩
    · simp only [numS]
      rw [kc_dig hs hl p, if_neg hd]
    · have e : numM B lim (d + 1) 0 p = (0, p) := by simp only [numM]; rw [if_neg hd]
      unfold numP
      simp only
      rw [e, if_pos rfl]
theorem needP_s {c : Int32} {p w : Nat} : needP B lim c (p, some w) = (p, some w) := if_neg fun z => by cases z.1
theorem needP_n {c : Int32} {p : Nat} : needP B lim c (p, none) = if kc B lim p = c then (p + 1, none) else (p, some p) := by
  unfold needP faultP
  by_cases h : kc B lim p = c
  · rw [if_pos ⟨rfl, h⟩, if_pos h]
  · rw [if_neg (fun z => h z.2), if_neg h]
theorem passP_s {c : Int32} {p w : Nat} : passP B lim c (p, some w) = (false, (p, some w)) := if_neg fun z => by cases z.1
theorem passP_n {c : Int32} {p : Nat} : passP B lim c (p, none) = if kc B lim p = c then (true, (p + 1, none)) else (false, (p, none)) := by
  unfold passP
  by_cases h : kc B lim p = c
  · rw [if_pos ⟨rfl, h⟩, if_pos h]
  · rw [if_neg (fun z => h z.2), if_neg h]
theorem numP_s {d p w : Nat} {lo hi : Int32} : numP B lim d lo hi (p, some w) = (0, (p, some w)) := rfl
theorem samP_s {o g : Int32} {p w : Nat} : samP o g (p, some w) = (p, some w) := if_neg fun z => by cases z.1
/-- a LINE well told -/
def gdI (n : Nat) (x : It) : Prop := (∃ o g s u : Nat, x = (true, nI o, nI g, nI s, nI u) ∧ o < n ∧ g < n ∧ o ≠ g ∧ 1 ≤ s ∧ s ≤ 99 ∧ u ≤ 99) ∨ (∃ c a k : Nat, x = (false, nI c, nI a, nI k, 0) ∧ c ≤ 999 ∧ a ≤ 99 ∧ k ≤ 1)
def lnR (n : Nat) (a : Bool × Nat × It) (b : It × PF) : Prop := (a.1 = true → b.2 = (a.2.1, none) ∧ b.1 = a.2.2 ∧ gdI n a.2.2) ∧ (a.1 = false → b.2.2 = some a.2.1)
theorem lnR_no {n : Nat} {q : Nat} {x : It} {b : It × PF} (h : b.2.2 = some q) : lnR n (false, q, x) b := ⟨fun z => (by cases z), fun _ => h⟩
theorem lnR_ok {n : Nat} {q : Nat} {x : It} (h : gdI n x) : lnR n (true, q, x) (x, (q, none)) := ⟨fun _ => ⟨rfl, rfl, h⟩, fun z => by cases z⟩
theorem person_R (hs : sgR A B L) (hl : lim ≤ L) {n p : Nat} (hp : p ≤ lim) (hd : dig (kc B lim p) = true) : lnR n ((rpS A lim p).1, (rpS A lim p).2.1, false, (rpS A lim p).2.2.1, (rpS A lim p).2.2.2.1, (rpS A lim p).2.2.2.2, 0) (mrp B lim (p, none)) := by
  rcases numP_AB hs hl (d := 2) (by omega) hp with ⟨-, b, q, hb, hpq, hq, hA, hP⟩ | ⟨h, -⟩
  · have hP := hP 0 999
    have hb : b < 1000 := hb
    rw [if_pos ⟨nI_pos' (by omega), nI_le (b := 999) (by omega) (by omega)⟩] at hP
    unfold rpS mrp
    simp only
    rw [hA, hP]
    dsimp only
    rw [needP_n]
    by_cases h44 : kc B lim q = 44
    · rw [if_pos h44, if_pos ((kc_c hs hl q).2.2.1.mpr h44)]
      have hq1 := kc_lt h44 (by decide)
      rcases numP_AB hs hl (d := 1) (p := q + 1) (by omega) hq1 with ⟨-, b2, q2, hb2, hpq2, hq2, hA2, hP2⟩ | ⟨h, hA2, hP2⟩
      · have hP2 := hP2 0 99
        have hb2 : b2 < 100 := hb2
        rw [if_pos ⟨nI_pos' (by omega), nI_le (b := 99) (by omega) (by omega)⟩] at hP2
        rw [hA2, hP2]
        dsimp only
        rw [if_neg (Int32.not_lt.mpr (nI_pos' (by omega))), passP_n]
        by_cases h33 : kc B lim q2 = 33
        · rw [if_pos h33, if_pos ((kc_c hs hl q2).1.mpr h33)]
          exact lnR_ok (Or.inr ⟨b, b2, 1, rfl, by omega, by omega, by omega⟩)
        · rw [if_neg h33, if_neg (fun z => h33 ((kc_c hs hl q2).1.mp z))]
          exact lnR_ok (Or.inr ⟨b, b2, 0, rfl, by omega, by omega, by omega⟩)
      · rw [hA2, hP2]
        dsimp only
        rw [if_pos (by decide), passP_s]
        exact lnR_no rfl
    · rw [if_neg h44, if_neg (fun z => h44 ((kc_c hs hl q).2.2.1.mp z)), numP_s]
      dsimp only
      rw [passP_s]
      exact lnR_no rfl
  · rw [hd] at h; cases h
theorem n_48 : ∀ d, d < 10 → nI (48 + d) - 48 = nI d := by decide +kernel
theorem per_AB (hs : sgR A B L) (hl : lim ≤ L) {n p : Nat} (hn : n ≤ 8) (hp : p ≤ lim) :
    (∃ b, b < n ∧ (∀ o, perS A lim n o p = if nI b = o then -1 else nI b) ∧ numP B lim 1 0 (nI n - 1) (p, none) = (nI b, (p + 1, none)) ∧ p < lim) ∨ ((∀ o, perS A lim n o p = -1) ∧ (numP B lim 1 0 (nI n - 1) (p, none)).2.2 = some p) := by
  by_cases hd : dig (kc B lim p) = true
  · have hpl := dig_lt hd
    obtain ⟨x, hx, ex⟩ := dig_ex hd
    have e : numM B lim 1 0 p = (nI x, p + 1) := by
      show (if dig (kc B lim p) = true then ((10 * 0 + kc B lim p - 48 : Int32), p + 1) else (0, p)) = _
      rw [if_pos hd, ex, (n_st0 x hx).1]
    have e2 : numP B lim 1 0 (nI n - 1) (p, none) = if 0 ≤ nI x ∧ nI x ≤ nI n - 1 then (nI x, (p + 1, none)) else (0, (p + 1, some (p + 1 - 1))) := by
      unfold numP
      simp only
      rw [e, if_neg (by show ¬ p + 1 = p; omega)]
    have e3 : ∀ o, perS A lim n o p = if (0 ≤ nI x ∧ nI x < nI n) ∧ ¬ nI x = o then nI x else -1 := fun o => by
      unfold perS
      simp only
      rw [kc_dig hs hl p, if_pos hd, kc_eqd hs hl hd, ex, n_48 x hx]
    by_cases hxn : x < n
    · refine Or.inl ⟨x, hxn, fun o => ?_, ?_, hpl⟩
      · rw [e3]
        by_cases z : nI x = o
        · rw [if_pos z, if_neg (fun y => y.2 z)]
        · rw [if_neg z, if_pos ⟨⟨nI_pos' (by omega), nI_lt hxn (by omega)⟩, z⟩]
      · rw [e2, if_pos ⟨nI_pos' (by omega), (le_pred (by omega)).mpr (nI_lt hxn (by omega))⟩]
    · refine Or.inr ⟨fun o => ?_, ?_⟩
      · rw [e3, if_neg (fun y => absurd y.1.2 (Int32.not_lt.mpr (nI_le (by omega) (by omega))))]
      · rw [e2, if_neg (fun y => absurd ((le_pred (by omega)).mp y.2) (Int32.not_lt.mpr (nI_le (by omega) (by omega))))]
        rfl
  · refine Or.inr ⟨fun o => ?_, ?_⟩
    · unfold perS
      simp only
      rw [kc_dig hs hl p, if_neg hd, if_neg (fun y => absurd y.1.1 (by decide))]
    · have e : numM B lim 1 0 p = (0, p) := by simp only [numM]; rw [if_neg hd]
      unfold numP
      simp only
      rw [e, if_pos rfl]
theorem debt_R (hs : sgR A B L) (hl : lim ≤ L) {n p : Nat} (hn : n ≤ 8) (hp : p < lim) : lnR n ((rdS A lim n p).1, (rdS A lim n p).2.1, true, (rdS A lim n p).2.2) (mrd B lim n (p, none)) := by
  unfold rdS mrd
  simp only
  rcases per_AB hs hl (p := p + 1) hn hp with ⟨o, ho, hA, hP, hpl⟩ | ⟨hA, hP⟩
  · rw [hA, if_neg (show ¬ nI o = -1 from fun z => by have := congrArg Int32.toInt z; rw [nI_toInt (by omega)] at this; have e : (-1 : Int32).toInt = -1 := rfl; omega), hP]
    have ne1 : ∀ b : Nat, b < 8 → ¬ nI b = -1 := fun b hb z => by
      have := congrArg Int32.toInt z
      rw [nI_toInt (by omega)] at this
      have e : (-1 : Int32).toInt = -1 := rfl
      omega
    rw [if_neg (ne1 o (by omega))]
    dsimp only
    rw [needP_n]
    by_cases h62 : kc B lim (p + 2) = 62
    · rw [if_pos h62, if_pos ((kc_c hs hl _).2.2.2.2.1.mpr h62)]
      have hq1 := kc_lt h62 (by decide)
      rcases per_AB hs hl (p := p + 3) hn (by omega) with ⟨g, hg, hA2, hP2, hpl2⟩ | ⟨hA2, hP2⟩
      · rw [hA2, show p + 1 + 1 + 1 = p + 3 from rfl, hP2]
        by_cases hog : nI g = nI o
        · rw [if_pos hog, if_pos rfl]
          have es : samP (nI o) (nI g) (p + 3 + 1, none) = (p + 4, some (p + 3)) := by
            unfold samP faultP
            rw [if_pos ⟨rfl, hog⟩]
            rfl
          dsimp only
          rw [es, needP_s, numP_s]
          dsimp only
          rw [needP_s, numP_s]
          exact lnR_no rfl
        · rw [if_neg hog, if_neg (ne1 g (by omega))]
          have es : samP (nI o) (nI g) (p + 3 + 1, none) = (p + 4, none) := by
            unfold samP
            rw [if_neg (fun z => hog z.2)]
          have hogn : o ≠ g := fun z => hog (by rw [z])
          dsimp only
          rw [es, needP_n]
          by_cases h42 : kc B lim (p + 4) = 42
          · rw [if_pos h42, if_pos ((kc_c hs hl _).2.1.mpr h42)]
            have hq2 := kc_lt h42 (by decide)
            rcases numP_AB hs hl (d := 1) (p := p + 5) (by omega) (by omega) with ⟨-, b, q, hb, hpq, hq, hA3, hP3⟩ | ⟨h, hA3, hP3⟩
            · have hP3 := hP3 1 99
              have hb : b < 100 := hb
              rw [show p + 4 + 1 = p + 5 from rfl, hA3, hP3]
              dsimp only
              by_cases hb0 : b = 0
              · subst hb0
                rw [if_pos (show nI 0 = 0 from rfl), if_neg (show ¬ ((1 : Int32) ≤ nI 0 ∧ nI 0 ≤ 99) from fun z => absurd z.1 (by decide)), needP_s, numP_s]
                exact lnR_no rfl
              · rw [if_neg (fun z => hb0 (by have := congrArg Int32.toInt z; rw [nI_toInt (by omega), i_0] at this; omega)), if_neg (fun z => by rw [i_le, nI_toInt (by omega), i_0] at z; omega), if_pos (show (1 : Int32) ≤ nI b ∧ nI b ≤ 99 from ⟨by rw [i_le, nI_toInt (by omega), show (1 : Int32).toInt = 1 from rfl]; omega, nI_le (b := 99) (by omega) (by omega)⟩)]
                dsimp only
                rw [needP_n]
                by_cases h64 : kc B lim q = 64
                · rw [if_pos h64, if_pos ((kc_c hs hl _).2.2.2.2.2.1.mpr h64)]
                  have hq3 := kc_lt h64 (by decide)
                  rcases numP_AB hs hl (d := 1) (p := q + 1) (by omega) hq3 with ⟨-, b2, q2, hb2, hpq2, hq2, hA4, hP4⟩ | ⟨h, hA4, hP4⟩
                  · have hP4 := hP4 0 99
                    have hb2 : b2 < 100 := hb2
                    rw [if_pos ⟨nI_pos' (by omega), nI_le (b := 99) (by omega) (by omega)⟩] at hP4
                    rw [hA4, hP4]
                    dsimp only
                    rw [if_neg (Int32.not_lt.mpr (nI_pos' (by omega)))]
                    exact lnR_ok (Or.inl ⟨o, g, b, b2, rfl, ho, hg, hogn, by omega, by omega, by omega⟩)
                  · rw [hA4, hP4]
                    dsimp only
                    rw [if_pos (by decide)]
                    exact lnR_no rfl
                · rw [if_neg h64, if_neg (fun z => h64 ((kc_c hs hl _).2.2.2.2.2.1.mp z)), numP_s]
                  exact lnR_no rfl
            · rw [show p + 4 + 1 = p + 5 from rfl, hA3, hP3]
              dsimp only
              rw [if_neg (by decide), if_pos (by decide), needP_s, numP_s]
              exact lnR_no rfl
          · rw [if_neg h42, if_neg (fun z => h42 ((kc_c hs hl _).2.1.mp z)), numP_s]
            dsimp only
            rw [needP_s, numP_s]
            exact lnR_no rfl
      · rw [hA2, if_pos rfl]
        obtain ⟨x, hx⟩ : ∃ x, x = numP B lim 1 0 (nI n - 1) (p + 3, none) := ⟨_, rfl⟩
        rw [show p + 1 + 1 + 1 = p + 3 from rfl, ← hx]
        rw [← hx] at hP2
        obtain ⟨x1, x2, x3⟩ := x
        have hP2 : x3 = some (p + 3) := hP2
        subst hP2
        dsimp only
        rw [samP_s, needP_s, numP_s]
        dsimp only
        rw [needP_s, numP_s]
        exact lnR_no rfl
    · rw [if_neg h62, if_neg (fun z => h62 ((kc_c hs hl _).2.2.2.2.1.mp z)), numP_s]
      dsimp only
      rw [samP_s, needP_s, numP_s]
      dsimp only
      rw [needP_s, numP_s]
      exact lnR_no rfl
  · rw [hA, if_pos rfl]
    obtain ⟨x, hx⟩ : ∃ x, x = numP B lim 1 0 (nI n - 1) (p + 1, none) := ⟨_, rfl⟩
    rw [← hx]
    rw [← hx] at hP
    obtain ⟨x1, x2, x3⟩ := x
    have hP : x3 = some (p + 1) := hP
    subst hP
    dsimp only
    rw [needP_s, numP_s]
    dsimp only
    rw [samP_s, needP_s, numP_s]
    dsimp only
    rw [needP_s, numP_s]
    exact lnR_no rfl
end
