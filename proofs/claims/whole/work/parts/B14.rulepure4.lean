/-- signs as the class has them and as the model has them -/
def sgR (A B : Nat → Int32) (L : Nat) : Prop := ∀ j, j < L → ∃ k, k < 256 ∧ A j = nI k ∧ B j = sgY k
theorem rrn_add {sg : Nat → Int32} : ∀ {a b i : Nat} {s : RSt}, (rrn sg a i s).1 = true → (rrn sg a i s).2.1 = i + a ∧ rrn sg (a + b) i s = rrn sg b (i + a) (rrn sg a i s).2.2
  | 0, b, i, s, _ => ⟨rfl, by rw [Nat.zero_add]; rfl⟩
  | a + 1, b, i, s, h => by
    rw [show a + 1 + b = (a + b) + 1 by omega]
    simp only [rrn] at h ⊢
    by_cases q : (rst (sg i) s).1 = true
    · rw [if_pos q] at h
      rw [if_pos q, if_pos q]
      have := rrn_add (b := b) h
      rw [show i + (a + 1) = i + 1 + a by omega]
      exact this
    · rw [if_neg q] at h; cases h
theorem rrn_lgo {A B : Nat → Int32} {L : Nat} (hs : sgR A B L) : ∀ {n i : Nat} {s : RSt} {t : LSt}, rOK i s → i + n ≤ L → lgo B n i (absL s) = some t → (rrn A n i s).1 = true ∧ absL (rrn A n i s).2.2 = t
  | 0, i, s, t, _, _, h => ⟨rfl, Option.some.inj h⟩
  | n + 1, i, s, t, hr, hl, h => by
    obtain ⟨k, hk, e1, e2⟩ := hs i (by omega)
    have hab := rst_abs hk hr
    simp only [lgo] at h
    simp only [rrn]
    rw [e2] at h
    rw [e1]
    by_cases q : (lst (sgY k) (absL s)).1 = true
    · rw [if_pos q] at h
      have q' : (rst (nI k) s).1 = true := hab.1.trans q
      rw [if_pos q']
      rw [← hab.2 q'] at h
      exact rrn_lgo hs (rst_ok hr) (by omega) h
    · rw [if_neg q] at h; cases h
/-- where the class's reader fails -/
theorem rrn_bad {A B : Nat → Int32} {L lim q : Nat} (hs : sgR A B L) (hlL : lim ≤ L) {s : RSt} (hr : rOK 0 s) (h : BDL B lim 0 (absL s) q) :
    (q < lim → (rrn A lim 0 s).1 = false ∧ (rrn A lim 0 s).2.1 = q) ∧ (q = lim → (rrn A lim 0 s).1 = true ∧ ¬ ((rrn A lim 0 s).2.2.2.2.2.2.2.2.2 = 0 ∧ (rrn A lim 0 s).2.2.2.2.2.2.2.1 = 0)) := by
  obtain ⟨hq, s', hrun, hb⟩ := h
  have hgo := hrun.2
  rw [Nat.sub_zero] at hgo
  obtain ⟨h1, h2⟩ := rrn_lgo hs hr (by omega) hgo
  unfold badL at hb
  refine ⟨fun hlt => ?_, fun e => ?_⟩
  · rw [if_pos hlt] at hb
    obtain ⟨h3, h4⟩ := rrn_add (b := lim - q) h1
    rw [show lim = q + (lim - q) by omega, h4, Nat.zero_add]
    obtain ⟨d, ed⟩ : ∃ d, lim - q = d + 1 := ⟨lim - q - 1, by omega⟩
    rw [ed]
    simp only [rrn]
    obtain ⟨k, hk, e1, e2⟩ := hs q (by omega)
    have hr' := rrn_ok hr h1
    rw [Nat.zero_add] at hr'
    have hab := rst_abs hk hr'
    rw [h2, ← e2] at hab
    rw [e1]
    have : ¬ (rst (nI k) (rrn A q 0 s).2.2).1 = true := fun z => by rw [hab.1, hb] at z; cases z
    rw [if_neg this]
    exact ⟨rfl, rfl⟩
  · subst e
    rw [if_neg (Nat.lt_irrefl _)] at hb
    refine ⟨h1, fun z => hb ?_⟩
    rw [← h2]
    exact z
theorem rS0_ok {M : Mem} : rOK 0 (rS0 M) := ⟨Nat.le_refl _, by show (0 : Nat) ≤ 4; omega, by show (0 : Nat) ≤ 3; omega, fun q => absurd q (by show ¬ 1 ≤ 0; omega), Or.inr rfl⟩
theorem cLs_get {St : Nat → Int32} {z j : Nat} (h : j < z) : (cLs St z)[j]? = some (St j) := by simp [cLs, h]
theorem cLs_len {St : Nat → Int32} {z : Nat} : (cLs St z).length = z := by simp [cLs]
/-- THE TWO READERS OF A RULE SAY THE SAME -/
theorem rule_same {M : Mem} {A B : Nat → Int32} {L : Nat} (hs : sgR A B L) :
    match (ruE B L).2 with
    | none => rrV (rrn A (min L 40) 0 (rS0 M)) L (min L 40) = 0 ∧ ruleR (rrS (rrn A (min L 40) 0 (rS0 M)) L (min L 40)).1 (rrS (rrn A (min L 40) 0 (rS0 M)) L (min L 40)).2.1 B L
    | some q => rrV (rrn A (min L 40) 0 (rS0 M)) L (min L 40) = -1 - nI q := by
  by_cases hL0 : L = 0
  · subst hL0
    have e : (ruE B 0) = (0, none) := rfl
    rw [e]
    refine ⟨rfl, by omega, Nat.zero_le _, Or.inl ⟨rfl, rfl⟩⟩
  · obtain ⟨lim, el⟩ : ∃ lim, lim = min L 40 := ⟨_, rfl⟩
    have hlim : lim ≤ 40 ∧ lim ≤ L ∧ 0 < lim := by omega
    rw [← el]
    have hS : absL (rS0 M) = ([], [], upd (M.1 13) 0 0, 0, 0, 1) := rfl
    have hH := heP_ok (suP_ok hlim.1 (prP_ok hlim.1 (thP_ok (X := B) (lim := lim) hlim.1 41 0 (by omega)))) (i := 0) (c := []) (w := []) (Cp := upd (M.1 13) 0 0) (dg := 0) (by omega) (Nat.zero_le _) (fun a w' z => by cases z) (by unfold upd; rw [if_pos rfl])
    have hQ : ruQ B L = (heF B lim 41 0 (0, none)).2 := by unfold ruQ; rw [if_neg hL0, ← el]
    obtain ⟨h, eh⟩ : ∃ h, h = heF B lim 41 0 (0, none) := ⟨_, rfl⟩
    have eh' : heP B lim (suP B lim (prP B lim (thP B lim 41 0))) (0, none) = h := eh.symm
    rw [eh'] at hH
    rw [← eh] at hQ
    obtain ⟨hH1, hH2⟩ := hH
    have hfail : ∀ q, BDL B lim 0 (absL (rS0 M)) q → rrV (rrn A lim 0 (rS0 M)) L lim = -1 - nI q := fun q hb => by
      obtain ⟨b1, b2⟩ := rrn_bad hs hlim.2.1 rS0_ok hb
      rcases Nat.lt_or_ge q lim with z | z
      · obtain ⟨c1, c2⟩ := b1 z
        unfold rrV
        rw [if_neg (by rw [c1]; decide), c2]
      · have e : q = lim := by have := hb.1; omega
        obtain ⟨c1, c2⟩ := b2 e
        unfold rrV
        rw [if_pos c1, if_pos (Or.inr fun y => y.elim (fun u => by omega) c2), e]
    have hEq : ∀ (r : PF), ruE B L = r → (∀ q, r.2 = some q → rrV (rrn A lim 0 (rS0 M)) L lim = -1 - nI q) → (r.2 = none → rrV (rrn A lim 0 (rS0 M)) L lim = 0 ∧ ruleR (rrS (rrn A lim 0 (rS0 M)) L lim).1 (rrS (rrn A lim 0 (rS0 M)) L lim).2.1 B L) → match (ruE B L).2 with
      | none => rrV (rrn A lim 0 (rS0 M)) L lim = 0 ∧ ruleR (rrS (rrn A lim 0 (rS0 M)) L lim).1 (rrS (rrn A lim 0 (rS0 M)) L lim).2.1 B L
      | some q => rrV (rrn A lim 0 (rS0 M)) L lim = -1 - nI q := fun r e h1 h2 => by
        subst e
        split
        · next z => exact h2 z
        · next q z => exact h1 q z
    refine hEq _ rfl ?_ ?_
    · intro q hq
      cases hs2 : h.2.2 with
      | some q' =>
        have : (ruE B L).2 = some q' := by
          unfold ruE
          rw [hQ]
          split
          · unfold faultP; rw [hs2]
          · exact hs2
        rw [this] at hq
        rw [← Option.some.inj hq]
        exact hfail q' (by rw [hS]; exact hH2 q' hs2)
      | none =>
        obtain ⟨b1, b2, b3, c2, p2, Cp2, dg2, e2, hp2, hr2, hC2, hcm, hN2⟩ := hH1 hs2
        have hj : h.2.1 < L := by
          rcases Nat.lt_or_ge h.2.1 L with z | z
          · exact z
          · have : (ruE B L).2 = none := by unfold ruE; rw [hQ, if_neg (by omega)]; exact hs2
            rw [this] at hq; cases hq
        have hw : (ruE B L).2 = some h.2.1 := by unfold ruE; rw [hQ, if_pos hj]; unfold faultP; rw [hs2]
        rw [hw] at hq
        rw [← Option.some.inj hq]
        rcases Nat.lt_or_ge h.2.1 lim with z | z
        · refine hfail _ ⟨b1, _, by rw [hS]; exact hr2, stuckL z hN2 (fun _ => rfl) b3 hcm⟩
        · have e : h.2.1 = lim := by omega
          have hgo := hr2.2
          rw [Nat.sub_zero, e, ← hS] at hgo
          obtain ⟨h1, h2⟩ := rrn_lgo hs rS0_ok (by omega) hgo
          unfold rrV
          rw [if_pos h1, if_pos (Or.inl (by omega)), e]
    · intro hq
      have hs2 : h.2.2 = none := by
        cases hs2 : h.2.2 with
        | none => rfl
        | some q' =>
          exfalso
          have : (ruE B L).2 = some q' := by
            unfold ruE
            rw [hQ]
            split
            · unfold faultP; rw [hs2]
            · exact hs2
          rw [this] at hq; cases hq
      have hj : ¬ h.2.1 < L := fun z => by
        have hw : (ruE B L).2 = some h.2.1 := by unfold ruE; rw [hQ, if_pos z]; unfold faultP; rw [hs2]
        rw [hw] at hq; cases hq
      obtain ⟨b1, b2, b3, c2, p2, Cp2, dg2, e2, hp2, hr2, hC2, hcm, hN2⟩ := hH1 hs2
      have e : h.2.1 = lim := by omega
      have eL : L = lim := by omega
      have hgo := hr2.2
      rw [Nat.sub_zero, e, ← hS] at hgo
      obtain ⟨h1, h2⟩ := rrn_lgo hs rS0_ok (by omega) hgo
      have hok := rrn_ok rS0_ok h1
      rw [Nat.zero_add] at hok
      have hwt : (rrn A lim 0 (rS0 M)).2.2.2.2.2.2.2.2.2 = 0 := congrArg (fun t : LSt => t.2.2.2.2.2) h2
      have hdp : (rrn A lim 0 (rS0 M)).2.2.2.2.2.2.2.1 = 0 := congrArg (fun t : LSt => t.2.2.2.1) h2
      have hcl : cLs (rrn A lim 0 (rS0 M)).2.2.1 (rrn A lim 0 (rS0 M)).2.2.2.1 = [] ++ c2 := congrArg (fun t : LSt => t.1) h2
      have hwl : wLs (rrn A lim 0 (rS0 M)).2.2.2.2.1 (rrn A lim 0 (rS0 M)).2.2.2.2.2.1 = p2 ++ [] := congrArg (fun t : LSt => t.2.1) h2
      have hov : ¬ (L > lim ∨ ¬ (lim = 0 ∨ ((rrn A lim 0 (rS0 M)).2.2.2.2.2.2.2.2.2 = 0 ∧ (rrn A lim 0 (rS0 M)).2.2.2.2.2.2.2.1 = 0))) := fun z => z.elim (fun y => by omega) fun y => y (Or.inr ⟨hwt, hdp⟩)
      refine ⟨by unfold rrV; rw [if_pos h1, if_neg hov], ?_⟩
      unfold rrS
      rw [if_pos ⟨h1, hov⟩]
      dsimp only
      have hst := stl_l (least := 1) (Wt := (rrn A lim 0 (rS0 M)).2.2.2.2.1) (n := (rrn A lim 0 (rS0 M)).2.2.2.2.2.1) (St := (rrn A lim 0 (rS0 M)).2.2.1) (z := (rrn A lim 0 (rS0 M)).2.2.2.1)
      rw [hcl, hwl, lS_all (w := []) hp2 (fun a w' z => by cases z)] at hst
      have hle := stl_le (least := 1) (Wt := (rrn A lim 0 (rS0 M)).2.2.2.2.1) (n := (rrn A lim 0 (rS0 M)).2.2.2.2.2.1) (St := (rrn A lim 0 (rS0 M)).2.2.1) (z := (rrn A lim 0 (rS0 M)).2.2.2.1)
      have hc := congrArg (fun t : List Int32 × List Int32 => t.1) hst
      dsimp only at hc
      rw [List.nil_append, ← e2] at hc
      have hz := hok.1
      refine ⟨by omega, by omega, Or.inr ⟨by omega, ?_, ?_, fun j hj => ?_⟩⟩
      · rw [← el, ← eh, eL]
        exact Prod.ext e hs2
      · rw [← el, ← eh, hc, cLs_len]
      · rw [← el, ← eh, hc, cLs_get hj]
