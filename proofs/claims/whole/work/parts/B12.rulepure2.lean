/-- n signs from i on, all taken -/
def lgo (X : Nat → Int32) : Nat → Nat → LSt → Option LSt
  | 0, _, s => some s
  | n + 1, i, s => if (lst (X i) s).1 = true then lgo X n (i + 1) (lst (X i) s).2 else none
theorem lgo_add {X : Nat → Int32} : ∀ {a b i : Nat} {s : LSt}, lgo X (a + b) i s = (lgo X a i s).bind (lgo X b (i + a))
  | 0, b, i, s => by rw [Nat.zero_add]; rfl
  | a + 1, b, i, s => by
    rw [show a + 1 + b = (a + b) + 1 by omega]
    simp only [lgo]
    split
    · rw [lgo_add, show i + (a + 1) = i + 1 + a by omega]
    · rfl
def rnL (X : Nat → Int32) (i j : Nat) (s s' : LSt) : Prop := i ≤ j ∧ lgo X (j - i) i s = some s'
theorem rnL_refl {X : Nat → Int32} {i : Nat} {s : LSt} : rnL X i i s s := ⟨Nat.le_refl _, by rw [Nat.sub_self]; rfl⟩
theorem rnL_trans {X : Nat → Int32} {i j k : Nat} {s t u : LSt} (h : rnL X i j s t) (h2 : rnL X j k t u) : rnL X i k s u := ⟨Nat.le_trans h.1 h2.1, by
  have h3 := h.1
  have h4 := h2.1
  rw [show k - i = (j - i) + (k - j) by omega, lgo_add, h.2, show i + (j - i) = j by omega]
  exact h2.2⟩
theorem rnL_one {X : Nat → Int32} {i : Nat} {s t : LSt} (h : lst (X i) s = (true, t)) : rnL X i (i + 1) s t := ⟨by omega, by
  rw [show i + 1 - i = 0 + 1 by omega]
  simp only [lgo]
  rw [h]
  rfl⟩
/-- a sign that can't stand there, or an end that can't be one -/
def badL (X : Nat → Int32) (lim q : Nat) (s : LSt) : Prop := if q < lim then (lst (X q) s).1 = false else ¬ (s.2.2.2.2.2 = 0 ∧ s.2.2.2.1 = 0)
def BDL (X : Nat → Int32) (lim i : Nat) (s : LSt) (q : Nat) : Prop := q ≤ lim ∧ ∃ s', rnL X i q s s' ∧ badL X lim q s'
theorem BDL_pre {X : Nat → Int32} {lim i j q : Nat} {s t : LSt} (h : rnL X i j s t) (h2 : BDL X lim j t q) : BDL X lim i s q := ⟨h2.1, by obtain ⟨-, s', a, b⟩ := h2; exact ⟨s', rnL_trans h a, b⟩⟩
def NXL (X : Nat → Int32) (lim j dg : Nat) : Prop := dig (kc X lim j) = true → ¬ (1 ≤ dg ∧ dg ≤ 2)
/-- what is told is put or waits -/
def PDL (X : Nat → Int32) (lim : Nat) (m : Int32) (deep i : Nat) (c w : List Int32) (Cp : Nat → Int32) (dg : Nat) (r : PR) : Prop :=
  ∃ c' p Cp' dg', r.1 = c' ++ p ∧ (∀ a ∈ p, m ≤ strg a) ∧ rnL X i r.2.1 (c, w, Cp, deep, dg, 1) (c ++ c', p ++ w, Cp', deep, dg', 0) ∧ (∀ d, d ≤ deep → (Cp' d = 0 ↔ Cp d = 0)) ∧ NXL X lim r.2.1 dg'
def RESL (X : Nat → Int32) (lim : Nat) (m : Int32) (E : Int32 → Prop) (deep i : Nat) (c w : List Int32) (Cp : Nat → Int32) (dg : Nat) (r : PR) : Prop :=
  (r.2.2 = none → r.2.1 ≤ lim ∧ i ≤ r.2.1 ∧ E (kc X lim r.2.1) ∧ PDL X lim m deep i c w Cp dg r) ∧ ∀ q, r.2.2 = some q → BDL X lim i (c, w, Cp, deep, dg, 1) q
def wlL (m : Int32) (w : List Int32) : Prop := ∀ a w', w = a :: w' → strg a < m
def goodL (X : Nat → Int32) (lim : Nat) (pre : List Int32 → Prop) (m : Int32) (E : Int32 → Prop) (deep lo : Nat) (f : PF → PR) : Prop :=
  ∀ i c w Cp dg, lo ≤ i → i ≤ lim → pre w → RESL X lim m E deep i c w Cp dg (f (i, none))
theorem lS_all {m : Int32} : ∀ {p c w : List Int32}, (∀ a ∈ p, m ≤ strg a) → wlL m w → lStl m c (p ++ w) = (c ++ p, w)
  | [], c, w, _, h => by
    rw [List.nil_append, List.append_nil]
    cases w with
    | nil => rfl
    | cons a w' => exact if_neg (Int32.not_le.mpr (h a w' rfl))
  | a :: p, c, w, h, hw => by
    show (if m ≤ strg a then lStl m (c ++ [a]) (p ++ w) else (c, a :: (p ++ w))) = _
    rw [if_pos (h a List.mem_cons_self), lS_all (fun b hb => h b (List.mem_cons_of_mem _ hb)) hw, List.append_assoc]
    rfl
/-- an act behind a thing -/
theorem op_st {y : Int32} {c1 p w : List Int32} {Cp : Nat → Int32} {dp dg : Nat} (hd : dig y = false) (h41 : ¬ y = 41) (ha : ¬ ax1 y < 0) (hc : ax1 y < 3 → Cp dp = 0) (hp : ∀ a ∈ p, strg (2000 + ax1 y) ≤ strg a) (hw : wlL (strg (2000 + ax1 y)) w) :
    lst y (c1, p ++ w, Cp, dp, dg, 0) = (true, c1 ++ p, (2000 + ax1 y) :: w, upd Cp dp (if ¬ Cp dp = 0 ∨ ax1 y < 3 then 1 else 0), dp, 0, 1) := by
  unfold lst
  rw [if_pos rfl]
  unfold lbe
  simp only
  rw [if_neg (by rw [hd]; decide), if_neg h41, if_neg (fun q => q.elim ha fun z => z.2 (hc z.1)), lS_all hp hw]
/-- nothing goes on there -/
theorem stuckL {X : Nat → Int32} {lim j : Nat} {c w : List Int32} {Cp : Nat → Int32} {dp dg : Nat} (hj : j < lim) (hN : NXL X lim j dg) (h41 : kc X lim j = 41 → dp = 0) (hE : ¬ kc X lim j = 43 ∧ ¬ kc X lim j = 45 ∧ ¬ kc X lim j = 42 ∧ ¬ kc X lim j = 47) (hcm : kc X lim j = 60 ∨ kc X lim j = 62 ∨ kc X lim j = 61 → ¬ Cp dp = 0) : badL X lim j (c, w, Cp, dp, dg, 0) := by
  unfold badL
  rw [if_pos hj]
  unfold NXL at hN
  have e : kc X lim j = X j := if_pos hj
  rw [e] at hN h41 hE hcm
  unfold lst
  rw [if_pos rfl]
  unfold lbe
  simp only
  by_cases hd : dig (X j) = true
  · rw [if_pos hd, if_neg (hN hd)]
  · rw [if_neg hd]
    by_cases q : X j = 41
    · rw [if_pos q, if_neg (by rw [h41 q]; omega)]
    · rw [if_neg q, if_pos]
      unfold ax1
      by_cases q1 : X j = 60
      · rw [if_pos q1]; exact Or.inr ⟨by decide, hcm (Or.inl q1)⟩
      · rw [if_neg q1]
        by_cases q2 : X j = 62
        · rw [if_pos q2]; exact Or.inr ⟨by decide, hcm (Or.inr (Or.inl q2))⟩
        · rw [if_neg q2]
          by_cases q3 : X j = 61
          · rw [if_pos q3]; exact Or.inr ⟨by decide, hcm (Or.inr (Or.inr q3))⟩
          · rw [if_neg q3, if_neg hE.1, if_neg hE.2.1, if_neg hE.2.2.1, if_neg hE.2.2.2]
            exact Or.inl (by decide)
/-- acts of one strength, one after another -/
def gLp (X : Nat → Int32) (lim : Nat) (o1 o2 k1 k2 : Int32) (th : PF → PR) : Nat → PR → PR
  | 0, r => r
  | g + 1, r => if r.2.2 = none ∧ (kc X lim r.2.1 = o1 ∨ kc X lim r.2.1 = o2) then gLp X lim o1 o2 k1 k2 th g (r.1 ++ (th (r.2.1 + 1, none)).1 ++ [if kc X lim r.2.1 = o1 then k1 else k2], (th (r.2.1 + 1, none)).2) else r
theorem prL_g {X : Nat → Int32} {lim : Nat} {th : PF → PR} : ∀ (g : Nat) (r : PR), prL X lim th g r = gLp X lim 42 47 2005 2006 th g r
  | 0, _ => rfl
  | g + 1, r => by simp only [prL, gLp]; split; exact prL_g g _; rfl
theorem suL_g {X : Nat → Int32} {lim : Nat} {th : PF → PR} : ∀ (g : Nat) (r : PR), suL X lim th g r = gLp X lim 43 45 2003 2004 th g r
  | 0, _ => rfl
  | g + 1, r => by simp only [suL, gLp]; split; exact suL_g g _; rfl
def opOK (o k m : Int32) : Prop := 0 ≤ o ∧ dig o = false ∧ ¬ o = 41 ∧ ¬ ax1 o < 0 ∧ ¬ ax1 o < 3 ∧ 2000 + ax1 o = k ∧ strg k = m
theorem gLp_ok {X : Nat → Int32} {lim : Nat} {o1 o2 k1 k2 m m' : Int32} {pre : List Int32 → Prop} {E' : Int32 → Prop} {deep lo : Nat} {f : PF → PR} (h1 : opOK o1 k1 m) (h2 : opOK o2 k2 m) (hmm : m ≤ m') (hpre : ∀ k w, strg k = m → pre (k :: w)) (hf : goodL X lim pre m' E' deep lo f) {i : Nat} {c w : List Int32} {Cp : Nat → Int32} {dg : Nat} (hlo : lo ≤ i) (hil : i ≤ lim) (hw : wlL m w) :
    ∀ (g : Nat) (r : PR), (r.2.2 = none → lim + 1 ≤ r.2.1 + g) → RESL X lim m E' deep i c w Cp dg r → RESL X lim m (fun y => E' y ∧ ¬ y = o1 ∧ ¬ y = o2) deep i c w Cp dg (gLp X lim o1 o2 k1 k2 f g r)
  | 0, r, hg, hR => ⟨fun hn => by have := (hR.1 hn).1; have := hg hn; omega, hR.2⟩
  | g + 1, r, hg, hR => by
    simp only [gLp]
    split
    · next q =>
      obtain ⟨hn, hop⟩ := q
      obtain ⟨hl, hi, hE, c', p, Cp', dg', e1, hp, hr, hC, hN⟩ := hR.1 hn
      have hg := hg hn
      have hjl : r.2.1 < lim := hop.elim (fun z => kc_lt z h1.1) (fun z => kc_lt z h2.1)
      have ey : kc X lim r.2.1 = X r.2.1 := if_pos hjl
      obtain ⟨k, ek⟩ : ∃ k, k = if kc X lim r.2.1 = o1 then k1 else k2 := ⟨_, rfl⟩
      have hO : opOK (kc X lim r.2.1) k m := by
        by_cases z : kc X lim r.2.1 = o1
        · rw [ek, if_pos z, z]; exact h1
        · rw [ek, if_neg z, hop.resolve_left z]; exact h2
      rw [ey] at hO
      obtain ⟨-, q1, q2, q3, q4, q5, q6⟩ := hO
      have hst := rnL_one (X := X) (i := r.2.1) (op_st (c1 := c ++ c') (p := p) (w := w) (Cp := Cp') (dp := deep) (dg := dg') q1 q2 q3 (fun z => absurd z q4) (by rw [q5, q6]; exact hp) (by rw [q5, q6]; exact hw))
      rw [q5] at hst
      have hrun := rnL_trans hr hst
      have hf' := hf (r.2.1 + 1) (c ++ c' ++ p) (k :: w) (upd Cp' deep (if ¬ Cp' deep = 0 ∨ ax1 (X r.2.1) < 3 then 1 else 0)) 0 (by omega) (by omega) (hpre k w q6)
      rw [← ek]
      refine gLp_ok h1 h2 hmm hpre hf hlo hil hw g _ (fun hn2 => by have := (hf'.1 hn2).2.1; show lim + 1 ≤ (f (r.2.1 + 1, none)).2.1 + g; omega) ⟨fun hn2 => ?_, fun q hq => BDL_pre hrun (hf'.2 q hq)⟩
      obtain ⟨b1, b2, b3, c2, p2, Cp2, dg2, e2, hp2, hr2, hC2, hN2⟩ := hf'.1 hn2
      refine ⟨b1, by show i ≤ (f (r.2.1 + 1, none)).2.1; omega, b3, c' ++ p ++ c2, p2 ++ [k], Cp2, dg2, ?_, ?_, ?_, ?_, hN2⟩
      · show r.1 ++ (f (r.2.1 + 1, none)).1 ++ [k] = _
        rw [e1, e2]; simp
      · intro a ha
        rcases List.mem_append.mp ha with z | z
        · exact Int32.le_trans hmm (hp2 a z)
        · rw [List.mem_singleton.mp z, q6]; exact Int32.le_refl _
      · have := rnL_trans hrun hr2
        rw [show c ++ (c' ++ p ++ c2) = c ++ c' ++ p ++ c2 by simp, show p2 ++ [k] ++ w = p2 ++ k :: w by simp]
        exact this
      · intro d hd
        rw [hC2 d hd, ← hC d hd]
        unfold upd
        by_cases z : d = deep
        · rw [if_pos z, z]
          by_cases y : Cp' deep = 0
          · rw [if_neg (by rintro (u | u); exact u y; exact q4 u)]; exact ⟨fun _ => y, fun _ => rfl⟩
          · rw [if_pos (Or.inl y)]; exact ⟨fun u => absurd u (by decide), fun u => absurd u y⟩
        · rw [if_neg z]
    · next q =>
      refine ⟨fun hn => ?_, hR.2⟩
      obtain ⟨a1, a2, a3, a4⟩ := hR.1 hn
      exact ⟨a1, a2, ⟨a3, fun z => q ⟨hn, Or.inl z⟩, fun z => q ⟨hn, Or.inr z⟩⟩, a4⟩
theorem RESL_w {X : Nat → Int32} {lim : Nat} {m m' : Int32} {E : Int32 → Prop} {deep i : Nat} {c w : List Int32} {Cp : Nat → Int32} {dg : Nat} {r : PR} (hmm : m ≤ m') (h : RESL X lim m' E deep i c w Cp dg r) : RESL X lim m E deep i c w Cp dg r :=
  ⟨fun hn => by
    obtain ⟨a1, a2, a3, c', p, Cp', dg', e1, hp, rest⟩ := h.1 hn
    exact ⟨a1, a2, a3, c', p, Cp', dg', e1, fun a ha => Int32.le_trans hmm (hp a ha), rest⟩, h.2⟩
theorem wl_lt {m m' : Int32} {w : List Int32} (hmm : m ≤ m') (h : wlL m w) : wlL m' w := fun a w' e => Int32.lt_of_lt_of_le (h a w' e) hmm
def Epr (y : Int32) : Prop := True ∧ ¬ y = 42 ∧ ¬ y = 47
def Esu (y : Int32) : Prop := Epr y ∧ ¬ y = 43 ∧ ¬ y = 45
theorem prP_ok {X : Nat → Int32} {lim deep lo : Nat} {th : PF → PR} (hl : lim ≤ 40) (hf : goodL X lim (fun _ => True) 4 (fun _ => True) deep lo th) : goodL X lim (wlL 3) 3 Epr deep lo (prP X lim th) := by
  intro i c w Cp dg hlo hil hw
  unfold prP
  rw [prL_g]
  have h0 := hf i c w Cp dg hlo hil trivial
  exact gLp_ok (m := 3) (by unfold opOK; decide) (by unfold opOK; decide) (show (3 : Int32) ≤ 4 by decide) (fun _ _ _ => trivial) hf hlo hil hw 41 _ (fun hn => by have := (h0.1 hn).1; omega) (RESL_w (by decide) h0)
theorem suP_ok {X : Nat → Int32} {lim deep lo : Nat} {pr : PF → PR} (hl : lim ≤ 40) (hf : goodL X lim (wlL 3) 3 Epr deep lo pr) : goodL X lim (wlL 2) 2 Esu deep lo (suP X lim pr) := by
  intro i c w Cp dg hlo hil hw
  unfold suP
  rw [suL_g]
  have h0 := hf i c w Cp dg hlo hil (wl_lt (by decide) hw)
  exact gLp_ok (m := 2) (by unfold opOK; decide) (by unfold opOK; decide) (show (2 : Int32) ≤ 3 by decide) (fun k w' e a w2 z => by cases z; rw [e]; decide) hf hlo hil hw 41 _ (fun hn => by have := (h0.1 hn).1; omega) (RESL_w (by decide) h0)
