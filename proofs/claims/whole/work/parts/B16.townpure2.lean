/-- LINES well told, one after another -/
def itsOK : List It → Nat → Nat → Prop
  | [], _, _ => True
  | x :: l, n, m => gdI n x ∧ (if x.1 = true then m < 10 else n < 8) ∧ itsOK l (if x.1 = true then n else n + 1) (if x.1 = true then m + 1 else m)
def ctI : List It → Nat → Nat → Nat × Nat
  | [], n, m => (n, m)
  | x :: l, n, m => ctI l (if x.1 = true then n else n + 1) (if x.1 = true then m + 1 else m)
def townR (L n m c : Nat) (its : List It) (a : Bool × Nat × List It) (b : MT) : Prop :=
  (a.1 = true → b.2.2.2.2 = (L, none) ∧ b.2.2.2.1 = a.2.2 ∧ ∃ l, a.2.2 = its ++ l ∧ b.2.2.1 = c + l.length ∧ itsOK l n m ∧ (b.1, b.2.1) = ctI l n m) ∧ (a.1 = false → (tnE L b.2.2.2.2).2 = some a.2.1)
section
variable {A B : Nat → Int32} {L lim : Nat}
theorem townR_no {n m c q t o c' : Nat} {its its' its2 : List It} {s : PF} (h : s.2 = some q) : townR L n m c its (false, q, its') (t, o, c', its2, s) :=
  ⟨fun z => (by cases z), fun _ => by
    show (tnE L s).2 = some q
    unfold tnE
    split
    · unfold faultP; rw [h]
    · exact h⟩
theorem mtF_s {rc : Nat → Nat → Nat → List It → PF → MT} {t o c p w : Nat} {its : List It} : mtF B lim rc t o c its (p, some w) = (t, o, c, its, (p, some w)) := by
  unfold mtF
  rw [passP_s]
  rfl
theorem mtF_n {rc : Nat → Nat → Nat → List It → PF → MT} {t o c p : Nat} {its : List It} : mtF B lim rc t o c its (p, none) = if kc B lim p = 59 then rc t o c its (p + 1, none) else (t, o, c, its, (p, none)) := by
  unfold mtF
  rw [passP_n]
  by_cases h : kc B lim p = 59
  · rw [if_pos h, if_pos h]; rfl
  · rw [if_neg h, if_neg h]; rfl
theorem line_R (hs : sgR A B L) (hl : lim ≤ L) {n m p c f1 f2 : Nat} {its : List It} (ih : ∀ n m p c its, n ≤ 8 → m ≤ 10 → p ≤ lim → lim < p + f1 → lim < p + f2 → townR L n m c its (rnS A lim L f1 n m p its) (mtn B lim f2 n m c its (p, none))) (hn : n ≤ 8) (hm : m ≤ 10)
    {r : Bool × Nat × It} {x : It × PF} (h : lnR n r x) (hlt : r.1 = true → p < r.2.1 ∧ r.2.1 ≤ lim ∧ if r.2.2.1 = true then m < 10 else n < 8) (hp : p ≤ lim) (h1 : lim < p + (f1 + 1)) (h2 : lim < p + (f2 + 1)) {t o : Nat} (ht : t = if x.1.1 = true then n else n + 1) (ho : o = if x.1.1 = true then m + 1 else m) :
    townR L n m c its (if r.1 = true then (if kc A lim r.2.1 = 59 then rnS A lim L f1 (if r.2.2.1 = true then n else n + 1) (if r.2.2.1 = true then m + 1 else m) (r.2.1 + 1) (its ++ [r.2.2]) else (decide (r.2.1 = L), r.2.1, its ++ [r.2.2])) else (false, r.2.1, its)) (mtF B lim (mtn B lim f2) t o (c + 1) (its ++ [x.1]) x.2) := by
  obtain ⟨b, q, it⟩ := r
  obtain ⟨y, s⟩ := x
  cases b with
  | false =>
    have h := h.2 rfl
    obtain ⟨s1, s2⟩ := s
    have h : s2 = some q := h
    subst h
    rw [mtF_s]
    exact townR_no rfl
  | true =>
    obtain ⟨e1, e2, e3⟩ := h.1 rfl
    have e1 : s = (q, none) := e1
    have e2 : y = it := e2
    have e3 : gdI n it := e3
    obtain ⟨g1, g2, g3⟩ := hlt rfl
    have g1 : p < q := g1
    have g2 : q ≤ lim := g2
    have g3 : if it.1 = true then m < 10 else n < 8 := g3
    subst e1 e2
    dsimp only at ht ho ⊢
    rw [if_pos rfl, mtF_n]
    subst ht ho
    by_cases k : kc B lim q = 59
    · rw [if_pos k, if_pos ((kc_c hs hl q).2.2.2.1.mpr k)]
      have hq := kc_lt k (by decide)
      have hb1 : (if y.1 = true then n else n + 1) ≤ 8 := by
        by_cases z : y.1 = true
        · rw [if_pos z]; exact hn
        · rw [if_neg z] at g3 ⊢; omega
      have hb2 : (if y.1 = true then m + 1 else m) ≤ 10 := by
        by_cases z : y.1 = true
        · rw [if_pos z] at g3 ⊢; omega
        · rw [if_neg z]; exact hm
      obtain ⟨a1, a2⟩ := ih _ _ (q + 1) (c + 1) (its ++ [y]) hb1 hb2 (by omega) (by omega) (by omega)
      refine ⟨fun z => ?_, a2⟩
      obtain ⟨b1, b2, l, b3, b4, b5, b6⟩ := a1 z
      exact ⟨b1, b2, y :: l, by rw [b3]; simp, by rw [b4, List.length_cons]; omega, ⟨e3, g3, b5⟩, b6⟩
    · rw [if_neg k, if_neg (fun z => k ((kc_c hs hl q).2.2.2.1.mp z))]
      by_cases hq : q = L
      · rw [decide_eq_true hq]
        exact ⟨fun _ => ⟨by show (q, none) = _; rw [hq], rfl, [y], rfl, rfl, ⟨e3, g3, trivial⟩, rfl⟩, fun z => (by cases z)⟩
      · rw [decide_eq_false hq]
        refine ⟨fun z => (by cases z), fun _ => ?_⟩
        show (tnE L (q, none)).2 = some q
        unfold tnE
        rw [if_pos (by show q < L; omega)]
        rfl
theorem town_R (hs : sgR A B L) (hl : lim ≤ L) : ∀ (f1 f2 n m p c : Nat) (its : List It), n ≤ 8 → m ≤ 10 → p ≤ lim → lim < p + f1 → lim < p + f2 → townR L n m c its (rnS A lim L f1 n m p its) (mtn B lim f2 n m c its (p, none))
  | 0, _, _, _, _, _, _, _, _, _, _, _ => by omega
  | _ + 1, 0, _, _, _, _, _, _, _, _, _, _ => by omega
  | f1 + 1, f2 + 1, n, m, p, c, its, hn, hm, hp, h1, h2 => by
    have ih := fun n m p c its => town_R hs hl f1 f2 n m p c its
    have hlt : (rlS A lim n m p).1 = true → p < (rlS A lim n m p).2.1 ∧ (rlS A lim n m p).2.1 ≤ lim ∧ (if (rlS A lim n m p).2.2.1 = true then m < 10 else n < 8) := rlS_lt hp
    simp only [rnS, mtn]
    have e100 := (kc_c hs hl p).2.2.2.2.2.2
    by_cases hd : dig (kc B lim p) = true
    · have n100 : ¬ kc B lim p = 100 := fun z => by rw [z] at hd; exact absurd hd (by decide)
      rw [if_neg n100]
      have er : rlS A lim n m p = if n < 8 then ((rpS A lim p).1, (rpS A lim p).2.1, false, (rpS A lim p).2.2.1, (rpS A lim p).2.2.2.1, (rpS A lim p).2.2.2.2, 0) else (false, p, false, 0, 0, 0, 0) := by
        unfold rlS
        rw [kc_dig hs hl p, if_pos hd]
      by_cases h8 : n = 8
      · rw [if_pos h8, er.trans (if_neg (by omega))]
        dsimp only
        rw [if_neg (by decide)]
        show townR L n m c its (false, p, its) (mtF B lim (mtn B lim f2) n m (c + 1) its (p, some p))
        rw [mtF_s]
        exact townR_no rfl
      · rw [if_neg h8]
        rw [er.trans (if_pos (by omega))] at hlt ⊢
        have hmr : (mrp B lim (p, none)).1.1 = false := rfl
        exact line_R hs hl ih hn hm (person_R hs hl hp hd) hlt hp h1 h2 (by rw [hmr]; first | done | rfl) (by rw [hmr]; first | done | rfl)
    · by_cases h100 : kc B lim p = 100
      · have hpl := kc_lt h100 (by decide)
        rw [if_pos h100]
        have er : rlS A lim n m p = if m < 10 then ((rdS A lim n p).1, (rdS A lim n p).2.1, true, (rdS A lim n p).2.2) else (false, p, true, 0, 0, 0, 0) := by
          unfold rlS
          rw [kc_dig hs hl p, if_neg hd, if_pos (e100.mpr h100)]
        by_cases h10 : m = 10
        · rw [if_pos h10, er.trans (if_neg (by omega))]
          dsimp only
          rw [if_neg (by decide)]
          show townR L n m c its (false, p, its) (mtF B lim (mtn B lim f2) n (m + 1) (c + 1) its (p, some p))
          rw [mtF_s]
          exact townR_no rfl
        · rw [if_neg h10]
          rw [er.trans (if_pos (by omega))] at hlt ⊢
          have hmr : (mrd B lim n (p, none)).1.1 = true := rfl
          exact line_R hs hl ih hn hm (debt_R hs hl hn hpl) hlt hp h1 h2 (by rw [hmr]; first | done | rfl) (by rw [hmr]; first | done | rfl)
      · rw [if_neg h100]
        have er : rlS A lim n m p = (false, p, false, 0, 0, 0, 0) := by
          unfold rlS
          rw [kc_dig hs hl p, if_neg hd, if_neg (fun z => h100 (e100.mp z))]
        rw [er]
        dsimp only
        rw [if_neg (by decide)]
        by_cases h8 : n = 8
        · rw [if_pos h8]
          show townR L n m c its (false, p, its) (mtF B lim (mtn B lim f2) n m (c + 1) its (p, some p))
          rw [mtF_s]
          exact townR_no rfl
        · rw [if_neg h8]
          have hm2 : (mrp B lim (p, none)).2 = (p, some p) := by
            rcases numP_AB hs hl (d := 2) (by omega) hp with ⟨h, -⟩ | ⟨-, -, hP⟩
            · exact absurd h hd
            · unfold mrp
              simp only
              rw [hP]
              dsimp only
              rw [needP_s, numP_s]
              dsimp only
              rw [passP_s]
          rw [hm2, mtF_s]
          exact townR_no rfl
/-- THE TWO READERS OF A TOWN SAY THE SAME -/
theorem town_same {M : Mem} {n m : Nat} (hs : sgR (M.1 3) B L) (hn : n ≤ 8) (hm : m ≤ 10) : townR L n m 0 [] (tnR M L n m) (mtn B (min L 76) 81 n m 0 [] (0, none)) := by
  unfold tnR
  have e : (if 76 < L then 76 else L) = min L 76 := by split <;> omega
  rw [e]
  exact town_R hs (by omega) 100 81 n m 0 0 [] hn hm (by omega) (by omega) (by omega)
end
