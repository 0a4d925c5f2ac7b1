theorem inn_0 {T : TT} {s : Nat} {mk0 : Int32} {c0 : Nat → Nat} {p0 : Int32} {r0 k : Nat} {r : Bool × SS} : ∀ {i : Nat}, inn T s mk0 c0 p0 r0 k 0 i r = r
  | 0 => rfl
  | i + 1 => by rw [inn_f (b_0 i), inn_0]
/-- who may pay debt k of what is left (T: the town with the coin of s) -/
def lvQ (T : TT) (n : Nat) (these mk0 : Int32) (k : Nat) : Int32 := if bt these k = true ∧ bt mk0 k = false then payT T n k else 0
/-- s is left over k debts: the states, what can be paid at all, what is always paid before -/
def lvs (T : TT) (n s : Nat) (mk0 : Int32) (c0 : Nat → Nat) (p0 : Int32) (r0 : Nat) (these : Int32) : Nat → (Bool × SS) × Int32 × (Nat → Int32) → (Bool × SS) × Int32 × (Nat → Int32)
  | 0, x => x
  | k + 1, x => (inn T s mk0 c0 p0 r0 k (lvQ T n these mk0 k) n (lvs T n s mk0 c0 p0 r0 these k x).1,
      if lvQ T n these mk0 k = 0 then (lvs T n s mk0 c0 p0 r0 these k x).2.1 else (lvs T n s mk0 c0 p0 r0 these k x).2.1 ||| bit k,
      if lvQ T n these mk0 k = 0 then (lvs T n s mk0 c0 p0 r0 these k x).2.2 else upd (lvs T n s mk0 c0 p0 r0 these k x).2.2 k ((lvs T n s mk0 c0 p0 r0 these k x).2.2 k &&& mk0))
theorem lvs_iv {T : TT} {n s : Nat} {mk0 : Int32} {c0 : Nat → Nat} {p0 : Int32} {r0 : Nat} {these : Int32} (hn : n ≤ 8) (hr : ∀ k, k < 10 → bt these k = true → bt mk0 k = false → r0 < 2 ^ 54) {x : (Bool × SS) × Int32 × (Nat → Int32)} (h : x.1.2.iv s mk0 c0 p0 r0) : ∀ {k : Nat}, k ≤ 10 → (lvs T n s mk0 c0 p0 r0 these k x).1.2.iv s mk0 c0 p0 r0
  | 0, _ => h
  | k + 1, hk => by
    have h2 := lvs_iv (T := T) (these := these) hn hr h (k := k) (by omega)
    simp only [lvs]
    exact inn_iv (by omega) (by
      by_cases q : bt these k = true ∧ bt mk0 k = false
      · exact Or.inr ⟨q.2, hr k (by omega) q.1 q.2⟩
      · exact Or.inl (if_neg q)) h2 hn
theorem inn_alk {T T' : TT} (e : alk T T') {s : Nat} {mk0 : Int32} {c0 : Nat → Nat} {p0 : Int32} {r0 k : Nat} {Q : Int32} {r : Bool × SS} : ∀ {i : Nat}, inn T' s mk0 c0 p0 r0 k Q i r = inn T s mk0 c0 p0 r0 k Q i r
  | 0 => rfl
  | i + 1 => by
    have hg : gp T' s mk0 c0 p0 r0 k i = gp T s mk0 c0 p0 r0 k i := by
      funext S
      simp only [gp, prT, e 6 (by omega) (by omega), e 7 (by omega) (by omega), e 8 (by omega) (by omega), e 2 (by omega) (by omega), e 1 (by omega) (by omega)]
    simp only [inn, inn_alk e (i := i), hg]
theorem lvQ_alk {T T' : TT} (e : alk T T') {n : Nat} {these mk0 : Int32} {k : Nat} : lvQ T' n these mk0 k = lvQ T n these mk0 k := by
  unfold lvQ; rw [payT_same e]
theorem lvs_alk {T T' : TT} (e : alk T T') {n s : Nat} {mk0 : Int32} {c0 : Nat → Nat} {p0 : Int32} {r0 : Nat} {these : Int32} {x : (Bool × SS) × Int32 × (Nat → Int32)} : ∀ {k : Nat}, lvs T' n s mk0 c0 p0 r0 these k x = lvs T n s mk0 c0 p0 r0 these k x
  | 0 => rfl
  | k + 1 => by simp only [lvs, lvs_alk e (k := k), lvQ_alk e, inn_alk e]
theorem mkL_id {M : Mem} {t n : Nat} (h : ∀ j, j < n → M.1 (t + 6) j = onL M t j) : mkL M t n = M := by
  refine Prod.ext ?_ rfl
  funext a j
  simp only [mkL]
  split
  · next q => rw [q.1]; exact (h j q.2).symm
  · rfl
theorem view_eq {M N : Mem} {t : Nat} (h : ∀ a, t ≤ a → a ≤ t + 15 → N.1 a = M.1 a) : ∀ c, c < 20 → view N t c = view M t c := by
  intro c hc
  funext j
  simp only [view]
  split
  · rw [h _ (by omega) (by omega)]
  · rw [h t (by omega) (by omega)]
theorem payers_T {M : Mem} {t n m k : Nat} (w : TW M t n m) (hk : k < m) (hL : ∀ j, j < n → M.1 (t + 6) j = onL M t j) : (if M.1 (t + 11) k = 0 then fbor (mayL M t n k) n else 0) = payT (view M t) n k := by
  have := paysM w hk
  rwa [mkL_id hL] at this
def stG (M N : Mem) : Prop := (∀ a j, (a < 19 ∨ (27 < a ∧ a ≠ 114) ∨ (a = 19 ∧ j ≠ 9 ∧ j ≠ 11 ∧ j ≠ 14)) → N.1 a j = M.1 a j) ∧ (∀ a, (a < 20 ∨ 23 < a) → N.2.1 a = M.2.1 a) ∧ N.2.2 = M.2.2
theorem stG.refl {M : Mem} : stG M M := ⟨fun _ _ _ => rfl, fun _ _ => rfl, rfl⟩
theorem stG.trans {M N K : Mem} (h : stG M N) (h2 : stG N K) : stG M K := ⟨fun a j q => (h2.1 a j q).trans (h.1 a j q), fun a q => (h2.2.1 a q).trans (h.2.1 a q), h2.2.2.trans h.2.2⟩
theorem stF.G {M N : Mem} (h : stF M N) : stG M N := ⟨fun a j q => h.1 a j (by omega), h.2.1, h.2.2⟩
theorem stG_I {M : Mem} {a k : Nat} {x : Int32} (h : a = 27 ∨ (a = 19 ∧ k = 11)) : stG M (setI M a k x) := ⟨fun b j hb => if_neg (by omega), fun _ _ => rfl, rfl⟩
theorem stG_L {M : Mem} {n : Nat} : stG M (mkL M 108 n) := ⟨fun b j hb => by rw [mkL_o (by omega)], fun _ _ => rfl, rfl⟩
theorem rep_I {M : Mem} {S : SS} {a k : Nat} {x : Int32} (hR : repC M S) (h : a = 27 ∨ (a = 19 ∧ k = 11) ∨ 27 < a) : repC (setI M a k x) S := by
  obtain ⟨tb, h1, h2, h3, h4, h5⟩ := hR
  exact ⟨tb, (sI_ne (by omega)).trans h1, h2, fun s hs => ⟨(sI_ne (by omega)).trans (h3 s hs).1, (h3 s hs).2.1, (h3 s hs).2.2.1, (h3 s hs).2.2.2.1, (sI_ne (by omega)).trans (h3 s hs).2.2.2.2.1, (h3 s hs).2.2.2.2.2⟩, fun p hp => (sI_ne (by omega)).trans (h4 p hp), h5⟩
theorem rep_L {M : Mem} {S : SS} {n : Nat} (hR : repC M S) : repC (mkL M 108 n) S := by
  obtain ⟨tb, h1, h2, h3, h4, h5⟩ := hR
  exact ⟨tb, by rw [mkL_o (by omega)]; exact h1, h2, fun s hs => ⟨by rw [mkL_o (by omega)]; exact (h3 s hs).1, (h3 s hs).2.1, (h3 s hs).2.2.1, (h3 s hs).2.2.2.1, by rw [mkL_o (by omega)]; exact (h3 s hs).2.2.2.2.1, (h3 s hs).2.2.2.2.2⟩, fun p hp => by rw [mkL_o (by omega)]; exact h4 p hp, h5⟩
