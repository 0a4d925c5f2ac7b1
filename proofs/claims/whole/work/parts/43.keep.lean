theorem fstB_in {p : Nat → Bool} {s : Nat} : ∀ {n : Nat}, fstB p n = some s → s < n ∧ p s = true
  | 0, h => by cases h
  | n + 1, h => by
    simp only [fstB] at h
    cases hf : fstB p n with
    | some t =>
      rw [hf] at h
      obtain rfl : t = s := Option.some.inj h
      exact ⟨Nat.lt_succ_of_lt (fstB_in hf).1, (fstB_in hf).2⟩
    | none =>
      rw [hf] at h
      by_cases q : p n = true
      · have h2 : (if p n = true then some n else none) = some s := h
        rw [if_pos q] at h2
        obtain rfl := Option.some.inj h2
        exact ⟨Nat.lt_succ_self _, q⟩
      · have h2 : (if p n = true then some n else none) = some s := h
        rw [if_neg q] at h2
        cases h2
theorem fstB_no {p : Nat → Bool} : ∀ {n : Nat}, fstB p n = none → ∀ k, k < n → ¬ p k = true
  | 0, _, k, hk => absurd hk (Nat.not_lt_zero _)
  | n + 1, h, k, hk => by
    simp only [fstB] at h
    cases hf : fstB p n with
    | some t => rw [hf] at h; cases h
    | none =>
      rw [hf] at h
      have h2 : (if p n = true then some n else none) = none := h
      by_cases q : p n = true
      · rw [if_pos q] at h2; cases h2
      · by_cases e : k = n
        · exact e ▸ q
        · exact fstB_no hf k (by omega)
theorem lead_all {S : SS} {s t : Nat} {cost : Int32} {row : Nat} {P : Int32 → (Nat → Nat) → Nat → Prop} (h : ∀ j, j < S.N → P (S.mk j) (S.co j) (S.rw j)) (hn : P (S.mk t) (S.co t) row) : ∀ j, j < S.N → P ((S.lead s t cost row).mk j) ((S.lead s t cost row).co j) ((S.lead s t cost row).rw j) := by
  intro j hj
  rw [ld_mk, ld_co, ld_rw]
  split
  · next q => rw [q.2]; exact hn
  · exact h j hj
theorem go_cases (S : SS) (s : Nat) (mk : Int32) (c : Nat → Nat) (cost : Int32) (row : Nat) :
    (∃ t, t < S.N ∧ S.is mk c t ∧ S.go s mk c cost row = (true, S.lead s t cost row)) ∨
    ((∀ j, j < S.N → ¬ S.is mk c j) ∧ S.N < 3000 ∧ S.go s mk c cost row = (true, (S.add mk c).lead s S.N cost row)) ∨
    ((∀ j, j < S.N → ¬ S.is mk c j) ∧ ¬ S.N < 3000 ∧ S.go s mk c cost row = (false, S)) := by
  cases hf : S.fnd mk c with
  | some t =>
    have hi := fstB_in hf
    exact Or.inl ⟨t, hi.1, isB_iff.mp hi.2, by rw [SS.go, hf]⟩
  | none =>
    have hn : ∀ j, j < S.N → ¬ S.is mk c j := fun j hj e => fstB_no hf j hj (isB_iff.mpr e)
    by_cases q : S.N < 3000
    · exact Or.inr (Or.inl ⟨hn, q, by rw [SS.go, hf]; exact if_pos q⟩)
    · exact Or.inr (Or.inr ⟨hn, q, by rw [SS.go, hf]; exact if_neg q⟩)
theorem go_all {S : SS} {s : Nat} {mk : Int32} {c : Nat → Nat} {cost : Int32} {row : Nat} {P : Int32 → (Nat → Nat) → Nat → Prop} (h : ∀ j, j < S.N → P (S.mk j) (S.co j) (S.rw j)) (h0 : P mk c 0) (hn : P mk c row) (ht : ∀ t, t < S.N → S.is mk c t → P (S.mk t) (S.co t) row) :
    ∀ j, j < (S.go s mk c cost row).2.N → P ((S.go s mk c cost row).2.mk j) ((S.go s mk c cost row).2.co j) ((S.go s mk c cost row).2.rw j) := by
  rcases go_cases S s mk c cost row with ⟨t, h1, h2, e⟩ | ⟨h1, h2, e⟩ | ⟨h1, h2, e⟩
  · rw [e]
    exact lead_all (s := s) (t := t) (cost := cost) (row := row) h (ht t h1 h2)
  · rw [e]
    refine lead_all (S := S.add mk c) (s := s) (t := S.N) (cost := cost) (row := row) (fun j hj => ?_) ?_
    · rw [ad_mk, ad_co, ad_rw]
      have hj : j < S.N + 1 := hj
      by_cases e : j = S.N
      · rw [if_pos e, if_pos e, if_pos e]; exact h0
      · rw [if_neg e, if_neg e, if_neg e]; exact h j (by omega)
    · rw [ad_mk, ad_co, if_pos rfl, if_pos rfl]; exact hn
  · rw [e]
    exact h
theorem go_dis {S : SS} {s : Nat} {mk : Int32} {c : Nat → Nat} {cost : Int32} {row : Nat} (h : S.dis) : (S.go s mk c cost row).2.dis := by
  rcases go_cases S s mk c cost row with ⟨t, h1, h2, e⟩ | ⟨h1, h2, e⟩ | ⟨h1, h2, e⟩
  · rw [e]; exact h
  · rw [e]; exact add_dis h h1
  · rw [e]; exact h
/-- what has another mask stays as it is -/
theorem go_keep {S : SS} {s : Nat} {mk : Int32} {c : Nat → Nat} {cost : Int32} {row : Nat} {j : Nat} (hj : j < S.N) (hm : S.mk j ≠ mk) :
    j < (S.go s mk c cost row).2.N ∧ (S.go s mk c cost row).2.mk j = S.mk j ∧ (S.go s mk c cost row).2.co j = S.co j ∧ (S.go s mk c cost row).2.wy j = S.wy j ∧ (S.go s mk c cost row).2.pr j = S.pr j ∧ (S.go s mk c cost row).2.rw j = S.rw j := by
  rcases go_cases S s mk c cost row with ⟨t, h1, h2, e⟩ | ⟨h1, h2, e⟩ | ⟨h1, h2, e⟩
  · have hne : j ≠ t := fun e => hm (e ▸ h2.1)
    rw [e]
    exact ⟨hj, ld_mk, ld_co, ld_wy.trans (if_neg hne), ld_pr.trans (if_neg fun z => hne z.2), ld_rw.trans (if_neg fun z => hne z.2)⟩
  · have hne : j ≠ S.N := by omega
    rw [e]
    exact ⟨Nat.lt_succ_of_lt hj, ld_mk.trans (ad_mk.trans (if_neg hne)), ld_co.trans (ad_co.trans (if_neg hne)), ld_wy.trans ((if_neg hne).trans (ad_wy.trans (if_neg hne))), ld_pr.trans ((if_neg fun z => hne z.2).trans (ad_pr.trans (if_neg hne))), ld_rw.trans ((if_neg fun z => hne z.2).trans (ad_rw.trans (if_neg hne)))⟩
  · rw [e]
    exact ⟨hj, rfl, rfl, rfl, rfl, rfl⟩
