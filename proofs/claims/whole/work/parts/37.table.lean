/-- how many places are taken -/
def cnt (f : Nat → Nat) : Nat → Nat
  | 0 => 0
  | n + 1 => cnt f n + if f n = 0 then 0 else 1
theorem cnt_all {f : Nat → Nat} : ∀ {n : Nat}, (∀ p, p < n → f p ≠ 0) → cnt f n = n
  | 0, _ => rfl
  | n + 1, h => by
    simp only [cnt]
    rw [cnt_all (n := n) (fun p hp => h p (by omega)), if_neg (h n (by omega))]
theorem cnt_same {f g : Nat → Nat} : ∀ {n : Nat}, (∀ p, p < n → g p = f p) → cnt g n = cnt f n
  | 0, _ => rfl
  | n + 1, h => by
    simp only [cnt]
    rw [cnt_same (n := n) (fun p hp => h p (by omega)), h n (by omega)]
def updN (f : Nat → Nat) (p v : Nat) : Nat → Nat := fun j => if j = p then v else f j
theorem cnt_upd {f : Nat → Nat} {p v : Nat} : ∀ {n : Nat}, cnt (updN f p v) n ≤ cnt f n + 1
  | 0 => Nat.zero_le _
  | n + 1 => by
    simp only [cnt]
    by_cases h : n = p
    · rw [cnt_same (g := updN f p v) (f := f) (fun q hq => if_neg (by omega))]
      split <;> split <;> omega
    · have := cnt_upd (f := f) (p := p) (v := v) (n := n)
      rw [show updN f p v n = f n from if_neg h]
      omega
theorem cnt_zero {f : Nat → Nat} : ∀ {n : Nat}, (∀ p, p < n → f p = 0) → cnt f n = 0
  | 0, _ => rfl
  | n + 1, h => by
    simp only [cnt]
    rw [cnt_zero (n := n) (fun p hp => h p (by omega)), if_pos (h n (by omega))]
/-- a table of T places: N are in it, each behind taken places only from where it belongs -/
def TabOK (T : Nat) (tb hs : Nat → Nat) (N : Nat) : Prop :=
  (∀ p, p < T → tb p ≤ N) ∧ (∀ s, s < N → ∃ d, d < T ∧ tb ((hs s + d) % T) = s + 1 ∧ ∀ e, e < d → tb ((hs s + e) % T) ≠ 0) ∧ cnt tb T ≤ N
theorem TabOK.none {T : Nat} {tb hs : Nat → Nat} {N h i : Nat} {ok : Nat → Prop} (w : TabOK T tb hs N) (hok : ∀ s, s < N → ok s → hs s = h) (hz : tb ((h + i) % T) = 0) (hb : ∀ e, e < i → tb ((h + e) % T) ≠ 0 ∧ ¬ ok (tb ((h + e) % T) - 1)) : ∀ s, s < N → ¬ ok s := by
  intro s hs1 ho
  obtain ⟨d, hd, h1, h2⟩ := w.2.1 s hs1
  rw [hok s hs1 ho] at h1 h2
  rcases Nat.lt_trichotomy d i with q | q | q
  · have := (hb d q).2
    rw [h1] at this
    exact this ho
  · rw [q, hz] at h1; omega
  · exact h2 i q hz
theorem TabOK.full {T : Nat} {tb hs : Nat → Nat} {N h : Nat} (w : TabOK T tb hs N) (hN : N < T) (hb : ∀ e, e < T → tb ((h + e) % T) ≠ 0) : False := by
  have := cnt_all (f := tb) (n := T) (fun p hp => by
    have h3 := hb ((p + (T - h % T)) % T) (Nat.mod_lt _ (by omega))
    have e : (h + (p + (T - h % T)) % T) % T = p := by
      have hm : h % T < T := Nat.mod_lt _ (by omega)
      rw [Nat.add_mod, Nat.mod_mod, ← Nat.add_mod]
      rw [show h + (p + (T - h % T)) = p + T * (h / T + 1) by
        have := Nat.div_add_mod h T
        rw [Nat.mul_add, Nat.mul_one]; omega]
      rw [Nat.add_mul_mod_self_left, Nat.mod_eq_of_lt hp]
    rw [e] at h3
    exact h3)
  have := w.2.2
  omega
theorem TabOK.put {T : Nat} {tb hs : Nat → Nat} {N h i : Nat} (w : TabOK T tb hs N) (hT : 0 < T) (hi : i < T) (hz : tb ((h + i) % T) = 0) (hb : ∀ e, e < i → tb ((h + e) % T) ≠ 0) : TabOK T (updN tb ((h + i) % T) (N + 1)) (updN hs N h) (N + 1) := by
  refine ⟨fun p hp => ?_, fun s hs1 => ?_, Nat.le_trans cnt_upd (by have := w.2.2; omega)⟩
  · simp only [updN]
    split
    · omega
    · have := w.1 p hp; omega
  · by_cases q : s = N
    · subst q
      refine ⟨i, hi, ?_, fun e he => ?_⟩
      · simp [updN]
      · rw [show updN hs s h s = h from if_pos rfl]
        by_cases z : (h + e) % T = (h + i) % T
        · rw [show updN tb ((h + i) % T) (s + 1) ((h + e) % T) = s + 1 from if_pos z]; omega
        · rw [show updN tb ((h + i) % T) (s + 1) ((h + e) % T) = tb ((h + e) % T) from if_neg z]; exact hb e he
    · obtain ⟨d, hd, h1, h2⟩ := w.2.1 s (by omega)
      have hn : ∀ e, (hs s + e) % T = (h + i) % T → tb ((hs s + e) % T) = 0 := fun e he => by rw [he, hz]
      refine ⟨d, hd, ?_, fun e he => ?_⟩
      · rw [show updN hs N h s = hs s from if_neg q]
        rw [show updN tb ((h + i) % T) (N + 1) ((hs s + d) % T) = tb ((hs s + d) % T) from if_neg (fun z => by rw [hn d z] at h1; omega)]
        exact h1
      · rw [show updN hs N h s = hs s from if_neg q]
        simp only [updN]
        split
        · omega
        · exact h2 e he
theorem TabOK.empty {T : Nat} {tb hs : Nat → Nat} (h : ∀ p, p < T → tb p = 0) : TabOK T tb hs 0 :=
  ⟨fun p hp => by rw [h p hp]; exact Nat.le_refl _, fun s hs => absurd hs (Nat.not_lt_zero _), by rw [cnt_zero h]; exact Nat.le_refl _⟩
/-- what has been found: how many, the paid debts of each, its coin, ways, price, row -/
abbrev SS : Type := Nat × (Nat → Int32) × (Nat → Nat → Nat) × (Nat → Int64) × (Nat → Int32) × (Nat → Nat)
abbrev SS.N (S : SS) : Nat := S.1
abbrev SS.mk (S : SS) : Nat → Int32 := S.2.1
abbrev SS.co (S : SS) : Nat → Nat → Nat := S.2.2.1
abbrev SS.wy (S : SS) : Nat → Int64 := S.2.2.2.1
abbrev SS.pr (S : SS) : Nat → Int32 := S.2.2.2.2.1
abbrev SS.rw (S : SS) : Nat → Nat := S.2.2.2.2.2
/-- one more -/
def SS.add (S : SS) (mk : Int32) (c : Nat → Nat) : SS := (S.N + 1, upd S.mk S.N mk, (fun s => if s = S.N then c else S.co s), (fun s => if s = S.N then 0 else S.wy s), upd S.pr S.N 2147483647, updN S.rw S.N 0)
/-- it is this one -/
def SS.is (S : SS) (mk : Int32) (c : Nat → Nat) (s : Nat) : Prop := S.mk s = mk ∧ ∀ i, i < 8 → S.co s i = c i
