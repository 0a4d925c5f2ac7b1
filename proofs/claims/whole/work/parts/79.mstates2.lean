/-- where the model begins to look -/
def hmF (mk : Int32) (c : Nat → Nat) : Nat → Int32
  | 0 => mk
  | i + 1 => 31 * hmF mk c i + nI (c i)
def hmX (h : Int32) : Int32 := (h ^^^ (h.toUInt32 >>> ((11 : Int32).toUInt32 &&& Int32.toUInt32 31)).toInt32) &&& 8191
def hmN (n : Nat) (mk : Int32) (c : Nat → Nat) : Nat := (hmX (hmF mk c n)).toNatClampNeg
theorem hmN_I {n : Nat} {mk : Int32} {c : Nat → Nat} : hmX (hmF mk c n) = nI (hmN n mk c) ∧ hmN n mk c < 8192 := by
  obtain ⟨k, hk, e⟩ := and13_lt (x := hmF mk c n ^^^ ((hmF mk c n).toUInt32 >>> ((11 : Int32).toUInt32 &&& Int32.toUInt32 31)).toInt32)
  unfold hmN
  rw [show hmX (hmF mk c n) = nI k from e, nI_clamp (by omega)]
  exact ⟨rfl, hk⟩
theorem hmF_congr {mk : Int32} {c c' : Nat → Nat} : ∀ {n : Nat}, (∀ i, i < n → c i = c' i) → hmF mk c n = hmF mk c' n
  | 0, _ => rfl
  | n + 1, h => by
    simp only [hmF]
    rw [hmF_congr (n := n) fun i hi => h i (by omega), h n (by omega)]
def hmS (n : Nat) (S : SS) (s : Nat) : Nat := hmN n (S.mk s) (S.co s)
theorem hm_is {S : SS} {n : Nat} (hn : n ≤ 8) {mk : Int32} {c : Nat → Nat} {s : Nat} (h : S.is mk c s) : hmS n S s = hmN n mk c := by
  unfold hmS hmN
  rw [h.1, hmF_congr fun i hi => h.2 i (by omega)]
/-- the model has these states -/
def repT2 (M : Mem) (S : SS) (n : Nat) (tb : Nat → Nat) : Prop :=
  M.1 140 44 = nI S.N ∧ S.N ≤ 3000 ∧ (∀ s, s < S.N → M.1 159 s = S.mk s ∧ (∀ i, i < n → M.1 160 (8 * s + i) = nI (S.co s i)) ∧ M.2.1 166 s = S.wy s ∧ ∀ i, S.co s i < 65536) ∧ (∀ p, p < 8192 → M.1 168 p = nI (tb p)) ∧ TabOK 8192 tb (hmS n S) S.N
def repM (M : Mem) (S : SS) (n : Nat) : Prop := ∃ tb, repT2 M S n tb
/-- the coins as they stand: those of the first n people, and the others as in any state -/
def curM (M : Mem) (S : SS) (n : Nat) (c : Nat → Nat) : Prop := (∀ i, i < n → M.1 141 i = nI (c i)) ∧ (∀ i, c i < 65536) ∧ ∀ s, s < S.N → ∀ i, n ≤ i → i < 8 → S.co s i = c i
theorem st_is {M : Mem} {S : SS} {n : Nat} {tb : Nat → Nat} (hn : n ≤ 8) (hR : repT2 M S n tb) {mk : Int32} {c : Nat → Nat} (hC : curM M S n c) {s : Nat} (hs : s < S.N) : isSt M s mk n = true ↔ S.is mk c s := by
  obtain ⟨a1, a2, a3, a4⟩ := hR.2.2.1 s hs
  rw [isSt_iff, a1]
  refine ⟨fun h => ⟨h.1, fun i hi => ?_⟩, fun h => ⟨h.1, fun i hi => ?_⟩⟩
  · rcases Nat.lt_or_ge i n with q | q
    · have e := h.2 i q
      rw [a2 i q, hC.1 i q] at e
      exact eq_nI (by have := a4 i; omega) (by have := hC.2.1 i; omega) e
    · exact hC.2.2 s hs i q hi
  · rw [a2 i hi, hC.1 i hi, h.2 i (by omega)]
/-- coins taken down -/
def cyM (M : Mem) (N c : Nat) : Mem := (fun a j => if a = 160 ∧ 8 * N ≤ j ∧ j < 8 * N + c then M.1 141 (j - 8 * N) else M.1 a j, M.2)
theorem cy_0 {M : Mem} {N : Nat} : cyM M N 0 = M := by
  refine Prod.ext ?_ rfl
  funext a j; exact if_neg (by omega)
theorem cy_o {M : Mem} {N c a j : Nat} (h : a ≠ 160) : (cyM M N c).1 a j = M.1 a j := if_neg fun q => h q.1
theorem cy_s {M : Mem} {N c : Nat} : setI (cyM M N c) 160 (8 * N + c) (M.1 141 c) = cyM M N (c + 1) := by
  refine Prod.ext ?_ rfl
  funext a j
  simp only [setI, cyM]
  by_cases h : a = 160 ∧ j = 8 * N + c
  · rw [if_pos h, if_pos (by omega), h.2, Nat.add_sub_cancel_left]
  · rw [if_neg h]
    by_cases h2 : a = 160 ∧ 8 * N ≤ j ∧ j < 8 * N + c
    · rw [if_pos h2, if_pos (by omega)]
    · rw [if_neg h2, if_neg (by omega)]
def nsM (M : Mem) (p N : Nat) (mk : Int32) (n : Nat) : Mem := setI (setI (setJ (setI (cyM (setI M 159 N mk) N n) 163 N (-1)) 166 N 0) 140 44 (nI (N + 1))) 168 p (nI (N + 1))
theorem ns_1 {M : Mem} {p N n a j : Nat} {mk : Int32} (h : a ≠ 168) (h2 : a ≠ 140) : (nsM M p N mk n).1 a j = (setI (cyM (setI M 159 N mk) N n) 163 N (-1)).1 a j := (sI_na h).trans (sI_na h2)
theorem ns_new {M : Mem} {S : SS} {n : Nat} {tb : Nat → Nat} (hn : n ≤ 8) (hR : repT2 M S n tb) {mk : Int32} {c : Nat → Nat} (hC : curM M S n c) (hN : S.N < 3000) {i : Nat} (hi : i < 8192) (hz : tb ((hmN n mk c + i) % 8192) = 0) (hb : ∀ e, e < i → tb ((hmN n mk c + e) % 8192) ≠ 0) : repM (nsM M ((hmN n mk c + i) % 8192) S.N mk n) (S.add mk c) n := by
  obtain ⟨h1, h2, h3, h4, h5⟩ := hR
  refine ⟨updN tb ((hmN n mk c + i) % 8192) (S.N + 1), (sI_na (by omega)).trans sI_eq, hN, fun s hs => ?_, fun p hp => ?_, ?_⟩
  · have e159 : (nsM M ((hmN n mk c + i) % 8192) S.N mk n).1 159 s = if s = S.N then mk else M.1 159 s := by
      refine (ns_1 (by omega) (by omega)).trans ((sI_na (by omega)).trans ((cy_o (by omega)).trans ?_))
      by_cases q : s = S.N
      · rw [if_pos q, q, sI_eq]
      · rw [if_neg q, sI_ne fun z => q z.2]
    have e160 : ∀ j, (nsM M ((hmN n mk c + i) % 8192) S.N mk n).1 160 j = if 8 * S.N ≤ j ∧ j < 8 * S.N + n then M.1 141 (j - 8 * S.N) else M.1 160 j := fun j => by
      refine (ns_1 (by omega) (by omega)).trans ((sI_na (by omega)).trans ?_)
      show (if 160 = 160 ∧ 8 * S.N ≤ j ∧ j < 8 * S.N + n then (setI M 159 S.N mk).1 141 (j - 8 * S.N) else (setI M 159 S.N mk).1 160 j) = _
      rw [sI_na (by omega), sI_na (by omega)]
      by_cases q : 8 * S.N ≤ j ∧ j < 8 * S.N + n
      · rw [if_pos ⟨rfl, q⟩, if_pos q]
      · rw [if_neg fun z => q z.2, if_neg q]
    have e166 : (nsM M ((hmN n mk c + i) % 8192) S.N mk n).2.1 166 s = if s = S.N then 0 else M.2.1 166 s := by
      show (if 166 = 166 ∧ s = S.N then (0 : Int64) else M.2.1 166 s) = _
      by_cases q : s = S.N
      · rw [if_pos ⟨rfl, q⟩, if_pos q]
      · rw [if_neg fun z => q z.2, if_neg q]
    rw [e159, e166, ad_mk, ad_co, ad_wy]
    by_cases q : s = S.N
    · rw [if_pos q, if_pos q, if_pos q, if_pos q, if_pos q]
      exact ⟨rfl, fun j hj => by rw [e160, if_pos (by omega), show 8 * s + j - 8 * S.N = j by omega]; exact hC.1 j hj, rfl, hC.2.1⟩
    · have hs' : s < S.N := by have : s < S.N + 1 := hs; omega
      rw [if_neg q, if_neg q, if_neg q, if_neg q, if_neg q]
      exact ⟨(h3 s hs').1, fun j hj => by rw [e160, if_neg (by omega)]; exact (h3 s hs').2.1 j hj, (h3 s hs').2.2⟩
  · show (setI _ 168 _ _).1 168 p = _
    simp only [updN]
    by_cases q : p = (hmN n mk c + i) % 8192
    · rw [if_pos q, q, sI_eq]
    · rw [if_neg q, sI_ne fun z => q z.2]
      refine (sI_na (by omega)).trans ?_
      show (setI (cyM (setI M 159 S.N mk) S.N n) 163 S.N (-1)).1 168 p = _
      exact (sI_na (by omega)).trans ((cy_o (by omega)).trans ((sI_na (by omega)).trans (h4 p hp)))
  · have e : hmS n (S.add mk c) = updN (hmS n S) S.N (hmN n mk c) := by
      funext s
      show hmN n ((S.add mk c).mk s) ((S.add mk c).co s) = updN _ _ _ s
      rw [ad_mk, ad_co]
      by_cases q : s = S.N
      · rw [if_pos q, if_pos q]; exact (if_pos q).symm
      · rw [if_neg q, if_neg q]; exact (if_neg q).symm
    rw [e]
    exact h5.put (by decide) hi hz hb
/-- what stateOf answers -/
def fdM (M : Mem) (S : SS) (n : Nat) (mk : Int32) (c : Nat → Nat) (v : Option Value) (M' : Mem) : Prop :=
  (∃ s, s < S.N ∧ S.is mk c s ∧ v = some (.int (nI s)) ∧ M' = M) ∨
  ((∀ s, s < S.N → ¬ S.is mk c s) ∧ ((S.N < 3000 ∧ v = some (.int (nI S.N)) ∧ repM M' (S.add mk c) n ∧ ∃ p, M' = nsM M p S.N mk n) ∨ (S.N = 3000 ∧ v = some (.int (-1)) ∧ M' = M)))
