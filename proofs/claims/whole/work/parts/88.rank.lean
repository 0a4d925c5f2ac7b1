/-! the model's states: who owes, who gets, how much; a step's code -/
def oK (T : TT) (k : Nat) : Nat := (T 6 k).toNatClampNeg
def gK (T : TT) (k : Nat) : Nat := (T 7 k).toNatClampNeg
def vK (T : TT) (k : Nat) : Nat := (T 8 k).toNatClampNeg
def cdE (T : TT) (k i : Nat) : Nat := k * 6 + rkN (oK T k) (gK T k) i
def lq (T : TT) (n : Nat) (these : Int32) (S : SS) (s k i : Nat) : Bool := bt (lvQ (ldT T n (S.co s)) n these (S.mk s) k) i
def eg (T : TT) (n : Nat) (these : Int32) (S : SS) (s k i t : Nat) : Prop := lq T n these S s k i = true ∧ S.is (S.mk s ||| bit k) (shN (S.co s) i (gK T k) (vK T k)) t
/-- what is wanted is open and asked of a debt -/
def thOK (T : TT) (m : Nat) (these : Int32) : Prop := ∀ j, bt these j = true → j < m ∧ T 10 j = 0
theorem thV_OK {T : TT} {m : Nat} {x : Int32} (hm : m ≤ 10) : thOK T m (thV T m x) := fun j h => by
  refine ⟨b_thV hm h, ?_⟩
  rw [thV, b_fbor _ m (by omega)] at h
  simp [dueT] at h
  exact h.2.1
theorem lq_iff {T : TT} {n m : Nat} {these : Int32} (ht : thOK T m these) (hn : n ≤ 8) {S : SS} {s k i : Nat} : lq T n these S s k i = true ↔ (bt these k = true ∧ bt (S.mk s) k = false) ∧ i < n ∧ mayT (ldT T n (S.co s)) n k i = true := by
  unfold lq lvQ payT
  by_cases q : bt these k = true ∧ bt (S.mk s) k = false
  · rw [if_pos q, ldT_o (show 10 ≠ 0 by decide), if_pos (ht k q.1).2, b_fbor _ n (by omega)]
    simp [q]
  · rw [if_neg q, b_0]
    simp [q]
theorem lq_og {T : TT} {n m : Nat} {these : Int32} (ht : thOK T m these) (hn : n ≤ 8) (hO : OKS T n m) {S : SS} {s k i : Nat} (h : lq T n these S s k i = true) : k < m ∧ i < n ∧ oK T k < n ∧ gK T k < n ∧ oK T k ≠ gK T k ∧ i ≠ oK T k ∧ i ≠ gK T k := by
  obtain ⟨⟨h1, h2⟩, hi, h3⟩ := (lq_iff ht hn).mp h
  have hk := (ht k h1).1
  obtain ⟨-, -, o, g, ho, hg, hog, eo, eg⟩ := hO.2.2.2 k hk
  obtain ⟨-, a1, a2⟩ := mayT_cnt h3
  rw [ldT_o (by decide)] at a1 a2
  unfold oK gK
  rw [eo] at a1 ⊢
  rw [eg] at a2 ⊢
  rw [nI_clamp (by omega), nI_clamp (by omega)]
  exact ⟨hk, hi, ho, hg, hog, fun e => a1 (by rw [e]), fun e => a2 (by rw [e])⟩
theorem rk_lt {o g i : Nat} (hi : i < 8) (ho : o < 8) (hg : g < 8) (h1 : i ≠ o) (h2 : i ≠ g) (h3 : o ≠ g) : rkN o g i < 6 := by
  simp only [rkN]; split <;> split <;> omega
theorem rk_le6 {o g i : Nat} (hi : i ≤ 8) (ho : o < 8) (hg : g < 8) (h3 : o ≠ g) : rkN o g i ≤ 6 := by
  simp only [rkN]; split <;> split <;> omega
theorem rk_mono {o g i j : Nat} (h1 : i ≠ o) (h2 : i ≠ g) (h3 : o ≠ g) (h4 : j ≠ o) (h5 : j ≠ g) : rkN o g i < rkN o g j ↔ i < j := by
  simp only [rkN]
  by_cases a : o < i <;> by_cases b : g < i <;> by_cases c : o < j <;> by_cases d : g < j <;> simp only [a, b, c, d, if_true, if_false] <;> omega
theorem rk_inj {o g i j : Nat} (h1 : i ≠ o) (h2 : i ≠ g) (h3 : o ≠ g) (h4 : j ≠ o) (h5 : j ≠ g) (e : rkN o g i = rkN o g j) : i = j := by
  have a := rk_mono h1 h2 h3 h4 h5
  have b := rk_mono h4 h5 h3 h1 h2
  omega
theorem rk_S {o g i : Nat} (h1 : i ≠ o) (h2 : i ≠ g) (h3 : o ≠ g) : rkN o g (i + 1) = rkN o g i + 1 := by
  simp only [rkN]
  by_cases a : o < i <;> by_cases b : g < i <;> simp only [a, b, show (o < i + 1) = (o < i) from propext ⟨fun _ => by omega, fun _ => by omega⟩, show (g < i + 1) = (g < i) from propext ⟨fun _ => by omega, fun _ => by omega⟩, if_true, if_false] <;> omega
/-- a state's bits, counted -/
def pcS (S : SS) (t : Nat) : Nat := pcN (S.mk t) 10
theorem cd_iff {T : TT} {n m : Nat} {these : Int32} (ht : thOK T m these) (hn : n ≤ 8) (hO : OKS T n m) {S : SS} {s s' k i k' i' : Nat} (h : lq T n these S s k i = true) (h' : lq T n these S s' k' i' = true) : cdE T k i < cdE T k' i' ↔ 8 * k + i < 8 * k' + i' := by
  obtain ⟨a1, a2, a3, a4, a5, a6, a7⟩ := lq_og ht hn hO h
  obtain ⟨b1, b2, b3, b4, b5, b6, b7⟩ := lq_og ht hn hO h'
  unfold cdE
  have r1 := rk_lt (show i < 8 by omega) (show oK T k < 8 by omega) (show gK T k < 8 by omega) a6 a7 a5
  have r2 := rk_lt (show i' < 8 by omega) (show oK T k' < 8 by omega) (show gK T k' < 8 by omega) b6 b7 b5
  by_cases e : k = k'
  · subst e
    have := rk_mono a6 a7 a5 b6 b7
    omega
  · omega
theorem cd_inj {T : TT} {n m : Nat} {these : Int32} (ht : thOK T m these) (hn : n ≤ 8) (hO : OKS T n m) {S : SS} {s s' k i k' i' : Nat} (h : lq T n these S s k i = true) (h' : lq T n these S s' k' i' = true) (e : cdE T k i = cdE T k' i') : k = k' ∧ i = i' := by
  obtain ⟨a1, a2, a3, a4, a5, a6, a7⟩ := lq_og ht hn hO h
  obtain ⟨b1, b2, b3, b4, b5, b6, b7⟩ := lq_og ht hn hO h'
  unfold cdE at e
  have r1 := rk_lt (show i < 8 by omega) (show oK T k < 8 by omega) (show gK T k < 8 by omega) a6 a7 a5
  have r2 := rk_lt (show i' < 8 by omega) (show oK T k' < 8 by omega) (show gK T k' < 8 by omega) b6 b7 b5
  obtain rfl : k = k' := by omega
  exact ⟨rfl, rk_inj a6 a7 a5 b6 b7 (by omega)⟩
theorem cd_60 {T : TT} {n m : Nat} {these : Int32} (ht : thOK T m these) (hn : n ≤ 8) (hm : m ≤ 10) (hO : OKS T n m) {S : SS} {s k i : Nat} (h : lq T n these S s k i = true) : cdE T k i < 60 := by
  obtain ⟨a1, a2, a3, a4, a5, a6, a7⟩ := lq_og ht hn hO h
  have r1 := rk_lt (show i < 8 by omega) (show oK T k < 8 by omega) (show gK T k < 8 by omega) a6 a7 a5
  unfold cdE; omega
/-! sums -/
theorem nsm_congr {f g : Nat → Nat} : ∀ {n : Nat}, (∀ k, k < n → f k = g k) → nsm f n = nsm g n
  | 0, _ => rfl
  | n + 1, h => by simp only [nsm]; rw [nsm_congr (n := n) (fun k hk => h k (by omega)), h n (by omega)]
theorem nsm_mono {f g : Nat → Nat} : ∀ {n : Nat}, (∀ k, k < n → f k ≤ g k) → nsm f n ≤ nsm g n
  | 0, _ => Nat.le_refl _
  | n + 1, h => by
    simp only [nsm]
    have := nsm_mono (n := n) (fun k hk => h k (by omega))
    have := h n (by omega)
    omega
theorem nsm_one {f g : Nat → Nat} {t : Nat} : ∀ {n : Nat}, t < n → (∀ k, k < n → k ≠ t → g k = f k) → nsm g n + f t = nsm f n + g t
  | 0, h, _ => absurd h (Nat.not_lt_zero _)
  | n + 1, h, hk => by
    simp only [nsm]
    by_cases q : t = n
    · subst q
      rw [nsm_congr (f := g) (g := f) (n := t) (fun k h1 => hk k (by omega) (by omega))]
      omega
    · have := nsm_one (n := n) (by omega) (fun k h1 h2 => hk k (by omega) h2)
      rw [hk n (by omega) (fun e => q e.symm)]
      omega
theorem nsm_ge {f : Nat → Nat} {t : Nat} : ∀ {n : Nat}, t < n → f t ≤ nsm f n
  | 0, h => absurd h (Nat.not_lt_zero _)
  | n + 1, h => by
    simp only [nsm]
    by_cases q : t = n
    · subst q; omega
    · have := nsm_ge (f := f) (n := n) (show t < n by omega); omega
/-- what a state still leads to, at most -/
def phi (these : Int32) (S : SS) (W : Nat → Nat) (s C t : Nat) : Nat :=
  if S.mk t = these ∨ s < t then W t * 60 ^ (10 - pcS S t) else if t = s then (if pcS S t < 10 then W t * ((60 - C) * 60 ^ (9 - pcS S t)) else 0) else 0
theorem phi_C {these : Int32} {S : SS} {W : Nat → Nat} {s C C' t : Nat} (h : C ≤ C') : phi these S W s C' t ≤ phi these S W s C t := by
  unfold phi
  split
  · exact Nat.le_refl _
  · split
    · split
      · exact Nat.mul_le_mul_left _ (Nat.mul_le_mul_right _ (by omega))
      · exact Nat.le_refl _
    · exact Nat.le_refl _
/-- asks -/
def AOK (T : TT) (n : Nat) : Prop := ∀ i, i < n → (0 ≤ (T 1 i).toInt ∧ (T 1 i).toInt ≤ 99) ∧ (T 2 i = 0 ∨ T 2 i = 1)
theorem pr_tab : ∀ v, v < 100 → ∀ a, a < 100 → 0 ≤ (nI v + nI v * nI a / 100).toInt ∧ (nI v + nI v * nI a / 100).toInt ≤ 197 := by decide +kernel
theorem i_nI {x : Int32} (h : 0 ≤ x.toInt) : x = nI x.toNatClampNeg ∧ x.toNatClampNeg < 2 ^ 31 := by
  obtain ⟨v, hv, e⟩ := nI_of (x := x) (fun q => by have := Int32.lt_iff_toInt_lt.mp q; rw [i_0] at this; omega)
  rw [e, nI_clamp hv]; exact ⟨rfl, hv⟩
theorem prT_le {T : TT} {n m i k : Nat} (hO : OKS T n m) (hA : AOK T n) (hi : i < n) (hk : k < m) : 0 ≤ (prT T i k).toInt ∧ (prT T i k).toInt ≤ 197 := by
  unfold prT
  split
  · decide
  · obtain ⟨⟨s1, s2⟩, -⟩ := hO.2.2.2 k hk
    obtain ⟨⟨a1, a2⟩, -⟩ := hA i hi
    obtain ⟨e1, l1⟩ := i_nI (x := T 8 k) (by omega)
    obtain ⟨e2, l2⟩ := i_nI (x := T 1 i) (by omega)
    rw [e1, nI_toInt l1] at s2
    rw [e2, nI_toInt l2] at a2
    rw [e1, e2]
    exact pr_tab _ (by omega) _ (by omega)
