
theorem srtd_uniq {D : Nat → Nat} : ∀ {l1 l2 : List Nat}, srtd D l1 → srtd D l2 → (∀ k, k ∈ l1 ↔ k ∈ l2) → l1 = l2
  | [], [], _, _, _ => rfl
  | [], b :: l2, _, _, h => by have := (h b).mpr List.mem_cons_self; cases this
  | a :: l1, [], _, _, h => by have := (h a).mp List.mem_cons_self; cases this
  | a :: l1, b :: l2, h1, h2, h => by
    obtain ⟨p1, q1⟩ := List.pairwise_cons.mp h1
    obtain ⟨p2, q2⟩ := List.pairwise_cons.mp h2
    have hab : a = b := by
      rcases List.mem_cons.mp ((h a).mp List.mem_cons_self) with z | z
      · exact z
      · rcases List.mem_cons.mp ((h b).mpr List.mem_cons_self) with y | y
        · exact y.symm
        · have := p1 b y; have := p2 a z; omega
    subst hab
    congr 1
    refine srtd_uniq q1 q2 fun k => ?_
    constructor
    · intro hk
      rcases List.mem_cons.mp ((h k).mp (List.mem_cons_of_mem _ hk)) with z | z
      · subst z; have := p1 k hk; omega
      · exact z
    · intro hk
      rcases List.mem_cons.mp ((h k).mpr (List.mem_cons_of_mem _ hk)) with z | z
      · subst z; have := p2 k hk; omega
      · exact z
/-- DEBTS for which p holds, by when they are due, then by number -/
def dueLst (D : Nat → Nat) (p : Nat → Bool) (m : Nat) : List Nat := (List.range 100).flatMap fun v => (List.range m).filter fun d => p d && decide (D d = v)
theorem dueLst_mem {D : Nat → Nat} {p : Nat → Bool} {m : Nat} (h : ∀ k, k < m → D k ≤ 99) (k : Nat) : k ∈ dueLst D p m ↔ k < m ∧ p k = true := by
  simp only [dueLst, List.mem_flatMap, List.mem_range, List.mem_filter, Bool.and_eq_true, decide_eq_true_eq]
  constructor
  · rintro ⟨v, -, h1, h2, -⟩; exact ⟨h1, h2⟩
  · rintro ⟨h1, h2⟩; exact ⟨D k, by have := h k h1; omega, h1, h2, rfl⟩
theorem srtd_flat {D : Nat → Nat} {p : Nat → Bool} {m : Nat} (hm : m ≤ 16) : ∀ N, srtd D ((List.range N).flatMap fun v => (List.range m).filter fun d => p d && decide (D d = v))
  | 0 => List.Pairwise.nil
  | N + 1 => by
    rw [List.range_succ, List.flatMap_append]
    unfold srtd
    rw [List.pairwise_append]
    refine ⟨srtd_flat hm N, ?_, ?_⟩
    · simp only [List.flatMap_cons, List.flatMap_nil, List.append_nil]
      have h0 : (List.range m).Pairwise (fun a b => a < b) := List.pairwise_lt_range
      refine List.Pairwise.imp_of_mem ?_ (h0.filter _)
      intro a b ha hb hab
      simp only [List.mem_filter, Bool.and_eq_true, decide_eq_true_eq] at ha hb
      unfold dk
      rw [ha.2.2, hb.2.2]
      omega
    · intro a ha b hb
      simp only [List.flatMap_cons, List.flatMap_nil, List.append_nil, List.mem_filter, List.mem_flatMap, List.mem_range, Bool.and_eq_true, decide_eq_true_eq] at ha hb
      obtain ⟨v, hv, h1, h2, h3⟩ := ha
      unfold dk
      rw [h3, hb.2.2]
      omega
theorem dueLst_srtd {D : Nat → Nat} {p : Nat → Bool} {m : Nat} (hm : m ≤ 16) : srtd D (dueLst D p m) := srtd_flat hm 100
/-! what a day does to a town as it is seen -/
def thT (T : TT) (n m i k : Nat) (x : Int32) : Int32 :=
  if x = 0 then nI i else if x = 1 then T 0 i - T 3 i else if x = 2 then T 1 i else if x = 3 then T 8 k else if x = 4 then prT T i k
  else if x = 5 then fsum (fun j => T 12 (8 * j + i)) n else if x = 6 then fsum (fun j => if T 10 j = 0 ∧ T 6 j = nI i then T 8 j else 0) m
  else zI (anyB (fun j => decide (T 10 j = 0) && (decide (T 6 j = nI i) && decide (T 7 j = T 6 k))) m)
theorem thM_T {M : Mem} {t n m i k : Nat} {x : Int32} : thM M t n m i k x = thT (view M t) n m i k x := by
  simp only [thM, thT, priceM_T]
  rfl
def ruT (S : Nat → Int32) (z : Nat) (T : TT) (n m i k : Nat) : Int32 := wrX (thT T n m i k) S z
/-- who is WILLING: (who, for what) -/
def wilT (S : Nat → Int32) (z : Nat) (T : TT) (n m k : Nat) : Int32 × Int32 := chs (fun i => decide (T 10 k = 0) && mayT T n k i) (fun i => ruT S z T n m i k) n
def mkT (T : TT) (i k : Nat) : TT := fun c j =>
  if c = 0 then shT T i (T 7 k).toNatClampNeg (T 8 k) 0 j
  else if c = 12 ∧ j = 8 * (T 6 k).toNatClampNeg + i then T 12 j + prT T i k
  else if c = 10 ∧ j = k then 1 else if c = 11 ∧ j = k then nI i else T c j
def setT (T : TT) (c j : Nat) (x : Int32) : TT := fun c' j' => if c' = c ∧ j' = j then x else T c' j'
def setS (T : TT) (c : Nat) (x : Int32) : TT := fun c' j' => if c' = c then x else T c' j'
def noonT (T : TT) (n : Nat) : TT := fun c j => if c = 4 ∧ j < n then T 0 j - T 3 j else T c j
/-- a town in its days: PAYMENTS, PRICES, SUMS, what LAPSED -/
abbrev DS : Type := TT × Int32 × Int32 × Int32 × Int32
def goT (S : Nat → Int32) (z n m : Nat) (s : DS) (k : Nat) : DS :=
  let w := (wilT S z s.1 n m k).1
  if 0 ≤ w then (mkT s.1 w.toNatClampNeg k, s.2.1 + 1, s.2.2.1 + prT s.1 w.toNatClampNeg k, s.2.2.2.1 + s.1 8 k, s.2.2.2.2)
  else if s.1 9 k + s.1 14 3 ≤ s.1 18 0 then (setT s.1 10 k 2, s.2.1, s.2.2.1, s.2.2.2.1, s.2.2.2.2 ||| bit k)
  else s
def dueOf (T : TT) (m : Nat) : List Nat := dueLst (fun k => (T 9 k).toNatClampNeg) (fun k => decide (T 10 k = 0) && decide (T 9 k ≤ T 18 0)) m
def dayT (S : Nat → Int32) (z n m : Nat) (s : DS) : DS :=
  let s1 : DS := (noonT s.1 n, s.2)
  let s2 := (dueOf s1.1 m).foldl (goT S z n m) s1
  (setS s2.1 18 (s2.1 18 0 + 1), s2.2)
def daysT (S : Nat → Int32) (z n m : Nat) (s : DS) : Nat → DS
  | 0 => s
  | d + 1 => dayT S z n m (daysT S z n m s d)
/-! the same where it's seen alike -/
def alk (T T' : TT) : Prop := ∀ c, c ≠ 5 → c < 20 → T' c = T c
theorem alk.refl {T : TT} : alk T T := fun _ _ _ => rfl
theorem alk.symm {T T' : TT} (h : alk T T') : alk T' T := fun c h5 h20 => (h c h5 h20).symm
theorem alk.trans {T T' T'' : TT} (h : alk T T') (h2 : alk T' T'') : alk T T'' := fun c h5 h20 => (h2 c h5 h20).trans (h c h5 h20)
theorem thT_alk {T T' : TT} {n m i k : Nat} (h : alk T T') : thT T' n m i k = thT T n m i k := by
  funext x
  simp only [thT, prT, h 0 (by omega) (by omega), h 1 (by omega) (by omega), h 2 (by omega) (by omega), h 3 (by omega) (by omega), h 6 (by omega) (by omega), h 7 (by omega) (by omega), h 8 (by omega) (by omega), h 10 (by omega) (by omega), h 12 (by omega) (by omega)]
theorem wilT_alk {S : Nat → Int32} {z : Nat} {T T' : TT} {n m k : Nat} (h : alk T T') : wilT S z T' n m k = wilT S z T n m k := by
  simp only [wilT, ruT, h 10 (by omega) (by omega)]
  congr 1
  · funext i; rw [mayT_same h]
  · funext i; rw [thT_alk h]
theorem chs_congr {p q : Nat → Bool} {v u : Nat → Int32} : ∀ {n : Nat}, (∀ i, i < n → p i = q i ∧ v i = u i) → chs p v n = chs q u n
  | 0, _ => rfl
  | n + 1, h => by
    simp only [chs, chs_congr (n := n) (fun i hi => h i (by omega)), (h n (by omega)).1, (h n (by omega)).2]
/-- chosen's answer as it is seen -/
theorem chs_T {M : Mem} {t n m k z : Nat} (w : TW M t n m) (hk : k < m) : chs (chP M t n k) (fun i => ruM M t n m i k z) n = wilT (M.1 8) z (view M t) n m k := by
  unfold wilT
  refine chs_congr fun i hi => ⟨?_, ?_⟩
  · simp only [chP, mayL_T w hk hi]; rfl
  · simp only [ruM, ruT]
    rw [show thM M t n m i k = thT (view M t) n m i k from funext fun x => thM_T]
theorem chs_in {p : Nat → Bool} {v : Nat → Int32} : ∀ {n : Nat}, n < 2 ^ 31 → 0 ≤ (chs p v n).1 → ∃ i, i < n ∧ p i = true ∧ (chs p v n).1 = nI i ∧ (chs p v n).2 = v i
  | 0, _, h => absurd h (show ¬ (0 : Int32) ≤ -1 by decide)
  | n + 1, hn, h => by
    simp only [chs] at h ⊢
    split at h
    · next c => rw [if_pos c]; exact ⟨n, by omega, c.1, rfl, rfl⟩
    · next c =>
      rw [if_neg c]
      obtain ⟨i, h1, h2⟩ := chs_in (n := n) (by omega) h
      exact ⟨i, by omega, h2⟩
theorem chs_neg {p : Nat → Bool} {v : Nat → Int32} : ∀ {n : Nat}, n < 2 ^ 31 → ¬ 0 ≤ (chs p v n).1 → (chs p v n).1 = -1
  | 0, _, _ => rfl
  | n + 1, hn, h => by
    simp only [chs] at h ⊢
    split at h
    · exact absurd (nI_pos' (by omega)) h
    · next c => rw [if_neg c]; exact chs_neg (by omega) h
/-! what stays true of the numbers -/
def isum (f : Nat → Int) : Nat → Int
  | 0 => 0
  | n + 1 => isum f n + f n
theorem isum_congr {f g : Nat → Int} : ∀ {n : Nat}, (∀ k, k < n → f k = g k) → isum f n = isum g n
  | 0, _ => rfl
  | n + 1, h => by simp only [isum]; rw [isum_congr (n := n) (fun k hk => h k (by omega)), h n (by omega)]
theorem isum_put {f g : Nat → Int} {i : Nat} : ∀ {n : Nat}, i < n → (∀ k, k ≠ i → g k = f k) → isum g n = isum f n - f i + g i
  | n + 1, hi, h => by
    simp only [isum]
    by_cases hin : i = n
    · subst hin
      rw [isum_congr (f := g) (g := f) (fun k hk => h k (by omega))]
      omega
    · rw [isum_put (n := n) (by omega) h, h n (fun q => hin q.symm)]
      omega
theorem isum_le {f : Nat → Int} {i : Nat} : ∀ {n : Nat}, i < n → (∀ k, k < n → 0 ≤ f k) → f i ≤ isum f n
  | n + 1, hi, h => by
    simp only [isum]
    have hpos : ∀ l, l ≤ n → 0 ≤ isum f l := by
      intro l
      induction l with
      | zero => intro _; exact Int.le_refl _
      | succ l ih => intro hl; simp only [isum]; have := ih (by omega); have := h l (by omega); omega
    by_cases hin : i = n
    · subst hin; have := hpos i (Nat.le_refl _); omega
    · have := isum_le (n := n) (i := i) (by omega) (fun k hk => h k (by omega)); have := h n (by omega); omega
/-- a town's numbers: coin (hidden, at noon), BY, debts -/
def OKS (T : TT) (n m : Nat) : Prop :=
  (∀ i, i < n → 0 ≤ (T 3 i).toInt ∧ (T 3 i).toInt ≤ (T 0 i).toInt ∧ 0 ≤ (T 4 i).toInt ∧ (T 4 i).toInt ≤ 8000) ∧ isum (fun i => (T 0 i).toInt) n ≤ 8000 ∧ (0 ≤ (T 14 1).toInt ∧ (T 14 1).toInt ≤ 99) ∧
  ∀ k, k < m → (1 ≤ (T 8 k).toInt ∧ (T 8 k).toInt ≤ 99) ∧ (∃ d, T 9 k = nI d ∧ d ≤ 99) ∧ ∃ o g : Nat, o < n ∧ g < n ∧ o ≠ g ∧ T 6 k = nI o ∧ T 7 k = nI g
theorem OKS.le {T : TT} {n m i : Nat} (h : OKS T n m) (hi : i < n) : (T 0 i).toInt ≤ 8000 := by
  have := isum_le (f := fun i => (T 0 i).toInt) hi (fun k hk => by have := h.1 k hk; show 0 ≤ (T 0 k).toInt; omega)
  have := h.2.1
  omega
theorem OKS.T {T : TT} {n m : Nat} (h : OKS T n m) : OKT T n := ⟨fun i hi => by have := h.1 i hi; have := h.le hi; omega, h.2.2.1⟩
theorem OKS.alk {T T' : TT} {n m : Nat} (h : OKS T n m) (e : alk T T') : OKS T' n m := by
  unfold OKS
  rw [e 0 (by omega) (by omega), e 3 (by omega) (by omega), e 4 (by omega) (by omega), e 14 (by omega) (by omega), e 8 (by omega) (by omega), e 9 (by omega) (by omega), e 6 (by omega) (by omega), e 7 (by omega) (by omega)]
  exact h
theorem OKS.noon {T : TT} {n m : Nat} (h : OKS T n m) : OKS (noonT T n) n m := by
  refine ⟨fun i hi => ?_, ?_, ?_, ?_⟩
  · have h1 := h.1 i hi
    have h2 := h.le hi
    have e4 : noonT T n 4 i = T 0 i - T 3 i := if_pos ⟨rfl, hi⟩
    rw [e4, h.T.cnt hi]
    show 0 ≤ (T 3 i).toInt ∧ (T 3 i).toInt ≤ (T 0 i).toInt ∧ _
    omega
  · exact h.2.1
  · exact h.2.2.1
  · exact h.2.2.2
theorem OKS.lapse {T : TT} {n m k : Nat} {x : Int32} (h : OKS T n m) : OKS (setT T 10 k x) n m := h
theorem OKS.day {T : TT} {n m : Nat} {x : Int32} (h : OKS T n m) : OKS (setS T 18 x) n m := h
/-- coin moved keeps them -/
theorem OKS.sh {T T' : TT} {n m i g : Nat} {x : Int32} (h : OKS T n m) (hi : i < n) (hg : g < n) (hig : i ≠ g) (hx0 : 0 ≤ x.toInt) (hx : x ≤ T 0 i - T 3 i) (e0 : T' 0 = shT T i g x 0) (e : ∀ c, c = 3 ∨ c = 4 ∨ c = 14 ∨ c = 8 ∨ c = 9 ∨ c = 6 ∨ c = 7 → T' c = T c) : OKS T' n m := by
  rw [i_le, h.T.cnt hi] at hx
  have hgi : ¬ g = i := fun q => hig q.symm
  have b1 := h.1 i hi; have b2 := h.1 g hg; have b3 := h.le hi; have b4 := h.le hg
  have hsum : (T 0 i).toInt + (T 0 g).toInt ≤ 8000 := by
    have h1 := isum_put (f := fun j => (T 0 j).toInt) (g := fun j => if j = i then 0 else (T 0 j).toInt) (n := n) hi (fun k hk => if_neg hk)
    simp only [if_true] at h1
    have h2 := isum_le (f := fun j => if j = i then 0 else (T 0 j).toInt) hg (fun k hk => by have := h.1 k hk; show (0 : Int) ≤ if k = i then 0 else _; split <;> omega)
    rw [if_neg hgi] at h2
    have := h.2.1
    omega
  have ei : (T' 0 i).toInt = (T 0 i).toInt - x.toInt := by
    rw [e0]; simp only [shT, if_true, upd, if_neg hig]
    exact i_sub (by omega) (by omega)
  have eg : (T' 0 g).toInt = (T 0 g).toInt + x.toInt := by
    rw [e0]; simp only [shT, if_true, upd, if_neg hgi]
    exact i_add (by omega) (by omega)
  have ek : ∀ j, j ≠ i → j ≠ g → T' 0 j = T 0 j := fun j h1 h2 => by rw [e0]; simp only [shT, if_true, upd, if_neg h1, if_neg h2]
  refine ⟨fun j hj => ?_, ?_, ?_, ?_⟩
  · rw [e 3 (by omega), e 4 (by omega)]
    have := h.1 j hj
    by_cases j1 : j = i
    · subst j1; omega
    · by_cases j2 : j = g
      · subst j2; omega
      · rw [ek j j1 j2]; omega
  · have h1 := isum_put (f := fun j => (T 0 j).toInt) (g := fun j => if j = i then (T' 0 i).toInt else (T 0 j).toInt) (n := n) hi (fun k hk => if_neg hk)
    have h2 := isum_put (f := fun j => if j = i then (T' 0 i).toInt else (T 0 j).toInt) (g := fun j => (T' 0 j).toInt) (n := n) hg (fun k hk => by
      by_cases k1 : k = i
      · subst k1; simp
      · simp [k1, ek k k1 hk])
    simp only [if_true, if_neg hgi] at h1 h2
    have := h.2.1
    omega
  · rw [e 14 (by omega)]; exact h.2.2.1
  · rw [e 8 (by omega), e 9 (by omega), e 6 (by omega), e 7 (by omega)]; exact h.2.2.2
theorem mayT_cnt {T : TT} {n k i : Nat} (h : mayT T n k i = true) : T 8 k ≤ T 0 i - T 3 i ∧ ¬ nI i = T 6 k ∧ ¬ nI i = T 7 k := by
  simp only [mayT, Bool.and_eq_true, Bool.not_eq_true', decide_eq_true_eq, decide_eq_false_iff_not] at h
  exact ⟨h.2.1, h.1.1, h.1.2⟩
theorem OKS.mk {T : TT} {n m i k : Nat} (h : OKS T n m) (hi : i < n) (hn : n ≤ 8) (hk : k < m) (hmay : mayT T n k i = true) : OKS (mkT T i k) n m := by
  obtain ⟨hc, h6, h7⟩ := mayT_cnt hmay
  obtain ⟨⟨s1, s2⟩, -, o, g, ho, hg, hog, eo, eg⟩ := h.2.2.2 k hk
  have hig : i ≠ g := fun q => h7 (by rw [eg, q])
  refine h.sh (i := i) (g := g) (x := T 8 k) hi hg hig (by omega) hc ?_ ?_
  · funext j
    simp only [mkT, if_true, eg, nI_clamp (show g < 2 ^ 31 by omega)]
  · intro c hc
    funext j
    simp only [mkT]
    rw [if_neg (by omega), if_neg (by omega), if_neg (by omega), if_neg (by omega)]
