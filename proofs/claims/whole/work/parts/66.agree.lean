/-- two towns are alike in all that days need -/
def agD (T T' : TT) (n m : Nat) : Prop := agV T T' n m ∧ (∀ k, k < m → T' 11 k = T 11 k) ∧ (∀ i j, i < n → j < n → T' 12 (8 * i + j) = T 12 (8 * i + j)) ∧ T' 14 3 = T 14 3 ∧ T' 18 0 = T 18 0
theorem agD.refl {T : TT} {n m : Nat} : agD T T n m := ⟨agV.refl, fun _ _ => rfl, fun _ _ _ _ => rfl, rfl, rfl⟩
theorem agD.symm {T T' : TT} {n m : Nat} (h : agD T T' n m) : agD T' T n m := ⟨h.1.symm, fun k hk => (h.2.1 k hk).symm, fun i j hi hj => (h.2.2.1 i j hi hj).symm, h.2.2.2.1.symm, h.2.2.2.2.symm⟩
theorem agD.trans {T T' T'' : TT} {n m : Nat} (h : agD T T' n m) (g : agD T' T'' n m) : agD T T'' n m := ⟨h.1.trans g.1, fun k hk => (g.2.1 k hk).trans (h.2.1 k hk), fun i j hi hj => (g.2.2.1 i j hi hj).trans (h.2.2.1 i j hi hj), g.2.2.2.1.trans h.2.2.2.1, g.2.2.2.2.trans h.2.2.2.2⟩
theorem alk.agD {T T' : TT} {n m : Nat} (h : alk T T') : agD T T' n m := ⟨h.ag, fun k _ => congrFun (h 11 (by omega) (by omega)) k, fun i j _ _ => congrFun (h 12 (by omega) (by omega)) _, congrFun (h 14 (by omega) (by omega)) 3, congrFun (h 18 (by omega) (by omega)) 0⟩
theorem anyB_cg {p q : Nat → Bool} : ∀ {n : Nat}, (∀ k, k < n → p k = q k) → anyB p n = anyB q n := anyB_congr
theorem thT_ag {T T' : TT} {n m i k : Nat} (h : agD T T' n m) (hi : i < n) (hk : k < m) {x : Int32} : thT T' n m i k x = thT T n m i k x := by
  obtain ⟨a0, a1, a2, a3, a4⟩ := h.1.1 i hi
  obtain ⟨b6, b7, b8, b9, b10⟩ := h.1.2.1 k hk
  simp only [thT, a0, a1, a3, b8, b6, prT_ag h.1 hk hi]
  rw [fsum_congr (f := fun j => T' 12 (8 * j + i)) (g := fun j => T 12 (8 * j + i)) (fun j hj => h.2.2.1 j i hj hi)]
  rw [fsum_congr (f := fun j => if T' 10 j = 0 ∧ T' 6 j = nI i then T' 8 j else 0) (g := fun j => if T 10 j = 0 ∧ T 6 j = nI i then T 8 j else 0) (fun j hj => by rw [(h.1.2.1 j hj).1, (h.1.2.1 j hj).2.2.1, (h.1.2.1 j hj).2.2.2.2])]
  rw [anyB_cg (p := fun j => decide (T' 10 j = 0) && (decide (T' 6 j = nI i) && decide (T' 7 j = T 6 k))) (q := fun j => decide (T 10 j = 0) && (decide (T 6 j = nI i) && decide (T 7 j = T 6 k))) (fun j hj => by simp only [(h.1.2.1 j hj).1, (h.1.2.1 j hj).2.1, (h.1.2.1 j hj).2.2.2.2])]
theorem ruT_ag {S : Nat → Int32} {z : Nat} {T T' : TT} {n m i k : Nat} (h : agD T T' n m) (hi : i < n) (hk : k < m) : ruT S z T' n m i k = ruT S z T n m i k := by
  unfold ruT
  rw [show thT T' n m i k = thT T n m i k from funext fun x => thT_ag h hi hk]
theorem wilT_ag {S : Nat → Int32} {z : Nat} {T T' : TT} {n m k : Nat} (h : agD T T' n m) (hO : OKS T n m) (hn : n ≤ 8) (hk : k < m) : wilT S z T' n m k = wilT S z T n m k :=
  chs_congr fun i hi => ⟨by simp only [(h.1.2.1 k hk).2.2.2.2, mayT_ag h.1 hO hn hk hi], ruT_ag h hi hk⟩
theorem mk_10 {T : TT} {i k j : Nat} : mkT T i k 10 j = if j = k then 1 else T 10 j := by simp [mkT]
theorem mk_11 {T : TT} {i k j : Nat} : mkT T i k 11 j = if j = k then nI i else T 11 j := by simp [mkT]
theorem mk_12 {T : TT} {i k j : Nat} : mkT T i k 12 j = if j = 8 * (T 6 k).toNatClampNeg + i then T 12 j + prT T i k else T 12 j := by simp [mkT]
theorem agD.mk {T T' : TT} {n m i k : Nat} (h : agD T T' n m) (hO : OKS T n m) (hn : n ≤ 8) (hi : i < n) (hk : k < m) : agD (mkT T i k) (mkT T' i k) n m := by
  obtain ⟨b6, b7, b8, b9, b10⟩ := h.1.2.1 k hk
  obtain ⟨-, -, o, g, ho, hg, hog, eo, eg⟩ := hO.2.2.2 k hk
  have co : (T 6 k).toNatClampNeg = o := by rw [eo, nI_clamp (by omega)]
  have cg : (T 7 k).toNatClampNeg = g := by rw [eg, nI_clamp (by omega)]
  have e0 : ∀ j, j < n → shT T' i g (T 8 k) 0 j = shT T i g (T 8 k) 0 j := fun j hj => by
    simp only [shT, if_true, upd]
    rw [(h.1.1 j hj).1, (h.1.1 i hi).1, (h.1.1 g hg).1]
  have ec : ∀ c j, c ≠ 0 → c ≠ 12 → c ≠ 10 → c ≠ 11 → ∀ T0 : TT, mkT T0 i k c j = T0 c j := fun c j h0 h1 h2 h3 T0 => by
    simp only [mkT]; rw [if_neg h0, if_neg (fun q => h1 q.1), if_neg (fun q => h2 q.1), if_neg (fun q => h3 q.1)]
  refine ⟨⟨fun j hj => ⟨?_, ?_, ?_, ?_, ?_⟩, fun j hj => ⟨?_, ?_, ?_, ?_, ?_⟩, ?_, ?_, ?_⟩, fun j hj => ?_, fun a b ha hb => ?_, ?_, ?_⟩
  · simp only [mkT, if_true, b7, b8, cg]; exact e0 j hj
  · rw [ec 1 j (by omega) (by omega) (by omega) (by omega), ec 1 j (by omega) (by omega) (by omega) (by omega)]; exact (h.1.1 j hj).2.1
  · rw [ec 2 j (by omega) (by omega) (by omega) (by omega), ec 2 j (by omega) (by omega) (by omega) (by omega)]; exact (h.1.1 j hj).2.2.1
  · rw [ec 3 j (by omega) (by omega) (by omega) (by omega), ec 3 j (by omega) (by omega) (by omega) (by omega)]; exact (h.1.1 j hj).2.2.2.1
  · rw [ec 4 j (by omega) (by omega) (by omega) (by omega), ec 4 j (by omega) (by omega) (by omega) (by omega)]; exact (h.1.1 j hj).2.2.2.2
  · rw [ec 6 j (by omega) (by omega) (by omega) (by omega), ec 6 j (by omega) (by omega) (by omega) (by omega)]; exact (h.1.2.1 j hj).1
  · rw [ec 7 j (by omega) (by omega) (by omega) (by omega), ec 7 j (by omega) (by omega) (by omega) (by omega)]; exact (h.1.2.1 j hj).2.1
  · rw [ec 8 j (by omega) (by omega) (by omega) (by omega), ec 8 j (by omega) (by omega) (by omega) (by omega)]; exact (h.1.2.1 j hj).2.2.1
  · rw [ec 9 j (by omega) (by omega) (by omega) (by omega), ec 9 j (by omega) (by omega) (by omega) (by omega)]; exact (h.1.2.1 j hj).2.2.2.1
  · rw [mk_10, mk_10, (h.1.2.1 j hj).2.2.2.2]
  · rw [ec 14 0 (by omega) (by omega) (by omega) (by omega), ec 14 0 (by omega) (by omega) (by omega) (by omega)]; exact h.1.2.2.1
  · rw [ec 14 1 (by omega) (by omega) (by omega) (by omega), ec 14 1 (by omega) (by omega) (by omega) (by omega)]; exact h.1.2.2.2.1
  · rw [ec 14 2 (by omega) (by omega) (by omega) (by omega), ec 14 2 (by omega) (by omega) (by omega) (by omega)]; exact h.1.2.2.2.2
  · rw [mk_11, mk_11, h.2.1 j hj]
  · rw [mk_12, mk_12, b6, prT_ag h.1 hk hi, h.2.2.1 a b ha hb]
  · rw [ec 14 3 (by omega) (by omega) (by omega) (by omega), ec 14 3 (by omega) (by omega) (by omega) (by omega)]; exact h.2.2.2.1
  · rw [ec 18 0 (by omega) (by omega) (by omega) (by omega), ec 18 0 (by omega) (by omega) (by omega) (by omega)]; exact h.2.2.2.2
theorem agD.set10 {T T' : TT} {n m k : Nat} {x : Int32} (h : agD T T' n m) : agD (setT T 10 k x) (setT T' 10 k x) n m := by
  refine ⟨⟨fun j hj => h.1.1 j hj, fun j hj => ⟨(h.1.2.1 j hj).1, (h.1.2.1 j hj).2.1, (h.1.2.1 j hj).2.2.1, (h.1.2.1 j hj).2.2.2.1, ?_⟩, h.1.2.2⟩, h.2.1, h.2.2.1, h.2.2.2⟩
  simp only [setT]
  split
  · rfl
  · exact (h.1.2.1 j hj).2.2.2.2
theorem agD.day {T T' : TT} {n m : Nat} {x : Int32} (h : agD T T' n m) : agD (setS T 18 x) (setS T' 18 x) n m := ⟨⟨h.1.1, h.1.2.1, h.1.2.2⟩, h.2.1, h.2.2.1, h.2.2.2.1, rfl⟩
theorem agD.noon {T T' : TT} {n m : Nat} (h : agD T T' n m) : agD (noonT T n) (noonT T' n) n m := by
  refine ⟨⟨fun j hj => ⟨(h.1.1 j hj).1, (h.1.1 j hj).2.1, (h.1.1 j hj).2.2.1, (h.1.1 j hj).2.2.2.1, ?_⟩, h.1.2.1, h.1.2.2⟩, h.2.1, h.2.2.1, h.2.2.2⟩
  rw [show noonT T' n 4 j = T' 0 j - T' 3 j from if_pos ⟨rfl, hj⟩, show noonT T n 4 j = T 0 j - T 3 j from if_pos ⟨rfl, hj⟩, (h.1.1 j hj).1, (h.1.1 j hj).2.2.2.1]
/-- alike, and the same counted -/
def agS (s s' : DS) (n m : Nat) : Prop := agD s.1 s'.1 n m ∧ s'.2 = s.2
theorem agS.go {S : Nat → Int32} {z n m k : Nat} {s s' : DS} (h : agS s s' n m) (hO : OKS s.1 n m) (hn : n ≤ 8) (hk : k < m) : agS (goT S z n m s k) (goT S z n m s' k) n m := by
  obtain ⟨T, a, b, c, d⟩ := s
  obtain ⟨T', a', b', c', d'⟩ := s'
  obtain ⟨h1, h2⟩ := h
  simp only at h1 h2 hO
  obtain ⟨rfl, rfl, rfl, rfl⟩ := h2
  obtain ⟨b6, b7, b8, b9, b10⟩ := h1.1.2.1 k hk
  simp only [goT, wilT_ag (S := S) (z := z) h1 hO hn hk, b8, b9, h1.2.2.2.1, h1.2.2.2.2]
  split
  · next q =>
    obtain ⟨i, hi, hp, -⟩ := wil_in (S := S) (z := z) (T := T) (n := n) (m := m) (k := k) hn q
    rw [hp, nI_clamp (by omega)]
    exact ⟨h1.mk hO hn hi hk, by rw [prT_ag h1.1 hk hi]⟩
  · split
    · exact ⟨h1.set10, rfl⟩
    · exact ⟨h1, rfl⟩
theorem agS.fold {S : Nat → Int32} {z n m : Nat} (hn : n ≤ 8) : ∀ (l : List Nat) (s s' : DS), (∀ k ∈ l, k < m) → okD s.1 n m → agS s s' n m → agS (l.foldl (goT S z n m) s) (l.foldl (goT S z n m) s') n m
  | [], _, _, _, _, h => h
  | k :: l, s, s', hl, hO, h => agS.fold hn l _ _ (fun a ha => hl a (List.mem_cons_of_mem _ ha)) (hO.go hn (hl k List.mem_cons_self)) (h.go hO.1 hn (hl k List.mem_cons_self))
theorem dueOf_ag {T T' : TT} {n m : Nat} (h : agD T T' n m) : dueOf T' m = dueOf T m := by
  unfold dueOf dueLst
  congr 1
  funext v
  refine List.filter_congr fun d hd => ?_
  have hd := List.mem_range.mp hd
  simp only [(h.1.2.1 d hd).2.2.2.1, (h.1.2.1 d hd).2.2.2.2, h.2.2.2.2]
theorem agS.day {S : Nat → Int32} {z n m : Nat} {s s' : DS} (h : agS s s' n m) (hO : okD s.1 n m) (hn : n ≤ 8) : agS (dayT S z n m s) (dayT S z n m s') n m := by
  have h1 : agS (noonT s.1 n, s.2) (noonT s'.1 n, s'.2) n m := ⟨h.1.noon, h.2⟩
  have h2 := agS.fold (S := S) (z := z) hn (dueOf (noonT s.1 n) m) _ _ (dueOf_lt hO.noon.1) hO.noon h1
  unfold dayT
  simp only
  rw [dueOf_ag h.1.noon]
  refine ⟨?_, h2.2⟩
  simp only
  rw [h2.1.2.2.2.2]
  exact h2.1.day
theorem agS.days {S : Nat → Int32} {z n m : Nat} {s s' : DS} (h : agS s s' n m) (hO : okD s.1 n m) (hn : n ≤ 8) : ∀ e, agS (daysT S z n m s e) (daysT S z n m s' e) n m
  | 0 => h
  | e + 1 => (agS.days h hO hn e).day (hO.days hn e) hn
