
/-- a key by which DEBTS are sorted: when they are due, then their number -/
def dk (D : Nat → Nat) (k : Nat) : Nat := D k * 16 + k
def srtd (D : Nat → Nat) (l : List Nat) : Prop := l.Pairwise (fun a b => dk D a < dk D b)
/-- an int array holds a list -/
def holds (f : Nat → Int32) (l : List Nat) : Prop := ∀ j, j < l.length → f j = nI (l.getD j 0)
theorem srtd_ins {D : Nat → Nat} {l : List Nat} {i p : Nat} (h : srtd D l) (hi : ∀ a ∈ l, a < i) (hi16 : i < 16) (hp : p ≤ l.length) (h1 : ∀ j, j < p → D (l.getD j 0) ≤ D i) (h2 : ∀ j, p ≤ j → j < l.length → D i < D (l.getD j 0)) : srtd D (l.take p ++ i :: l.drop p) := by
  have hg : ∀ j, j < l.length → l.getD j 0 ∈ l := fun j hj => by
    rw [List.getD_eq_getElem?_getD, List.getElem?_eq_getElem hj]; exact List.getElem_mem hj
  have hs := h
  unfold srtd at h ⊢
  rw [← List.take_append_drop p l] at h
  rw [List.pairwise_append] at h ⊢
  refine ⟨h.1, List.pairwise_cons.mpr ⟨?_, h.2.1⟩, ?_⟩
  · intro a ha
    obtain ⟨j, hj, rfl⟩ := List.getElem_of_mem ha
    rw [List.length_drop] at hj
    have h3 := h2 (p + j) (by omega) (by omega)
    have e : (List.drop p l)[j] = l.getD (p + j) 0 := by simp [List.getD_eq_getElem?_getD, List.getElem?_eq_getElem (show p + j < l.length by omega)]
    rw [e]
    have := hi _ (hg (p + j) (by omega))
    unfold dk
    omega
  · intro a ha b hb
    obtain ⟨j, hj, rfl⟩ := List.getElem_of_mem ha
    rw [List.length_take] at hj
    have e : (List.take p l)[j]'(by rw [List.length_take]; exact hj) = l.getD j 0 := by simp [List.getD_eq_getElem?_getD, List.getElem?_eq_getElem (show j < l.length by omega)]
    rcases List.mem_cons.mp hb with q | q
    · rw [e, q]
      have h3 := h1 j (by omega)
      have := hi _ (hg j (by omega))
      unfold dk
      omega
    · exact h.2.2 _ ha _ q
theorem srtd_lt {D : Nat → Nat} {l : List Nat} (h : srtd D l) {a b : Nat} (hab : a < b) (hb : b < l.length) (h16 : ∀ x ∈ l, x < 16) : D (l.getD a 0) ≤ D (l.getD b 0) := by
  have h1 := List.pairwise_iff_getElem.mp h a b (by omega) hb hab
  have e1 : l.getD a 0 = l[a] := by simp [List.getD_eq_getElem?_getD, List.getElem?_eq_getElem (show a < l.length by omega)]
  have e2 : l.getD b 0 = l[b] := by simp [List.getD_eq_getElem?_getD, List.getElem?_eq_getElem hb]
  rw [e1, e2]
  have h2 := h16 _ (List.getElem_mem (show a < l.length by omega))
  have h3 := h16 _ (List.getElem_mem hb)
  unfold dk at h1
  omega
theorem getD_ins {l : List Nat} {p i j : Nat} (hp : p ≤ l.length) : (l.take p ++ i :: l.drop p).getD j 0 = if j < p then l.getD j 0 else if j = p then i else l.getD (j - 1) 0 := by
  simp only [List.getD_eq_getElem?_getD, List.getElem?_append, List.length_take, Nat.min_eq_left hp]
  by_cases h1 : j < p
  · rw [if_pos h1, if_pos h1, List.getElem?_take, if_pos h1]
  · rw [if_neg h1, if_neg h1]
    by_cases h2 : j = p
    · subst h2; simp
    · rw [if_neg h2]
      obtain ⟨q, rfl⟩ : ∃ q, j = p + q + 1 := ⟨j - p - 1, by omega⟩
      rw [show p + q + 1 - p = q + 1 by omega, List.getElem?_cons_succ, List.getElem?_drop, show p + q + 1 - 1 = p + q by omega]

set_option maxRecDepth 100000 in
set_option maxHeartbeats 4000000 in
theorem l_sort_in {t : Nat} (ht : isTown t) {M : Mem} {n m : Nat} (w : TW M t n m) {D : Nat → Nat} (hD : ∀ k, k < m → M.1 (t + 10) k = nI (D k) ∧ D k ≤ 99) {b : Int32} {l : List Nat} {i : Nat} {Q : Nat → List (Option Value) → List Value → Mem → Prop} (hi : i < m) (hl : l.length < 10) (hlm : ∀ a ∈ l, a < i) (hst : srtd D l) (K : ∀ (M1 : Mem) (p : Nat), p ≤ l.length → sameX M M1 (fun z => z = 18) → (∀ j, j < p → D (l.getD j 0) ≤ D i) → (∀ j, p ≤ j → j < l.length → D i < D (l.getD j 0)) → (∀ j, j < p → M1.1 18 j = nI (l.getD j 0)) → (∀ j, p ≤ j → j < l.length → M1.1 18 (j + 1) = nI (l.getD j 0)) → Reach cX0_sortDue RX0 6 3 Q 92 ([some (.ref 17), some (.ref t), some (.int b), some (.int (nI l.length)), some (.int (nI i)), some (.int (nI p))]) [] M1) : ∀ (N : Nat) (p : Nat) (M1 : Mem), (p ≤ l.length) → (sameX M M1 (fun z => z = 18)) → (∀ j, p ≤ j → j < l.length → D i < D (l.getD j 0)) → (∀ j, j < p → M1.1 18 j = nI (l.getD j 0)) → (∀ j, p ≤ j → j < l.length → M1.1 18 (j + 1) = nI (l.getD j 0)) → p < N → Reach cX0_sortDue RX0 6 3 (Q) 41 [some (.ref 17), some (.ref t), some (.int b), some (.int (nI l.length)), some (.int (nI i)), some (.int (nI p))] [] (M1) := by
  intro N
  induction N with
  | zero => intro p M1 hp hs h2 e1 e2 hm; exact absurd ‹_ < 0› (Nat.not_lt_zero _)
  | succ N ih =>
    intro p M1 hp hs h2 e1 e2 hm
    have ⟨hn, hn8, hm, hm10, hd⟩ := w
    have hge := town_ge ht
    have hv : ∀ a, a ≠ 18 → M1.1 a = M.1 a := fun a h => hs.1 a h
    refine rx_iload (i := 5) dX0_sortDue_41 rfl ?_
    refine rx_if_le (tgt := 92) dX0_sortDue_43 (by decide) (fun c43 => ?_) (fun c43 => ?_)
    · skip
      have f43 := Int32.not_lt.mpr c43
      have e43 : p = 0 := by
        have := (nI_leI (b := 0) (by omega) (by omega)).mp c43
        omega
      exact K M1 p hp hs (fun j hj => by omega) h2 e1 e2
    · skip
      have f43 := Int32.not_le.mp c43
      have e43 : 0 < p := by
        rcases Nat.eq_zero_or_pos p with q | q
        · subst q; exact absurd (by decide) c43
        · exact q
      have hq : l.getD (p - 1) 0 ∈ l := by rw [List.getD_eq_getElem?_getD, List.getElem?_eq_getElem (show p - 1 < l.length by omega)]; exact List.getElem_mem _
      have hqi := hlm _ hq
      refine rx_aload_n (i := 1) dX0_sortDue_46 rfl rfl ?_
      refine rx_getR (t + 10) (k := 9) fo_X0_53 (kt_0 ht) (by decide) ti_8_9 (by rintro ⟨-, h⟩; omega) (rt_T ht 9 _ (by omega)) dX0_sortDue_47 ?_
      refine rx_aload_n (i := 0) dX0_sortDue_50 rfl rfl ?_
      refine rx_getR 18 (k := 0) fo_X0_9 kl_17 (by decide) ti_0_0 (by decide) rfl dX0_sortDue_51 ?_
      refine rx_iload (i := 5) dX0_sortDue_54 rfl ?_
      refine rx_iconst (1) dX0_sortDue_56 rfl ?_
      refine rx_isub dX0_sortDue_57 ?_
      refine rx_top (nI (p - 1)) (nI_m 1 _ rfl (by omega)) ?_
      refine rx_ialdN kl_18 (by omega) (by first | decide | omega) dX0_sortDue_58 ?_
      refine rx_top (nI (l.getD (p - 1) 0)) (e1 (p - 1) (by omega)) ?_
      refine rx_ialdN (kt_10 ht) (by omega) (by first | decide | omega) dX0_sortDue_59 ?_
      refine rx_top (nI (D (l.getD (p - 1) 0))) (by rw [hv _ (by omega)]; exact (hD _ (by omega)).1) ?_
      refine rx_aload_n (i := 1) dX0_sortDue_60 rfl rfl ?_
      refine rx_getR (t + 10) (k := 9) fo_X0_53 (kt_0 ht) (by decide) ti_8_9 (by rintro ⟨-, h⟩; omega) (rt_T ht 9 _ (by omega)) dX0_sortDue_61 ?_
      refine rx_iload (i := 4) dX0_sortDue_64 rfl ?_
      refine rx_ialdN (kt_10 ht) (by omega) (by first | decide | omega) dX0_sortDue_66 ?_
      refine rx_top (nI (D i)) (by rw [hv _ (by omega)]; exact (hD _ hi).1) ?_
      have hDi := (hD i hi).2
      have hDq := (hD (l.getD (p - 1) 0) (by omega)).2
      refine rx_icmp_le (tgt := 92) dX0_sortDue_67 (by decide) (fun c67 => ?_) (fun c67 => ?_)
      · skip
        have f67 := Int32.not_lt.mpr c67
        have e67 := (nI_leI (by omega) (by omega)).mp c67
        exact K M1 p hp hs (fun j hj => by
          rcases Nat.lt_or_ge j (p - 1) with q | q
          · exact Nat.le_trans (srtd_lt hst q (by omega) (fun x hx => by have := hlm x hx; omega)) e67
          · obtain rfl : j = p - 1 := by omega
            exact e67) h2 e1 e2
      · skip
        have f67 := Int32.not_le.mp c67
        have e67 : D i < D (l.getD (p - 1) 0) := Nat.not_le.mp fun q => c67 (nI_le q (by omega))
        refine rx_aload_n (i := 0) dX0_sortDue_70 rfl rfl ?_
        refine rx_getR 18 (k := 0) fo_X0_9 kl_17 (by decide) ti_0_0 (by decide) rfl dX0_sortDue_71 ?_
        refine rx_iload (i := 5) dX0_sortDue_74 rfl ?_
        refine rx_aload_n (i := 0) dX0_sortDue_76 rfl rfl ?_
        refine rx_getR 18 (k := 0) fo_X0_9 kl_17 (by decide) ti_0_0 (by decide) rfl dX0_sortDue_77 ?_
        refine rx_iload (i := 5) dX0_sortDue_80 rfl ?_
        refine rx_iconst (1) dX0_sortDue_82 rfl ?_
        refine rx_isub dX0_sortDue_83 ?_
        refine rx_top (nI (p - 1)) (nI_m 1 _ rfl (by omega)) ?_
        refine rx_ialdN kl_18 (by omega) (by first | decide | omega) dX0_sortDue_84 ?_
        refine rx_top (nI (l.getD (p - 1) 0)) (e1 (p - 1) (by omega)) ?_
        refine rx_iastN kl_18 (by omega) (by first | decide | omega) dX0_sortDue_85 ?_
        refine rx_iincD (i := 5) (k := p) (by omega) dX0_sortDue_86 rfl (by decide) rfl rfl ?_
        refine rx_goto (tgt := 41) dX0_sortDue_89 (by decide) ?_
        exact ih (p - 1) _ (by omega) (hs.trans (sameX_I rfl)) (fun j h3 h4 => by
          rcases Nat.lt_or_ge j p with q | q
          · obtain rfl : j = p - 1 := by omega
            exact e67
          · exact h2 j q h4) (fun j hj => by rw [sI_ne (by omega)]; exact e1 j (by omega)) (fun j h3 h4 => by
          rcases Nat.lt_or_ge j p with q | q
          · obtain rfl : j = p - 1 := by omega
            rw [show p - 1 + 1 = p by omega, sI_eq]
          · rw [sI_ne (by omega)]; exact e2 j q h4) (by omega)
set_option maxRecDepth 100000 in
set_option maxHeartbeats 4000000 in
theorem l_sort_out {t : Nat} (ht : isTown t) {M : Mem} {n m : Nat} (w : TW M t n m) {D : Nat → Nat} (hD : ∀ k, k < m → M.1 (t + 10) k = nI (D k) ∧ D k ≤ 99) {b : Int32} : ∀ (N : Nat) (i : Nat) (l : List Nat) (M1 : Mem), (i ≤ m) → (sameX M M1 (fun z => z = 18)) → (srtd D l) → (l.length ≤ i) → (∀ k, k ∈ l ↔ k < i ∧ bt b k = true) → (holds (M1.1 18) l) → m - i < N → Reach cX0_sortDue RX0 6 3 (RetQ cX0_sortDue (some .int) (fun v N => sameX M N (fun z => z = 18) ∧ ∃ l : List Nat, v = some (.int (nI l.length)) ∧ l.length ≤ m ∧ srtd D l ∧ (∀ k, k ∈ l ↔ k < m ∧ bt b k = true) ∧ holds (N.1 18) l)) 14 [some (.ref 17), some (.ref t), some (.int b), some (.int (nI l.length)), some (.int (nI i)), none] [] (M1) := by
  intro N
  induction N with
  | zero => intro i l M1 hi hs hst hlen hmem hho hm; exact absurd ‹_ < 0› (Nat.not_lt_zero _)
  | succ N ih =>
    intro i l M1 hi hs hst hlen hmem hho hm
    have ⟨hn, hn8, hm, hm10, hd⟩ := w
    have hge := town_ge ht
    have hv : ∀ a, a ≠ 18 → M1.1 a = M.1 a := fun a h => hs.1 a h
    refine rx_iload (i := 4) dX0_sortDue_14 rfl ?_
    refine rx_aload_n (i := 1) dX0_sortDue_16 rfl rfl ?_
    refine rx_getI (k := 16) fo_X0_66 (kt_0 ht) (by decide) ti_8_16 dX0_sortDue_17 ?_
    refine rx_icmp_ge (tgt := 110) dX0_sortDue_20 (by decide) (fun c20 => ?_) (fun c20 => ?_)
    · skip
      have f20 := Int32.not_lt.mpr c20
      rw [hv _ (by omega), hm, nI_leI (by omega) (by omega)] at c20
      obtain rfl : i = m := by omega
      refine rx_iload_n (i := 3) dX0_sortDue_110 rfl rfl ?_
      exact rx_iret dX0_sortDue_111 ⟨hs, l, rfl, hlen, hst, hmem, hho⟩
    · skip
      have f20 := Int32.not_le.mp c20
      rw [hv _ (by omega), hm, nI_leI (by omega) (by omega)] at c20
      refine rx_iload_n (i := 2) dX0_sortDue_23 rfl rfl ?_
      refine rx_iconst (1) dX0_sortDue_24 rfl ?_
      refine rx_iload (i := 4) dX0_sortDue_25 rfl ?_
      refine rx_ishl dX0_sortDue_27 ?_
      refine rx_iand dX0_sortDue_28 ?_
      refine rx_if_eq (tgt := 104) dX0_sortDue_29 (by decide) (fun c29 => ?_) (fun c29 => ?_)
      · skip
        try have e29 := (and_bit _ (by omega)).mp c29
        first | refine rx_iincN (i := 4) dX0_sortDue_104 rfl (by decide) rfl rfl ?_ | refine rx_iinc (i := 4) dX0_sortDue_104 rfl rfl (by decide) rfl rfl ?_
        refine rx_goto (tgt := 14) dX0_sortDue_107 (by decide) ?_
        refine rx_drop 5 ?_
        exact ih (i + 1) l M1 (by omega) hs hst (by omega) (fun k => by
          rw [hmem k]
          constructor
          · exact fun q => ⟨by omega, q.2⟩
          · intro q
            refine ⟨?_, q.2⟩
            rcases Nat.lt_or_ge k i with z | z
            · exact z
            · obtain rfl : k = i := by omega
              rw [e29] at q; exact absurd q.2 (by decide)) hho (by omega)
      · skip
        try have e29 := (and_bitn _ (by omega)).mp c29
        refine rx_iload_n (i := 3) dX0_sortDue_32 rfl rfl ?_
        refine rx_bipush (10) dX0_sortDue_33 rfl ?_
        refine rx_icmp_ge (tgt := 104) dX0_sortDue_35 (by decide) (fun c35 => ?_) (fun c35 => ?_)
        · skip
          have f35 := Int32.not_lt.mpr c35
          exact absurd ((nI_leI (a := 10) (by omega) (by omega)).mp c35) (by omega)
        · skip
          have f35 := Int32.not_le.mp c35
          refine rx_iload_n (i := 3) dX0_sortDue_38 rfl rfl ?_
          refine rx_istore (i := 5) dX0_sortDue_39 (by decide) rfl rfl ?_
          refine l_sort_in ht w hD (by omega) (by omega) (fun a ha => ((hmem a).mp ha).1) hst (fun M2 p hp hs2 h1 h2 e1 e2 => ?_) (l.length + 1) l.length M1 (Nat.le_refl _) hs (fun j h3 h4 => by omega) hho (fun j h3 h4 => by omega) (by omega)
          have hv2 : ∀ a, a ≠ 18 → M2.1 a = M.1 a := fun a h => hs2.1 a h
          refine rx_aload_n (i := 0) dX0_sortDue_92 rfl rfl ?_
          refine rx_getR 18 (k := 0) fo_X0_9 kl_17 (by decide) ti_0_0 (by decide) rfl dX0_sortDue_93 ?_
          refine rx_iload (i := 5) dX0_sortDue_96 rfl ?_
          refine rx_iload (i := 4) dX0_sortDue_98 rfl ?_
          refine rx_iastN kl_18 (by omega) (by first | decide | omega) dX0_sortDue_100 ?_
          first | refine rx_iincN (i := 3) dX0_sortDue_101 rfl (by decide) rfl rfl ?_ | refine rx_iinc (i := 3) dX0_sortDue_101 rfl rfl (by decide) rfl rfl ?_
          first | refine rx_iincN (i := 4) dX0_sortDue_104 rfl (by decide) rfl rfl ?_ | refine rx_iinc (i := 4) dX0_sortDue_104 rfl rfl (by decide) rfl rfl ?_
          refine rx_goto (tgt := 14) dX0_sortDue_107 (by decide) ?_
          refine rx_drop 5 ?_
          have hlen2 : (l.take p ++ i :: l.drop p).length = l.length + 1 := by simp; omega
          refine rx_loc [some (.ref 17), some (.ref t), some (.int b), some (.int (nI (l.take p ++ i :: l.drop p).length)), some (.int (nI (i + 1))), none] (by rw [hlen2]; rfl) ?_
          exact ih (i + 1) (l.take p ++ i :: l.drop p) _ (by omega) (hs2.trans (sameX_I rfl)) (srtd_ins hst (fun a ha => ((hmem a).mp ha).1) (by omega) hp h1 h2) (by omega) (fun k => by
            have e : k ∈ l.take p ++ i :: l.drop p ↔ k = i ∨ k ∈ l := by
              rw [List.mem_append, List.mem_cons]
              constructor
              · rintro (q | q | q)
                · exact Or.inr (List.mem_of_mem_take q)
                · exact Or.inl q
                · exact Or.inr (List.mem_of_mem_drop q)
              · rintro (q | q)
                · exact Or.inr (Or.inl q)
                · rw [← List.take_append_drop p l] at q
                  rcases List.mem_append.mp q with z | z
                  · exact Or.inl z
                  · exact Or.inr (Or.inr z)
            rw [e, hmem k]
            constructor
            · rintro (rfl | q)
              · exact ⟨by omega, e29⟩
              · exact ⟨by omega, q.2⟩
            · rintro ⟨q1, q2⟩
              rcases Nat.lt_or_ge k i with z | z
              · exact Or.inr ⟨z, q2⟩
              · exact Or.inl (by omega)) (fun j hj => by
            rw [hlen2] at hj
            rw [getD_ins hp]
            by_cases j1 : j < p
            · rw [if_pos j1, sI_ne (by omega)]; exact e1 j j1
            · rw [if_neg j1]
              by_cases j2 : j = p
              · subst j2; rw [if_pos rfl, sI_eq]
              · rw [if_neg j2, sI_ne (by omega)]
                have := e2 (j - 1) (by omega) (by omega)
                rwa [show j - 1 + 1 = j by omega] at this) (by omega)
set_option maxRecDepth 100000 in
set_option maxHeartbeats 4000000 in
theorem c_X0_sortDue {t : Nat} (ht : isTown t) {M : Mem} {n m : Nat} (w : TW M t n m) {D : Nat → Nat} (hD : ∀ k, k < m → M.1 (t + 10) k = nI (D k) ∧ D k ≤ 99) : Con yX0_sortDue cX0_sortDue 6 (some .int) 3 [.ref 17, .ref t] M (fun v N => sameX M N (fun z => z = 18) ∧ ∃ l : List Nat, v = some (.int (nI l.length)) ∧ l.length ≤ m ∧ srtd D l ∧ (∀ k, k ∈ l ↔ k < m ∧ (decide (M.1 (t + 11) k = 0) && decide (M.1 (t + 10) k ≤ M.1 t 18)) = true) ∧ holds (N.1 18) l) := by
  refine Con.of (own := RX0) (ls := [some (.ref 17), some (.ref t), none, none, none, none]) rfl (by decide +kernel) (Nat.le_of_ble_eq_true rfl) rfl ?_
  refine rx_aload_n (i := 1) dX0_sortDue_0 rfl rfl ?_
  refine rx_aload_n (i := 1) dX0_sortDue_1 rfl rfl ?_
  refine rx_getI (k := 18) fo_X0_50 (kt_0 ht) (by decide) ti_8_18 dX0_sortDue_2 ?_
  refine rx_cvI (ci := 8) mo_X8_openDueBy lk_X0_62 (c_X8_openDueBy ht w) (by decide) rfl rfl (Nat.le_of_ble_eq_true rfl) (kt_0 ht) rfl dX0_sortDue_5 ?_
  refine rx_istore_n (i := 2) dX0_sortDue_8 rfl (by decide) rfl rfl ?_
  refine rx_iconst (0) dX0_sortDue_9 rfl ?_
  refine rx_istore_n (i := 3) dX0_sortDue_10 rfl (by decide) rfl rfl ?_
  refine rx_iconst (0) dX0_sortDue_11 rfl ?_
  refine rx_istore (i := 4) dX0_sortDue_12 (by decide) rfl rfl ?_
  refine (l_sort_out ht w hD (m + 1) 0 [] M (Nat.zero_le _) sameX.rfl' List.Pairwise.nil (Nat.le_refl _) (fun k => by simp) (fun j h => absurd h (Nat.not_lt_zero _)) (by omega)).mono ?_
  rintro pc' ls' st' N ⟨v, h1, ⟨h2, l, h3, h4, h5, h6, h7⟩, h8⟩
  refine ⟨v, h1, ⟨h2, l, h3, h4, h5, fun k => ?_, h7⟩, h8⟩
  rw [h6 k, b_fbor _ m (by have := w.2.2.2.1; omega)]
  simp
  
