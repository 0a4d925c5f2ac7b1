theorem mtn_b {S : Nat → Int32} {lim : Nat} (hl : lim < 2 ^ 31) : ∀ (f t o c : Nat) (its : List It) (s : PF), t ≤ 8 → o ≤ 10 → pOK lim s → t ≤ (mtn S lim f t o c its s).1 ∧ (mtn S lim f t o c its s).1 ≤ 8 ∧ o ≤ (mtn S lim f t o c its s).2.1 ∧ ((mtn S lim f t o c its s).2.2.2.2.2 = none → (mtn S lim f t o c its s).2.1 ≤ 10) ∧ pOK lim (mtn S lim f t o c its s).2.2.2.2
  | 0, t, o, c, its, s, ht, ho, hs => ⟨Nat.le_refl _, ht, Nat.le_refl _, fun _ => ho, hs⟩
  | f + 1, t, o, c, its, s, ht, ho, hs => by
    have gen : ∀ t' o' c' its' s', t' ≤ 8 → (s'.2 = none → o' ≤ 10) → pOK lim s' → t' ≤ (mtF S lim (mtn S lim f) t' o' c' its' s').1 ∧ (mtF S lim (mtn S lim f) t' o' c' its' s').1 ≤ 8 ∧ o' ≤ (mtF S lim (mtn S lim f) t' o' c' its' s').2.1 ∧ ((mtF S lim (mtn S lim f) t' o' c' its' s').2.2.2.2.2 = none → (mtF S lim (mtn S lim f) t' o' c' its' s').2.1 ≤ 10) ∧ pOK lim (mtF S lim (mtn S lim f) t' o' c' its' s').2.2.2.2 := by
      intro t' o' c' its' s' h1 h2 h3
      unfold mtF
      split
      · next q =>
        obtain ⟨p1, p2, p3⟩ := pass_t (by decide) q
        exact mtn_b hl f t' o' c' its' _ h1 (h2 p1) (pass_ok (by decide) h3)
      · next q =>
        have e : (passP S lim 59 s').2 = s' := by
          unfold passP at q ⊢
          split at q
          · exact absurd rfl q
          · next q2 => rw [if_neg q2]
        rw [e]
        exact ⟨Nat.le_refl _, h1, Nat.le_refl _, h2, h3⟩
    rw [mtn]
    have hsF := fault_ok (q := s.1) (by have := hs.1; omega) hs
    split
    · next q =>
      split
      · have h := gen t (o + 1) (c + 1) its _ ht (fun z => absurd z fault_nn) hsF
        exact ⟨h.1, h.2.1, by omega, h.2.2.2.1, h.2.2.2.2⟩
      · have h := gen t (o + 1) (c + 1) (its ++ [(mrd S lim t s).1]) (mrd S lim t s).2 ht (fun _ => by omega) (mrd_ok (S := S) hl (t := t) (s := s) ⟨kc_lt q (by decide), hs.2⟩)
        exact ⟨h.1, h.2.1, by omega, h.2.2.2.1, h.2.2.2.2⟩
    · split
      · exact gen t o (c + 1) its _ ht (fun z => absurd z fault_nn) hsF
      · have h := gen (t + 1) o (c + 1) (its ++ [(mrp S lim s).1]) (mrp S lim s).2 (by omega) (fun _ => ho) (mrp_ok hl hs)
        exact ⟨by omega, h.2.1, h.2.2.1, h.2.2.2.1, h.2.2.2.2⟩
theorem frQ.set {A B : Mem} {a j : Nat} {x : Int32} (h : frQ A B) : frQ (setI A a j x) (setI B a j x) := by
  refine ⟨fun b k q r => ?_, h.2⟩
  by_cases e : b = a ∧ k = j
  · rw [e.1, e.2, sI_eq, sI_eq]
  · rw [sI_ne e, sI_ne e]; exact h.1 b k q r
theorem frP.set {A B : Mem} {a j : Nat} {x : Int32} (h : frP A B) : frP (setI A a j x) (setI B a j x) := by
  refine ⟨fun b k q r => ?_, h.2⟩
  by_cases e : b = a ∧ k = j
  · rw [e.1, e.2, sI_eq, sI_eq]
  · rw [sI_ne e, sI_ne e]; exact h.1 b k q r
theorem frQ.ml {A B : Mem} {t o : Nat} {x : It} (h : frQ A B) : frQ (mlM A t o x) (mlM B t o x) := by
  unfold mlM; split
  · exact h.set.set.set.set
  · exact h.set.set.set
theorem frP.ml {A B : Mem} {t o : Nat} {x : It} (h : frP A B) : frP (mlM A t o x) (mlM B t o x) := by
  unfold mlM; split
  · exact h.set.set.set.set
  · exact h.set.set.set
theorem frQ.mit : ∀ {l : List It} {n m : Nat} {A B : Mem}, frQ A B → frQ (mitM l (A, n, m)).1 (mitM l (B, n, m)).1
  | [], _, _, _, _, h => h
  | x :: l, _, _, _, _, h => frQ.mit (l := l) h.ml
theorem frP.mit : ∀ {l : List It} {n m : Nat} {A B : Mem}, frP A B → frP (mitM l (A, n, m)).1 (mitM l (B, n, m)).1
  | [], _, _, _, _, h => h
  | x :: l, _, _, _, _, h => frP.mit (l := l) h.ml
/-- the new people, the new debts -/
def nnA (X : Mem) (n i : Nat) : Mem := (fun a j => if a = 144 ∧ n ≤ j ∧ j < i then 0 else if a = 145 ∧ n ≤ j ∧ j < i then X.1 141 j else X.1 a j, X.2)
def ooA (X : Mem) (m d : Nat) : Mem := (fun a j => if a = 151 ∧ m ≤ j ∧ j < d then 0 else if a = 152 ∧ m ≤ j ∧ j < d then -1 else X.1 a j, X.2)
theorem nn_0 {X : Mem} {n : Nat} : nnA X n n = X := by
  refine Prod.ext ?_ rfl
  funext a j
  show (if _ then _ else _) = _
  rw [if_neg (by omega), if_neg (by omega)]
theorem oo_0 {X : Mem} {n : Nat} : ooA X n n = X := by
  refine Prod.ext ?_ rfl
  funext a j
  show (if _ then _ else _) = _
  rw [if_neg (by omega), if_neg (by omega)]
theorem nn_o {X : Mem} {n i a j : Nat} (h : a ≠ 144) (h2 : a ≠ 145) : (nnA X n i).1 a j = X.1 a j := by
  show (if _ then _ else _) = _
  rw [if_neg (by omega), if_neg (by omega)]
theorem oo_o {X : Mem} {n i a j : Nat} (h : a ≠ 151) (h2 : a ≠ 152) : (ooA X n i).1 a j = X.1 a j := by
  show (if _ then _ else _) = _
  rw [if_neg (by omega), if_neg (by omega)]
theorem nn_s {X : Mem} {n i : Nat} (h : n ≤ i) : setI (setI (nnA X n i) 144 i 0) 145 i (X.1 141 i) = nnA X n (i + 1) := by
  refine Prod.ext ?_ rfl
  funext a j
  simp only [setI, nnA]
  by_cases h1 : a = 145 ∧ j = i
  · rw [if_pos h1, if_neg (by omega), if_pos (by omega), h1.2]
  · rw [if_neg h1]
    by_cases h2 : a = 144 ∧ j = i
    · rw [if_pos h2, if_pos (by omega)]
    · rw [if_neg h2]
      by_cases h3 : a = 144 ∧ n ≤ j ∧ j < i
      · rw [if_pos h3, if_pos (by omega)]
      · by_cases h4 : a = 145 ∧ n ≤ j ∧ j < i
        · rw [if_neg h3, if_pos h4, if_neg (by omega), if_pos (by omega)]
        · rw [if_neg h3, if_neg h4, if_neg (by omega), if_neg (by omega)]
theorem oo_s {X : Mem} {n i : Nat} (h : n ≤ i) : setI (setI (ooA X n i) 151 i 0) 152 i (-1) = ooA X n (i + 1) := by
  refine Prod.ext ?_ rfl
  funext a j
  simp only [setI, ooA]
  by_cases h1 : a = 152 ∧ j = i
  · rw [if_pos h1, if_neg (by omega), if_pos (by omega)]
  · rw [if_neg h1]
    by_cases h2 : a = 151 ∧ j = i
    · rw [if_pos h2, if_pos (by omega)]
    · rw [if_neg h2]
      by_cases h3 : a = 151 ∧ n ≤ j ∧ j < i
      · rw [if_pos h3, if_pos (by omega)]
      · by_cases h4 : a = 152 ∧ n ≤ j ∧ j < i
        · rw [if_neg h3, if_pos h4, if_neg (by omega), if_pos (by omega)]
        · rw [if_neg h3, if_neg h4, if_neg (by omega), if_neg (by omega)]
theorem frQ.nn {A B : Mem} {n i : Nat} (h : frQ A B) : frQ (nnA A n i) (nnA B n i) := by
  refine ⟨fun a j q r => ?_, h.2⟩
  show (if _ then _ else _) = (if _ then _ else _)
  by_cases h3 : a = 144 ∧ n ≤ j ∧ j < i
  · rw [if_pos h3, if_pos h3]
  · by_cases h4 : a = 145 ∧ n ≤ j ∧ j < i
    · rw [if_neg h3, if_pos h4, if_neg h3, if_pos h4]; exact h.1 141 j (by omega) (by omega)
    · rw [if_neg h3, if_neg h4, if_neg h3, if_neg h4]; exact h.1 a j q r
theorem frP.nn {A B : Mem} {n i : Nat} (h : frP A B) : frP (nnA A n i) (nnA B n i) := by
  refine ⟨fun a j q r => ?_, h.2⟩
  show (if _ then _ else _) = (if _ then _ else _)
  by_cases h3 : a = 144 ∧ n ≤ j ∧ j < i
  · rw [if_pos h3, if_pos h3]
  · by_cases h4 : a = 145 ∧ n ≤ j ∧ j < i
    · rw [if_neg h3, if_pos h4, if_neg h3, if_pos h4]; exact h.1 141 j (by omega) (by omega)
    · rw [if_neg h3, if_neg h4, if_neg h3, if_neg h4]; exact h.1 a j q r
theorem frQ.oo {A B : Mem} {n i : Nat} (h : frQ A B) : frQ (ooA A n i) (ooA B n i) := by
  refine ⟨fun a j q r => ?_, h.2⟩
  show (if _ then _ else _) = (if _ then _ else _)
  by_cases h3 : a = 151 ∧ n ≤ j ∧ j < i
  · rw [if_pos h3, if_pos h3]
  · by_cases h4 : a = 152 ∧ n ≤ j ∧ j < i
    · rw [if_neg h3, if_pos h4, if_neg h3, if_pos h4]
    · rw [if_neg h3, if_neg h4, if_neg h3, if_neg h4]; exact h.1 a j q r
theorem frP.oo {A B : Mem} {n i : Nat} (h : frP A B) : frP (ooA A n i) (ooA B n i) := by
  refine ⟨fun a j q r => ?_, h.2⟩
  show (if _ then _ else _) = (if _ then _ else _)
  by_cases h3 : a = 151 ∧ n ≤ j ∧ j < i
  · rw [if_pos h3, if_pos h3]
  · by_cases h4 : a = 152 ∧ n ≤ j ∧ j < i
    · rw [if_neg h3, if_pos h4, if_neg h3, if_pos h4]
    · rw [if_neg h3, if_neg h4, if_neg h3, if_neg h4]; exact h.1 a j q r
/-- lines told, with what goes with them -/
def fnM (X : Mem) (n m t o : Nat) : Mem := setI (setI (setI (setI (ooA (nnA X n t) m o) 140 0 (nI t)) 140 7 (nI o)) 140 55 (X.1 140 55 + 1)) 140 32 0
theorem frQ.fn {A B : Mem} {n m t o : Nat} (h : frQ A B) : frQ (fnM A n m t o) (fnM B n m t o) := by
  unfold fnM
  rw [h.1 140 55 (by omega) (by omega)]
  exact h.nn.oo.set.set.set.set
theorem frP.fn {A B : Mem} {n m t o : Nat} (h : frP A B) : frP (fnM A n m t o) (fnM B n m t o) := by
  unfold fnM
  rw [h.1 140 55 (by omega) (by omega)]
  exact h.nn.oo.set.set.set.set
/-- where the reading of a town of L signs ends -/
def tnE (L : Nat) (s : PF) : PF := if s.1 < L then faultP s.1 s else s
set_option maxRecDepth 100000 in
set_option maxHeartbeats 4000000 in
theorem l_town_a {Y : Mem} {s : PF} {n m t o c : Nat} (ht : t ≤ 8) {QQ : Nat → List (Option Value) → List Value → Mem → Prop} (K : Reach cX11_town RX11 6 4 QQ 210 [some (.ref 140), some (.int (nI t)), some (.int (nI o)), some (.int (nI c)), none, none] [] (rdm (nnA Y n t) s)) : ∀ (N : Nat) (i : Nat), (i ≤ t) → (n ≤ i) → t - i < N → Reach cX11_town RX11 6 4 (QQ) 176 [some (.ref 140), some (.int (nI t)), some (.int (nI o)), some (.int (nI c)), none, some (.int (nI i))] [] (rdm (nnA Y n i) s) := by
  intro N
  induction N with
  | zero => intro i hi hlo hm; exact absurd ‹_ < 0› (Nat.not_lt_zero _)
  | succ N ih =>
    intro i hi hlo hm
    refine rx_iload (i := 5) dX11_town_176 rfl ?_
    refine rx_iload_n (i := 1) dX11_town_178 rfl rfl ?_
    refine rx_icmp_ge (tgt := 210) dX11_town_179 (by decide) (fun c179 => ?_) (fun c179 => ?_)
    · skip
      have f179 := Int32.not_lt.mpr c179
      have e179 : i = t := by have := (nI_leI (by omega) (by omega)).mp c179; omega
      subst e179
      refine rx_drop 5 ?_
      exact K
    · skip
      have f179 := Int32.not_le.mp c179
      have e179 : i < t := Nat.lt_of_not_le fun q => c179 (nI_le q (by omega))
      refine rx_aload_n (i := 0) dX11_town_182 rfl rfl ?_
      refine rx_getR 144 (k := 4) fo_X11_20 kl_140 (by decide) ti_11_4 (by decide) rfl dX11_town_183 ?_
      refine rx_iload (i := 5) dX11_town_186 rfl ?_
      refine rx_iconst (0) dX11_town_188 rfl ?_
      refine rx_iastN kl_144 (by omega) (by first | decide | omega) dX11_town_189 ?_
      rw [rdm_set (by omega)]
      refine rx_aload_n (i := 0) dX11_town_190 rfl rfl ?_
      refine rx_getR 145 (k := 5) fo_X11_23 kl_140 (by decide) ti_11_5 (by decide) rfl dX11_town_191 ?_
      refine rx_iload (i := 5) dX11_town_194 rfl ?_
      refine rx_aload_n (i := 0) dX11_town_196 rfl rfl ?_
      refine rx_getR 141 (k := 1) fo_X11_9 kl_140 (by decide) ti_11_1 (by decide) rfl dX11_town_197 ?_
      refine rx_iload (i := 5) dX11_town_200 rfl ?_
      refine rx_ialdN kl_141 (by omega) (by first | decide | omega) dX11_town_202 ?_
      refine rx_top (Y.1 141 i) ((rdm_o (by omega)).trans ((sI_na (by omega)).trans (nn_o (by omega) (by omega)))) ?_
      refine rx_iastN kl_145 (by omega) (by first | decide | omega) dX11_town_203 ?_
      rw [rdm_set (by omega), nn_s (by omega)]
      first | refine rx_iincN (i := 5) dX11_town_204 rfl (by decide) rfl rfl ?_ | refine rx_iinc (i := 5) dX11_town_204 rfl rfl (by decide) rfl rfl ?_
      refine rx_goto (tgt := 176) dX11_town_207 (by decide) ?_
      exact ih (i + 1) (by omega) (by omega) (by omega)
set_option maxRecDepth 100000 in
set_option maxHeartbeats 4000000 in
theorem l_town_b {Y : Mem} {s : PF} {n m t o c : Nat} (ho : o ≤ 10) {QQ : Nat → List (Option Value) → List Value → Mem → Prop} (K : Reach cX11_town RX11 6 4 QQ 244 [some (.ref 140), some (.int (nI t)), some (.int (nI o)), some (.int (nI c)), none, none] [] (rdm (ooA Y m o) s)) : ∀ (N : Nat) (i : Nat), (i ≤ o) → (m ≤ i) → o - i < N → Reach cX11_town RX11 6 4 (QQ) 216 [some (.ref 140), some (.int (nI t)), some (.int (nI o)), some (.int (nI c)), none, some (.int (nI i))] [] (rdm (ooA Y m i) s) := by
  intro N
  induction N with
  | zero => intro i hi hlo hm; exact absurd ‹_ < 0› (Nat.not_lt_zero _)
  | succ N ih =>
    intro i hi hlo hm
    refine rx_iload (i := 5) dX11_town_216 rfl ?_
    refine rx_iload_n (i := 2) dX11_town_218 rfl rfl ?_
    refine rx_icmp_ge (tgt := 244) dX11_town_219 (by decide) (fun c219 => ?_) (fun c219 => ?_)
    · skip
      have f219 := Int32.not_lt.mpr c219
      have e219 : i = o := by have := (nI_leI (by omega) (by omega)).mp c219; omega
      subst e219
      refine rx_drop 5 ?_
      exact K
    · skip
      have f219 := Int32.not_le.mp c219
      have e219 : i < o := Nat.lt_of_not_le fun q => c219 (nI_le q (by omega))
      refine rx_aload_n (i := 0) dX11_town_222 rfl rfl ?_
      refine rx_getR 151 (k := 12) fo_X11_41 kl_140 (by decide) ti_11_12 (by decide) rfl dX11_town_223 ?_
      refine rx_iload (i := 5) dX11_town_226 rfl ?_
      refine rx_iconst (0) dX11_town_228 rfl ?_
      refine rx_iastN kl_151 (by omega) (by first | decide | omega) dX11_town_229 ?_
      rw [rdm_set (by omega)]
      refine rx_aload_n (i := 0) dX11_town_230 rfl rfl ?_
      refine rx_getR 152 (k := 13) fo_X11_44 kl_140 (by decide) ti_11_13 (by decide) rfl dX11_town_231 ?_
      refine rx_iload (i := 5) dX11_town_234 rfl ?_
      refine rx_iconst (-1) dX11_town_236 rfl ?_
      refine rx_iastN kl_152 (by omega) (by first | decide | omega) dX11_town_237 ?_
      rw [rdm_set (by omega), oo_s (by omega)]
      first | refine rx_iincN (i := 5) dX11_town_238 rfl (by decide) rfl rfl ?_ | refine rx_iinc (i := 5) dX11_town_238 rfl rfl (by decide) rfl rfl ?_
      refine rx_goto (tgt := 216) dX11_town_241 (by decide) ?_
      exact ih (i + 1) (by omega) (by omega) (by omega)
set_option maxRecDepth 100000 in
set_option maxHeartbeats 4000000 in
theorem c_X11_town {M : Mem} {n m L : Nat} (w : MW M n m) (h18 : M.1 140 18 = nI L) (hL80 : L ≤ 80) : Con yX11_town cX11_town 6 (some .int) 4 [.ref 140] M (fun v N => if L = 0 then v = some (.int 0) ∧ frP (setI M 140 18 0) N else match (tnE L (mtn (M.1 154) (min L 76) 81 n m 0 [] (0, none)).2.2.2.2).2 with | none => v = some (.int (nI (mtn (M.1 154) (min L 76) 81 n m 0 [] (0, none)).2.2.1)) ∧ frP (fnM (mitM (mtn (M.1 154) (min L 76) 81 n m 0 [] (0, none)).2.2.2.1 (setI M 140 18 0, n, m)).1 n m (mtn (M.1 154) (min L 76) 81 n m 0 [] (0, none)).1 (mtn (M.1 154) (min L 76) 81 n m 0 [] (0, none)).2.1) N | some q => v = some (.int (-1 - nI q)) ∧ frP (mitM (mtn (M.1 154) (min L 76) 81 n m 0 [] (0, none)).2.2.2.1 (setI M 140 18 0, n, m)).1 N) := by
  refine Con.of (own := RX11) (ls := [some (.ref 140), none, none, none, none, none]) rfl (by decide +kernel) (Nat.le_of_ble_eq_true rfl) rfl ?_
  have ⟨hn, hn8, hm, hm10, hd⟩ := w
  obtain ⟨K, hK⟩ : ∃ K, setI (bgM (setI M 140 21 0) 154 L 76) 140 18 0 = K := ⟨_, rfl⟩
  have eK : K = rdm K (0, none) := by
    rw [← hK]
    unfold bgM
    simp only [rdm_set (show ¬ (140 = 140 ∧ (18 = 25 ∨ 18 = 26)) by omega), rdm_rdm]
  have hF : frP (setI M 140 18 0) K := by
    rw [← hK]
    have h1 : frP M (bgM (setI M 140 21 0) 154 L 76) := frP_t0.trans bgM_fr.P
    exact h1.set
  have hRM : RM K 154 L 76 := by rw [← hK]; exact (bgM_RM (by omega) (by omega) (Or.inl rfl)).keep rfl (sI_ne (by omega)) (sI_ne (by omega))
  have eX : K.1 154 = M.1 154 := funext fun j => (hF.1 154 j (by omega) (by omega)).trans (sI_ne (by omega))
  have hl := Nat.min_le_right L 76
  have hl31 : min L 76 < 2 ^ 31 := by omega
  obtain ⟨R, hR⟩ : ∃ R, (mtn (M.1 154) (min L 76) 81 n m 0 [] (0, none)) = R := ⟨_, rfl⟩
  have hB := mtn_b (S := M.1 154) hl31 81 n m 0 [] (0, none) hn8 hm10 ⟨Nat.zero_le _, fun _ e => by cases e⟩
  rw [hR] at hB ⊢
  obtain ⟨t, o, c, its, s⟩ := R
  obtain ⟨b1, b2, b3, b4, b5⟩ := hB
  have b1 : n ≤ t := b1
  have b2 : t ≤ 8 := b2
  have b3 : m ≤ o := b3
  have b4 : s.2 = none → o ≤ 10 := b4
  have b5 : pOK (min L 76) s := b5
  have b51 := b5.1
  have hE : pOK (min L 76) (tnE L s) := by
    unfold tnE; split
    · exact fault_ok (by omega) b5
    · exact b5
  have hE2 : (tnE L s).2 = none → s.2 = none := by
    unfold tnE; split
    · exact fun z => absurd z fault_nn
    · exact id
  have hK0 : (mitM its (K, n, m)).1.1 140 0 = nI n := (mitM_o (by omega) _ _).trans ((hF.1 140 0 (by omega) (by omega)).trans ((sI_ne (by omega)).trans hn))
  have hK7 : (mitM its (K, n, m)).1.1 140 7 = nI m := (mitM_o (by omega) _ _).trans ((hF.1 140 7 (by omega) (by omega)).trans ((sI_ne (by omega)).trans hm))
  have hK23 : (mitM its (K, n, m)).1.1 140 23 = nI L := (mitM_o (by omega) _ _).trans hRM.2.1
  refine rx_aload_n (i := 0) dX11_town_0 rfl rfl ?_
  refine rx_iconst (0) dX11_town_1 rfl ?_
  refine rx_putI (k := 21) fo_X11_126 fn_11_21 kl_140 (by decide) ty_11_21 dX11_town_2 ?_
  refine rx_aload_n (i := 0) dX11_town_5 rfl rfl ?_
  refine rx_aload_n (i := 0) dX11_town_6 rfl rfl ?_
  refine rx_getR 154 (k := 17) fo_X11_54 kl_140 (by decide) ti_11_17 (by decide) rfl dX11_town_7 ?_
  refine rx_aload_n (i := 0) dX11_town_10 rfl rfl ?_
  refine rx_getI (k := 18) fo_X11_146 kl_140 (by decide) ti_11_18 dX11_town_11 ?_
  refine rx_top (nI L) ((sI_ne (by omega)).trans h18) ?_
  refine rx_bipush (76) dX11_town_14 rfl ?_
  refine rx_cvN (ci := 11) mo_X11_begin lk_X11_184 (c_X11_begin (a := 154) (L := L) (tp := 76) (Or.inl rfl)) (by decide) rfl rfl (Nat.le_of_ble_eq_true rfl) kl_140 rfl dX11_town_16 ?_
  refine rx_aload_n (i := 0) dX11_town_19 rfl rfl ?_
  refine rx_iconst (0) dX11_town_20 rfl ?_
  refine rx_putI (k := 18) fo_X11_146 fn_11_18 kl_140 (by decide) ty_11_18 dX11_town_21 ?_
  rw [hK]
  refine rx_aload_n (i := 0) dX11_town_24 rfl rfl ?_
  refine rx_getI (k := 23) fo_X11_152 kl_140 (by decide) ti_11_23 dX11_town_25 ?_
  refine rx_top (nI L) (hRM.2.1) ?_
  refine rx_if_ne (tgt := 33) dX11_town_28 (by decide) (fun c28 => ?_) (fun c28 => ?_)
  · skip
    have e28 : ¬ L = 0 := fun q => c28 (by rw [q]; rfl)
    refine rx_aload_n (i := 0) dX11_town_33 rfl rfl ?_
    refine rx_getI (k := 0) fo_X11_132 kl_140 (by decide) ti_11_0 dX11_town_34 ?_
    refine rx_top (nI n) ((hF.1 140 0 (by omega) (by omega)).trans ((sI_ne (by omega)).trans hn)) ?_
    refine rx_istore_n (i := 1) dX11_town_37 rfl (by decide) rfl rfl ?_
    refine rx_aload_n (i := 0) dX11_town_38 rfl rfl ?_
    refine rx_getI (k := 7) fo_X11_139 kl_140 (by decide) ti_11_7 dX11_town_39 ?_
    refine rx_top (nI m) ((hF.1 140 7 (by omega) (by omega)).trans ((sI_ne (by omega)).trans hm)) ?_
    refine rx_istore_n (i := 2) dX11_town_42 rfl (by decide) rfl rfl ?_
    refine rx_iconst (0) dX11_town_43 rfl ?_
    refine rx_istore_n (i := 3) dX11_town_44 rfl (by decide) rfl rfl ?_
    refine rx_iconst (1) dX11_town_45 rfl ?_
    refine rx_istore (i := 4) dX11_town_46 (by decide) rfl rfl ?_
    rw [eK]
    refine l_X11_town (M0 := K) (n := n) (m := m) (R := (t, o, c, its, s)) hRM ?_ 82 81 true n m 0 [] (0, none) (by rw [eX]; exact hR) ⟨Nat.zero_le _, fun _ e => by cases e⟩ hn8 rfl (fun _ => ⟨rfl, by show min L 76 - 0 < 81; omega, hm10, rfl⟩) (by omega)
    dsimp only
    refine rx_aload_n (i := 0) dX11_town_137 rfl rfl ?_
    refine rx_getI (k := 25) fo_X11_158 kl_140 (by decide) ti_11_25 dX11_town_138 ?_
    refine rx_top (nI s.1) (rdm_25) ?_
    refine rx_aload_n (i := 0) dX11_town_141 rfl rfl ?_
    refine rx_getI (k := 23) fo_X11_152 kl_140 (by decide) ti_11_23 dX11_town_142 ?_
    refine rx_top (nI L) ((rdm_o (by omega)).trans hK23) ?_
    refine rx_icmp_ge (tgt := 156) dX11_town_145 (by decide) (fun c145 => ?_) (fun c145 => ?_)
    · skip
      have f145 := Int32.not_lt.mpr c145
      have eE : tnE L s = s := if_neg (fun q => absurd ((nI_leI (by omega) (by omega)).mp c145) (by omega))
      rw [show rdm (mitM its (K, n, m)).1 s = rdm (mitM its (K, n, m)).1 (tnE L s) from congrArg (rdm (mitM its (K, n, m)).1) eE.symm]
      refine rx_aload_n (i := 0) dX11_town_156 rfl rfl ?_
      refine rx_cvI (ci := 11) mo_X11_fine lk_X11_164 (c_X11_fine hE.2) (by decide) rfl rfl (Nat.le_of_ble_eq_true rfl) kl_140 rfl dX11_town_157 ?_
      refine rx_if_ne (tgt := 170) dX11_town_160 (by decide) (fun c160 => ?_) (fun c160 => ?_)
      · skip
        have e160 := ite1n c160
        have ho := b4 (hE2 e160)
        refine rx_aload_n (i := 0) dX11_town_170 rfl rfl ?_
        refine rx_getI (k := 0) fo_X11_132 kl_140 (by decide) ti_11_0 dX11_town_171 ?_
        refine rx_top (nI n) ((rdm_o (by omega)).trans hK0) ?_
        refine rx_istore (i := 5) dX11_town_174 (by decide) rfl rfl ?_
        rw [show rdm (mitM its (K, n, m)).1 (tnE L s) = rdm (nnA (mitM its (K, n, m)).1 n n) (tnE L s) from by rw [nn_0]]
        refine l_town_a (m := m) (Y := (mitM its (K, n, m)).1) (s := tnE L s) b2 ?_ (t + 1) n b1 (Nat.le_refl _) (by omega)
        refine rx_aload_n (i := 0) dX11_town_210 rfl rfl ?_
        refine rx_getI (k := 7) fo_X11_139 kl_140 (by decide) ti_11_7 dX11_town_211 ?_
        refine rx_top (nI m) ((rdm_o (by omega)).trans ((nn_o (by omega) (by omega)).trans hK7)) ?_
        refine rx_istore (i := 5) dX11_town_214 (by decide) rfl rfl ?_
        rw [show nnA (mitM its (K, n, m)).1 n t = ooA (nnA (mitM its (K, n, m)).1 n t) m m from oo_0.symm]
        refine l_town_b (n := n) (Y := nnA (mitM its (K, n, m)).1 n t) (s := tnE L s) ho ?_ (o + 1) m b3 (Nat.le_refl _) (by omega)
        refine rx_aload_n (i := 0) dX11_town_244 rfl rfl ?_
        refine rx_iload_n (i := 1) dX11_town_245 rfl rfl ?_
        refine rx_putI (k := 0) fo_X11_132 fn_11_0 kl_140 (by decide) ty_11_0 dX11_town_246 ?_
        rw [rdm_set (by omega)]
        refine rx_aload_n (i := 0) dX11_town_249 rfl rfl ?_
        refine rx_iload_n (i := 2) dX11_town_250 rfl rfl ?_
        refine rx_putI (k := 7) fo_X11_139 fn_11_7 kl_140 (by decide) ty_11_7 dX11_town_251 ?_
        rw [rdm_set (by omega)]
        refine rx_aload_n (i := 0) dX11_town_254 rfl rfl ?_
        refine rx_dup dX11_town_255 rfl ?_
        refine rx_getI (k := 55) fo_X11_195 kl_140 (by decide) ti_11_55 dX11_town_256 ?_
        refine rx_top ((mitM its (K, n, m)).1.1 140 55) ((rdm_o (by omega)).trans ((sI_ne (by omega)).trans ((sI_ne (by omega)).trans ((oo_o (by omega) (by omega)).trans (nn_o (by omega) (by omega)))))) ?_
        refine rx_iconst (1) dX11_town_259 rfl ?_
        refine rx_iadd dX11_town_260 ?_
        refine rx_putI (k := 55) fo_X11_195 fn_11_55 kl_140 (by decide) ty_11_55 dX11_town_261 ?_
        rw [rdm_set (by omega)]
        refine rx_aload_n (i := 0) dX11_town_264 rfl rfl ?_
        refine rx_iconst (0) dX11_town_265 rfl ?_
        refine rx_putI (k := 32) fo_X11_198 fn_11_32 kl_140 (by decide) ty_11_32 dX11_town_266 ?_
        rw [rdm_set (by omega)]
        refine rx_iload_n (i := 3) dX11_town_269 rfl rfl ?_
        exact rx_iret dX11_town_270 (by (try dsimp only); rw [if_neg e28, e160]; exact ⟨rfl, (frP.mit (n := n) (m := m) hF).fn.trans frS_rdm.P⟩)
      · skip
        have e160 := ite1 c160
        refine rx_iconst (-1) dX11_town_163 rfl ?_
        refine rx_aload_n (i := 0) dX11_town_164 rfl rfl ?_
        refine rx_getI (k := 26) fo_X11_161 kl_140 (by decide) ti_11_26 dX11_town_165 ?_
        refine rx_top (optI (tnE L s).2) (rdm_26) ?_
        refine rx_isub dX11_town_168 ?_
        obtain ⟨q, hq⟩ := Option.ne_none_iff_exists'.mp e160
        refine rx_top (-1 - nI q) (by rw [hq]; rfl) ?_
        exact rx_iret dX11_town_169 (by (try dsimp only); rw [if_neg e28, hq]; exact ⟨rfl, (frP.mit (n := n) (m := m) hF).trans frS_rdm.P⟩)
    · skip
      have f145 := Int32.not_le.mp c145
      have eE : tnE L s = faultP s.1 s := if_pos (Nat.lt_of_not_le fun q => c145 (nI_le q (by omega)))
      refine rx_aload_n (i := 0) dX11_town_148 rfl rfl ?_
      refine rx_aload_n (i := 0) dX11_town_149 rfl rfl ?_
      refine rx_getI (k := 25) fo_X11_158 kl_140 (by decide) ti_11_25 dX11_town_150 ?_
      refine rx_top (nI s.1) (rdm_25) ?_
      refine rx_cvN (ci := 11) mo_X11_fault lk_X11_176 (c_X11_fault (q := s.1) b5.2) (by decide) rfl rfl (Nat.le_of_ble_eq_true rfl) kl_140 rfl dX11_town_153 ?_
      rw [show rdm (mitM its (K, n, m)).1 (faultP s.1 s) = rdm (mitM its (K, n, m)).1 (tnE L s) from congrArg (rdm (mitM its (K, n, m)).1) eE.symm]
      refine rx_aload_n (i := 0) dX11_town_156 rfl rfl ?_
      refine rx_cvI (ci := 11) mo_X11_fine lk_X11_164 (c_X11_fine hE.2) (by decide) rfl rfl (Nat.le_of_ble_eq_true rfl) kl_140 rfl dX11_town_157 ?_
      refine rx_if_ne (tgt := 170) dX11_town_160 (by decide) (fun c160 => ?_) (fun c160 => ?_)
      · skip
        have e160 := ite1n c160
        have ho := b4 (hE2 e160)
        refine rx_aload_n (i := 0) dX11_town_170 rfl rfl ?_
        refine rx_getI (k := 0) fo_X11_132 kl_140 (by decide) ti_11_0 dX11_town_171 ?_
        refine rx_top (nI n) ((rdm_o (by omega)).trans hK0) ?_
        refine rx_istore (i := 5) dX11_town_174 (by decide) rfl rfl ?_
        rw [show rdm (mitM its (K, n, m)).1 (tnE L s) = rdm (nnA (mitM its (K, n, m)).1 n n) (tnE L s) from by rw [nn_0]]
        refine l_town_a (m := m) (Y := (mitM its (K, n, m)).1) (s := tnE L s) b2 ?_ (t + 1) n b1 (Nat.le_refl _) (by omega)
        refine rx_aload_n (i := 0) dX11_town_210 rfl rfl ?_
        refine rx_getI (k := 7) fo_X11_139 kl_140 (by decide) ti_11_7 dX11_town_211 ?_
        refine rx_top (nI m) ((rdm_o (by omega)).trans ((nn_o (by omega) (by omega)).trans hK7)) ?_
        refine rx_istore (i := 5) dX11_town_214 (by decide) rfl rfl ?_
        rw [show nnA (mitM its (K, n, m)).1 n t = ooA (nnA (mitM its (K, n, m)).1 n t) m m from oo_0.symm]
        refine l_town_b (n := n) (Y := nnA (mitM its (K, n, m)).1 n t) (s := tnE L s) ho ?_ (o + 1) m b3 (Nat.le_refl _) (by omega)
        refine rx_aload_n (i := 0) dX11_town_244 rfl rfl ?_
        refine rx_iload_n (i := 1) dX11_town_245 rfl rfl ?_
        refine rx_putI (k := 0) fo_X11_132 fn_11_0 kl_140 (by decide) ty_11_0 dX11_town_246 ?_
        rw [rdm_set (by omega)]
        refine rx_aload_n (i := 0) dX11_town_249 rfl rfl ?_
        refine rx_iload_n (i := 2) dX11_town_250 rfl rfl ?_
        refine rx_putI (k := 7) fo_X11_139 fn_11_7 kl_140 (by decide) ty_11_7 dX11_town_251 ?_
        rw [rdm_set (by omega)]
        refine rx_aload_n (i := 0) dX11_town_254 rfl rfl ?_
        refine rx_dup dX11_town_255 rfl ?_
        refine rx_getI (k := 55) fo_X11_195 kl_140 (by decide) ti_11_55 dX11_town_256 ?_
        refine rx_top ((mitM its (K, n, m)).1.1 140 55) ((rdm_o (by omega)).trans ((sI_ne (by omega)).trans ((sI_ne (by omega)).trans ((oo_o (by omega) (by omega)).trans (nn_o (by omega) (by omega)))))) ?_
        refine rx_iconst (1) dX11_town_259 rfl ?_
        refine rx_iadd dX11_town_260 ?_
        refine rx_putI (k := 55) fo_X11_195 fn_11_55 kl_140 (by decide) ty_11_55 dX11_town_261 ?_
        rw [rdm_set (by omega)]
        refine rx_aload_n (i := 0) dX11_town_264 rfl rfl ?_
        refine rx_iconst (0) dX11_town_265 rfl ?_
        refine rx_putI (k := 32) fo_X11_198 fn_11_32 kl_140 (by decide) ty_11_32 dX11_town_266 ?_
        rw [rdm_set (by omega)]
        refine rx_iload_n (i := 3) dX11_town_269 rfl rfl ?_
        exact rx_iret dX11_town_270 (by (try dsimp only); rw [if_neg e28, e160]; exact ⟨rfl, (frP.mit (n := n) (m := m) hF).fn.trans frS_rdm.P⟩)
      · skip
        have e160 := ite1 c160
        refine rx_iconst (-1) dX11_town_163 rfl ?_
        refine rx_aload_n (i := 0) dX11_town_164 rfl rfl ?_
        refine rx_getI (k := 26) fo_X11_161 kl_140 (by decide) ti_11_26 dX11_town_165 ?_
        refine rx_top (optI (tnE L s).2) (rdm_26) ?_
        refine rx_isub dX11_town_168 ?_
        obtain ⟨q, hq⟩ := Option.ne_none_iff_exists'.mp e160
        refine rx_top (-1 - nI q) (by rw [hq]; rfl) ?_
        exact rx_iret dX11_town_169 (by (try dsimp only); rw [if_neg e28, hq]; exact ⟨rfl, (frP.mit (n := n) (m := m) hF).trans frS_rdm.P⟩)
  · skip
    have e28 : L = 0 := nI_0' (by omega) c28
    refine rx_iconst (0) dX11_town_31 rfl ?_
    exact rx_iret dX11_town_32 (by (try dsimp only); rw [if_pos e28]; exact ⟨rfl, hF⟩)
