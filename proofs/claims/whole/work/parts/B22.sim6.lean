/-- a call that changes what changes in a town, and forgets the PAYMENTS -/
def frT (M K : Mem) : Prop := (∀ a j, ¬ (a = 29 ∨ a = 32 ∨ a = 33 ∨ a = 34 ∨ (39 ≤ a ∧ a ≤ 43) ∨ (a = 28 ∧ 17 ≤ j)) → ¬ (a = 0 ∧ j = 14) → psK a j = 1000 → ¬ (a = 140 ∧ (j = 21 ∨ j = 32)) → K.1 a j = M.1 a j) ∧ K.2.1 = M.2.1
theorem pK_far {a j : Nat} (h : ¬ (a = 140 ∧ (j = 15 ∨ j = 16 ∨ j = 34))) (h2 : ¬ (a = 141 ∨ a = 144 ∨ a = 145 ∨ a = 146 ∨ a = 151 ∨ a = 152 ∨ a = 153 ∨ a = 158)) : psK a j = 1000 := by
  unfold psK psL
  rw [if_neg (by omega), if_neg (by omega), if_neg (by omega), if_neg (by omega), if_neg (by omega), if_neg (by omega), if_neg (by omega), if_neg (by omega), if_neg (by omega), if_neg (by omega), if_neg (by omega)]
theorem frT_far {M K : Mem} (f : frT M K) {a j : Nat} (h : ¬ (a = 140 ∧ (j = 15 ∨ j = 16 ∨ j = 34 ∨ j = 21 ∨ j = 32))) (h2 : ¬ (a = 141 ∨ a = 144 ∨ a = 145 ∨ a = 146 ∨ a = 151 ∨ a = 152 ∨ a = 153 ∨ a = 158)) (h3 : ¬ (a = 29 ∨ a = 32 ∨ a = 33 ∨ a = 34 ∨ (39 ≤ a ∧ a ≤ 43) ∨ (a = 28 ∧ 17 ≤ j))) (h4 : ¬ (a = 0 ∧ j = 14)) : K.1 a j = M.1 a j := f.1 a j h3 h4 (pK_far (by omega) h2) (by omega)
theorem frT.trans {M N K : Mem} (h : frT M N) (h2 : frT N K) : frT M K := ⟨fun a j q r s t => (h2.1 a j q r s t).trans (h.1 a j q r s t), h2.2.trans h.2⟩
theorem frT.refl {M : Mem} : frT M M := ⟨fun _ _ _ _ _ _ => rfl, rfl⟩
theorem simK_t {M K : Mem} {n m dx tn s t f : Nat} (h : simK M n m dx tn s t f) (g : frT M K) (ht : t = 60 ∨ t = 76) (hf : f = 15 ∨ f = 16) (hn : n ≤ 8) (hm : m ≤ 10) : simK K n m dx tn s t f := by
  unfold simK at h ⊢
  rw [show K.1 0 f = M.1 0 f from frT_far g (by omega) (by omega) (by omega) (by omega), show K.1 174 s = M.1 174 s from frT_far g (by omega) (by omega) (by omega) (by omega), show K.1 175 s = M.1 175 s from frT_far g (by omega) (by omega) (by omega) (by omega)]
  have ev : view K t = view M t := by
    funext c j
    unfold view
    split
    · exact frT_far g (by omega) (by omega) (by omega) (by omega)
    · exact frT_far g (by omega) (by omega) (by omega) (by omega)
  rw [ev]
  refine h.imp id fun ⟨a1, a2, n1, m1, t1, a3, a4, a5, a6, a7⟩ => ⟨a1, a2, n1, m1, t1, a3, a4, a5, a6, twP_q a7 (fun c j hi => ?_) (by omega) (by omega)⟩
  by_cases hc : c ≠ 5 ∧ c < 20
  · rw [mv_mo hc, mv_mo hc]
    show (if psK (mo c) (mj c j) < 133 then K.1 173 (133 * s + psK (mo c) (mj c j)) else K.1 (mo c) (mj c j)) = (if psK (mo c) (mj c j) < 133 then M.1 173 (133 * s + psK (mo c) (mj c j)) else M.1 (mo c) (mj c j))
    split
    · exact frT_far g (by omega) (by omega) (by omega) (by omega)
    · next q =>
      refine g.1 _ _ ?_ ?_ ?_ ?_
      · unfold mo; split
        · omega
        · split
          · omega
          · split
            · omega
            · split
              · omega
              · split <;> omega
      · unfold mo; split
        · omega
        · split
          · omega
          · split
            · omega
            · split
              · omega
              · split <;> omega
      · by_cases z : psK (mo c) (mj c j) < 1000
        · exfalso
          have hlt : psK (mo c) (mj c j) < 133 := by
            by_cases y : psK (mo c) (mj c j) < 101
            · omega
            · have hq : ¬ psL (mo c) (mj c j) < 1000 ∨ psL (mo c) (mj c j) < 101 := by
                by_cases u : psL (mo c) (mj c j) < 1000
                · exact Or.inr (ps_ge u)
                · exact Or.inl u
              unfold psK at y z ⊢
              split at z
              · next e => rw [if_pos e]; omega
              · next e =>
                rw [if_neg e]
                split at z
                · next e2 => rw [if_pos e2]; omega
                · next e2 =>
                  rw [if_neg e2]
                  split at z
                  · next e3 => rw [if_pos e3]; omega
                  · next e3 =>
                    rw [if_neg e3]
                    split at z
                    · next e4 => rw [if_pos e4]; omega
                    · next e4 =>
                      rw [if_neg e4]
                      split at z
                      · next e5 => rw [if_pos e5]; omega
                      · next e5 =>
                        rw [if_neg e5]
                        rcases hq with hq | hq
                        · exact absurd z hq
                        · omega
          exact q hlt
        · have hle : psK (mo c) (mj c j) ≤ 1000 := by
            unfold psK psL
            repeat' split
            all_goals omega
          omega
      · have hc2 : c = 0 ∨ c = 1 ∨ c = 2 ∨ c = 3 ∨ c = 4 ∨ c = 6 ∨ c = 7 ∨ c = 8 ∨ c = 9 ∨ c = 10 ∨ c = 11 ∨ c = 12 ∨ c = 13 ∨ c = 14 ∨ c = 15 ∨ c = 16 ∨ c = 17 ∨ c = 18 ∨ c = 19 := by omega
        rcases hc2 with rfl | rfl | rfl | rfl | rfl | rfl | rfl | rfl | rfl | rfl | rfl | rfl | rfl | rfl | rfl | rfl | rfl | rfl | rfl <;> simp [mo, mj]
  · rw [mv_no hc, mv_no hc]
/-- such a call keeps what ties them -/
theorem sim_town {M K : Mem} {n m dx tn : Nat} (h : Sim M n m dx tn) (g : frT M K) (h3 : twP (view K 28) (mv K) n m dx) (h4 : K.1 0 14 = 0) (h5 : K.1 140 32 = 0) : Sim K n m dx tn := by
  obtain ⟨a1, a2, a3, a4, a5, a6, a7, a8, a9, a10, a11⟩ := h
  have hn := a1.2.1
  have hm := a1.2.2.2.1
  refine ⟨a1.keep (frT_far g (by omega) (by omega) (by omega) (by omega)) (frT_far g (by omega) (by omega) (by omega) (by omega)) (fun _ _ => frT_far g (by omega) (by omega) (by omega) (by omega)) (fun _ _ => frT_far g (by omega) (by omega) (by omega) (by omega)),
    a2.keep (frT_far g (by omega) (by omega) (by omega) (by omega)) (frT_far g (by omega) (by omega) (by omega) (by omega)) (fun _ _ => frT_far g (by omega) (by omega) (by omega) (by omega)) (fun _ _ => frT_far g (by omega) (by omega) (by omega) (by omega)),
    h3, ⟨(frT_far g (by omega) (by omega) (by omega) (by omega)).trans a4.1, a4.2⟩, ?_, ?_, ?_, ⟨0, by omega, h4, h5, fun j hj => absurd hj (Nat.not_lt_zero _), trivial⟩, simK_t a9 g (Or.inl rfl) (Or.inl rfl) hn hm, simK_t a10 g (Or.inr rfl) (Or.inr rfl) hn hm, ?_⟩
  · obtain ⟨t, b1, b2, b3, b4⟩ := a5
    refine ⟨t, b1, (frT_far g (by omega) (by omega) (by omega) (by omega)).trans b2, (frT_far g (by omega) (by omega) (by omega) (by omega)).trans b3, fun j hj => ?_⟩
    rw [show K.1 3 j = M.1 3 j from frT_far g (by omega) (by omega) (by omega) (by omega), show K.1 154 j = M.1 154 j from frT_far g (by omega) (by omega) (by omega) (by omega)]
    exact b4 j hj
  · obtain ⟨z, L, b1, b2, b3, b4⟩ := a6
    refine ⟨z, L, b1, (frT_far g (by omega) (by omega) (by omega) (by omega)).trans b2, (frT_far g (by omega) (by omega) (by omega) (by omega)).trans b3, ?_⟩
    rw [show K.1 8 = M.1 8 from funext fun j => frT_far g (by omega) (by omega) (by omega) (by omega), show K.1 156 = M.1 156 from funext fun j => frT_far g (by omega) (by omega) (by omega) (by omega)]
    exact b4
  · obtain ⟨s, b1, b2, b3, b4⟩ := a7
    refine ⟨s, b1, (frT_far g (by omega) (by omega) (by omega) (by omega)).trans b2, (frT_far g (by omega) (by omega) (by omega) (by omega)).trans b3, fun j hj => ?_⟩
    rw [g.2]; exact b4 j hj
  · exact SV_cg a11 (fun a j _ _ => frT_far g (by omega) (by omega) (by omega) (by omega)) (fun a _ _ => by rw [g.2]) (fun a j _ _ => frT_far g (by omega) (by omega) (by omega) (by omega)) ⟨fun j _ => ⟨frT_far g (by omega) (by omega) (by omega) (by omega), frT_far g (by omega) (by omega) (by omega) (by omega)⟩, fun k _ => ⟨frT_far g (by omega) (by omega) (by omega) (by omega), frT_far g (by omega) (by omega) (by omega) (by omega), frT_far g (by omega) (by omega) (by omega) (by omega), frT_far g (by omega) (by omega) (by omega) (by omega)⟩⟩
/-- both change the town, with the same answer -/
theorem two_t {M K1 K : Mem} {n m dx tn : Nat} {yC yM : MethodName} {cC cM : ByteArray} {nC nM dC dM : Nat} {ret : Option FieldType} {As : List Value} {w : Option Value} (h : Sim M n m dx tn) (hC : Fun yC cC nC ret dC (.ref 0 :: As) M w K1) (hM : Fun yM cM nM ret dM (.ref 140 :: As) K1 w K) (g : frT M K) (h3 : twP (view K 28) (mv K) n m dx) (h4 : K.1 0 14 = 0) (h5 : K.1 140 32 = 0) (hT : tyR ret w := by first | exact tyI _ | exact tyZ _ | exact tyL _) : Two yC cC nC ret dC yM cM nM dM As M n m dx tn :=
  ⟨_, hC, fun v N hv => by rw [hv.1]; exact hT, fun v N hv => by
    obtain ⟨rfl, rfl⟩ := hv
    refine Con.mono hM fun v' K' hk => ?_
    obtain ⟨rfl, rfl⟩ := hk
    exact ⟨rfl, n, m, tn, (sim_town h g h3 h4 h5).dx (by omega)⟩⟩
