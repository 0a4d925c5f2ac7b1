theorem psk_in {c j : Nat} (hc : c = 0 ∨ c = 4 ∨ c = 10 ∨ c = 11 ∨ c = 12) (hi : inR c j) : psK (mo c) (mj c j) < 133 := by
  unfold inR at hi
  rcases hc with rfl | rfl | rfl | rfl | rfl
  all_goals (simp [mo, mj, psK, psL] at hi ⊢; first | (rw [if_pos hi]; omega) | omega)
/-- a call that changes the town as it may, the text, the rule, the row, the PAYMENTS -/
def frG (M K : Mem) : Prop := (∀ a j, ¬ (a = 141 ∨ a = 145 ∨ a = 146 ∨ a = 151 ∨ a = 152 ∨ a = 29 ∨ a = 32 ∨ a = 33 ∨ a = 34 ∨ (39 ≤ a ∧ a ≤ 43) ∨ (a = 28 ∧ j ≠ 15 ∧ j ≠ 16) ∨ a = 1 ∨ a = 3 ∨ (6 ≤ a ∧ a ≤ 18) ∨ a = 154 ∨ a = 156 ∨ a = 157 ∨ (159 ≤ a ∧ a ≤ 172)) → ¬ ((a = 0 ∧ j = 14) ∨ (a = 2 ∧ j = 1) ∨ (a = 4 ∧ j = 1)) → psK a j = 1000 → ¬ (a = 140 ∧ j ≠ 0 ∧ j ≠ 7 ∧ j ≠ 55) → K.1 a j = M.1 a j) ∧ ∀ a, a ≠ 5 → a ≠ 155 → a ≠ 166 → K.2.1 a = M.2.1 a
theorem frT.G {M K : Mem} (h : frT M K) : frG M K := ⟨fun a j q1 q2 q3 q4 => h.1 a j (by omega) (by omega) q3 (by omega), fun a _ _ _ => by rw [h.2]⟩
theorem frG_far {M K : Mem} (f : frG M K) {a j : Nat} (h1 : ¬ (a = 29 ∨ a = 32 ∨ a = 33 ∨ a = 34 ∨ (39 ≤ a ∧ a ≤ 43) ∨ (a = 28 ∧ j ≠ 15 ∧ j ≠ 16) ∨ a = 1 ∨ a = 3 ∨ (6 ≤ a ∧ a ≤ 18) ∨ a = 154 ∨ a = 156 ∨ a = 157 ∨ (159 ≤ a ∧ a ≤ 172))) (h2 : ¬ ((a = 0 ∧ j = 14) ∨ (a = 2 ∧ j = 1) ∨ (a = 4 ∧ j = 1))) (h3 : ¬ (a = 141 ∨ a = 144 ∨ a = 145 ∨ a = 146 ∨ a = 151 ∨ a = 152 ∨ a = 153 ∨ a = 158)) (h4 : ¬ (a = 140 ∧ j ≠ 0 ∧ j ≠ 7 ∧ j ≠ 55)) : K.1 a j = M.1 a j := f.1 a j (by omega) h2 (pK_far (by omega) h3) h4
theorem frG.trans {M N K : Mem} (h : frG M N) (h2 : frG N K) : frG M K := ⟨fun a j q r s t => (h2.1 a j q r s t).trans (h.1 a j q r s t), fun a q r s => (h2.2 a q r s).trans (h.2 a q r s)⟩
theorem frG.refl {M : Mem} : frG M M := ⟨fun _ _ _ _ _ _ => rfl, fun _ _ _ _ => rfl⟩
theorem simK_g {M K : Mem} {n m dx tn s t f : Nat} (h : simK M n m dx tn s t f) (g : frG M K) (ht : t = 60 ∨ t = 76) (hf : f = 15 ∨ f = 16) (hn : n ≤ 8) (hm : m ≤ 10) : simK K n m dx tn s t f := by
  unfold simK at h ⊢
  rw [show K.1 0 f = M.1 0 f from frG_far g (by omega) (by omega) (by omega) (by omega), show K.1 174 s = M.1 174 s from frG_far g (by omega) (by omega) (by omega) (by omega), show K.1 175 s = M.1 175 s from frG_far g (by omega) (by omega) (by omega) (by omega)]
  have ev : view K t = view M t := by
    funext c j
    unfold view
    split
    · exact frG_far g (by omega) (by omega) (by omega) (by omega)
    · exact frG_far g (by omega) (by omega) (by omega) (by omega)
  rw [ev]
  refine h.imp id fun ⟨a1, a2, n1, m1, t1, a3, a4, a5, a6, a7⟩ => ⟨a1, a2, n1, m1, t1, a3, a4, a5, a6, twP_q a7 (fun c j hi => ?_) (by omega) (by omega)⟩
  by_cases hc : c ≠ 5 ∧ c < 20
  · rw [mv_mo hc, mv_mo hc]
    show (if psK (mo c) (mj c j) < 133 then K.1 173 (133 * s + psK (mo c) (mj c j)) else K.1 (mo c) (mj c j)) = (if psK (mo c) (mj c j) < 133 then M.1 173 (133 * s + psK (mo c) (mj c j)) else M.1 (mo c) (mj c j))
    split
    · exact frG_far g (by omega) (by omega) (by omega) (by omega)
    · next q =>
      have hc2 : c = 0 ∨ c = 1 ∨ c = 2 ∨ c = 3 ∨ c = 4 ∨ c = 6 ∨ c = 7 ∨ c = 8 ∨ c = 9 ∨ c = 10 ∨ c = 11 ∨ c = 12 ∨ c = 13 ∨ c = 14 ∨ c = 15 ∨ c = 16 ∨ c = 17 ∨ c = 18 ∨ c = 19 := by omega
      have hd : ¬ (c = 0 ∨ c = 4 ∨ c = 10 ∨ c = 11 ∨ c = 12) := fun z => q (psk_in z hi)
      refine g.1 _ _ ?_ ?_ ?_ ?_
      · rcases hc2 with rfl | rfl | rfl | rfl | rfl | rfl | rfl | rfl | rfl | rfl | rfl | rfl | rfl | rfl | rfl | rfl | rfl | rfl | rfl
        all_goals first | (simp [mo]; done) | exact absurd (by omega) hd
      · rcases hc2 with rfl | rfl | rfl | rfl | rfl | rfl | rfl | rfl | rfl | rfl | rfl | rfl | rfl | rfl | rfl | rfl | rfl | rfl | rfl <;> simp [mo]
      · by_cases z : psK (mo c) (mj c j) < 1000
        · exfalso
          have hlt : psK (mo c) (mj c j) < 133 := by
            by_cases y : psK (mo c) (mj c j) < 101
            · omega
            · have hq : ¬ psL (mo c) (mj c j) < 1000 ∨ psL (mo c) (mj c j) < 101 := by
                by_cases u : psL (mo c) (mj c j) < 1000
                · exact Or.inr (ps_ge u)
                · exact Or.inl u
              unfold psK at y z ⊢
              split at z
              · next e => rw [if_pos e]; omega
              · next e =>
                rw [if_neg e]
                split at z
                · next e2 => rw [if_pos e2]; omega
                · next e2 =>
                  rw [if_neg e2]
                  split at z
                  · next e3 => rw [if_pos e3]; omega
                  · next e3 =>
                    rw [if_neg e3]
                    split at z
                    · next e4 => rw [if_pos e4]; omega
                    · next e4 =>
                      rw [if_neg e4]
                      split at z
                      · next e5 => rw [if_pos e5]; omega
                      · next e5 =>
                        rw [if_neg e5]
                        rcases hq with hq | hq
                        · exact absurd z hq
                        · omega
          exact q hlt
        · have hle : psK (mo c) (mj c j) ≤ 1000 := by
            unfold psK psL
            repeat' split
            all_goals omega
          omega
      · rcases hc2 with rfl | rfl | rfl | rfl | rfl | rfl | rfl | rfl | rfl | rfl | rfl | rfl | rfl | rfl | rfl | rfl | rfl | rfl | rfl
        all_goals first | (simp [mo, mj]; done) | exact absurd (show psK 140 34 < 133 by decide) q | exact absurd (show psK 140 15 < 133 by decide) q | exact absurd (show psK 140 16 < 133 by decide) q
  · rw [mv_no hc, mv_no hc]
theorem simX_k {M K : Mem} (h : simX M) (e1 : K.1 2 1 = M.1 2 1) (e2 : K.1 140 18 = M.1 140 18) (e3 : ∀ j, K.1 3 j = M.1 3 j) (e4 : ∀ j, K.1 154 j = M.1 154 j) : simX K := by
  obtain ⟨t, b1, b2, b3, b4⟩ := h
  exact ⟨t, b1, e1.trans b2, e2.trans b3, fun j hj => by rw [e3, e4]; exact b4 j hj⟩
theorem simR_k {M K : Mem} (h : simR M) (e1 : K.1 7 2 = M.1 7 2) (e2 : K.1 140 28 = M.1 140 28) (e3 : ∀ j, K.1 8 j = M.1 8 j) (e4 : ∀ j, K.1 156 j = M.1 156 j) : simR K := by
  obtain ⟨z, L, b1, b2, b3, b4⟩ := h
  refine ⟨z, L, b1, e1.trans b2, e2.trans b3, ?_⟩
  rw [show K.1 8 = M.1 8 from funext e3, show K.1 156 = M.1 156 from funext e4]
  exact b4
theorem simW_kk {M K : Mem} (h : simW M) (e1 : K.1 4 1 = M.1 4 1) (e2 : K.1 140 20 = M.1 140 20) (e3 : K.2.1 5 = M.2.1 5) (e4 : K.2.1 155 = M.2.1 155) : simW K := by
  obtain ⟨s, b1, b2, b3, b4⟩ := h
  refine ⟨s, b1, e1.trans b2, e2.trans b3, fun j hj => ?_⟩
  rw [e3, e4]; exact b4 j hj
theorem simU_0 {K : Mem} {n m dx : Nat} (h1 : K.1 0 14 = 0) (h2 : K.1 140 32 = 0) : simU K n m dx := ⟨0, by omega, h1, h2, fun j hj => absurd hj (Nat.not_lt_zero _), trivial⟩
/-- any such call keeps what ties them -/
theorem sim_gen {M K : Mem} {n m dx tn : Nat} (h : Sim M n m dx tn) (g : frG M K) (h3 : twP (view K 28) (mv K) n m dx) (h4 : simU K n m dx) (hX : simX K) (hR : simR K) (hW : simW K) : Sim K n m dx tn := by
  obtain ⟨a1, a2, a3, a4, a5, a6, a7, a8, a9, a10, a11⟩ := h
  have hn := a1.2.1
  have hm := a1.2.2.2.1
  refine ⟨a1.keep (frG_far g (by omega) (by omega) (by omega) (by omega)) (frG_far g (by omega) (by omega) (by omega) (by omega)) (fun _ _ => frG_far g (by omega) (by omega) (by omega) (by omega)) (fun _ _ => frG_far g (by omega) (by omega) (by omega) (by omega)),
    a2.keep (frG_far g (by omega) (by omega) (by omega) (by omega)) (frG_far g (by omega) (by omega) (by omega) (by omega)) (fun _ _ => frG_far g (by omega) (by omega) (by omega) (by omega)) (fun _ _ => frG_far g (by omega) (by omega) (by omega) (by omega)),
    h3, ⟨(frG_far g (by omega) (by omega) (by omega) (by omega)).trans a4.1, a4.2⟩, hX, hR, hW, h4, simK_g a9 g (Or.inl rfl) (Or.inl rfl) hn hm, simK_g a10 g (Or.inr rfl) (Or.inr rfl) hn hm, ?_⟩
  exact SV_cg a11 (fun a j _ _ => frG_far g (by omega) (by omega) (by omega) (by omega)) (fun a _ _ => g.2 a (by omega) (by omega) (by omega)) (fun a j _ _ => frG_far g (by omega) (by omega) (by omega) (by omega)) ⟨fun j _ => ⟨frG_far g (by omega) (by omega) (by omega) (by omega), frG_far g (by omega) (by omega) (by omega) (by omega)⟩, fun k _ => ⟨frG_far g (by omega) (by omega) (by omega) (by omega), frG_far g (by omega) (by omega) (by omega) (by omega), frG_far g (by omega) (by omega) (by omega) (by omega), frG_far g (by omega) (by omega) (by omega) (by omega)⟩⟩
/-- such a call but for text, rule, row -/
def frH (M K : Mem) : Prop := frG M K ∧ (∀ j, K.1 3 j = M.1 3 j ∧ K.1 154 j = M.1 154 j ∧ K.1 8 j = M.1 8 j ∧ K.1 156 j = M.1 156 j) ∧ (K.1 2 1 = M.1 2 1 ∧ K.1 140 18 = M.1 140 18 ∧ K.1 7 2 = M.1 7 2 ∧ K.1 140 28 = M.1 140 28 ∧ K.1 4 1 = M.1 4 1 ∧ K.1 140 20 = M.1 140 20) ∧ K.2.1 = M.2.1
theorem sim_h {M K : Mem} {n m dx tn : Nat} (h : Sim M n m dx tn) (g : frH M K) (h3 : twP (view K 28) (mv K) n m dx) (h4 : simU K n m dx) : Sim K n m dx tn := by
  obtain ⟨g0, g1, ⟨g2, g3, g4, g5, g6, g7⟩, g8⟩ := g
  exact sim_gen h g0 h3 h4 (simX_k h.2.2.2.2.1 g2 g3 (fun j => (g1 j).1) (fun j => (g1 j).2.1)) (simR_k h.2.2.2.2.2.1 g4 g5 (fun j => (g1 j).2.2.1) (fun j => (g1 j).2.2.2)) (simW_kk h.w g6 g7 (by rw [g8]) (by rw [g8]))
/-- both change, with the same answer -/
theorem two_f {M K1 K : Mem} {n m dx tn : Nat} {yC yM : MethodName} {cC cM : ByteArray} {nC nM dC dM : Nat} {ret : Option FieldType} {As : List Value} {u : Option Value} (hC : Fun yC cC nC ret dC (.ref 0 :: As) M u K1) (hM : Fun yM cM nM ret dM (.ref 140 :: As) K1 u K) (h : ∃ n' m' tn', Sim K n' m' (dx + 60) tn') (hT : tyR ret u := by first | exact tyI _ | exact tyZ _ | exact tyL _) : Two yC cC nC ret dC yM cM nM dM As M n m dx tn :=
  ⟨_, hC, fun v N hv => by rw [hv.1]; exact hT, fun v N hv => by
    obtain ⟨rfl, rfl⟩ := hv
    refine Con.mono hM fun v' K' hk => ?_
    obtain ⟨rfl, rfl⟩ := hk
    exact ⟨rfl, h⟩⟩
/-! a town with one of its laws, or its random number, changed -/
theorem mk_setT {T : TT} {c j i k : Nat} {x : Int32} (hc : c = 14) : mkT (setT T c j x) i k = setT (mkT T i k) c j x := by
  subst hc
  have e : ∀ b, b ≠ 14 → setT T 14 j x b = T b := fun b hb => setT_o hb
  funext b q
  by_cases h : b = 14
  · subst h
    have f : ∀ U : TT, mkT U i k 14 = U 14 := fun U => by
      funext q
      unfold mkT
      rw [if_neg (by omega), if_neg (by omega), if_neg (by omega), if_neg (by omega)]
    rw [f]
    unfold setT
    rw [f]
  · rw [setT_o h]
    unfold mkT shT prT
    rw [e 7 (by omega), e 8 (by omega), e 6 (by omega), e 12 (by omega), e 0 (by omega), e 2 (by omega), e 1 (by omega), e b h]
theorem mk_setS {T : TT} {c i k : Nat} {x : Int32} (hc : c = 19) : mkT (setS T c x) i k = setS (mkT T i k) c x := by
  subst hc
  have e : ∀ b, b ≠ 19 → setS T 19 x b = T b := fun b hb => setS_o hb
  funext b q
  by_cases h : b = 19
  · subst h
    have f : ∀ U : TT, mkT U i k 19 = U 19 := fun U => by
      funext q
      unfold mkT
      rw [if_neg (by omega), if_neg (by omega), if_neg (by omega), if_neg (by omega)]
    rw [f]
    unfold setS
    rw [if_pos rfl, if_pos rfl]
  · rw [setS_o h]
    unfold mkT shT prT
    rw [e 7 (by omega), e 8 (by omega), e 6 (by omega), e 12 (by omega), e 0 (by omega), e 2 (by omega), e 1 (by omega), e b h]
theorem law_S {T : TT} {n m dx j : Nat} {v : Int32} (hj : j < 4) (hv : lawOK (nI j) v) (h : twS T n m dx) : twS (setT T 14 j v) n m dx := by
  have e : ∀ b, b ≠ 14 → setT T 14 j v b = T b := fun b hb => setT_o hb
  obtain ⟨⟨⟨b1, b2, b3, b4⟩, b5, b6⟩, a2, a3, a4, a5, a6⟩ := h
  have hl : ∀ q, q ≠ j → setT T 14 j v 14 q = T 14 q := fun q hq => if_neg fun z => hq z.2
  refine ⟨⟨⟨?_, ?_, ?_, ?_⟩, ?_, ?_⟩, ?_, ?_, ?_, ?_, ?_⟩
  · rw [e 3 (by omega), e 0 (by omega), e 4 (by omega)]; exact b1
  · rw [e 0 (by omega)]; exact b2
  · by_cases q : 1 = j
    · subst q
      rw [show setT T 14 1 v 14 1 = v from if_pos ⟨rfl, rfl⟩]
      obtain ⟨-, v1, v2⟩ := hv
      have v3 : v ≤ 99 := by rw [show lawG (nI 1) = 99 by decide] at v2; exact v2
      rw [i_le] at v1 v3
      exact ⟨v1, v3⟩
    · rw [hl 1 q]; exact b3
  · rw [e 8 (by omega), e 9 (by omega), e 6 (by omega), e 7 (by omega)]; exact b4
  · rw [e 15 (by omega)]; exact b5
  · rw [e 16 (by omega)]; exact b6
  · unfold AOK; rw [e 1 (by omega), e 2 (by omega)]; exact a2
  · rw [e 0 (by omega)]; exact a3
  · by_cases q : 0 = j
    · subst q
      rw [show setT T 14 0 v 14 0 = v from if_pos ⟨rfl, rfl⟩]
      obtain ⟨-, v1, v2⟩ := hv
      have v3 : v ≤ 3 := by rw [show lawG (nI 0) = 3 by decide] at v2; exact v2
      obtain ⟨i, hi, rfl⟩ := rngJ (n := 3) ⟨v1, v3⟩ (by omega)
      exact sort_nI (by omega)
    · rw [hl 0 q]; exact a4
  · rw [e 10 (by omega), e 11 (by omega)]; exact a5
  · rw [e 18 (by omega)]; exact a6
theorem UOK_law {K : Nat → Int32} {n m dx j : Nat} {v : Int32} (hj : j < 4) (hv : lawOK (nI j) v) : ∀ {u : Nat} {T : TT}, UOK K n m dx u T → UOK K n m dx u (setT T 14 j v)
  | 0, _, _ => trivial
  | _ + 1, _, ⟨T', i, k, a1, a2, a3, a4, a5, a7, a8⟩ => ⟨setT T' 14 j v, i, k, a1, a2, a3, law_S hj hv a4, a5, by rw [mk_setT rfl]; exact a7.set, UOK_law hj hv a8⟩
theorem seed_S {T : TT} {n m dx : Nat} {x : Int32} (h : twS T n m dx) : twS (setS T 19 x) n m dx := h
theorem UOK_seed {K : Nat → Int32} {n m dx : Nat} {x : Int32} : ∀ {u : Nat} {T : TT}, UOK K n m dx u T → UOK K n m dx u (setS T 19 x)
  | 0, _, _ => trivial
  | _ + 1, _, ⟨T', i, k, a1, a2, a3, a4, a5, a7, a8⟩ => ⟨setS T' 19 x, i, k, a1, a2, a3, seed_S a4, a5, by rw [mk_setS rfl]; exact alk_setS a7, UOK_seed a8⟩
theorem law_D {T T' : TT} {n m j : Nat} {v : Int32} (h : agD T T' n m) : agD (setT T 14 j v) (setT T' 14 j v) n m := by
  have hl : ∀ q, T' 14 q = T 14 q → setT T' 14 j v 14 q = setT T 14 j v 14 q := fun q hq => by
    unfold setT
    split
    · rfl
    · exact hq
  exact ⟨⟨h.1.1, h.1.2.1, hl 0 h.1.2.2.1, hl 1 h.1.2.2.2.1, hl 2 h.1.2.2.2.2⟩, h.2.1, h.2.2.1, hl 3 h.2.2.2.1, h.2.2.2.2⟩
theorem s_law {M : Mem} {n m dx tn : Nat} (h : Sim M n m dx tn) (x v : Int32) : Two yX10_law cX10_law 4 (some .int) 1 yX11_law cX11_law 4 1 [.int x, .int v] M n m dx tn := by
  have q := h.q
  have ag := q.ag
  have hO := q.okC
  have n8 := q.n8
  have m10 := q.m10
  by_cases hx : lawOK x v
  · obtain ⟨j, hj, rfl⟩ := rngJ (n := 3) hx.1 (by omega)
    have hM := c_X11_law (M := setI M 43 j v) (by omega) hx
    have e : (setI M 43 j v).1 153 j = M.1 43 j := by
      rw [sI_na (by omega)]
      rcases (show j = 0 ∨ j = 1 ∨ j = 2 ∨ j = 3 by omega) with z | z | z | z
      · rw [z]; exact ag.1.2.2.1
      · rw [z]; exact ag.1.2.2.2.1
      · rw [z]; exact ag.1.2.2.2.2
      · rw [z]; exact ag.2.2.2.1
    rw [e] at hM
    have hC := c_X10_law (M := M) (show j < 4 by omega) hx
    have v1 : view (setI (t0 (setI M 43 j v)) 153 j v) 28 = setT (view M 28) 14 j v := by
      unfold t0
      rw [view_I (by omega), view_I (by omega)]
      exact view_set (M := M) (t := 28) (c := 14) (j := j) (x := v) (by omega)
    have v2 : mv (setI (t0 (setI M 43 j v)) 153 j v) = setT (mv M) 14 j v := by
      have f : ∀ (M : Mem), mv (setI M 153 j v) = setT (mv M) 14 j v := fun M => mv_set (M := M) (c := 14) (j := j) (x := v) (by omega) (by omega)
      rw [f, t0_mv, mv_eq (M := M) fun a b hb => sI_na (by omega)]
    have ek : ∀ a b, a ≠ 43 → ¬ (a = 153 ∧ b = j) → ¬ (a = 140 ∧ b = 21) → (setI (t0 (setI M 43 j v)) 153 j v).1 a b = M.1 a b := fun a b h1 h2 h3 => by rw [sI_ne h2, t0_o h3, sI_na h1]
    refine two_f hC hM ⟨n, m, tn, (sim_h h ⟨⟨fun a b q1 q2 q3 q4 => ek a b (by omega) (pK_no q3 (by omega)) (by omega), fun _ _ _ _ => rfl⟩, fun b => ⟨ek _ _ (by omega) (by omega) (by omega), ek _ _ (by omega) (by omega) (by omega), ek _ _ (by omega) (by omega) (by omega), ek _ _ (by omega) (by omega) (by omega)⟩, ⟨ek _ _ (by omega) (by omega) (by omega), ek _ _ (by omega) (by omega) (by omega), ek _ _ (by omega) (by omega) (by omega), ek _ _ (by omega) (by omega) (by omega), ek _ _ (by omega) (by omega) (by omega), ek _ _ (by omega) (by omega) (by omega)⟩, rfl⟩ ?_ ?_).dx (by omega)⟩
    · rw [v1, v2]
      exact twP_of q.2.2.1 (law_S (by omega) hx q.2.2.1.1) (law_D ag) (fun c hc => setT_o (by omega)) (fun c hc => setT_o (by omega))
    · obtain ⟨u, b1, b2, b3, b4, b5⟩ := q.2.2.2.2.2.2.1
      refine ⟨u, b1, (ek _ _ (by omega) (by omega) (by omega)).trans b2, (ek _ _ (by omega) (by omega) (by omega)).trans b3, fun b hb => ?_, ?_⟩
      · rw [ek 1 b (by omega) (by omega) (by omega), ek 157 b (by omega) (by omega) (by omega)]; exact b4 b hb
      · rw [v1, show (setI (t0 (setI M 43 j v)) 153 j v).1 1 = M.1 1 from funext fun b => ek 1 b (by omega) (by omega) (by omega)]
        exact UOK_law (by omega) hx b5
  · exact two_0 h (c_X10_law_no hx) (c_X11_law_no hx)
theorem s_seed {M : Mem} {n m dx tn : Nat} (h : Sim M n m dx tn) (x : Int32) : Two yX10_seed cX10_seed 3 (some .int) 0 yX11_seed cX11_seed 3 0 [.int x] M n m dx tn := by
  have q := h.q
  have ag := q.ag
  have hO := q.okC
  have n8 := q.n8
  have m10 := q.m10
  have hM := c_X11_seed (M := setI M 28 19 x) (x := x)
  have e : (setI M 28 19 x).1 140 16 = M.1 28 19 := by
    rw [sI_na (by omega)]; exact q.2.2.1.2.2.2.1
  rw [e] at hM
  have hC := c_X10_seed (M := M) (x := x)
  have v1 : view (setI (t0 (setI M 28 19 x)) 140 16 x) 28 = setS (view M 28) 19 x := by
    unfold t0
    rw [view_I (by omega), view_I (by omega)]
    exact view_S (by omega)
  have v2 : mv (setI (t0 (setI M 28 19 x)) 140 16 x) = setS (mv M) 19 x := by
    rw [mv_16, t0_mv, mv_eq (M := M) fun a b hb => sI_na (by omega)]
  have ek : ∀ a b, ¬ (a = 28 ∧ b = 19) → ¬ (a = 140 ∧ b = 16) → ¬ (a = 140 ∧ b = 21) → (setI (t0 (setI M 28 19 x)) 140 16 x).1 a b = M.1 a b := fun a b h1 h2 h3 => by rw [sI_ne h2, t0_o h3, sI_ne h1]
  refine two_f hC hM ⟨n, m, tn, (sim_h h ⟨⟨fun a b q1 q2 q3 q4 => ek a b (by omega) (pK_no q3 (by omega)) (by omega), fun _ _ _ _ => rfl⟩, fun b => ⟨ek _ _ (by omega) (by omega) (by omega), ek _ _ (by omega) (by omega) (by omega), ek _ _ (by omega) (by omega) (by omega), ek _ _ (by omega) (by omega) (by omega)⟩, ⟨ek _ _ (by omega) (by omega) (by omega), ek _ _ (by omega) (by omega) (by omega), ek _ _ (by omega) (by omega) (by omega), ek _ _ (by omega) (by omega) (by omega), ek _ _ (by omega) (by omega) (by omega), ek _ _ (by omega) (by omega) (by omega)⟩, rfl⟩ ?_ ?_).dx (by omega)⟩
  · rw [v1, v2]
    obtain ⟨p1, p2, p3, p4, p5⟩ := q.2.2.1
    exact ⟨seed_S p1, p2, p3, by unfold setS; rw [if_pos rfl, if_pos rfl], p5⟩
  · obtain ⟨u, b1, b2, b3, b4, b5⟩ := q.2.2.2.2.2.2.1
    refine ⟨u, b1, (ek _ _ (by omega) (by omega) (by omega)).trans b2, (ek _ _ (by omega) (by omega) (by omega)).trans b3, fun b hb => ?_, ?_⟩
    · rw [ek 1 b (by omega) (by omega) (by omega), ek 157 b (by omega) (by omega) (by omega)]; exact b4 b hb
    · rw [v1, show (setI (t0 (setI M 28 19 x)) 140 16 x).1 1 = M.1 1 from funext fun b => ek 1 b (by omega) (by omega) (by omega)]
      exact UOK_seed b5
