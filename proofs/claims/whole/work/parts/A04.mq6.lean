/-- j payments back; what was paid there -/
def anc (D : Nat → Nat × Nat × Nat) (t : Nat) : Nat → Nat
  | 0 => t
  | j + 1 => (D (anc D t j)).1
def pyD (D : Nat → Nat × Nat × Nat) (t j : Nat) : Nat := 10 * (D (anc D t j)).2.1 + (D (anc D t j)).2.2
theorem anc_lt {T : TT} {n m : Nat} {these : Int32} (ht : thOK T m these) (hn : n ≤ 8) (hm : m ≤ 10) {S : SS} {D : Nat → Nat × Nat × Nat} (hE : EX T n m these S) (hD : PD T n these S D) {t : Nat} (hN : t < S.N) : ∀ {j : Nat}, j ≤ pcS S t → anc D t j < S.N ∧ pcS S (anc D t j) + j = pcS S t
  | 0, _ => ⟨hN, rfl⟩
  | j + 1, hj => by
    obtain ⟨h1, h2⟩ := anc_lt ht hn hm hE hD hN (j := j) (by omega)
    have h0 : anc D t j ≠ 0 := fun e => by
      rw [e] at h2
      have : pcS S 0 = 0 := by unfold pcS; rw [hE.2.1.2.1, pcN_0]
      omega
    obtain ⟨a1, a2, -⟩ := hD _ (Nat.pos_of_ne_zero h0) h1
    have := eg_pc ht hn hm a2
    simp only [anc]
    omega
theorem anc_pos {T : TT} {n m : Nat} {these : Int32} (ht : thOK T m these) (hn : n ≤ 8) (hm : m ≤ 10) {S : SS} {D : Nat → Nat × Nat × Nat} (hE : EX T n m these S) (hD : PD T n these S D) {t : Nat} (hN : t < S.N) {j : Nat} (hj : j < pcS S t) : 0 < anc D t j := by
  obtain ⟨h1, h2⟩ := anc_lt ht hn hm hE hD hN (j := j) (by omega)
  refine Nat.pos_of_ne_zero fun e => ?_
  rw [e] at h2
  have : pcS S 0 = 0 := by unfold pcS; rw [hE.2.1.2.1, pcN_0]
  omega
/-- the digits of a row are its payments -/
theorem row_dig {T : TT} {n m : Nat} {these : Int32} (ht : thOK T m these) (hn : n ≤ 8) (hm : m ≤ 10) (hO : OKS T n m) {S : SS} {D : Nat → Nat × Nat × Nat} (hE : EX T n m these S) (hD : PD T n these S D) {t : Nat} (hN : t < S.N) : ∀ {j : Nat}, j ≤ pcS S t → S.rw t / 64 ^ j = S.rw (anc D t j)
  | 0, _ => by simp [anc]
  | j + 1, hj => by
    have h := row_dig ht hn hm hO hE hD hN (j := j) (by omega)
    obtain ⟨h1, h2⟩ := anc_lt ht hn hm hE hD hN (j := j) (by omega)
    obtain ⟨a1, a2, a3⟩ := hD _ (anc_pos ht hn hm hE hD hN (show j < pcS S t by omega)) h1
    have c := cd_60 ht hn hm hO a2.1
    rw [Nat.pow_succ, ← Nat.div_div_eq_div_mul, h, a3]
    simp only [anc]
    omega
theorem row_mod {T : TT} {n m : Nat} {these : Int32} (ht : thOK T m these) (hn : n ≤ 8) (hm : m ≤ 10) (hO : OKS T n m) {S : SS} {D : Nat → Nat × Nat × Nat} (hE : EX T n m these S) (hD : PD T n these S D) {t : Nat} (hN : t < S.N) {j : Nat} (hj : j < pcS S t) : S.rw t / 64 ^ j % 64 = cdE T (D (anc D t j)).2.1 (D (anc D t j)).2.2 ∧ lq T n these S (anc D t (j + 1)) (D (anc D t j)).2.1 (D (anc D t j)).2.2 = true := by
  obtain ⟨h1, h2⟩ := anc_lt ht hn hm hE hD hN (j := j) (by omega)
  obtain ⟨a1, a2, a3⟩ := hD _ (anc_pos ht hn hm hE hD hN hj) h1
  have c := cd_60 ht hn hm hO a2.1
  rw [row_dig ht hn hm hO hE hD hN (show j ≤ pcS S t by omega), a3]
  exact ⟨by omega, a2.1⟩
/-- a row of so many -/
def rowN (N : Mem) (l : Nat) (f : Nat → Int64) : Prop := N.1 140 20 = nI l ∧ ∀ q, q < l → N.2.1 155 q = f q
theorem rowN_mt {N : Mem} {l : Nat} {f : Nat → Int64} (h : rowN N l f) {v : Int64} (hv : v = f l) : rowN (mt N l v) (l + 1) f := by
  refine ⟨sI_eq, fun q hq => ?_⟩
  show (setJ N 155 l v).2.1 155 q = _
  by_cases e : q = l
  · rw [e, hv]; exact if_pos ⟨rfl, rfl⟩
  · exact (if_neg fun z => e z.2).trans (h.2 q (by omega))
/-- nothing but the way changes -/
def frY (M N : Mem) : Prop := (∀ a, a ≠ 170 → N.1 a = M.1 a) ∧ N.2 = M.2
theorem frY.refl {M : Mem} : frY M M := ⟨fun _ _ => rfl, rfl⟩
theorem frY.trans {M N K : Mem} (h : frY M N) (h2 : frY N K) : frY M K := ⟨fun a q => (h2.1 a q).trans (h.1 a q), h2.2.trans h.2⟩
theorem frY_I {M : Mem} {j : Nat} {x : Int32} : frY M (setI M 170 j x) := ⟨fun a h => funext fun q => sI_na h, rfl⟩
theorem frY.K {M N : Mem} (h : frY M N) : frK M N := ⟨⟨fun a j q r => by rw [h.1 a (by omega)], fun a _ _ => by rw [h.2]⟩, by rw [h.1 140 (by omega)], by rw [h.2]⟩
theorem e10 : ∀ k, k < 10 → ∀ i, i < 8 → 10 * nI k + nI i = nI (10 * k + i) := by decide +kernel
set_option maxRecDepth 100000 in
set_option maxHeartbeats 4000000 in
theorem l_allBest {M : Mem} {n m : Nat} {T : TT} {th x : Int32} {S : SS} {D : Nat → Nat × Nat × Nat} {rk W : Nat → Nat} (hn8 : n ≤ 8) (hm10 : m ≤ 10) (hO : OKS T n m) (ht : thOK T m th) (hF : FS M T n m th S D rk W) (h46 : M.1 140 46 = th) {QQ : Nat → List (Option Value) → List Value → Mem → Prop} (K : Reach cX11_all RX11 6 5 QQ 105 [some (.ref 140), some (.int x), some (.int (optI (ceN S th S.N))), none, none, none] [] M) : ∀ (N : Nat) (s : Nat) (bo : Option Nat), (s ≤ S.N) → (bo = ceN S th s) → S.N - s < N → Reach cX11_all RX11 6 5 (QQ) 29 [some (.ref 140), some (.int x), some (.int (optI bo)), some (.int (nI s)), none, none] [] (M) := by
  intro N
  induction N with
  | zero => intro s bo hs hbo hm; exact absurd ‹_ < 0› (Nat.not_lt_zero _)
  | succ N ih =>
    intro s bo hs hbo hm
    have hN3 := (repM_N hF.2.1).2
    have hC := hF.cx ht hn8 hm10 hO
    refine rx_iload_n (i := 3) dX11_all_29 rfl rfl ?_
    refine rx_aload_n (i := 0) dX11_all_30 rfl rfl ?_
    refine rx_getI (k := 44) fo_X11_325 kl_140 (by decide) ti_11_44 dX11_all_31 ?_
    refine rx_top (nI S.N) ((repM_N hF.2.1).1) ?_
    refine rx_icmp_ge (tgt := 105) dX11_all_34 (by decide) (fun c34 => ?_) (fun c34 => ?_)
    · skip
      have f34 := Int32.not_lt.mpr c34
      have e34 : s = S.N := by have := (nI_leI (by omega) (by omega)).mp c34; omega
      subst e34
      refine rx_drop 3 ?_
      rw [hbo]
      exact K
      skip
    · skip
      have f34 := Int32.not_le.mp c34
      have e34 : s < S.N := Nat.lt_of_not_le fun q => c34 (nI_le q (by omega))
      refine rx_aload_n (i := 0) dX11_all_37 rfl rfl ?_
      refine rx_getR 159 (k := 35) fo_X11_74 kl_140 (by decide) ti_11_35 (by decide) rfl dX11_all_38 ?_
      refine rx_iload_n (i := 3) dX11_all_41 rfl rfl ?_
      refine rx_ialdN kl_159 (by omega) (by first | decide | omega) dX11_all_42 ?_
      refine rx_top (S.mk s) ((repM_s hF.2.1 e34).1) ?_
      refine rx_aload_n (i := 0) dX11_all_43 rfl rfl ?_
      refine rx_getI (k := 46) fo_X11_331 kl_140 (by decide) ti_11_46 dX11_all_44 ?_
      refine rx_top (th) (h46) ?_
      refine rx_icmp_eq (tgt := 53) dX11_all_47 (by decide) (fun c47 => ?_) (fun c47 => ?_)
      · skip
        have e47 : S.mk s = th := c47
        cases hce : ceN S th s with
        | none =>
          rw [hbo, hce]
          refine rx_iload_n (i := 2) dX11_all_53 rfl rfl ?_
          refine rx_iconst (-1) dX11_all_54 rfl ?_
          refine rx_icmp_eq (tgt := 97) dX11_all_55 (by decide) (fun c55 => ?_) (fun c55 => ?_)
          · skip
            have hstep : ceN S th (s + 1) = some s := by
              simp only [ceN]
              rw [if_pos e47, hce]
            refine rx_iload_n (i := 3) dX11_all_97 rfl rfl ?_
            refine rx_istore_n (i := 2) dX11_all_98 rfl (by decide) rfl rfl ?_
            first | refine rx_iincN (i := 3) dX11_all_99 rfl (by decide) rfl rfl ?_ | refine rx_iinc (i := 3) dX11_all_99 rfl rfl (by decide) rfl rfl ?_
            refine rx_goto (tgt := 29) dX11_all_102 (by decide) ?_
            have hx := ih (s + 1) _ (by omega) rfl (by omega)
            rw [hstep] at hx
            exact hx
          · skip
            exact absurd rfl c55
            skip
        | some b =>
          rw [hbo, hce]
          refine rx_iload_n (i := 2) dX11_all_53 rfl rfl ?_
          refine rx_iconst (-1) dX11_all_54 rfl ?_
          refine rx_icmp_eq (tgt := 97) dX11_all_55 (by decide) (fun c55 => ?_) (fun c55 => ?_)
          · skip
            exact absurd c55 (nI_nm1 (by have := (ceN_lt hce).1; omega))
            skip
          · skip
            obtain ⟨hbl, hbm⟩ := ceN_lt hce
            have hpcb : pcS S s = pcS S b := by unfold pcS; rw [e47, hbm]
            have hs0 : 0 < s := by omega
            have hb0 : 0 < b := by
              refine Nat.pos_of_ne_zero fun z => ?_
              have h1 := eg_pc ht hn8 hm10 (hC.2.1 s hs0 e34).2.1
              have : pcS S 0 = 0 := by unfold pcS; rw [hC.1.2.1.2.1, pcN_0]
              rw [z] at hpcb
              omega
            have hPb := hC.2.1 b hb0 (by omega)
            have hPs := hC.2.1 s hs0 e34
            have hrl := rwL_eq ht hn8 hm10 hO hF.1 hF.2.2.2.1 (fun t ht' _ => hF.2.2.2.2.1 t ht') hF.2.2.2.2.2.1 hN3 ⟨hs0, e34⟩ ⟨hb0, by omega⟩ hpcb
            refine rx_aload_n (i := 0) dX11_all_58 rfl rfl ?_
            refine rx_getR 162 (k := 38) fo_X11_84 kl_140 (by decide) ti_11_38 (by decide) rfl dX11_all_59 ?_
            refine rx_iload_n (i := 3) dX11_all_62 rfl rfl ?_
            refine rx_ialdN kl_162 (by omega) (by first | decide | omega) dX11_all_63 ?_
            refine rx_top (S.pr s) (hF.2.2.1 s e34) ?_
            refine rx_aload_n (i := 0) dX11_all_64 rfl rfl ?_
            refine rx_getR 162 (k := 38) fo_X11_84 kl_140 (by decide) ti_11_38 (by decide) rfl dX11_all_65 ?_
            refine rx_iload_n (i := 2) dX11_all_68 rfl rfl ?_
            refine rx_ialdN kl_162 (by omega) (by first | decide | omega) dX11_all_69 ?_
            refine rx_top (S.pr b) (hF.2.2.1 b (by omega)) ?_
            refine rx_icmp_lt (tgt := 97) dX11_all_70 (by decide) (fun c70 => ?_) (fun c70 => ?_)
            · skip
              have hstep : ceN S th (s + 1) = some s := by
                simp only [ceN]
                rw [if_pos e47, hce]
                exact if_pos (Or.inl c70)
              refine rx_iload_n (i := 3) dX11_all_97 rfl rfl ?_
              refine rx_istore_n (i := 2) dX11_all_98 rfl (by decide) rfl rfl ?_
              first | refine rx_iincN (i := 3) dX11_all_99 rfl (by decide) rfl rfl ?_ | refine rx_iinc (i := 3) dX11_all_99 rfl rfl (by decide) rfl rfl ?_
              refine rx_goto (tgt := 29) dX11_all_102 (by decide) ?_
              have hx := ih (s + 1) _ (by omega) rfl (by omega)
              rw [hstep] at hx
              exact hx
            · skip
              refine rx_aload_n (i := 0) dX11_all_73 rfl rfl ?_
              refine rx_getR 162 (k := 38) fo_X11_84 kl_140 (by decide) ti_11_38 (by decide) rfl dX11_all_74 ?_
              refine rx_iload_n (i := 3) dX11_all_77 rfl rfl ?_
              refine rx_ialdN kl_162 (by omega) (by first | decide | omega) dX11_all_78 ?_
              refine rx_top (S.pr s) (hF.2.2.1 s e34) ?_
              refine rx_aload_n (i := 0) dX11_all_79 rfl rfl ?_
              refine rx_getR 162 (k := 38) fo_X11_84 kl_140 (by decide) ti_11_38 (by decide) rfl dX11_all_80 ?_
              refine rx_iload_n (i := 2) dX11_all_83 rfl rfl ?_
              refine rx_ialdN kl_162 (by omega) (by first | decide | omega) dX11_all_84 ?_
              refine rx_top (S.pr b) (hF.2.2.1 b (by omega)) ?_
              refine rx_icmp_ne (tgt := 99) dX11_all_85 (by decide) (fun c85 => ?_) (fun c85 => ?_)
              · skip
                have hstep : ceN S th (s + 1) = some b := by
                  simp only [ceN]
                  rw [if_pos e47, hce]
                  exact if_neg (fun z => z.elim (fun y => c70 y) fun y => c85 y.1)
                first | refine rx_iincN (i := 3) dX11_all_99 rfl (by decide) rfl rfl ?_ | refine rx_iinc (i := 3) dX11_all_99 rfl rfl (by decide) rfl rfl ?_
                refine rx_goto (tgt := 29) dX11_all_102 (by decide) ?_
                have hx := ih (s + 1) _ (by omega) rfl (by omega)
                rw [hstep] at hx
                exact hx
              · skip
                refine rx_aload_n (i := 0) dX11_all_88 rfl rfl ?_
                refine rx_iload_n (i := 3) dX11_all_89 rfl rfl ?_
                refine rx_iload_n (i := 2) dX11_all_90 rfl rfl ?_
                refine rx_cvI (ci := 11) mo_X11_isRowLess lk_X11_352 (c_X11_isRowLess (o := s) (s := b) (po := (D s).1) (ps := (D b).1) (by omega) (by omega) (by omega) (by omega) (hF.2.2.2.1 s hs0 e34).1 (hF.2.2.2.1 b hb0 (by omega)).1) (by decide) rfl rfl (Nat.le_of_ble_eq_true rfl) kl_140 rfl dX11_all_91 ?_
                refine rx_top (zI (decide (S.rw s < S.rw b))) (congrArg zI hrl) ?_
                refine rx_if_eq (tgt := 99) dX11_all_94 (by decide) (fun c94 => ?_) (fun c94 => ?_)
                · skip
                  have hstep : ceN S th (s + 1) = some b := by
                    simp only [ceN]
                    rw [if_pos e47, hce]
                    exact if_neg (fun z => z.elim (fun y => c70 y) fun y => by have := zI_0.mp c94; simp at this; omega)
                  first | refine rx_iincN (i := 3) dX11_all_99 rfl (by decide) rfl rfl ?_ | refine rx_iinc (i := 3) dX11_all_99 rfl rfl (by decide) rfl rfl ?_
                  refine rx_goto (tgt := 29) dX11_all_102 (by decide) ?_
                  have hx := ih (s + 1) _ (by omega) rfl (by omega)
                  rw [hstep] at hx
                  exact hx
                · skip
                  have hstep : ceN S th (s + 1) = some s := by
                    simp only [ceN]
                    rw [if_pos e47, hce]
                    exact if_pos (Or.inr ⟨c85, by have := zI_n c94; simpa using this⟩)
                  refine rx_iload_n (i := 3) dX11_all_97 rfl rfl ?_
                  refine rx_istore_n (i := 2) dX11_all_98 rfl (by decide) rfl rfl ?_
                  first | refine rx_iincN (i := 3) dX11_all_99 rfl (by decide) rfl rfl ?_ | refine rx_iinc (i := 3) dX11_all_99 rfl rfl (by decide) rfl rfl ?_
                  refine rx_goto (tgt := 29) dX11_all_102 (by decide) ?_
                  have hx := ih (s + 1) _ (by omega) rfl (by omega)
                  rw [hstep] at hx
                  exact hx
        skip
      · skip
        have hstep : ceN S th (s + 1) = bo := by rw [hbo]; exact if_neg c47
        refine rx_goto (tgt := 99) dX11_all_50 (by decide) ?_
        first | refine rx_iincN (i := 3) dX11_all_99 rfl (by decide) rfl rfl ?_ | refine rx_iinc (i := 3) dX11_all_99 rfl rfl (by decide) rfl rfl ?_
        refine rx_goto (tgt := 29) dX11_all_102 (by decide) ?_
        have hx := ih (s + 1) _ (by omega) rfl (by omega)
        rw [hstep] at hx
        exact hx
set_option maxRecDepth 100000 in
set_option maxHeartbeats 4000000 in
theorem l_allBack {M : Mem} {n m : Nat} {T : TT} {th x : Int32} {S : SS} {D : Nat → Nat × Nat × Nat} {rk W : Nat → Nat} (hn8 : n ≤ 8) (hm10 : m ≤ 10) (hO : OKS T n m) (ht : thOK T m th) (hF : FS M T n m th S D rk W) {b l : Nat} (hb : b < S.N) (hl : l = pcS S b) (hl10 : l ≤ 10) {QQ : Nat → List (Option Value) → List Value → Mem → Prop} (K : ∀ N, frY M N → (∀ q, 0 ≤ q → q < l → N.1 170 q = nI (pyD D b (l - 1 - q))) → Reach cX11_all RX11 6 5 QQ 180 [some (.ref 140), some (.int x), some (.int (nI b)), some (.int (nI l)), none, none] [] N) : ∀ (N : Nat) (e : Nat) (N1 : Mem), (e ≤ l) → (frY M N1) → (∀ q, e ≤ q → q < l → N1.1 170 q = nI (pyD D b (l - 1 - q))) → e < N → Reach cX11_all RX11 6 5 (QQ) 129 [some (.ref 140), some (.int x), some (.int (nI b)), some (.int (nI l)), some (.int (nI (anc D b (l - e)))), some (.int (nI e - 1))] [] (N1) := by
  intro N
  induction N with
  | zero => intro e N1 he hf hw hm; exact absurd ‹_ < 0› (Nat.not_lt_zero _)
  | succ N ih =>
    intro e N1 he hf hw hm
    have hN3 := (repM_N hF.2.1).2
    have hC := hF.cx ht hn8 hm10 hO
    refine rx_iload (i := 5) dX11_all_129 rfl ?_
    refine rx_if_lt (tgt := 180) dX11_all_131 (by decide) (fun c131 => ?_) (fun c131 => ?_)
    · skip
      have e131 : e = 0 := by
        cases e with
        | zero => rfl
        | succ e => rw [sub1, Int32.lt_iff_toInt_lt, nI_toInt (by omega), i_0] at c131; omega
      subst e131
      refine rx_drop 5 ?_
      refine rx_drop 4 ?_
      exact K N1 hf hw
      skip
    · skip
      obtain ⟨e0, rfl⟩ : ∃ e0, e = e0 + 1 := by
        cases e with
        | zero => exact absurd (by decide) c131
        | succ e => exact ⟨e, rfl⟩
      obtain ⟨a1, a2⟩ := anc_lt ht hn8 hm10 hC.1 hC.2.1 hb (j := l - (e0 + 1)) (by omega)
      have a0 := anc_pos ht hn8 hm10 hC.1 hC.2.1 hb (j := l - (e0 + 1)) (by omega)
      have hR := hF.2.2.2.1 _ a0 a1
      have hPa := hC.2.1 _ a0 a1
      obtain ⟨k1, i1, -⟩ := lq_og ht hn8 hO hPa.2.1.1
      have h8 := w8t (8 * (D (anc D b (l - (e0 + 1)))).2.1 + (D (anc D b (l - (e0 + 1)))).2.2) (by omega)
      rw [show (8 * (D (anc D b (l - (e0 + 1)))).2.1 + (D (anc D b (l - (e0 + 1)))).2.2) / 8 = (D (anc D b (l - (e0 + 1)))).2.1 by omega, show (8 * (D (anc D b (l - (e0 + 1)))).2.1 + (D (anc D b (l - (e0 + 1)))).2.2) % 8 = (D (anc D b (l - (e0 + 1)))).2.2 by omega] at h8
      rw [sub1]
      obtain ⟨e, rfl⟩ : ∃ z, z = e0 := ⟨_, rfl⟩
      refine rx_aload_n (i := 0) dX11_all_134 rfl rfl ?_
      refine rx_getR 170 (k := 48) fo_X11_108 kl_140 (by decide) ti_11_48 (by decide) rfl dX11_all_135 ?_
      refine rx_iload (i := 5) dX11_all_138 rfl ?_
      refine rx_bipush (10) dX11_all_140 rfl ?_
      refine rx_aload_n (i := 0) dX11_all_142 rfl rfl ?_
      refine rx_getR 164 (k := 40) fo_X11_90 kl_140 (by decide) ti_11_40 (by decide) rfl dX11_all_143 ?_
      refine rx_iload (i := 4) dX11_all_146 rfl ?_
      refine rx_ialdN kl_164 (by omega) (by first | decide | omega) dX11_all_148 ?_
      refine rx_top (nI (8 * (D (anc D b (l - (e + 1)))).2.1 + (D (anc D b (l - (e + 1)))).2.2)) ((congrFun (hf.1 164 (by omega)) _).trans hR.2) ?_
      refine rx_bipush (8) dX11_all_149 rfl ?_
      refine rx_idiv dX11_all_151 (by decide) ?_
      refine rx_top (nI (D (anc D b (l - (e + 1)))).2.1) (h8.1) ?_
      refine rx_imul dX11_all_152 ?_
      refine rx_aload_n (i := 0) dX11_all_153 rfl rfl ?_
      refine rx_getR 164 (k := 40) fo_X11_90 kl_140 (by decide) ti_11_40 (by decide) rfl dX11_all_154 ?_
      refine rx_iload (i := 4) dX11_all_157 rfl ?_
      refine rx_ialdN kl_164 (by omega) (by first | decide | omega) dX11_all_159 ?_
      refine rx_top (nI (8 * (D (anc D b (l - (e + 1)))).2.1 + (D (anc D b (l - (e + 1)))).2.2)) ((congrFun (hf.1 164 (by omega)) _).trans hR.2) ?_
      refine rx_bipush (8) dX11_all_160 rfl ?_
      refine rx_irem dX11_all_162 (by decide) ?_
      refine rx_top (nI (D (anc D b (l - (e + 1)))).2.2) (h8.2) ?_
      refine rx_iadd dX11_all_163 ?_
      refine rx_top (nI (pyD D b (l - (e + 1)))) (e10 _ (by omega) _ (by omega)) ?_
      refine rx_iastN kl_170 (by omega) (by first | decide | omega) dX11_all_164 ?_
      refine rx_aload_n (i := 0) dX11_all_165 rfl rfl ?_
      refine rx_getR 163 (k := 39) fo_X11_87 kl_140 (by decide) ti_11_39 (by decide) rfl dX11_all_166 ?_
      refine rx_iload (i := 4) dX11_all_169 rfl ?_
      refine rx_ialdN kl_163 (by omega) (by first | decide | omega) dX11_all_171 ?_
      refine rx_top (nI (anc D b (l - e))) ((sI_na (by omega)).trans ((congrFun (hf.1 163 (by omega)) _).trans (hR.1.trans (by rw [show l - e = l - (e + 1) + 1 by omega]; rfl)))) ?_
      refine rx_istore (i := 4) dX11_all_172 (by decide) rfl rfl ?_
      refine rx_iinc (i := 5) dX11_all_174 rfl rfl (by decide) rfl rfl ?_
      refine rx_goto (tgt := 129) dX11_all_177 (by decide) ?_
      rw [addm1]
      exact ih e (setI N1 170 e (nI (pyD D b (l - (e + 1))))) (by omega) (hf.trans frY_I) (fun q h1 h2 => by
        by_cases z : q = e
        · subst z; rw [show l - 1 - q = l - (q + 1) by omega]; exact sI_eq
        · rw [sI_ne (fun y => z y.2)]; exact hw q (by omega) h2) (by omega)
theorem l_allBack0 {M : Mem} {n m : Nat} {T : TT} {th x : Int32} {S : SS} {D : Nat → Nat × Nat × Nat} {rk W : Nat → Nat} (hn8 : n ≤ 8) (hm10 : m ≤ 10) (hO : OKS T n m) (ht : thOK T m th) (hF : FS M T n m th S D rk W) {b l : Nat} (hb : b < S.N) (hl : l = pcS S b) (hl10 : l ≤ 10) {QQ : Nat → List (Option Value) → List Value → Mem → Prop} (K : ∀ N, frY M N → (∀ q, 0 ≤ q → q < l → N.1 170 q = nI (pyD D b (l - 1 - q))) → Reach cX11_all RX11 6 5 QQ 180 [some (.ref 140), some (.int x), some (.int (nI b)), some (.int (nI l)), none, none] [] N) : Reach cX11_all RX11 6 5 QQ 129 [some (.ref 140), some (.int x), some (.int (nI b)), some (.int (nI l)), some (.int (nI b)), some (.int (nI l - 1))] [] M := by
  have h := l_allBack (x := x) hn8 hm10 hO ht hF hb hl hl10 K (l + 1) l M (Nat.le_refl _) frY.refl (fun q h1 h2 => by omega) (by omega)
  rw [Nat.sub_self] at h
  exact h
set_option maxRecDepth 100000 in
set_option maxHeartbeats 4000000 in
theorem l_allTell {M : Mem} {x p : Int32} {D : Nat → Nat × Nat × Nat} {b l : Nat} (hb : b < 3000) (hl10 : l ≤ 10) (hw : ∀ q, q < l → M.1 170 q = nI (pyD D b (l - 1 - q))) (hp : M.1 162 b = p) : ∀ (N : Nat) (q : Nat) (N1 : Mem), (q ≤ l) → (frQ M N1) → (∀ j, N1.1 170 j = M.1 170 j) → (N1.1 162 = M.1 162) → (rowN N1 q (fun q => (nI (pyD D b (l - 1 - q))).toInt64)) → l - q < N → Reach cX11_all RX11 6 5 (RetQ cX11_all (some .int) (fun v N => v = some (.int p) ∧ frQ M N ∧ rowN N l (fun q => (nI (pyD D b (l - 1 - q))).toInt64))) 188 [some (.ref 140), some (.int x), some (.int (nI b)), some (.int (nI l)), none, some (.int (nI q))] [] (N1) := by
  intro N
  induction N with
  | zero => intro q N1 hq hf h170 h162 hr hm; exact absurd ‹_ < 0› (Nat.not_lt_zero _)
  | succ N ih =>
    intro q N1 hq hf h170 h162 hr hm
    refine rx_iload (i := 5) dX11_all_188 rfl ?_
    refine rx_iload_n (i := 3) dX11_all_190 rfl rfl ?_
    refine rx_icmp_ge (tgt := 212) dX11_all_191 (by decide) (fun c191 => ?_) (fun c191 => ?_)
    · skip
      have f191 := Int32.not_lt.mpr c191
      have e191 : q = l := by have := (nI_leI (by omega) (by omega)).mp c191; omega
      subst e191
      refine rx_aload_n (i := 0) dX11_all_212 rfl rfl ?_
      refine rx_getR 162 (k := 38) fo_X11_84 kl_140 (by decide) ti_11_38 (by decide) rfl dX11_all_213 ?_
      refine rx_iload_n (i := 2) dX11_all_216 rfl rfl ?_
      refine rx_ialdN kl_162 (by omega) (by first | decide | omega) dX11_all_217 ?_
      refine rx_top (p) ((congrFun h162 b).trans hp) ?_
      exact rx_iret dX11_all_218 ⟨rfl, hf, hr⟩
    · skip
      have f191 := Int32.not_le.mp c191
      have e191 : q < l := Nat.lt_of_not_le fun z => c191 (nI_le z (by omega))
      refine rx_aload_n (i := 0) dX11_all_194 rfl rfl ?_
      refine rx_aload_n (i := 0) dX11_all_195 rfl rfl ?_
      refine rx_getR 170 (k := 48) fo_X11_108 kl_140 (by decide) ti_11_48 (by decide) rfl dX11_all_196 ?_
      refine rx_iload (i := 5) dX11_all_199 rfl ?_
      refine rx_ialdN kl_170 (by omega) (by first | decide | omega) dX11_all_201 ?_
      refine rx_top (nI (pyD D b (l - 1 - q))) ((h170 q).trans (hw q e191)) ?_
      refine rx_i2l dX11_all_202 rfl ?_
      refine rx_cvN (ci := 11) mo_X11_tell lk_X11_294 (c_X11_tell (s := q) hr.1 (by omega)) (by decide) rfl rfl (Nat.le_of_ble_eq_true rfl) kl_140 rfl dX11_all_203 ?_
      first | refine rx_iincN (i := 5) dX11_all_206 rfl (by decide) rfl rfl ?_ | refine rx_iinc (i := 5) dX11_all_206 rfl rfl (by decide) rfl rfl ?_
      refine rx_goto (tgt := 188) dX11_all_209 (by decide) ?_
      exact ih (q + 1) (mt N1 q (nI (pyD D b (l - 1 - q))).toInt64) (by omega) (hf.trans frQ_mt) (fun j => (show (mt N1 q (nI (pyD D b (l - 1 - q))).toInt64).1 170 j = N1.1 170 j from sI_na (by omega)).trans (h170 j)) ((show (mt N1 q (nI (pyD D b (l - 1 - q))).toInt64).1 162 = N1.1 162 from funext fun j => sI_na (by omega)).trans h162) (rowN_mt hr rfl) (by omega)
set_option maxRecDepth 100000 in
set_option maxHeartbeats 4000000 in
theorem c_X11_all {M : Mem} {n m : Nat} {x : Int32} (w : MW M n m) (hs : sortOK (M.1 153 0)) (hO : OKS (mv M) n m) (hA : AOK (mv M) n) (hx : 0 ≤ x ∧ x ≤ 99) : Con yX11_all cX11_all 6 (some .int) 5 [.ref 140, .int x] M (fun v N => ((vis (mv M) n m (thV (mv M) m x)).1.1 = true ∧ ((ceN (vis (mv M) n m (thV (mv M) m x)).1.2 (thV (mv M) m x) (vis (mv M) n m (thV (mv M) m x)).1.2.N = none ∧ v = some (.int (-2)) ∧ frK M N) ∨ ∃ b D, ceN (vis (mv M) n m (thV (mv M) m x)).1.2 (thV (mv M) m x) (vis (mv M) n m (thV (mv M) m x)).1.2.N = some b ∧ v = some (.int ((vis (mv M) n m (thV (mv M) m x)).1.2.pr b)) ∧ frQ M N ∧ CX (mv M) n m (thV (mv M) m x) (vis (mv M) n m (thV (mv M) m x)).1.2 D ∧ rowN N (pcS (vis (mv M) n m (thV (mv M) m x)).1.2 b) (fun q => (nI (pyD D b (pcS (vis (mv M) n m (thV (mv M) m x)).1.2 b - 1 - q))).toInt64))) ∨ ((vis (mv M) n m (thV (mv M) m x)).1.1 = false ∧ v = some (.int (-3)) ∧ frK M N)) := by
  refine Con.of (own := RX11) (ls := [some (.ref 140), some (.int x), none, none, none, none]) rfl (by decide +kernel) (Nat.le_of_ble_eq_true rfl) rfl ?_
  have w0 := w.t0
  have ⟨hn, hn8, hm, hm10, hd⟩ := w
  refine rx_aload_n (i := 0) dX11_all_0 rfl rfl ?_
  refine rx_iconst (0) dX11_all_1 rfl ?_
  refine rx_putI (k := 21) fo_X11_126 fn_11_21 kl_140 (by decide) ty_11_21 dX11_all_2 ?_
  refine rx_iload_n (i := 1) dX11_all_5 rfl rfl ?_
  refine rx_csI mo_X11_isDay lk_X11_355 c_X11_isDay (by decide) rfl rfl (Nat.le_of_ble_eq_true rfl) dX11_all_6 ?_
  refine rx_top (1) (if_pos hx) ?_
  refine rx_if_ne (tgt := 14) dX11_all_9 (by decide) (fun c9 => ?_) (fun c9 => absurd c9 (by decide))
  refine rx_aload_n (i := 0) dX11_all_14 rfl rfl ?_
  refine rx_iload_n (i := 1) dX11_all_15 rfl rfl ?_
  refine rx_callV (ci := 11) mo_X11_findStates lk_X11_358 (c_X11_findStates (M := t0 M) (x := x) w0 (show sortOK ((t0 M).1 153 0) from hs) (by rw [t0_mv]; exact hO) (by rw [t0_mv]; exact hA)) (by decide) rfl rfl (Nat.le_of_ble_eq_true rfl) kl_140 rfl dX11_all_16 ?_
  rintro _ N0 ⟨rfl, hK, h46, -, hF⟩
  rw [t0_mv] at h46 hF ⊢
  have hK := frK_t0.trans hK
  have wN := frQ.MW hK.1 w
  refine rx_if_ne (tgt := 25) dX11_all_19 (by decide) (fun c19 => ?_) (fun c19 => ?_)
  · skip
    have hok : (vis (mv M) n m (thV (mv M) m x)).1.1 = true := zI_n c19
    obtain ⟨D, rk, W, hF⟩ := hF hok
    have hN3 := (repM_N hF.2.1).2
    have htk : thOK (mv M) m (thV (mv M) m x) := thV_OK hm10
    have hC := hF.cx htk hn8 hm10 hO
    refine rx_iconst (-1) dX11_all_25 rfl ?_
    refine rx_istore_n (i := 2) dX11_all_26 rfl (by decide) rfl rfl ?_
    refine rx_iconst (0) dX11_all_27 rfl ?_
    refine rx_istore_n (i := 3) dX11_all_28 rfl (by decide) rfl rfl ?_
    refine l_allBest hn8 hm10 hO htk hF h46 ?_ ((vis (mv M) n m (thV (mv M) m x)).1.2.N + 1) 0 none (Nat.zero_le _) rfl (by omega)
    cases hce : ceN (vis (mv M) n m (thV (mv M) m x)).1.2 (thV (mv M) m x) (vis (mv M) n m (thV (mv M) m x)).1.2.N with
    | none =>
      skip
      refine rx_iload_n (i := 2) dX11_all_105 rfl rfl ?_
      refine rx_iconst (-1) dX11_all_106 rfl ?_
      refine rx_icmp_ne (tgt := 113) dX11_all_107 (by decide) (fun c107 => ?_) (fun c107 => ?_)
      · skip
        exact absurd rfl c107
        skip
      · skip
        refine rx_bipush (-2) dX11_all_110 rfl ?_
        exact rx_iret dX11_all_112 (Or.inl ⟨hok, Or.inl ⟨rfl, rfl, hK⟩⟩)
    | some b =>
      skip
      refine rx_iload_n (i := 2) dX11_all_105 rfl rfl ?_
      refine rx_iconst (-1) dX11_all_106 rfl ?_
      refine rx_icmp_ne (tgt := 113) dX11_all_107 (by decide) (fun c107 => ?_) (fun c107 => ?_)
      · skip
        obtain ⟨hbl, hbm⟩ := ceN_lt hce
        have hl10 : pcS (vis (mv M) n m (thV (mv M) m x)).1.2 b ≤ 10 := pcN_le
        have hbc := bcS htk hm10 hC.1 hbl
        rw [hbm] at hbc
        refine rx_aload_n (i := 0) dX11_all_113 rfl rfl ?_
        refine rx_getI (k := 46) fo_X11_331 kl_140 (by decide) ti_11_46 dX11_all_114 ?_
        refine rx_top ((thV (mv M) m x)) (h46) ?_
        refine rx_csI mo_J6_bitCount_0f7a4 lk_X11_337 c_J6_bitCount_0f7a4 (by decide) rfl rfl (Nat.le_of_ble_eq_true rfl) dX11_all_117 ?_
        refine rx_top (nI (pcS (vis (mv M) n m (thV (mv M) m x)).1.2 b)) (hbc) ?_
        refine rx_istore_n (i := 3) dX11_all_120 rfl (by decide) rfl rfl ?_
        refine rx_iload_n (i := 2) dX11_all_121 rfl rfl ?_
        refine rx_istore (i := 4) dX11_all_122 (by decide) rfl rfl ?_
        refine rx_iload_n (i := 3) dX11_all_124 rfl rfl ?_
        refine rx_iconst (1) dX11_all_125 rfl ?_
        refine rx_isub dX11_all_126 ?_
        refine rx_istore (i := 5) dX11_all_127 (by decide) rfl rfl ?_
        refine l_allBack0 (x := x) (l := pcS (vis (mv M) n m (thV (mv M) m x)).1.2 b) hn8 hm10 hO htk hF hbl rfl hl10 (fun N hfN hwN => ?_)
        have hKN := hK.trans hfN.K
        refine rx_aload_n (i := 0) dX11_all_180 rfl rfl ?_
        refine rx_iconst (0) dX11_all_181 rfl ?_
        refine rx_putI (k := 20) fo_X11_129 fn_11_20 kl_140 (by decide) ty_11_20 dX11_all_182 ?_
        refine rx_iconst (0) dX11_all_185 rfl ?_
        refine rx_istore (i := 5) dX11_all_186 (by decide) rfl rfl ?_
        refine (l_allTell (x := x) (p := (vis (mv M) n m (thV (mv M) m x)).1.2.pr b) (D := D) (b := b) (l := pcS (vis (mv M) n m (thV (mv M) m x)).1.2 b) (M := setI N 140 20 0) (by omega) hl10 (fun q hq => (sI_na (by omega)).trans (hwN q (Nat.zero_le _) hq)) ((sI_na (by omega)).trans ((congrFun (hfN.1 162 (by omega)) b).trans (hF.2.2.1 b hbl))) (pcS (vis (mv M) n m (thV (mv M) m x)).1.2 b + 1) 0 (setI N 140 20 0) (Nat.zero_le _) frQ.refl (fun _ => rfl) rfl ⟨sI_eq, fun q hq => absurd hq (Nat.not_lt_zero _)⟩ (by omega)).mono ?_
        rintro pc' ls' st' N2 ⟨v, h1, ⟨h2, h3, h4⟩, h5⟩
        exact ⟨v, h1, Or.inl ⟨hok, Or.inr ⟨b, D, rfl, h2, hKN.1.trans ((frQ_I (by omega)).trans h3), hC, h4⟩⟩, h5⟩
      · skip
        exact absurd c107 (nI_nm1 (by have := (ceN_lt hce).1; omega))
        skip
  · skip
    have hok : (vis (mv M) n m (thV (mv M) m x)).1.1 = false := zI_0.mp c19
    refine rx_bipush (-3) dX11_all_22 rfl ?_
    exact rx_iret dX11_all_24 (Or.inr ⟨hok, rfl, hK⟩)
set_option maxRecDepth 100000 in
set_option maxHeartbeats 4000000 in
theorem c_X11_all_no {M : Mem} {x : Int32} (hx : ¬ (0 ≤ x ∧ x ≤ 99)) : Fun yX11_all cX11_all 6 (some .int) 5 [.ref 140, .int x] M (some (.int (-1))) (t0 M) := by
  refine Fun.of (own := RX11) ([some (.ref 140), some (.int x), none, none, none, none]) rfl (by decide +kernel) (Nat.le_of_ble_eq_true rfl) rfl ?_
  refine rx_aload_n (i := 0) dX11_all_0 rfl rfl ?_
  refine rx_iconst (0) dX11_all_1 rfl ?_
  refine rx_putI (k := 21) fo_X11_126 fn_11_21 kl_140 (by decide) ty_11_21 dX11_all_2 ?_
  refine rx_iload_n (i := 1) dX11_all_5 rfl rfl ?_
  refine rx_csI mo_X11_isDay lk_X11_355 c_X11_isDay (by decide) rfl rfl (Nat.le_of_ble_eq_true rfl) dX11_all_6 ?_
  refine rx_if_ne (tgt := 14) dX11_all_9 (by decide) (fun c9 => ?_) (fun c9 => ?_)
  · skip
    exact absurd (ite1n c9) hx
    skip
  · skip
    refine rx_iconst (-1) dX11_all_12 rfl ?_
    exact rx_fiI dX11_all_13 rfl rfl
