/-- reached so far, before w of s -/
def ro (T : TT) (n : Nat) (these : Int32) (S : SS) (who : Int32) (s w t : Nat) : Prop := t = 0 ∨ ∃ p k i, p < S.N ∧ (p < s ∨ (p = s ∧ 8 * k + i < w)) ∧ eg T n these S p k i t ∧ bt who i = true ∧ rch T n these S who p
theorem ro_rch {T : TT} {n m : Nat} {these : Int32} (ht : thOK T m these) (hn : n ≤ 8) (hm : m ≤ 10) {S : SS} {D : Nat → Nat × Nat × Nat} (hC : CX T n m these S D) {who : Int32} {s : Nat} : ro T n these S who s 0 s ↔ rch T n these S who s := by
  rw [rch_iff]
  refine ⟨fun h => h.imp id fun ⟨p, k, i, h1, h2, h3, h4, h5⟩ => ⟨p, k, i, h1, h3, h4, h5⟩, fun h => h.imp id fun ⟨p, k, i, h1, h3, h4, h5⟩ => ⟨p, k, i, h1, Or.inl (eg_lt ht hn hm hC h1 h3), h3, h4, h5⟩⟩
theorem ro_no {T : TT} {n : Nat} {these : Int32} {S : SS} {who : Int32} {s t : Nat} (h : ¬ rch T n these S who s) : ro T n these S who (s + 1) 0 t ↔ ro T n these S who s 0 t := by
  refine ⟨fun h2 => h2.imp id fun ⟨p, k, i, h1, h2, h3, h4, h5⟩ => ⟨p, k, i, h1, ?_, h3, h4, h5⟩, fun h2 => h2.imp id fun ⟨p, k, i, h1, h2, h3, h4, h5⟩ => ⟨p, k, i, h1, by omega, h3, h4, h5⟩⟩
  have : p ≠ s := fun e => h (e ▸ h5)
  omega
theorem ro_80 {T : TT} {n m : Nat} {these : Int32} (ht : thOK T m these) (hn : n ≤ 8) (hm : m ≤ 10) (hO : OKS T n m) {S : SS} {who : Int32} {s t : Nat} : ro T n these S who (s + 1) 0 t ↔ ro T n these S who s 80 t := by
  refine ⟨fun h2 => h2.imp id fun ⟨p, k, i, h1, h2, h3, h4, h5⟩ => ⟨p, k, i, h1, ?_, h3, h4, h5⟩, fun h2 => h2.imp id fun ⟨p, k, i, h1, h2, h3, h4, h5⟩ => ⟨p, k, i, h1, by omega, h3, h4, h5⟩⟩
  obtain ⟨k1, i1, -⟩ := lq_og ht hn hO h3.1
  omega
theorem ro_S {T : TT} {n m : Nat} {these : Int32} (ht : thOK T m these) (hn : n ≤ 8) (hO : OKS T n m) {S : SS} (hD : S.dis) {who : Int32} {s w t u : Nat} (hs : s < S.N) (hon : rch T n these S who s) (hu : u < S.N) (h : eg T n these S s (w / 8) (w % 8) u) (hw : bt who (w % 8) = true) (htN : t < S.N) : ro T n these S who s (w + 1) t ↔ ro T n these S who s w t ∨ t = u := by
  refine ⟨fun h2 => ?_, fun h2 => ?_⟩
  · rcases h2 with h2 | ⟨p, k, i, h1, h2, h3, h4, h5⟩
    · exact Or.inl (Or.inl h2)
    · obtain ⟨k1, i1, -⟩ := lq_og ht hn hO h3.1
      by_cases e : p = s ∧ 8 * k + i = w
      · refine Or.inr ?_
        obtain ⟨rfl, e2⟩ := e
        obtain rfl : k = w / 8 := by omega
        obtain rfl : i = w % 8 := by omega
        exact hD t u htN hu (h3.2.1.trans h.2.1.symm) fun j hj => (h3.2.2 j hj).trans (h.2.2 j hj).symm
      · exact Or.inl (Or.inr ⟨p, k, i, h1, by omega, h3, h4, h5⟩)
  · rcases h2 with h2 | h2
    · exact h2.imp id fun ⟨p, k, i, h1, h2, h3, h4, h5⟩ => ⟨p, k, i, h1, by omega, h3, h4, h5⟩
    · refine Or.inr ⟨s, w / 8, w % 8, hs, Or.inr ⟨rfl, by omega⟩, h2 ▸ h, hw, hon⟩
theorem ro_n {T : TT} {n m : Nat} {these : Int32} (ht : thOK T m these) (hn : n ≤ 8) (hO : OKS T n m) {S : SS} {who : Int32} {s w t : Nat} (h : ∀ t, eg T n these S s (w / 8) (w % 8) t → ¬ bt who (w % 8) = true) : ro T n these S who s (w + 1) t ↔ ro T n these S who s w t := by
  refine ⟨fun h2 => ?_, fun h2 => h2.imp id fun ⟨p, k, i, h1, h2, h3, h4, h5⟩ => ⟨p, k, i, h1, by omega, h3, h4, h5⟩⟩
  rcases h2 with h2 | ⟨p, k, i, h1, h2, h3, h4, h5⟩
  · exact Or.inl h2
  · obtain ⟨k1, i1, -⟩ := lq_og ht hn hO h3.1
    refine Or.inr ⟨p, k, i, h1, ?_, h3, h4, h5⟩
    by_cases e : p = s ∧ 8 * k + i = w
    · exfalso
      obtain ⟨rfl, e2⟩ := e
      obtain rfl : k = w / 8 := by omega
      obtain rfl : i = w % 8 := by omega
      exact h t h3 h4
    · omega
/-- nothing but who is on the way changes -/
def frO (M N : Mem) : Prop := (∀ a, a ≠ 167 → N.1 a = M.1 a) ∧ N.2 = M.2
theorem frO.refl {M : Mem} : frO M M := ⟨fun _ _ => rfl, rfl⟩
theorem frO.trans {M N K : Mem} (h : frO M N) (h2 : frO N K) : frO M K := ⟨fun a q => (h2.1 a q).trans (h.1 a q), h2.2.trans h.2⟩
theorem frO_I {M : Mem} {j : Nat} {x : Int32} : frO M (setI M 167 j x) := ⟨fun a h => funext fun q => sI_na h, rfl⟩
theorem frO.K {M N : Mem} (h : frO M N) : frK M N := ⟨⟨fun a j q r => by rw [h.1 a (by omega)], fun a _ _ => by rw [h.2]⟩, by rw [h.1 140 (by omega)], by rw [h.2]⟩
theorem frO.fs {M N : Mem} (h : frO M N) {T : TT} {n m : Nat} {these : Int32} {S : SS} {D : Nat → Nat × Nat × Nat} {rk W : Nat → Nat} (hF : FS M T n m these S D rk W) : FS N T n m these S D rk W := by
  obtain ⟨h1, h2, h3, h4, h5, h6, h7⟩ := hF
  unfold FS RR lsW
  rw [h.1 162 (by omega), h.1 163 (by omega), h.1 164 (by omega), h.1 165 (by omega), h.1 161 (by omega)]
  exact ⟨h1, repM_keep h2 (by rw [h.1 140 (by omega)]) (h.1 _ (by omega)) (h.1 _ (by omega)) (by rw [h.2]) (h.1 _ (by omega)), h3, h4, h5, h6, h7⟩
def onM (N : Mem) (S : SS) (R : Nat → Prop) : Prop := ∀ t, t < S.N → (N.1 167 t = 1 ∧ R t) ∨ (N.1 167 t = 0 ∧ ¬ R t)
theorem onM.cg {N : Mem} {S : SS} {R R' : Nat → Prop} (h : onM N S R) (e : ∀ t, t < S.N → (R' t ↔ R t)) : onM N S R' := fun t ht => (h t ht).imp (fun z => ⟨z.1, (e t ht).mpr z.2⟩) fun z => ⟨z.1, fun y => z.2 ((e t ht).mp y)⟩
theorem onM.set {N : Mem} {S : SS} {R : Nat → Prop} {u : Nat} (h : onM N S R) : onM (setI N 167 u 1) S (fun t => R t ∨ t = u) := fun t ht => by
  by_cases q : t = u
  · subst q; exact Or.inl ⟨sI_eq, Or.inr rfl⟩
  · rw [sI_ne (fun z => q z.2)]
    exact (h t ht).imp (fun z => ⟨z.1, Or.inl z.2⟩) fun z => ⟨z.1, fun y => y.elim z.2 q⟩
theorem onM.t {N : Mem} {S : SS} {R : Nat → Prop} {t : Nat} (h : onM N S R) (ht : t < S.N) (hz : ¬ N.1 167 t = 0) : R t := (h t ht).elim (fun z => z.2) fun z => absurd z.1 hz
theorem onM.f {N : Mem} {S : SS} {R : Nat → Prop} {t : Nat} (h : onM N S R) (ht : t < S.N) (hz : N.1 167 t = 0) : ¬ R t := (h t ht).elim (fun z => absurd (z.1.symm.trans hz) (by decide)) fun z => z.2
theorem w8r : ∀ w, w < 80 → nI w - nI w / 8 * 8 = nI (w % 8) := fun w h => (w8t w h).2
set_option maxRecDepth 100000 in
set_option maxHeartbeats 4000000 in
theorem l_canIn {M : Mem} {n m : Nat} {T : TT} {th who : Int32} {S : SS} {D : Nat → Nat × Nat × Nat} {rk W : Nat → Nat} (hn8 : n ≤ 8) (hm10 : m ≤ 10) (hO : OKS T n m) (ht : thOK T m th) (hF : FS M T n m th S D rk W) (h46 : M.1 140 46 = th) {s : Nat} (hs : s < S.N) (hon : rch T n th S who s) {QQ : Nat → List (Option Value) → List Value → Mem → Prop} (K : ∀ N, frO M N → onM N S (ro T n th S who (s + 1) 0) → Reach cX11_canAll RX11 5 1 QQ 120 [some (.ref 140), some (.int who), some (.int (nI s)), none, none] [] N) : ∀ (N : Nat) (q : Nat) (N1 : Mem), (q ≤ 80) → (frO M N1) → (onM N1 S (ro T n th S who s q)) → 80 - q < N → Reach cX11_canAll RX11 5 1 (QQ) 70 [some (.ref 140), some (.int who), some (.int (nI s)), some (.int (nI q)), none] [] (N1) := by
  intro N
  induction N with
  | zero => intro q N1 hq hf ho hm; exact absurd ‹_ < 0› (Nat.not_lt_zero _)
  | succ N ih =>
    intro q N1 hq hf ho hm
    have hN3 := (repM_N hF.2.1).2
    have hC := hF.cx ht hn8 hm10 hO
    have hFN := hf.fs hF
    have n46 : N1.1 140 46 = th := by rw [hf.1 140 (by omega)]; exact h46
    have n44 := (repM_N hFN.2.1).1
    refine rx_iload_n (i := 3) dX11_canAll_70 rfl rfl ?_
    refine rx_bipush (80) dX11_canAll_71 rfl ?_
    refine rx_icmp_ge (tgt := 120) dX11_canAll_73 (by decide) (fun c73 => ?_) (fun c73 => ?_)
    · skip
      have f73 := Int32.not_lt.mpr c73
      have e73 : q = 80 := by have := (nI_leI (a := 80) (by omega) (by omega)).mp c73; omega
      subst e73
      refine rx_drop 3 ?_
      exact K N1 hf (ho.cg fun t _ => ro_80 ht hn8 hm10 hO)
      skip
    · skip
      have f73 := Int32.not_le.mp c73
      have e73 : q < 80 := Nat.lt_of_not_le fun z => c73 (nI_le (a := 80) z (by omega))
      have hld := hFN.ld (k := q / 8) (i := q % 8) hs (by omega) (by omega)
      rw [show 8 * (q / 8) + q % 8 = q by omega] at hld
      refine rx_aload_n (i := 0) dX11_canAll_76 rfl rfl ?_
      refine rx_getR 161 (k := 37) fo_X11_81 kl_140 (by decide) ti_11_37 (by decide) rfl dX11_canAll_77 ?_
      refine rx_bipush (80) dX11_canAll_80 rfl ?_
      refine rx_iload_n (i := 2) dX11_canAll_82 rfl rfl ?_
      refine rx_imul dX11_canAll_83 ?_
      refine rx_iload_n (i := 3) dX11_canAll_84 rfl rfl ?_
      refine rx_iadd dX11_canAll_85 ?_
      refine rx_top (nI (80 * s + q)) (ix80 s q) ?_
      refine rx_ialdN kl_161 (by omega) (by first | decide | omega) dX11_canAll_86 ?_
      refine rx_istore (i := 4) dX11_canAll_87 (by decide) rfl rfl ?_
      refine rx_iload (i := 4) dX11_canAll_89 rfl ?_
      refine rx_iconst (-1) dX11_canAll_91 rfl ?_
      refine rx_icmp_eq (tgt := 114) dX11_canAll_92 (by decide) (fun c92 => ?_) (fun c92 => ?_)
      · skip
        have e92 : lq T n th S s (q / 8) (q % 8) = false := by
          cases hq : lq T n th S s (q / 8) (q % 8) with
          | false => rfl
          | true =>
            obtain ⟨u, u1, u2, u3⟩ := hld.2 hq
            exact absurd (u3.symm.trans c92) (nI_nm1 (by omega))
        have hback := ih (q + 1) N1 (by omega) hf (ho.cg fun t _ => ro_n ht hn8 hO fun u hu => by rw [hu.1] at e92; cases e92) (by omega)
        first | refine rx_iincN (i := 3) dX11_canAll_114 rfl (by decide) rfl rfl ?_ | refine rx_iinc (i := 3) dX11_canAll_114 rfl rfl (by decide) rfl rfl ?_
        refine rx_goto (tgt := 70) dX11_canAll_117 (by decide) ?_
        refine rx_drop 4 ?_
        exact hback
      · skip
        have e92 : lq T n th S s (q / 8) (q % 8) = true := by
          cases hq : lq T n th S s (q / 8) (q % 8) with
          | true => rfl
          | false => exact absurd (hld.1 hq) c92
        obtain ⟨u, u1, u2, u3⟩ := hld.2 e92
        refine rx_iload_n (i := 1) dX11_canAll_95 rfl rfl ?_
        refine rx_iload_n (i := 3) dX11_canAll_96 rfl rfl ?_
        refine rx_bipush (8) dX11_canAll_97 rfl ?_
        refine rx_irem dX11_canAll_99 (by decide) ?_
        refine rx_top (nI (q % 8)) (w8r q e73) ?_
        refine rx_csI mo_X11_has lk_X11_291 (c_X11_has (by omega)) (by decide) rfl rfl (Nat.le_of_ble_eq_true rfl) dX11_canAll_100 ?_
        refine rx_if_eq (tgt := 114) dX11_canAll_103 (by decide) (fun c103 => ?_) (fun c103 => ?_)
        · skip
          have e103 : bt who (q % 8) = false := zI_0.mp c103
          have hback := ih (q + 1) N1 (by omega) hf (ho.cg fun t _ => ro_n ht hn8 hO fun u hu => by rw [e103]; decide) (by omega)
          first | refine rx_iincN (i := 3) dX11_canAll_114 rfl (by decide) rfl rfl ?_ | refine rx_iinc (i := 3) dX11_canAll_114 rfl rfl (by decide) rfl rfl ?_
          refine rx_goto (tgt := 70) dX11_canAll_117 (by decide) ?_
          refine rx_drop 4 ?_
          exact hback
        · skip
          have e103 : bt who (q % 8) = true := zI_n c103
          have hback := ih (q + 1) (setI N1 167 u 1) (by omega) (hf.trans frO_I) (ho.set.cg fun t htN => ro_S ht hn8 hO hC.1.1 hs hon u2 u1 e103 htN) (by omega)
          refine rx_aload_n (i := 0) dX11_canAll_106 rfl rfl ?_
          refine rx_getR 167 (k := 43) fo_X11_99 kl_140 (by decide) ti_11_43 (by decide) rfl dX11_canAll_107 ?_
          refine rx_iload (i := 4) dX11_canAll_110 rfl ?_
          refine rx_top (nI u) (u3) ?_
          refine rx_iconst (1) dX11_canAll_112 rfl ?_
          refine rx_zastN kl_167 (by omega) (by first | decide | omega) (by first | exact Or.inl rfl | exact Or.inr rfl) dX11_canAll_113 ?_
          first | refine rx_iincN (i := 3) dX11_canAll_114 rfl (by decide) rfl rfl ?_ | refine rx_iinc (i := 3) dX11_canAll_114 rfl rfl (by decide) rfl rfl ?_
          refine rx_goto (tgt := 70) dX11_canAll_117 (by decide) ?_
          refine rx_drop 4 ?_
          exact hback
set_option maxRecDepth 100000 in
set_option maxHeartbeats 4000000 in
theorem l_canOut {M : Mem} {n m : Nat} {T : TT} {th who : Int32} {S : SS} {D : Nat → Nat × Nat × Nat} {rk W : Nat → Nat} (hn8 : n ≤ 8) (hm10 : m ≤ 10) (hO : OKS T n m) (ht : thOK T m th) (hF : FS M T n m th S D rk W) (h46 : M.1 140 46 = th) : ∀ (N : Nat) (s : Nat) (N1 : Mem), (s ≤ S.N) → (frO M N1) → (onM N1 S (ro T n th S who s 0)) → (∀ t, t < s → ¬ (S.mk t = th ∧ rch T n th S who t)) → S.N - s < N → Reach cX11_canAll RX11 5 1 (RetQ cX11_canAll (some .boolean) (fun v N => frO M N ∧ ((v = some (.int 1) ∧ ∃ t, t < S.N ∧ S.mk t = th ∧ rch T n th S who t) ∨ (v = some (.int 0) ∧ ¬ ∃ t, t < S.N ∧ S.mk t = th ∧ rch T n th S who t)))) 33 [some (.ref 140), some (.int who), some (.int (nI s)), none, none] [] (N1) := by
  intro N
  induction N with
  | zero => intro s N1 hs hf ho hno hm; exact absurd ‹_ < 0› (Nat.not_lt_zero _)
  | succ N ih =>
    intro s N1 hs hf ho hno hm
    have hN3 := (repM_N hF.2.1).2
    have hC := hF.cx ht hn8 hm10 hO
    have hFN := hf.fs hF
    have n46 : N1.1 140 46 = th := by rw [hf.1 140 (by omega)]; exact h46
    have n44 := (repM_N hFN.2.1).1
    refine rx_iload_n (i := 2) dX11_canAll_33 rfl rfl ?_
    refine rx_aload_n (i := 0) dX11_canAll_34 rfl rfl ?_
    refine rx_getI (k := 44) fo_X11_325 kl_140 (by decide) ti_11_44 dX11_canAll_35 ?_
    refine rx_top (nI S.N) (n44) ?_
    refine rx_icmp_ge (tgt := 126) dX11_canAll_38 (by decide) (fun c38 => ?_) (fun c38 => ?_)
    · skip
      have f38 := Int32.not_lt.mpr c38
      have e38 : s = S.N := by have := (nI_leI (by omega) (by omega)).mp c38; omega
      refine rx_iconst (0) dX11_canAll_126 rfl ?_
      exact rx_zret dX11_canAll_127 (Or.inl rfl) ⟨hf, Or.inr ⟨rfl, fun ⟨t, h1, h2⟩ => hno t (by omega) h2⟩⟩
    · skip
      have f38 := Int32.not_le.mp c38
      have e38 : s < S.N := Nat.lt_of_not_le fun q => c38 (nI_le q (by omega))
      refine rx_aload_n (i := 0) dX11_canAll_41 rfl rfl ?_
      refine rx_getR 167 (k := 43) fo_X11_99 kl_140 (by decide) ti_11_43 (by decide) rfl dX11_canAll_42 ?_
      refine rx_iload_n (i := 2) dX11_canAll_45 rfl rfl ?_
      refine rx_zaldN kl_167 (by omega) (by first | decide | omega) dX11_canAll_46 ?_
      refine rx_if_ne (tgt := 53) dX11_canAll_47 (by decide) (fun c47 => ?_) (fun c47 => ?_)
      · skip
        have e47 := (ro_rch ht hn8 hm10 hC).mp (ho.t e38 c47)
        refine rx_aload_n (i := 0) dX11_canAll_53 rfl rfl ?_
        refine rx_getR 159 (k := 35) fo_X11_74 kl_140 (by decide) ti_11_35 (by decide) rfl dX11_canAll_54 ?_
        refine rx_iload_n (i := 2) dX11_canAll_57 rfl rfl ?_
        refine rx_ialdN kl_159 (by omega) (by first | decide | omega) dX11_canAll_58 ?_
        refine rx_top (S.mk s) ((repM_s hFN.2.1 e38).1) ?_
        refine rx_aload_n (i := 0) dX11_canAll_59 rfl rfl ?_
        refine rx_getI (k := 46) fo_X11_331 kl_140 (by decide) ti_11_46 dX11_canAll_60 ?_
        refine rx_top (th) (n46) ?_
        refine rx_icmp_ne (tgt := 68) dX11_canAll_63 (by decide) (fun c63 => ?_) (fun c63 => ?_)
        · skip
          refine rx_iconst (0) dX11_canAll_68 rfl ?_
          refine rx_istore_n (i := 3) dX11_canAll_69 rfl (by decide) rfl rfl ?_
          refine l_canIn hn8 hm10 hO ht hF h46 e38 e47 (fun N hfN hoN => ?_) 81 0 N1 (by omega) hf ho (by omega)
          first | refine rx_iincN (i := 2) dX11_canAll_120 rfl (by decide) rfl rfl ?_ | refine rx_iinc (i := 2) dX11_canAll_120 rfl rfl (by decide) rfl rfl ?_
          refine rx_goto (tgt := 33) dX11_canAll_123 (by decide) ?_
          exact ih (s + 1) N (by omega) hfN hoN (fun t htl h => by
            by_cases z : t = s
            · subst z; exact c63 h.1
            · exact hno t (by omega) h) (by omega)
        · skip
          refine rx_iconst (1) dX11_canAll_66 rfl ?_
          exact rx_zret dX11_canAll_67 (Or.inr rfl) ⟨hf, Or.inl ⟨rfl, s, e38, c63, e47⟩⟩
      · skip
        have e47 : ¬ rch T n th S who s := fun z => ho.f e38 c47 ((ro_rch ht hn8 hm10 hC).mpr z)
        refine rx_goto (tgt := 120) dX11_canAll_50 (by decide) ?_
        first | refine rx_iincN (i := 2) dX11_canAll_120 rfl (by decide) rfl rfl ?_ | refine rx_iinc (i := 2) dX11_canAll_120 rfl rfl (by decide) rfl rfl ?_
        refine rx_goto (tgt := 33) dX11_canAll_123 (by decide) ?_
        exact ih (s + 1) N1 (by omega) hf (ho.cg fun t _ => ro_no e47) (fun t htl h => by
          by_cases z : t = s
          · subst z; exact e47 h.2
          · exact hno t (by omega) h) (by omega)
set_option maxRecDepth 100000 in
set_option maxHeartbeats 4000000 in
theorem l_canSet {M : Mem} {n m : Nat} {T : TT} {th who : Int32} {S : SS} {D : Nat → Nat × Nat × Nat} {rk W : Nat → Nat} (hn8 : n ≤ 8) (hm10 : m ≤ 10) (hO : OKS T n m) (ht : thOK T m th) (hF : FS M T n m th S D rk W) (h46 : M.1 140 46 = th) {QQ : Nat → List (Option Value) → List Value → Mem → Prop} (K : ∀ N, frO M N → onM N S (fun t => t = 0) → Reach cX11_canAll RX11 5 1 QQ 31 [some (.ref 140), some (.int who), none, none, none] [] N) : ∀ (N : Nat) (s : Nat) (N1 : Mem), (s ≤ S.N) → (frO M N1) → (∀ t, t < s → (N1.1 167 t = 1 ∧ t = 0) ∨ (N1.1 167 t = 0 ∧ ¬ t = 0)) → S.N - s < N → Reach cX11_canAll RX11 5 1 (QQ) 2 [some (.ref 140), some (.int who), some (.int (nI s)), none, none] [] (N1) := by
  intro N
  induction N with
  | zero => intro s N1 hs hf ho hm; exact absurd ‹_ < 0› (Nat.not_lt_zero _)
  | succ N ih =>
    intro s N1 hs hf ho hm
    have hN3 := (repM_N hF.2.1).2
    have hC := hF.cx ht hn8 hm10 hO
    have hFN := hf.fs hF
    have n46 : N1.1 140 46 = th := by rw [hf.1 140 (by omega)]; exact h46
    have n44 := (repM_N hFN.2.1).1
    refine rx_iload_n (i := 2) dX11_canAll_2 rfl rfl ?_
    refine rx_aload_n (i := 0) dX11_canAll_3 rfl rfl ?_
    refine rx_getI (k := 44) fo_X11_325 kl_140 (by decide) ti_11_44 dX11_canAll_4 ?_
    refine rx_top (nI S.N) (n44) ?_
    refine rx_icmp_ge (tgt := 31) dX11_canAll_7 (by decide) (fun c7 => ?_) (fun c7 => ?_)
    · skip
      have f7 := Int32.not_lt.mpr c7
      have e7 : s = S.N := by have := (nI_leI (by omega) (by omega)).mp c7; omega
      refine rx_drop 2 ?_
      exact K N1 hf (fun t htl => ho t (by omega))
      skip
    · skip
      have f7 := Int32.not_le.mp c7
      have e7 : s < S.N := Nat.lt_of_not_le fun q => c7 (nI_le q (by omega))
      refine rx_aload_n (i := 0) dX11_canAll_10 rfl rfl ?_
      refine rx_getR 167 (k := 43) fo_X11_99 kl_140 (by decide) ti_11_43 (by decide) rfl dX11_canAll_11 ?_
      refine rx_iload_n (i := 2) dX11_canAll_14 rfl rfl ?_
      refine rx_iload_n (i := 2) dX11_canAll_15 rfl rfl ?_
      refine rx_if_ne (tgt := 23) dX11_canAll_16 (by decide) (fun c16 => ?_) (fun c16 => ?_)
      · skip
        have e16 : ¬ s = 0 := fun z => c16 (by rw [z]; rfl)
        refine rx_iconst (0) dX11_canAll_23 rfl ?_
        refine rx_zastN kl_167 (by omega) (by first | decide | omega) (by first | exact Or.inl rfl | exact Or.inr rfl) dX11_canAll_24 ?_
        first | refine rx_iincN (i := 2) dX11_canAll_25 rfl (by decide) rfl rfl ?_ | refine rx_iinc (i := 2) dX11_canAll_25 rfl rfl (by decide) rfl rfl ?_
        refine rx_goto (tgt := 2) dX11_canAll_28 (by decide) ?_
        exact ih (s + 1) (setI N1 167 s 0) (by omega) (hf.trans frO_I) (fun t htl => by
          by_cases z : t = s
          · subst z; exact Or.inr ⟨sI_eq, e16⟩
          · rw [sI_ne (fun y => z y.2)]; exact ho t (by omega)) (by omega)
      · skip
        have e16 : s = 0 := nI_0' (by omega) c16
        refine rx_iconst (1) dX11_canAll_19 rfl ?_
        refine rx_goto (tgt := 24) dX11_canAll_20 (by decide) ?_
        refine rx_zastN kl_167 (by omega) (by first | decide | omega) (by first | exact Or.inl rfl | exact Or.inr rfl) dX11_canAll_24 ?_
        first | refine rx_iincN (i := 2) dX11_canAll_25 rfl (by decide) rfl rfl ?_ | refine rx_iinc (i := 2) dX11_canAll_25 rfl rfl (by decide) rfl rfl ?_
        refine rx_goto (tgt := 2) dX11_canAll_28 (by decide) ?_
        exact ih (s + 1) (setI N1 167 s 1) (by omega) (hf.trans frO_I) (fun t htl => by
          by_cases z : t = s
          · subst z; exact Or.inl ⟨sI_eq, e16⟩
          · rw [sI_ne (fun y => z y.2)]; exact ho t (by omega)) (by omega)
set_option maxRecDepth 100000 in
set_option maxHeartbeats 4000000 in
theorem c_X11_canAll {M : Mem} {n m : Nat} {T : TT} {th who : Int32} {S : SS} {D : Nat → Nat × Nat × Nat} {rk W : Nat → Nat} (hn8 : n ≤ 8) (hm10 : m ≤ 10) (hO : OKS T n m) (ht : thOK T m th) (hF : FS M T n m th S D rk W) (h46 : M.1 140 46 = th) : Con yX11_canAll cX11_canAll 5 (some .boolean) 1 [.ref 140, .int who] M (fun v N => frO M N ∧ ((v = some (.int 1) ∧ ∃ t, t < S.N ∧ S.mk t = th ∧ rch T n th S who t) ∨ (v = some (.int 0) ∧ ¬ ∃ t, t < S.N ∧ S.mk t = th ∧ rch T n th S who t))) := by
  refine Con.of (own := RX11) (ls := [some (.ref 140), some (.int who), none, none, none]) rfl (by decide +kernel) (Nat.le_of_ble_eq_true rfl) rfl ?_
  refine rx_iconst (0) dX11_canAll_0 rfl ?_
  refine rx_istore_n (i := 2) dX11_canAll_1 rfl (by decide) rfl rfl ?_
  refine l_canSet hn8 hm10 hO ht hF h46 (fun N1 hf ho => ?_) (S.N + 1) 0 M (by omega) frO.refl (fun t htl => absurd htl (Nat.not_lt_zero _)) (by omega)
  refine rx_iconst (0) dX11_canAll_31 rfl ?_
  refine rx_istore_n (i := 2) dX11_canAll_32 rfl (by decide) rfl rfl ?_
  refine l_canOut hn8 hm10 hO ht hF h46 (S.N + 1) 0 N1 (by omega) hf (ho.cg fun t _ => ?_) (fun t htl => absurd htl (Nat.not_lt_zero _)) (by omega)
  exact ⟨fun h => h.elim id fun ⟨p, k, i, h1, h2, _⟩ => by omega, Or.inl⟩
