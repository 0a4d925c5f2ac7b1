set_option maxRecDepth 100000 in
set_option maxHeartbeats 4000000 in
theorem l_findOff {M : Mem} {day : Int32} {s q : Nat} {QQ : Nat → List (Option Value) → List Value → Mem → Prop} (K : Reach cX11_findStates RX11 9 4 QQ 371 [some (.ref 140), some (.int day), some (.int 0), some (.int (nI s)), none, none, none, none, none] [] (M)) : Reach cX11_findStates RX11 9 4 QQ 142 [some (.ref 140), some (.int day), some (.int 0), some (.int (nI s)), some (.int (nI q)), none, none, none, none] [] (M) := by
  refine rx_iload (i := 4) dX11_findStates_142 rfl ?_
  refine rx_bipush (80) dX11_findStates_144 rfl ?_
  refine rx_icmp_ge (tgt := 371) dX11_findStates_146 (by decide) (fun c146 => ?_) (fun c146 => ?_)
  · skip
    have f146 := Int32.not_lt.mpr c146
    refine rx_drop 4 ?_
    exact K
  · skip
    have f146 := Int32.not_le.mp c146
    refine rx_iload_n (i := 2) dX11_findStates_149 rfl rfl ?_
    refine rx_if_eq (tgt := 371) dX11_findStates_150 (by decide) (fun c150 => ?_) (fun c150 => absurd c150 (by decide))
    refine rx_drop 4 ?_
    exact K
theorem w8t : ∀ w, w < 80 → nI w / 8 = nI (w / 8) ∧ nI w - nI w / 8 * 8 = nI (w % 8) := by decide +kernel
theorem ix80 (s w : Nat) : 80 * nI s + nI w = nI (80 * s + w) := by rw [show (80 : Int32) = nI 80 from rfl, pk_mul, nI_add]
theorem nI_nm1 {a : Nat} (h : a < 2 ^ 31) : ¬ nI a = -1 := fun q => by
  have := congrArg Int32.toInt q
  rw [nI_toInt h, show (-1 : Int32).toInt = -1 from rfl] at this
  omega
theorem ns_o {M : Mem} {p N n a j : Nat} {mk : Int32} (h : ¬ (a = 159 ∨ a = 160 ∨ (a = 163 ∧ j = N) ∨ a = 168 ∨ (a = 140 ∧ j = 44))) : (nsM M p N mk n).1 a j = M.1 a j :=
  (sI_ne (by omega)).trans ((sI_ne (by omega)).trans ((sI_ne (by omega)).trans ((cy_o (by omega)).trans (sI_ne (by omega)))))
set_option maxRecDepth 100000 in
set_option maxHeartbeats 4000000 in
theorem l_findIn {M0 : Mem} {n m s : Nat} {these day : Int32} {x : Bool × SS} {mk0 : Int32} {c0 : Nat → Nat} {p0 : Int32} {r0 : Nat} {rk : Nat → Nat} (w0 : MW M0 n m) (hs0 : sortOK (M0.1 153 0)) (hth : M0.1 140 46 = these) (ht : thOK (mv M0) m these) (hO : OKS (mv M0) n m) (hA : AOK (mv M0) n) {QQ : Nat → List (Option Value) → List Value → Mem → Prop} (KT : ∀ N S D W, mrun (mv M0) n s mk0 c0 p0 r0 these x 80 = (true, S) → (S.mk s = mk0 ∧ S.co s = c0 ∧ S.pr s = p0 ∧ S.rw s = r0) → MI M0 N (mv M0) n these S s 80 D rk → PI (mv M0) n m these S s 60 D rk W → Reach cX11_findStates RX11 9 4 QQ 371 [some (.ref 140), some (.int day), some (.int 1), some (.int (nI s)), none, none, none, none, none] [] (N)) (KF : ∀ N, (msF M0 N n ∧ ∃ W, N.1 140 44 = nI W ∧ W ≤ 3000) → (mrun (mv M0) n s mk0 c0 p0 r0 these x 80).1 = false → Reach cX11_findStates RX11 9 4 QQ 371 [some (.ref 140), some (.int day), some (.int 0), some (.int (nI s)), none, none, none, none, none] [] (N)) : ∀ (N : Nat) (q : Nat) (M : Mem) (S : SS) (Dd : Nat → Nat × Nat × Nat) (W : Nat → Nat) (C : Nat), (q ≤ 80) → (mrun (mv M0) n s mk0 c0 p0 r0 these x q = (true, S)) → (S.mk s = mk0 ∧ S.co s = c0 ∧ S.pr s = p0 ∧ S.rw s = r0) → (MI M0 M (mv M0) n these S s q Dd rk) → (PI (mv M0) n m these S s C Dd rk W) → (C ≤ 60) → (∀ k i, q ≤ 8 * k + i → i < 8 → lq (mv M0) n these S s k i = true → C ≤ cdE (mv M0) k i) → 80 - q < N → Reach cX11_findStates RX11 9 4 (QQ) 142 [some (.ref 140), some (.int day), some (.int 1), some (.int (nI s)), some (.int (nI q)), none, none, none, none] [] (M) := by
  intro N
  induction N with
  | zero => intro q M S Dd W C hw hrun hq hM hP hC60 hC hm; exact absurd ‹_ < 0› (Nat.not_lt_zero _)
  | succ N ih =>
    intro q M S Dd W C hw hrun hq hM hP hC60 hC hm
    obtain ⟨wn, hn8, wm, hm10, wd⟩ := id w0
    have hs := hP.2.1
    have hN3 := (repM_N hM.2.1).2
    have hf := hM.1
    have m0 : M.1 140 0 = nI n := (hf.1 _ _ (by omega)).trans wn
    refine rx_iload (i := 4) dX11_findStates_142 rfl ?_
    refine rx_bipush (80) dX11_findStates_144 rfl ?_
    refine rx_icmp_ge (tgt := 371) dX11_findStates_146 (by decide) (fun c146 => ?_) (fun c146 => ?_)
    · skip
      have f146 := Int32.not_lt.mpr c146
      have e146 : q = 80 := by have := (nI_leI (a := 80) (by omega) (by omega)).mp c146; omega
      subst e146
      refine rx_drop 4 ?_
      exact KT M S Dd W hrun hq hM (hP.wk hC60)
      skip
    · skip
      have f146 := Int32.not_le.mp c146
      have e146 : q < 80 := Nat.lt_of_not_le fun z => c146 (nI_le (a := 80) z (by omega))
      refine rx_iload_n (i := 2) dX11_findStates_149 rfl rfl ?_
      refine rx_if_eq (tgt := 371) dX11_findStates_150 (by decide) (fun c150 => absurd c150 (by decide)) (fun c150 => ?_)
      refine rx_aload_n (i := 0) dX11_findStates_153 rfl rfl ?_
      refine rx_getR 161 (k := 37) fo_X11_81 kl_140 (by decide) ti_11_37 (by decide) rfl dX11_findStates_154 ?_
      refine rx_bipush (80) dX11_findStates_157 rfl ?_
      refine rx_iload_n (i := 3) dX11_findStates_159 rfl rfl ?_
      refine rx_imul dX11_findStates_160 ?_
      refine rx_iload (i := 4) dX11_findStates_161 rfl ?_
      refine rx_iadd dX11_findStates_163 ?_
      refine rx_top (nI (80 * s + q)) (ix80 s q) ?_
      refine rx_iconst (-1) dX11_findStates_164 rfl ?_
      refine rx_iastN kl_161 (by omega) (by first | decide | omega) dX11_findStates_165 ?_
      have hMA := hM.wr (w := q) e146
      obtain ⟨MA, eMA⟩ : ∃ z, setI M 161 (80 * s + q) (-1) = z := ⟨_, rfl⟩
      have eA161 : MA.1 161 (80 * s + q) = -1 := by rw [← eMA]; exact sI_eq
      rw [eMA] at hMA
      rw [eMA]
      have hfA := hMA.1
      have mA0 : MA.1 140 0 = nI n := (hfA.1 _ _ (by omega)).trans wn
      have hsA := repM_s hMA.2.1 hs
      have eL : lq (mv M0) n these S s (q / 8) (q % 8) = true ↔ (bt these (q / 8) = true ∧ bt (S.mk s) (q / 8) = false) ∧ q % 8 < n ∧ mayT (ldT (mv M0) n (S.co s)) n (q / 8) (q % 8) = true := lq_iff ht hn8
      refine rx_iload (i := 4) dX11_findStates_166 rfl ?_
      refine rx_bipush (8) dX11_findStates_168 rfl ?_
      refine rx_idiv dX11_findStates_170 (by decide) ?_
      refine rx_top (nI (q / 8)) ((w8t q e146).1) ?_
      refine rx_istore (i := 5) dX11_findStates_171 (by decide) rfl rfl ?_
      refine rx_iload (i := 4) dX11_findStates_173 rfl ?_
      refine rx_bipush (8) dX11_findStates_175 rfl ?_
      refine rx_irem dX11_findStates_177 (by decide) ?_
      refine rx_top (nI (q % 8)) ((w8t q e146).2) ?_
      refine rx_istore (i := 6) dX11_findStates_178 (by decide) rfl rfl ?_
      refine rx_aload_n (i := 0) dX11_findStates_180 rfl rfl ?_
      refine rx_getI (k := 46) fo_X11_331 kl_140 (by decide) ti_11_46 dX11_findStates_181 ?_
      refine rx_top (these) ((hfA.1 _ _ (by omega)).trans hth) ?_
      refine rx_aload_n (i := 0) dX11_findStates_184 rfl rfl ?_
      refine rx_getR 159 (k := 35) fo_X11_74 kl_140 (by decide) ti_11_35 (by decide) rfl dX11_findStates_185 ?_
      refine rx_iload_n (i := 3) dX11_findStates_188 rfl rfl ?_
      refine rx_ialdN kl_159 (by omega) (by first | decide | omega) dX11_findStates_189 ?_
      refine rx_top (S.mk s) (hsA.1) ?_
      refine rx_iconst (-1) dX11_findStates_190 rfl ?_
      refine rx_ixor dX11_findStates_191 ?_
      refine rx_iand dX11_findStates_192 ?_
      refine rx_iload (i := 5) dX11_findStates_193 rfl ?_
      refine rx_csI mo_X11_has lk_X11_291 (c_X11_has (by omega)) (by decide) rfl rfl (Nat.le_of_ble_eq_true rfl) dX11_findStates_195 ?_
      refine rx_if_eq (tgt := 365) dX11_findStates_198 (by decide) (fun c198 => ?_) (fun c198 => ?_)
      · skip
        have hb : bt (these &&& (S.mk s ^^^ -1)) (q / 8) = false := zI_0.mp c198
        rw [b_and, b_not _ (by omega)] at hb
        have hl : lq (mv M0) n these S s (q / 8) (q % 8) = false := Bool.eq_false_iff.mpr fun z => by rw [(eL.mp z).1.1, (eL.mp z).1.2] at hb; cases hb
        have hback := ih (q + 1) MA S Dd W C (by omega) ((mrun_f hrun hq.1 hq.2.1 hl)) hq (hMA.skip eA161 hl) hP hC60 (fun k i h1 h2 h3 => hC k i (by omega) h2 h3) (by omega)
        first | refine rx_iincN (i := 4) dX11_findStates_365 rfl (by decide) rfl rfl ?_ | refine rx_iinc (i := 4) dX11_findStates_365 rfl rfl (by decide) rfl rfl ?_
        refine rx_goto (tgt := 142) dX11_findStates_368 (by decide) ?_
        refine rx_drop 8 ?_
        refine rx_drop 7 ?_
        refine rx_drop 6 ?_
        refine rx_drop 5 ?_
        exact hback
      · skip
        have hb : bt (these &&& (S.mk s ^^^ -1)) (q / 8) = true := zI_n c198
        rw [b_and, b_not _ (by omega)] at hb
        have bits : bt these (q / 8) = true ∧ bt (S.mk s) (q / 8) = false := by simpa using hb
        refine rx_iload (i := 6) dX11_findStates_201 rfl ?_
        refine rx_aload_n (i := 0) dX11_findStates_203 rfl rfl ?_
        refine rx_getI (k := 0) fo_X11_132 kl_140 (by decide) ti_11_0 dX11_findStates_204 ?_
        refine rx_top (nI n) (mA0) ?_
        refine rx_icmp_lt (tgt := 213) dX11_findStates_207 (by decide) (fun c207 => ?_) (fun c207 => ?_)
        · skip
          have e207 : q % 8 < n := (nI_ltI (by omega) (by omega)).mp c207
          refine rx_aload_n (i := 0) dX11_findStates_213 rfl rfl ?_
          refine rx_iload_n (i := 3) dX11_findStates_214 rfl rfl ?_
          refine rx_cvN (ci := 11) mo_X11_load lk_X11_345 (c_X11_load mA0 hn8 (by omega)) (by decide) rfl rfl (Nat.le_of_ble_eq_true rfl) kl_140 rfl dX11_findStates_215 ?_
          have emv : mv (loM MA s n) = ldT (mv M0) n (S.co s) := mv_lo hfA hsA.2.1
          have hfL : msF M0 (loM MA s n) n := hfA.trans msF_lo
          have wL : MW (loM MA s n) n m := w0.keep (hfL.1 _ _ (by omega)) (hfL.1 _ _ (by omega)) (fun k _ => hfL.1 _ _ (by omega)) (fun k _ => hfL.1 _ _ (by omega))
          have e153 : (loM MA s n).1 153 0 = M0.1 153 0 := hfL.1 _ _ (by omega)
          have kM : q / 8 < m := (ht _ bits.1).1
          refine rx_aload_n (i := 0) dX11_findStates_218 rfl rfl ?_
          refine rx_iload (i := 6) dX11_findStates_219 rfl ?_
          refine rx_iload (i := 5) dX11_findStates_221 rfl ?_
          refine rx_cvI (ci := 11) mo_X11_may lk_X11_285 (c_X11_may wL (by rw [e153]; exact hs0) e207 kM) (by decide) rfl rfl (Nat.le_of_ble_eq_true rfl) kl_140 rfl dX11_findStates_223 ?_
          refine rx_if_ne (tgt := 232) dX11_findStates_226 (by decide) (fun c226 => ?_) (fun c226 => ?_)
          · skip
            have emay : mayT (ldT (mv M0) n (S.co s)) n (q / 8) (q % 8) = true := by rw [← emv]; exact zI_n c226
            have hl : lq (mv M0) n these S s (q / 8) (q % 8) = true := eL.mpr ⟨bits, e207, emay⟩
            obtain ⟨k1, i1, o1, g1, h1, h2, h3⟩ := lq_og ht hn8 hO hl
            obtain ⟨ev, egk, hv99, hvc, h65⟩ := lq_good ht hn8 hO (hP.1.2.2 s hs) hl
            have hhi := fun t ht' => co_hi ht hn8 hO hP.1 hP.pd (t + 1) t (by omega) ht'
            have elo : ∀ j, j < n → (loM MA s n).1 141 j = nI (S.co s j) := fun j hj => (if_pos ⟨rfl, hj⟩).trans (hsA.2.1 j hj)
            have e149 : (loM MA s n).1 149 (q / 8) = nI (vK (mv M0) (q / 8)) := (hfL.1 _ _ (by omega)).trans ev
            have e148 : (loM MA s n).1 148 (q / 8) = nI (gK (mv M0) (q / 8)) := (hfL.1 _ _ (by omega)).trans egk
            have hmax := pr_max hO hA hP i1 k1
            obtain ⟨cs, ecs⟩ : ∃ z, S.pr s + prT (mv M0) (q % 8) (q / 8) = z := ⟨_, rfl⟩
            refine rx_aload_n (i := 0) dX11_findStates_232 rfl rfl ?_
            refine rx_getR 162 (k := 38) fo_X11_84 kl_140 (by decide) ti_11_38 (by decide) rfl dX11_findStates_233 ?_
            refine rx_iload_n (i := 3) dX11_findStates_236 rfl rfl ?_
            refine rx_ialdN kl_162 (by omega) (by first | decide | omega) dX11_findStates_237 ?_
            refine rx_top (S.pr s) ((lo_o (by omega)).trans (hMA.2.2.1 s hs)) ?_
            refine rx_aload_n (i := 0) dX11_findStates_238 rfl rfl ?_
            refine rx_iload (i := 6) dX11_findStates_239 rfl ?_
            refine rx_iload (i := 5) dX11_findStates_241 rfl ?_
            refine rx_cvI (ci := 11) mo_X11_priceOf lk_X11_231 (c_X11_priceOf (by omega) (by omega) (by rw [hfL.1 _ _ (by omega)]; exact (hA _ i1).2)) (by decide) rfl rfl (Nat.le_of_ble_eq_true rfl) kl_140 rfl dX11_findStates_243 ?_
            refine rx_iadd dX11_findStates_246 ?_
            refine rx_top (cs) (by rw [← ecs, emv]; unfold prT; rw [ldT_o (by decide), ldT_o (by decide), ldT_o (by decide)]) ?_
            refine rx_istore (i := 7) dX11_findStates_247 (by decide) rfl rfl ?_
            refine rx_aload_n (i := 0) dX11_findStates_249 rfl rfl ?_
            refine rx_getR 141 (k := 1) fo_X11_9 kl_140 (by decide) ti_11_1 (by decide) rfl dX11_findStates_250 ?_
            refine rx_iload (i := 6) dX11_findStates_253 rfl ?_
            refine rx_dup2_11 dX11_findStates_255 rfl rfl ?_
            refine rx_ialdN kl_141 (by omega) (by first | decide | omega) dX11_findStates_256 ?_
            refine rx_top (nI (S.co s (q % 8))) (elo _ i1) ?_
            refine rx_aload_n (i := 0) dX11_findStates_257 rfl rfl ?_
            refine rx_getR 149 (k := 10) fo_X11_35 kl_140 (by decide) ti_11_10 (by decide) rfl dX11_findStates_258 ?_
            refine rx_iload (i := 5) dX11_findStates_261 rfl ?_
            refine rx_ialdN kl_149 (by omega) (by first | decide | omega) dX11_findStates_263 ?_
            refine rx_top (nI (vK (mv M0) (q / 8))) (e149) ?_
            refine rx_isub dX11_findStates_264 ?_
            refine rx_top (nI (S.co s (q % 8) - vK (mv M0) (q / 8))) (pk_sub hvc) ?_
            refine rx_iastN kl_141 (by omega) (by first | decide | omega) dX11_findStates_265 ?_
            refine rx_aload_n (i := 0) dX11_findStates_266 rfl rfl ?_
            refine rx_getR 141 (k := 1) fo_X11_9 kl_140 (by decide) ti_11_1 (by decide) rfl dX11_findStates_267 ?_
            refine rx_aload_n (i := 0) dX11_findStates_270 rfl rfl ?_
            refine rx_getR 148 (k := 9) fo_X11_32 kl_140 (by decide) ti_11_9 (by decide) rfl dX11_findStates_271 ?_
            refine rx_iload (i := 5) dX11_findStates_274 rfl ?_
            refine rx_ialdN kl_148 (by omega) (by first | decide | omega) dX11_findStates_276 ?_
            refine rx_top (nI (gK (mv M0) (q / 8))) ((sI_na (by omega)).trans e148) ?_
            refine rx_dup2_11 dX11_findStates_277 rfl rfl ?_
            refine rx_ialdN kl_141 (by omega) (by first | decide | omega) dX11_findStates_278 ?_
            refine rx_top (nI (S.co s (gK (mv M0) (q / 8)))) ((sI_ne (by omega)).trans (elo _ g1)) ?_
            refine rx_aload_n (i := 0) dX11_findStates_279 rfl rfl ?_
            refine rx_getR 149 (k := 10) fo_X11_35 kl_140 (by decide) ti_11_10 (by decide) rfl dX11_findStates_280 ?_
            refine rx_iload (i := 5) dX11_findStates_283 rfl ?_
            refine rx_ialdN kl_149 (by omega) (by first | decide | omega) dX11_findStates_285 ?_
            refine rx_top (nI (vK (mv M0) (q / 8))) ((sI_na (by omega)).trans e149) ?_
            refine rx_iadd dX11_findStates_286 ?_
            refine rx_top (nI (S.co s (gK (mv M0) (q / 8)) + vK (mv M0) (q / 8))) (nI_add _ _) ?_
            refine rx_iastN kl_141 (by omega) (by first | decide | omega) dX11_findStates_287 ?_
            have hC3 := cur3 (M := MA) (i := q % 8) (g := gK (mv M0) (q / 8)) (v := vK (mv M0) (q / 8)) hMA.2.1 hs i1 g1 h3 h65 hhi
            obtain ⟨M3, eM3⟩ : ∃ z, setI (setI (loM MA s n) 141 (q % 8) (nI (S.co s (q % 8) - vK (mv M0) (q / 8)))) 141 (gK (mv M0) (q / 8)) (nI (S.co s (gK (mv M0) (q / 8)) + vK (mv M0) (q / 8))) = z := ⟨_, rfl⟩
            have hM3 : MI M0 M3 (mv M0) n these S s q Dd rk := hMA.keep (by rw [← eM3]; intro a j z; exact (sI_ne (by omega)).trans ((sI_ne (by omega)).trans (if_neg (by omega)))) (by rw [← eM3]; rfl)
            rw [eM3] at hC3
            rw [eM3]
            have hf3 := hM3.1
            have m30 : M3.1 140 0 = nI n := (hf3.1 _ _ (by omega)).trans wn
            refine rx_aload_n (i := 0) dX11_findStates_288 rfl rfl ?_
            refine rx_aload_n (i := 0) dX11_findStates_289 rfl rfl ?_
            refine rx_getR 159 (k := 35) fo_X11_74 kl_140 (by decide) ti_11_35 (by decide) rfl dX11_findStates_290 ?_
            refine rx_iload_n (i := 3) dX11_findStates_293 rfl rfl ?_
            refine rx_ialdN kl_159 (by omega) (by first | decide | omega) dX11_findStates_294 ?_
            refine rx_top (S.mk s) ((repM_s hM3.2.1 hs).1) ?_
            refine rx_iconst (1) dX11_findStates_295 rfl ?_
            refine rx_iload (i := 5) dX11_findStates_296 rfl ?_
            refine rx_ishl dX11_findStates_298 ?_
            refine rx_ior dX11_findStates_299 ?_
            refine rx_callV (ci := 11) mo_X11_stateOf lk_X11_334 (c_X11_stateOf hM3.2.1 m30 hn8 hC3) (by decide) rfl rfl (Nat.le_of_ble_eq_true rfl) kl_140 rfl dX11_findStates_300 ?_
            rintro v8 M4 hfd
            rcases hfd with ⟨t, ht1, ht2, rfl, rfl⟩ | ⟨hno, ⟨hN4, rfl, hrep, pl, rfl⟩ | ⟨hN4, rfl, rfl⟩⟩
            · skip
              obtain ⟨hgo, hGS⟩ := mgo_old (row := S.rw s * 64 + cdE (mv M0) (q / 8) (q % 8)) hP.1.1 hs hmax ht1 ht2
              have htN : t < 3000 := by omega
              have hst := (GS.fx ht hn8 hm10 hP hl hGS).2.2.2
              have hp163 : M4.1 163 t = -1 ∨ ((Dd t).1 < 3000 ∧ M4.1 163 t = nI (Dd t).1) := Or.inr ⟨by have := (hP.pd t (by omega) ht1).1; omega, (hM3.2.2.2.1.2 t (by omega) ht1).1⟩
              refine rx_istore (i := 8) dX11_findStates_303 (by decide) rfl rfl ?_
              refine rx_iload (i := 8) dX11_findStates_305 rfl ?_
              refine rx_iconst (-1) dX11_findStates_307 rfl ?_
              refine rx_icmp_eq (tgt := 315) dX11_findStates_308 (by decide) (fun c308 => absurd c308 (nI_nm1 (by omega))) (fun c308 => ?_)
              refine rx_iconst (1) dX11_findStates_311 rfl ?_
              refine rx_goto (tgt := 316) dX11_findStates_312 (by decide) ?_
              refine rx_istore_n (i := 2) dX11_findStates_316 rfl (by decide) rfl rfl ?_
              refine rx_iload_n (i := 2) dX11_findStates_317 rfl rfl ?_
              refine rx_if_ne (tgt := 324) dX11_findStates_318 (by decide) (fun c318 => ?_) (fun c318 => absurd c318 (by decide))
              refine rx_aload_n (i := 0) dX11_findStates_324 rfl rfl ?_
              refine rx_getR 161 (k := 37) fo_X11_81 kl_140 (by decide) ti_11_37 (by decide) rfl dX11_findStates_325 ?_
              refine rx_bipush (80) dX11_findStates_328 rfl ?_
              refine rx_iload_n (i := 3) dX11_findStates_330 rfl rfl ?_
              refine rx_imul dX11_findStates_331 ?_
              refine rx_iload (i := 4) dX11_findStates_332 rfl ?_
              refine rx_iadd dX11_findStates_334 ?_
              refine rx_top (nI (80 * s + q)) (ix80 s q) ?_
              refine rx_iload (i := 8) dX11_findStates_335 rfl ?_
              refine rx_iastN kl_161 (by omega) (by first | decide | omega) dX11_findStates_337 ?_
              refine rx_aload_n (i := 0) dX11_findStates_338 rfl rfl ?_
              refine rx_getR 166 (k := 42) fo_X11_96 kl_140 (by decide) ti_11_42 (by decide) rfl dX11_findStates_339 ?_
              refine rx_iload (i := 8) dX11_findStates_342 rfl ?_
              refine rx_dup2_11 dX11_findStates_344 rfl rfl ?_
              refine rx_laldN kl_166 (by omega) (by first | decide | omega) dX11_findStates_345 ?_
              refine rx_aload_n (i := 0) dX11_findStates_346 rfl rfl ?_
              refine rx_getR 166 (k := 42) fo_X11_96 kl_140 (by decide) ti_11_42 (by decide) rfl dX11_findStates_347 ?_
              refine rx_iload_n (i := 3) dX11_findStates_350 rfl rfl ?_
              refine rx_laldN kl_166 (by omega) (by first | decide | omega) dX11_findStates_351 ?_
              refine rx_ladd dX11_findStates_352 ?_
              refine rx_lastN kl_166 (by omega) (by first | decide | omega) dX11_findStates_353 ?_
              refine rx_aload_n (i := 0) dX11_findStates_354 rfl rfl ?_
              refine rx_iload_n (i := 3) dX11_findStates_355 rfl rfl ?_
              refine rx_iload (i := 4) dX11_findStates_356 rfl ?_
              refine rx_iload (i := 8) dX11_findStates_358 rfl ?_
              refine rx_iload (i := 7) dX11_findStates_360 rfl ?_
              refine rx_callV (ci := 11) mo_X11_lead lk_X11_348 (c_X11_lead (p := (Dd t).1) (by omega) htN hp163) (by decide) rfl rfl (Nat.le_of_ble_eq_true rfl) kl_140 rfl dX11_findStates_362 ?_
              rintro _ N ⟨rfl, hN1, hN0⟩
              obtain ⟨D', W', C', t1, t2, t3, t4, t6, t5⟩ := step_all (S' := S.lead s t cs (S.rw s * 64 + cdE (mv M0) (q / 8) (q % 8))) (t := t) (M4 := M4) (N := N) ht hn8 hm10 hO hA hrun hq hM3 hP hC hl (by rw [← ecs]; exact hgo) (by rw [ecs]; rw [ecs] at hGS; exact hGS) (fun a j _ => rfl) hf3 (fun z => by omega) (repM_lead (M := setI M4 161 (80 * s + q) (nI t)) (repM_keep hM3.2.1 (sI_na (by omega)) rfl rfl rfl rfl) hs ht1) (by rw [ecs]; exact hN1) (by rw [ecs]; exact hN0)
              have hback := ih (q + 1) N _ D' W' C' (by omega) t1 t2 t3 t4 t6 t5 (by omega)
              first | refine rx_iincN (i := 4) dX11_findStates_365 rfl (by decide) rfl rfl ?_ | refine rx_iinc (i := 4) dX11_findStates_365 rfl rfl (by decide) rfl rfl ?_
              refine rx_goto (tgt := 142) dX11_findStates_368 (by decide) ?_
              refine rx_drop 8 ?_
              refine rx_drop 7 ?_
              refine rx_drop 6 ?_
              refine rx_drop 5 ?_
              exact hback
            · skip
              obtain ⟨hgo, hGS⟩ := mgo_new (row := S.rw s * 64 + cdE (mv M0) (q / 8) (q % 8)) hs hmax hno hN4
              have htN : S.N < 3000 := hN4
              have hp163 : (nsM M3 pl S.N (S.mk s ||| bit (q / 8)) n).1 163 S.N = -1 ∨ ((Dd S.N).1 < 3000 ∧ (nsM M3 pl S.N (S.mk s ||| bit (q / 8)) n).1 163 S.N = nI (Dd S.N).1) := Or.inl ((ns_1 (by omega) (by omega)).trans sI_eq)
              refine rx_istore (i := 8) dX11_findStates_303 (by decide) rfl rfl ?_
              refine rx_iload (i := 8) dX11_findStates_305 rfl ?_
              refine rx_iconst (-1) dX11_findStates_307 rfl ?_
              refine rx_icmp_eq (tgt := 315) dX11_findStates_308 (by decide) (fun c308 => absurd c308 (nI_nm1 (by omega))) (fun c308 => ?_)
              refine rx_iconst (1) dX11_findStates_311 rfl ?_
              refine rx_goto (tgt := 316) dX11_findStates_312 (by decide) ?_
              refine rx_istore_n (i := 2) dX11_findStates_316 rfl (by decide) rfl rfl ?_
              refine rx_iload_n (i := 2) dX11_findStates_317 rfl rfl ?_
              refine rx_if_ne (tgt := 324) dX11_findStates_318 (by decide) (fun c318 => ?_) (fun c318 => absurd c318 (by decide))
              refine rx_aload_n (i := 0) dX11_findStates_324 rfl rfl ?_
              refine rx_getR 161 (k := 37) fo_X11_81 kl_140 (by decide) ti_11_37 (by decide) rfl dX11_findStates_325 ?_
              refine rx_bipush (80) dX11_findStates_328 rfl ?_
              refine rx_iload_n (i := 3) dX11_findStates_330 rfl rfl ?_
              refine rx_imul dX11_findStates_331 ?_
              refine rx_iload (i := 4) dX11_findStates_332 rfl ?_
              refine rx_iadd dX11_findStates_334 ?_
              refine rx_top (nI (80 * s + q)) (ix80 s q) ?_
              refine rx_iload (i := 8) dX11_findStates_335 rfl ?_
              refine rx_iastN kl_161 (by omega) (by first | decide | omega) dX11_findStates_337 ?_
              refine rx_aload_n (i := 0) dX11_findStates_338 rfl rfl ?_
              refine rx_getR 166 (k := 42) fo_X11_96 kl_140 (by decide) ti_11_42 (by decide) rfl dX11_findStates_339 ?_
              refine rx_iload (i := 8) dX11_findStates_342 rfl ?_
              refine rx_dup2_11 dX11_findStates_344 rfl rfl ?_
              refine rx_laldN kl_166 (by omega) (by first | decide | omega) dX11_findStates_345 ?_
              refine rx_aload_n (i := 0) dX11_findStates_346 rfl rfl ?_
              refine rx_getR 166 (k := 42) fo_X11_96 kl_140 (by decide) ti_11_42 (by decide) rfl dX11_findStates_347 ?_
              refine rx_iload_n (i := 3) dX11_findStates_350 rfl rfl ?_
              refine rx_laldN kl_166 (by omega) (by first | decide | omega) dX11_findStates_351 ?_
              refine rx_ladd dX11_findStates_352 ?_
              refine rx_lastN kl_166 (by omega) (by first | decide | omega) dX11_findStates_353 ?_
              refine rx_aload_n (i := 0) dX11_findStates_354 rfl rfl ?_
              refine rx_iload_n (i := 3) dX11_findStates_355 rfl rfl ?_
              refine rx_iload (i := 4) dX11_findStates_356 rfl ?_
              refine rx_iload (i := 8) dX11_findStates_358 rfl ?_
              refine rx_iload (i := 7) dX11_findStates_360 rfl ?_
              refine rx_callV (ci := 11) mo_X11_lead lk_X11_348 (c_X11_lead (p := (Dd S.N).1) (by omega) htN hp163) (by decide) rfl rfl (Nat.le_of_ble_eq_true rfl) kl_140 rfl dX11_findStates_362 ?_
              rintro _ N ⟨rfl, hN1, hN0⟩
              obtain ⟨D', W', C', t1, t2, t3, t4, t6, t5⟩ := step_all (S' := (S.add (S.mk s ||| bit (q / 8)) (shN (S.co s) (q % 8) (gK (mv M0) (q / 8)) (vK (mv M0) (q / 8)))).lead s S.N cs (S.rw s * 64 + cdE (mv M0) (q / 8) (q % 8))) (t := S.N) (M4 := nsM M3 pl S.N (S.mk s ||| bit (q / 8)) n) (N := N) ht hn8 hm10 hO hA hrun hq hM3 hP hC hl (by rw [← ecs]; exact hgo) (by rw [ecs]; rw [ecs] at hGS; exact hGS) (fun a j z => ns_o (by omega)) (hf3.trans msF_ns) (fun _ => (ns_1 (by omega) (by omega)).trans sI_eq) (repM_lead (M := setI (nsM M3 pl S.N (S.mk s ||| bit (q / 8)) n) 161 (80 * s + q) (nI S.N)) (repM_keep hrep (sI_na (by omega)) rfl rfl rfl rfl) (show s < S.N + 1 by omega) (show S.N < S.N + 1 by omega)) (by rw [ecs]; exact hN1) (by rw [ecs]; exact hN0)
              have hback := ih (q + 1) N _ D' W' C' (by omega) t1 t2 t3 t4 t6 t5 (by omega)
              first | refine rx_iincN (i := 4) dX11_findStates_365 rfl (by decide) rfl rfl ?_ | refine rx_iinc (i := 4) dX11_findStates_365 rfl rfl (by decide) rfl rfl ?_
              refine rx_goto (tgt := 142) dX11_findStates_368 (by decide) ?_
              refine rx_drop 8 ?_
              refine rx_drop 7 ?_
              refine rx_drop 6 ?_
              refine rx_drop 5 ?_
              exact hback
            · skip
              have hgo : mgo (mv M0) S s (q / 8) (q % 8) = (false, S) := mgo_no hno hN4
              have hrn := mrun_t hrun hq.1 hq.2.1 hq.2.2.1 hq.2.2.2 hl
              have hfl : (mrun (mv M0) n s mk0 c0 p0 r0 these x 80).1 = false := by
                have := mrun_no (w := q + 1) (by rw [hrn, hgo]) (e := 80 - (q + 1))
                rw [show q + 1 + (80 - (q + 1)) = 80 by omega] at this
                exact this
              have hback := l_findOff (q := q + 1) (KF _ ⟨hf3, _, repM_N hM3.2.1⟩ hfl)
              refine rx_istore (i := 8) dX11_findStates_303 (by decide) rfl rfl ?_
              refine rx_iload (i := 8) dX11_findStates_305 rfl ?_
              refine rx_iconst (-1) dX11_findStates_307 rfl ?_
              refine rx_icmp_eq (tgt := 315) dX11_findStates_308 (by decide) (fun c308 => ?_) (fun c308 => absurd rfl c308)
              refine rx_iconst (0) dX11_findStates_315 rfl ?_
              refine rx_istore_n (i := 2) dX11_findStates_316 rfl (by decide) rfl rfl ?_
              refine rx_iload_n (i := 2) dX11_findStates_317 rfl rfl ?_
              refine rx_if_ne (tgt := 324) dX11_findStates_318 (by decide) (fun c318 => absurd c318 (by decide)) (fun c318 => ?_)
              refine rx_goto (tgt := 365) dX11_findStates_321 (by decide) ?_
              first | refine rx_iincN (i := 4) dX11_findStates_365 rfl (by decide) rfl rfl ?_ | refine rx_iinc (i := 4) dX11_findStates_365 rfl rfl (by decide) rfl rfl ?_
              refine rx_goto (tgt := 142) dX11_findStates_368 (by decide) ?_
              refine rx_drop 8 ?_
              refine rx_drop 7 ?_
              refine rx_drop 6 ?_
              refine rx_drop 5 ?_
              exact hback
          · skip
            have hl : lq (mv M0) n these S s (q / 8) (q % 8) = false := Bool.eq_false_iff.mpr fun z => by have := zI_0.mp c226; rw [emv, (eL.mp z).2.2] at this; cases this
            have hback := ih (q + 1) (loM MA s n) S Dd W C (by omega) ((mrun_f hrun hq.1 hq.2.1 hl)) hq ((hMA.keep (N := loM MA s n) (fun a j z => if_neg (by omega)) rfl).skip ((lo_o (by omega)).trans eA161) hl) hP hC60 (fun k i h1 h2 h3 => hC k i (by omega) h2 h3) (by omega)
            refine rx_goto (tgt := 365) dX11_findStates_229 (by decide) ?_
            first | refine rx_iincN (i := 4) dX11_findStates_365 rfl (by decide) rfl rfl ?_ | refine rx_iinc (i := 4) dX11_findStates_365 rfl rfl (by decide) rfl rfl ?_
            refine rx_goto (tgt := 142) dX11_findStates_368 (by decide) ?_
            refine rx_drop 8 ?_
            refine rx_drop 7 ?_
            refine rx_drop 6 ?_
            refine rx_drop 5 ?_
            exact hback
        · skip
          have hl : lq (mv M0) n these S s (q / 8) (q % 8) = false := Bool.eq_false_iff.mpr fun z => c207 (nI_lt (eL.mp z).2.1 (by omega))
          have hback := ih (q + 1) MA S Dd W C (by omega) ((mrun_f hrun hq.1 hq.2.1 hl)) hq (hMA.skip eA161 hl) hP hC60 (fun k i h1 h2 h3 => hC k i (by omega) h2 h3) (by omega)
          refine rx_goto (tgt := 365) dX11_findStates_210 (by decide) ?_
          first | refine rx_iincN (i := 4) dX11_findStates_365 rfl (by decide) rfl rfl ?_ | refine rx_iinc (i := 4) dX11_findStates_365 rfl rfl (by decide) rfl rfl ?_
          refine rx_goto (tgt := 142) dX11_findStates_368 (by decide) ?_
          refine rx_drop 8 ?_
          refine rx_drop 7 ?_
          refine rx_drop 6 ?_
          refine rx_drop 5 ?_
          exact hback
