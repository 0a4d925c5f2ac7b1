def wlI (x : Int32) : Int32 := if 0 ≤ x then x else -2
theorem chs_inv {p : Nat → Bool} {v : Nat → Int32} : ∀ {n : Nat}, n < 2 ^ 31 → chs p v n = (-1, -1) ∨ (0 ≤ (chs p v n).1 ∧ 0 ≤ (chs p v n).2)
  | 0, _ => Or.inl rfl
  | n + 1, hn => by
    have h := chs_inv (p := p) (v := v) (n := n) (by omega)
    simp only [chs]
    split
    · next c =>
      refine Or.inr ⟨nI_pos' (by omega), ?_⟩
      rcases h with h | h
      · have h2 := c.2
        rw [h] at h2
        rw [Int32.lt_iff_toInt_lt, show ((-1 : Int32), (-1 : Int32)).2.toInt = -1 from rfl] at h2
        show 0 ≤ v n
        rw [i_le, i_0]; omega
      · exact Int32.le_of_lt (Int32.lt_of_le_of_lt h.2 c.2)
    · exact h
theorem chs_t {p : Nat → Bool} {v : Nat → Int32} {i : Nat} (h : p i = true) (h2 : (chs p v i).2 < v i) : chs p v (i + 1) = (nI i, v i) := if_pos ⟨h, h2⟩
theorem chs_f1 {p : Nat → Bool} {v : Nat → Int32} {i : Nat} (h : p i = false) : chs p v (i + 1) = chs p v i := if_neg (fun q => by rw [h] at q; cases q.1)
theorem chs_f2 {p : Nat → Bool} {v : Nat → Int32} {i : Nat} (h : ¬ (chs p v i).2 < v i) : chs p v (i + 1) = chs p v i := if_neg (fun q => h q.2)
/-- the model with its rule -/
def MR (M : Mem) (n m : Nat) (S : Nat → Int32) (z L : Nat) : Prop := MW M n m ∧ (∀ i, i < n → M.1 143 i = 0 ∨ M.1 143 i = 1) ∧ sortOK (M.1 153 0) ∧ ruleR S z (M.1 156) L ∧ M.1 140 28 = nI L
theorem MR.keep {M N : Mem} {n m : Nat} {S : Nat → Int32} {z L : Nat} (h : MR M n m S z L) (w : MW N n m) (h1 : N.1 143 = M.1 143) (h2 : N.1 153 0 = M.1 153 0) (h3 : N.1 156 = M.1 156) (h4 : N.1 140 28 = M.1 140 28) : MR N n m S z L := by
  obtain ⟨a1, a2, a3, a4, a5⟩ := h
  unfold MR
  rw [h1, h2, h3, h4]
  exact ⟨w, a2, a3, a4, a5⟩
theorem frS.MR {M N : Mem} {n m : Nat} {S : Nat → Int32} {z L : Nat} (h : frS M N) (r : MR M n m S z L) : MR N n m S z L :=
  r.keep (h.MW r.1) (funext fun j => h.1 _ _ (by omega)) (h.1 _ _ (by omega)) (funext fun j => h.1 _ _ (by omega)) (h.1 _ _ (by omega))
set_option maxRecDepth 100000 in
set_option maxHeartbeats 4000000 in
theorem l_X11_willingTo {M : Mem} {n m : Nat} {S : Nat → Int32} {z L : Nat} (r : MR M n m S z L) {k : Nat} (hk : k < m) {p : Nat → Bool} {val : Nat → Int32} (hp : ∀ i, p i = mayT (mv M) n k i) (hval : ∀ i, val i = ruT S z (mv M) n m i k) : ∀ (N : Nat) (i : Nat) (best : Int32) (most : Int32) (M1 : Mem), (i ≤ n) → (frS M M1) → (best = wlI (chs p val i).1) → (most = if 0 ≤ (chs p val i).1 then (chs p val i).2 else 0) → n - i < N → Reach cX11_willingTo RX11 6 173 (RetQ cX11_willingTo (some .int) (fun v N => v = some (.int (wlI (chs p val n).1)) ∧ frS M N)) 19 [some (.ref 140), some (.int (nI k)), some (.int best), some (.int most), some (.int (nI i)), none] [] (M1) := by
  intro N
  induction N with
  | zero => intro i best most M1 hi hF hb hms hm; exact absurd ‹_ < 0› (Nat.not_lt_zero _)
  | succ N ih =>
    intro i best most M1 hi hF hb hms hm
    have ⟨w, hk01, hs, hR, hL⟩ := r
    have ⟨hn, hn8, hm, hm10, hd⟩ := w
    have r1 := hF.MR r
    have eMV : mv M1 = mv M := hF.mv
    have hci := chs_inv (p := p) (v := val) (n := i) (by omega)
    refine rx_iload (i := 4) dX11_willingTo_19 rfl ?_
    refine rx_aload_n (i := 0) dX11_willingTo_21 rfl rfl ?_
    refine rx_getI (k := 0) fo_X11_132 kl_140 (by decide) ti_11_0 dX11_willingTo_22 ?_
    refine rx_top (nI n) r1.1.1 ?_
    refine rx_icmp_ge (tgt := 80) dX11_willingTo_25 (by decide) (fun c25 => ?_) (fun c25 => ?_)
    · skip
      have f25 := Int32.not_lt.mpr c25
      have e25 : i = n := by have := (nI_leI (by omega) (by omega)).mp c25; omega
      subst e25
      refine rx_iload_n (i := 2) dX11_willingTo_80 rfl rfl ?_
      exact rx_iret dX11_willingTo_81 ⟨by rw [hb], hF⟩
    · skip
      have f25 := Int32.not_le.mp c25
      have e25 : i < n := Nat.lt_of_not_le fun q => c25 (nI_le q (by omega))
      refine rx_aload_n (i := 0) dX11_willingTo_28 rfl rfl ?_
      refine rx_iload (i := 4) dX11_willingTo_29 rfl ?_
      refine rx_iload_n (i := 1) dX11_willingTo_31 rfl rfl ?_
      refine rx_cvI (ci := 11) mo_X11_may lk_X11_285 (c_X11_may r1.1 r1.2.2.1 e25 hk) (by decide) rfl rfl (Nat.le_of_ble_eq_true rfl) kl_140 rfl dX11_willingTo_32 ?_
      refine rx_if_ne (tgt := 41) dX11_willingTo_35 (by decide) (fun c35 => ?_) (fun c35 => ?_)
      · skip
        have e35 : p i = true := by rw [hp, ← eMV]; exact zI_n c35
        refine rx_aload_n (i := 0) dX11_willingTo_41 rfl rfl ?_
        refine rx_iload (i := 4) dX11_willingTo_42 rfl ?_
        refine rx_iload_n (i := 1) dX11_willingTo_44 rfl rfl ?_
        refine rx_callV (ci := 11) mo_X11_ruleFor lk_X11_298 (c_X11_ruleFor r1.1 r1.2.1 r1.2.2.2.1 r1.2.2.2.2 e25 hk) (by decide) rfl rfl (Nat.le_of_ble_eq_true rfl) kl_140 rfl dX11_willingTo_45 ?_
        rintro _ N2 ⟨rfl, hF2⟩
        rw [eMV, ← hval]
        obtain ⟨v, hv⟩ : ∃ v, val i = v := ⟨_, rfl⟩
        rw [hv]
        refine rx_istore (i := 5) dX11_willingTo_48 (by decide) rfl rfl ?_
        refine rx_iload (i := 5) dX11_willingTo_50 rfl ?_
        refine rx_if_lt (tgt := 74) dX11_willingTo_52 (by decide) (fun c52 => ?_) (fun c52 => ?_)
        · skip
          have hx : ¬ (chs p val i).2 < v := by
            rw [Int32.lt_iff_toInt_lt]
            rw [Int32.lt_iff_toInt_lt, i_0] at c52
            rcases hci with q | q
            · rw [q]; show ¬ (-1 : Int) < _; omega
            · have := q.2; rw [i_le, i_0] at this; omega
          first | refine rx_iincN (i := 4) dX11_willingTo_74 rfl (by decide) rfl rfl ?_ | refine rx_iinc (i := 4) dX11_willingTo_74 rfl rfl (by decide) rfl rfl ?_
          refine rx_goto (tgt := 19) dX11_willingTo_77 (by decide) ?_
          refine rx_drop 5 ?_
          exact ih (i + 1) _ _ N2 (by omega) (hF.trans hF2) (by rw [chs_f2 (p := p) (v := val) (i := i) (by rw [hv]; exact hx)]; exact hb) (by rw [chs_f2 (p := p) (v := val) (i := i) (by rw [hv]; exact hx)]; exact hms) (by omega)
        · skip
          have e52 : 0 ≤ v := Int32.not_lt.mp c52
          refine rx_iload_n (i := 2) dX11_willingTo_55 rfl rfl ?_
          refine rx_if_lt (tgt := 68) dX11_willingTo_56 (by decide) (fun c56 => ?_) (fun c56 => ?_)
          · skip
            have hx : (chs p val i).2 < v := by
              rcases hci with q | q
              · rw [q]; exact Int32.lt_of_lt_of_le (by decide) e52
              · rw [hb, wlI, if_pos q.1] at c56
                exact absurd q.1 (Int32.not_le.mpr c56)
            refine rx_iload (i := 4) dX11_willingTo_68 rfl ?_
            refine rx_istore_n (i := 2) dX11_willingTo_70 rfl (by decide) rfl rfl ?_
            refine rx_iload (i := 5) dX11_willingTo_71 rfl ?_
            refine rx_istore_n (i := 3) dX11_willingTo_73 rfl (by decide) rfl rfl ?_
            first | refine rx_iincN (i := 4) dX11_willingTo_74 rfl (by decide) rfl rfl ?_ | refine rx_iinc (i := 4) dX11_willingTo_74 rfl rfl (by decide) rfl rfl ?_
            refine rx_goto (tgt := 19) dX11_willingTo_77 (by decide) ?_
            refine rx_drop 5 ?_
            exact ih (i + 1) _ _ N2 (by omega) (hF.trans hF2) (by rw [chs_t (p := p) (v := val) (i := i) e35 (by rw [hv]; exact hx)]; exact (if_pos (nI_pos' (by omega))).symm) (by rw [chs_t (p := p) (v := val) (i := i) e35 (by rw [hv]; exact hx), ← hv]; exact (if_pos (nI_pos' (by omega))).symm) (by omega)
          · skip
            have hc0 : 0 ≤ (chs p val i).1 := by
              rcases hci with q | q
              · rw [hb, q] at c56; exact absurd (show wlI (-1) < 0 by decide) c56
              · exact q.1
            rw [if_pos hc0] at hms
            refine rx_iload (i := 5) dX11_willingTo_59 rfl ?_
            refine rx_iload_n (i := 3) dX11_willingTo_61 rfl rfl ?_
            refine rx_icmp_gt (tgt := 68) dX11_willingTo_62 (by decide) (fun c62 => ?_) (fun c62 => ?_)
            · skip
              have hx : (chs p val i).2 < v := by rw [hms] at c62; exact c62
              refine rx_iload (i := 4) dX11_willingTo_68 rfl ?_
              refine rx_istore_n (i := 2) dX11_willingTo_70 rfl (by decide) rfl rfl ?_
              refine rx_iload (i := 5) dX11_willingTo_71 rfl ?_
              refine rx_istore_n (i := 3) dX11_willingTo_73 rfl (by decide) rfl rfl ?_
              first | refine rx_iincN (i := 4) dX11_willingTo_74 rfl (by decide) rfl rfl ?_ | refine rx_iinc (i := 4) dX11_willingTo_74 rfl rfl (by decide) rfl rfl ?_
              refine rx_goto (tgt := 19) dX11_willingTo_77 (by decide) ?_
              refine rx_drop 5 ?_
              exact ih (i + 1) _ _ N2 (by omega) (hF.trans hF2) (by rw [chs_t (p := p) (v := val) (i := i) e35 (by rw [hv]; exact hx)]; exact (if_pos (nI_pos' (by omega))).symm) (by rw [chs_t (p := p) (v := val) (i := i) e35 (by rw [hv]; exact hx), ← hv]; exact (if_pos (nI_pos' (by omega))).symm) (by omega)
            · skip
              have hx : ¬ (chs p val i).2 < v := fun q => c62 (by rw [hms]; exact q)
              have hms : most = if 0 ≤ (chs p val i).1 then (chs p val i).2 else 0 := by rw [if_pos hc0]; exact hms
              refine rx_goto (tgt := 74) dX11_willingTo_65 (by decide) ?_
              first | refine rx_iincN (i := 4) dX11_willingTo_74 rfl (by decide) rfl rfl ?_ | refine rx_iinc (i := 4) dX11_willingTo_74 rfl rfl (by decide) rfl rfl ?_
              refine rx_goto (tgt := 19) dX11_willingTo_77 (by decide) ?_
              refine rx_drop 5 ?_
              exact ih (i + 1) _ _ N2 (by omega) (hF.trans hF2) (by rw [chs_f2 (p := p) (v := val) (i := i) (by rw [hv]; exact hx)]; exact hb) (by rw [chs_f2 (p := p) (v := val) (i := i) (by rw [hv]; exact hx)]; exact hms) (by omega)
      · skip
        have e35 : p i = false := by rw [hp, ← eMV]; exact zI_0.mp c35
        refine rx_goto (tgt := 74) dX11_willingTo_38 (by decide) ?_
        first | refine rx_iincN (i := 4) dX11_willingTo_74 rfl (by decide) rfl rfl ?_ | refine rx_iinc (i := 4) dX11_willingTo_74 rfl rfl (by decide) rfl rfl ?_
        refine rx_goto (tgt := 19) dX11_willingTo_77 (by decide) ?_
        refine rx_drop 5 ?_
        exact ih (i + 1) _ _ M1 (by omega) hF (by rw [chs_f1 (p := p) (v := val) (i := i) e35]; exact hb) (by rw [chs_f1 (p := p) (v := val) (i := i) e35]; exact hms) (by omega)
set_option maxRecDepth 100000 in
set_option maxHeartbeats 4000000 in
theorem c_X11_willingTo {M : Mem} {n m : Nat} {S : Nat → Int32} {z L : Nat} (r : MR M n m S z L) {k : Nat} (hk : k < m) : Con yX11_willingTo cX11_willingTo 6 (some .int) 173 [.ref 140, .int (nI k)] M (fun v N => v = some (.int (wlI (wilT S z (mv M) n m k).1)) ∧ frS M N) := by
  refine Con.of (own := RX11) (ls := [some (.ref 140), some (.int (nI k)), none, none, none, none]) rfl (by decide +kernel) (Nat.le_of_ble_eq_true rfl) rfl ?_
  have ⟨w, hk01, hs, hR, hL⟩ := r
  have ⟨hn, hn8, hm, hm10, hd⟩ := w
  refine rx_bipush (-2) dX11_willingTo_0 rfl ?_
  refine rx_istore_n (i := 2) dX11_willingTo_2 rfl (by decide) rfl rfl ?_
  refine rx_iconst (0) dX11_willingTo_3 rfl ?_
  refine rx_istore_n (i := 3) dX11_willingTo_4 rfl (by decide) rfl rfl ?_
  refine rx_aload_n (i := 0) dX11_willingTo_5 rfl rfl ?_
  refine rx_getR 151 (k := 12) fo_X11_41 kl_140 (by decide) ti_11_12 (by decide) rfl dX11_willingTo_6 ?_
  refine rx_iload_n (i := 1) dX11_willingTo_9 rfl rfl ?_
  refine rx_ialdN kl_151 (by omega) (by first | decide | omega) dX11_willingTo_10 ?_
  refine rx_if_eq (tgt := 16) dX11_willingTo_11 (by decide) (fun c11 => ?_) (fun c11 => ?_)
  · skip
    have h10 : mv M 10 k = 0 := c11
    refine rx_iconst (0) dX11_willingTo_16 rfl ?_
    refine rx_istore (i := 4) dX11_willingTo_17 (by decide) rfl rfl ?_
    exact l_X11_willingTo r hk (p := fun i => decide (mv M 10 k = 0) && mayT (mv M) n k i) (val := fun i => ruT S z (mv M) n m i k) (fun i => by rw [decide_eq_true h10, Bool.true_and]) (fun _ => rfl) (n + 1) 0 (-2) 0 M (Nat.zero_le _) frS.refl rfl rfl (by omega)
  · skip
    have h10 : ¬ mv M 10 k = 0 := c11
    have ew : wilT S z (mv M) n m k = (-1, -1) := by
      unfold wilT
      have : ∀ j, chs (fun i => decide (mv M 10 k = 0) && mayT (mv M) n k i) (fun i => ruT S z (mv M) n m i k) j = (-1, -1) := fun j => by
        induction j with
        | zero => rfl
        | succ j ih => simp only [chs]; rw [if_neg (fun q => by have q1 := q.1; rw [decide_eq_false h10, Bool.false_and] at q1; cases q1)]; exact ih
      exact this n
    refine rx_iload_n (i := 2) dX11_willingTo_14 rfl rfl ?_
    exact rx_iret dX11_willingTo_15 ⟨by rw [ew]; rfl, frS.refl⟩
