/-! THE LAW'S LOOP -/
def QN (i dx : Nat) : Nat → List (Option Value) → List Value → Mem → Prop := fun pc ls st K => pc = 23 ∧ ls = lsI i ∧ st = [] ∧ ∃ n' m' tn', Sim K n' m' dx tn'
def QZ : Nat → List (Option Value) → List Value → Mem → Prop := fun pc _ st _ => pc = 1648 ∧ st = []
section
variable {L : Nat} {xs : Nat → Int32}
theorem lw_cmp {i : Nat} (hi : i < 2 ^ 30) (hL : L < 2 ^ 31) : nI L - nI 5 < nI i ↔ ¬ i + 4 < L := by
  rw [Int32.lt_iff_toInt_lt, i_sub (by rw [nI_toInt hL, nI_toInt (by omega)]; omega) (by rw [nI_toInt hL, nI_toInt (by omega)]; omega), nI_toInt hL, nI_toInt (by omega), nI_toInt (by omega)]
  omega
theorem lw_stop {k i : Nat} {M : Mem} (h : ¬ i + 4 < L) (hi : i < 2 ^ 30) (hL : L < 2 ^ 31) : LR L xs k QZ 23 (lsI i) [] M := by
  refine lr_il (i := 4) (x := nI i) dL_law_23 rfl ?_
  refine lr_al (i := 0) dL_law_25 rfl rfl ?_
  refine lr_slen hL dL_law_26 ?_
  exact lr_reach (rx_iconst (nI 5) dL_law_27 rfl (rx_isub dL_law_28 (rx_icmp_gt (tgt := 1648) dL_law_29 (by decide) (fun _ => Reach.here (lr_end ⟨rfl, rfl⟩)) (fun z => absurd ((lw_cmp hi hL).mpr h) z))))
theorem lw_step {i n m dx tn : Nat} {M : Mem} (h : Sim M n m dx tn) (hd : dx ≤ 60000) (hi : i + 4 < L) (hi2 : i < 2 ^ 30) (hL : L < 2 ^ 31) : LR L xs 1 (QN (i + 5) (dx + 60)) 23 (lsI i) [] M := by
  refine lr_il (i := 4) (x := nI i) dL_law_23 rfl ?_
  refine lr_al (i := 0) dL_law_25 rfl rfl ?_
  refine lr_slen hL dL_law_26 ?_
  refine lr_reach (rx_iconst (nI 5) dL_law_27 rfl (rx_isub dL_law_28 (rx_icmp_gt (tgt := 1648) dL_law_29 (by decide) (fun z => absurd hi ((lw_cmp hi2 hL).mp z)) (fun _ => Reach.here ?_))))
  refine lr_al (i := 0) dL_law_32 rfl rfl ?_
  refine lr_il (i := 4) (x := nI i) dL_law_33 rfl ?_
  refine lr_sld (by omega) (by omega) dL_law_35 ?_
  refine lr_reach (rx_bipush 63 dL_law_36 rfl (rx_iand dL_law_38 (Reach.here ?_)))
  refine lr_seq (k1 := 1) (k2 := 0) (lc_any h hd hi hL) fun pc' ls' st' M' hq => ?_
  obtain ⟨rfl, rfl, rfl, hk⟩ := hq
  exact lr_reach (rx_iinc (i := 4) (v := nI (i + 5)) dL_law_1642 rfl (nI_add i 5) (by decide) rfl rfl (rx_goto (tgt := 23) dL_law_1645 (by decide) (Reach.here (lr_end ⟨rfl, rfl, rfl, hk⟩))))
theorem lw_loop : ∀ (c : Nat) {i n m tn dx : Nat} {M : Mem}, L < i + 5 + 5 * c → i + 5 * c < 2 ^ 30 → Sim M n m dx tn → dx + 60 * c ≤ 60000 → L < 2 ^ 31 → LR L xs c QZ 23 (lsI i) [] M
  | 0, i, n, m, tn, dx, M, h1, h2, h, h3, hL => lw_stop (by omega) (by omega) hL
  | c + 1, i, n, m, tn, dx, M, h1, h2, h, h3, hL => by
    by_cases hi : i + 4 < L
    · have e : LR L xs (1 + c) QZ 23 (lsI i) [] M := lr_seq (k1 := 1) (k2 := c) (lw_step h (by omega) hi (by omega) hL) fun pc' ls' st' M' hq => by
        obtain ⟨rfl, rfl, rfl, n', m', tn', hs⟩ := hq
        exact lw_loop c (by omega) (by omega) hs (by omega) hL
      rw [show 1 + c = c + 1 from Nat.add_comm 1 c] at e
      exact e
    · exact lw_stop hi (by omega) hL
end
