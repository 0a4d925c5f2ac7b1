theorem lN_bv (a : Nat) : (lN a).toBitVec = BitVec.ofNat 64 a := rfl
theorem lN_inj {a b : Nat} (ha : a < 2 ^ 64) (hb : b < 2 ^ 64) : lN a = lN b ↔ a = b := by
  refine ⟨fun h => ?_, fun h => by rw [h]⟩
  have := congrArg (fun z : Int64 => z.toBitVec.toNat) h
  simp only [lN_bv, BitVec.toNat_ofNat] at this
  omega
theorem lsh16 {c k : Nat} (hk : k < 4) : lN c <<< ((nI (16 * k)).toInt64 &&& 63) = lN (c * 65536 ^ k) := by
  rw [(by decide +kernel : ∀ k, k < 4 → (nI (16 * k)).toInt64 &&& 63 = lN (16 * k)) k hk]
  refine Int64.toBitVec_inj.mp (BitVec.eq_of_toNat_eq ?_)
  rw [Int64.toBitVec_shiftLeft, BitVec.shiftLeft_eq', BitVec.toNat_shiftLeft, (by decide +kernel : ∀ k, k < 4 → ((lN (16 * k)).toBitVec.smod 64).toNat = 16 * k) k hk]
  show (c % 2 ^ 64) <<< (16 * k) % 2 ^ 64 = c * 65536 ^ k % 2 ^ 64
  rw [Nat.shiftLeft_eq, (by decide +kernel : ∀ k, k < 4 → 65536 ^ k = 2 ^ (16 * k)) k hk, Nat.mul_mod, Nat.mod_mod, ← Nat.mul_mod]
theorem lus16 {a k : Nat} (ha : a < 2 ^ 64) (hk : k < 4) : ((lN a).toUInt64 >>> ((nI (16 * k)).toInt64.toUInt64 &&& Int64.toUInt64 63)).toInt64 = lN (a / 65536 ^ k) := by
  refine Int64.toBitVec_inj.mp (BitVec.eq_of_toNat_eq ?_)
  show ((lN a).toUInt64 >>> ((nI (16 * k)).toInt64.toUInt64 &&& Int64.toUInt64 63)).toBitVec.toNat = a / 65536 ^ k % 2 ^ 64
  rw [UInt64.toBitVec_shiftRight, BitVec.ushiftRight_eq', BitVec.toNat_ushiftRight, (by decide +kernel : ∀ k, k < 4 → (((nI (16 * k)).toInt64.toUInt64 &&& Int64.toUInt64 63).toBitVec % 64).toNat = 16 * k) k hk]
  show (a % 2 ^ 64) >>> (16 * k) = _
  rw [Nat.shiftRight_eq_div_pow, ← (by decide +kernel : ∀ k, k < 4 → 65536 ^ k = 2 ^ (16 * k)) k hk, Nat.mod_eq_of_lt ha, Nat.mod_eq_of_lt]
  exact Nat.lt_of_le_of_lt (Nat.div_le_self _ _) ha
theorem and16 (b : Nat) : (lN b).toInt32 &&& 65535 = nI (b % 65536) := by
  refine Int32.toBitVec_inj.mp (BitVec.eq_of_toNat_eq ?_)
  rw [Int32.toBitVec_and, BitVec.toNat_and]
  show (lN b).toInt32.toBitVec.toNat &&& (2 ^ 16 - 1) = b % 65536 % 2 ^ 32
  rw [Nat.and_two_pow_sub_one_eq_mod]
  have e : (lN b).toInt32.toBitVec.toNat = b % 2 ^ 64 % 2 ^ 32 := by
    rw [Int64.toBitVec_toInt32, BitVec.signExtend_eq_setWidth_of_le _ (by decide), BitVec.toNat_setWidth]; rfl
  rw [e]
  omega
/-- four lanes of coin, the low (0) or the high (1) -/
def p4 (c : Nat → Nat) (h : Nat) : Nat := c (4 * h) + c (4 * h + 1) * 65536 + c (4 * h + 2) * 4294967296 + c (4 * h + 3) * 281474976710656
def ln (i h c : Nat) : Nat := if i / 4 = h then c * 65536 ^ (i % 4) else 0
theorem p4_lt {c : Nat → Nat} (hc : ∀ i, c i < 65536) (h : Nat) : p4 c h < 2 ^ 64 := by
  have := hc (4 * h); have := hc (4 * h + 1); have := hc (4 * h + 2); have := hc (4 * h + 3)
  simp only [p4]; omega
theorem p4_dig {c : Nat → Nat} (hc : ∀ i, c i < 65536) (h : Nat) {k : Nat} (hk : k < 4) : p4 c h / 65536 ^ k % 65536 = c (4 * h + k) := by
  have := hc (4 * h); have := hc (4 * h + 1); have := hc (4 * h + 2); have := hc (4 * h + 3)
  simp only [p4]
  rcases (show k = 0 ∨ k = 1 ∨ k = 2 ∨ k = 3 by omega) with rfl | rfl | rfl | rfl <;> simp only [Nat.reducePow, Nat.add_zero] <;> omega
theorem p4_inj {c c' : Nat → Nat} (hc : ∀ i, c i < 65536) (hc' : ∀ i, c' i < 65536) (h0 : p4 c 0 = p4 c' 0) (h1 : p4 c 1 = p4 c' 1) : ∀ i, i < 8 → c i = c' i := by
  intro i hi
  have e : i = 4 * (i / 4) + i % 4 := by omega
  rw [e, ← p4_dig hc (i / 4) (k := i % 4) (by omega), ← p4_dig hc' (i / 4) (k := i % 4) (by omega)]
  rcases (show i / 4 = 0 ∨ i / 4 = 1 by omega) with q | q <;> rw [q]
  · rw [h0]
  · rw [h1]
/-- one lane more or less -/
theorem p4_upd {c : Nat → Nat} {i : Nat} (hi : i < 8) (x : Nat) (h : Nat) (hh : h < 2) : p4 (fun j => if j = i then c i + x else c j) h = p4 c h + ln i h x := by
  have e : ∀ k, (if 4 * h + k = i then c i + x else c (4 * h + k)) = c (4 * h + k) + (if 4 * h + k = i then x else 0) := by
    intro k
    by_cases q : 4 * h + k = i
    · rw [if_pos q, if_pos q, q]
    · rw [if_neg q, if_neg q, Nat.add_zero]
  have e0 := e 0
  rw [Nat.add_zero] at e0
  simp only [p4, e, e0, ln, Nat.add_mul]
  obtain ⟨a0, ha0⟩ : ∃ z, c (4 * h) = z := ⟨_, rfl⟩
  rw [ha0]
  obtain ⟨a1, ha1⟩ : ∃ z, c (4 * h + 1) * 65536 = z := ⟨_, rfl⟩
  rw [ha1]
  obtain ⟨a2, ha2⟩ : ∃ z, c (4 * h + 2) * 4294967296 = z := ⟨_, rfl⟩
  rw [ha2]
  obtain ⟨a3, ha3⟩ : ∃ z, c (4 * h + 3) * 281474976710656 = z := ⟨_, rfl⟩
  rw [ha3]
  by_cases q : i / 4 = h
  · rw [if_pos q]
    rcases (show i % 4 = 0 ∨ i % 4 = 1 ∨ i % 4 = 2 ∨ i % 4 = 3 by omega) with r | r | r | r
    · rw [if_pos (show 4 * h = i by omega), if_neg (show ¬ 4 * h + 1 = i by omega), if_neg (show ¬ 4 * h + 2 = i by omega), if_neg (show ¬ 4 * h + 3 = i by omega), r, Nat.pow_zero]
      omega
    · rw [if_neg (show ¬ 4 * h = i by omega), if_pos (show 4 * h + 1 = i by omega), if_neg (show ¬ 4 * h + 2 = i by omega), if_neg (show ¬ 4 * h + 3 = i by omega), r, Nat.pow_one]
      obtain ⟨y, hy⟩ : ∃ z, x * 65536 = z := ⟨_, rfl⟩
      rw [hy]
      omega
    · rw [if_neg (show ¬ 4 * h = i by omega), if_neg (show ¬ 4 * h + 1 = i by omega), if_pos (show 4 * h + 2 = i by omega), if_neg (show ¬ 4 * h + 3 = i by omega), r, show 65536 ^ 2 = 4294967296 by decide]
      obtain ⟨y, hy⟩ : ∃ z, x * 4294967296 = z := ⟨_, rfl⟩
      rw [hy]
      omega
    · rw [if_neg (show ¬ 4 * h = i by omega), if_neg (show ¬ 4 * h + 1 = i by omega), if_neg (show ¬ 4 * h + 2 = i by omega), if_pos (show 4 * h + 3 = i by omega), r, show 65536 ^ 3 = 281474976710656 by decide]
      obtain ⟨y, hy⟩ : ∃ z, x * 281474976710656 = z := ⟨_, rfl⟩
      rw [hy]
      omega
  · rw [if_neg q, if_neg (show ¬ 4 * h = i by omega), if_neg (show ¬ 4 * h + 1 = i by omega), if_neg (show ¬ 4 * h + 2 = i by omega), if_neg (show ¬ 4 * h + 3 = i by omega)]
    omega
set_option maxRecDepth 100000 in
set_option maxHeartbeats 4000000 in
theorem c_X5_part {M : Mem} {i h c : Nat} (hi : i < 8) (hh : h < 2) (hc : c < 2 ^ 31) : Fun yX5_part cX5_part 3 (some .long) 0 [.int (nI i), .int (nI h), .int (nI c)] M (some (.long (lN (ln i h c)))) (M) := by
  refine Fun.of (own := RX5) ([some (.int (nI i)), some (.int (nI h)), some (.int (nI c))]) rfl (by decide +kernel) (Nat.le_of_ble_eq_true rfl) rfl ?_
  refine rx_iload_n (i := 0) dX5_part_0 rfl rfl ?_
  refine rx_iconst (2) dX5_part_1 rfl ?_
  refine rx_ishr dX5_part_2 ?_
  refine rx_top (nI (i / 4)) ((by decide +kernel : ∀ i, i < 8 → nI i >>> (2 &&& 31) = nI (i / 4)) i hi) ?_
  refine rx_iload_n (i := 1) dX5_part_3 rfl rfl ?_
  refine rx_icmp_ne (tgt := 19) dX5_part_4 (by decide) (fun c4 => ?_) (fun c4 => ?_)
  · skip
    rw [show ln i h c = 0 from if_neg (fun q => c4 (by rw [q]))]
    refine rx_lconst (0) dX5_part_19 rfl ?_
    exact rx_fiL dX5_part_20 rfl rfl
  · skip
    rw [show ln i h c = c * 65536 ^ (i % 4) from if_pos ((nI_eq (by omega) (by omega)).mp c4)]
    refine rx_iload_n (i := 2) dX5_part_7 rfl rfl ?_
    refine rx_i2l dX5_part_8 rfl ?_
    rw [nI_l hc]
    refine rx_bipush (16) dX5_part_9 rfl ?_
    refine rx_iload_n (i := 0) dX5_part_11 rfl rfl ?_
    refine rx_iconst (3) dX5_part_12 rfl ?_
    refine rx_iand dX5_part_13 ?_
    refine rx_imul dX5_part_14 ?_
    refine rx_top (nI (16 * (i % 4))) ((by decide +kernel : ∀ i, i < 8 → 16 * (nI i &&& 3) = nI (16 * (i % 4))) i hi) ?_
    refine rx_lshl dX5_part_15 rfl ?_
    rw [lsh16 (by omega)]
    refine rx_goto (tgt := 20) dX5_part_16 (by decide) ?_
    exact rx_fiL dX5_part_20 rfl rfl
