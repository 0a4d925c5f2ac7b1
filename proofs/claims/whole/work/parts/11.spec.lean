/-! bits (what stands up to b_0 began as kit/laws/BITS.to-paste) -/
def bt (x : Int32) (i : Nat) : Bool := x.toBitVec.getLsbD i
theorem b_ext {x y : Int32} (h : ∀ i, i < 32 → bt x i = bt y i) : x = y := Int32.toBitVec_inj.mp (BitVec.eq_of_getLsbD_eq (fun i hi => h i hi))
theorem b_or (x y : Int32) (i : Nat) : bt (x ||| y) i = (bt x i || bt y i) := by unfold bt; rw [Int32.toBitVec_or, BitVec.getLsbD_or]
theorem b_and (x y : Int32) (i : Nat) : bt (x &&& y) i = (bt x i && bt y i) := by unfold bt; rw [Int32.toBitVec_and, BitVec.getLsbD_and]
theorem b_xor (x y : Int32) (i : Nat) : bt (x ^^^ y) i = (bt x i ^^ bt y i) := by unfold bt; rw [Int32.toBitVec_xor, BitVec.getLsbD_xor]
theorem b_big {x : Int32} {i : Nat} (h : 32 ≤ i) : bt x i = false := BitVec.getLsbD_of_ge _ _ h
theorem b_m1 : ∀ i, i < 32 → bt (-1) i = true := by decide +kernel
theorem b_0 (i : Nat) : bt 0 i = false := BitVec.getLsbD_zero
/-- 1 << k -/
def bit (k : Nat) : Int32 := (1 : Int32) <<< (nI k &&& 31)
theorem bit_bv : ∀ k, k < 32 → (bit k).toBitVec = BitVec.twoPow 32 k := by decide +kernel
theorem b_bit {k : Nat} (hk : k < 32) (i : Nat) : bt (bit k) i = decide (i = k) := by
  unfold bt
  rw [bit_bv k hk, BitVec.getLsbD_twoPow]
  by_cases h : i = k
  · subst h; simp [hk]
  · have h' : ¬ k = i := fun q => h q.symm
    simp [h, h']
theorem b_not (x : Int32) {i : Nat} (hi : i < 32) : bt (x ^^^ (-1)) i = !(bt x i) := by rw [b_xor, b_m1 i hi]; simp
theorem twoPow_ne : ∀ l, l < 32 → BitVec.twoPow 32 l ≠ 0#32 := by decide +kernel
theorem and_bit (b : Int32) {k : Nat} (hk : k < 32) : b &&& bit k = 0 ↔ bt b k = false := by
  rw [← Int32.toBitVec_inj, Int32.toBitVec_and, bit_bv k hk, BitVec.and_twoPow]
  show _ = 0#32 ↔ b.toBitVec.getLsbD k = false
  cases hb : b.toBitVec.getLsbD k
  · simp
  · simp [twoPow_ne k hk]
theorem and_bitn (b : Int32) {k : Nat} (hk : k < 32) : ¬ b &&& bit k = 0 ↔ bt b k = true := by
  rw [and_bit b hk]; cases bt b k <;> simp
theorem bit_and (b : Int32) {k : Nat} (hk : k < 32) : bit k &&& b = 0 ↔ bt b k = false := by
  rw [← and_bit b hk, ← Int32.toBitVec_inj, ← Int32.toBitVec_inj, Int32.toBitVec_and, Int32.toBitVec_and, BitVec.and_comm]
/-- the ones of 0 .. n - 1 for which p holds, as bits -/
def fbor (p : Nat → Bool) : Nat → Int32
  | 0 => 0
  | n + 1 => if p n = true then fbor p n ||| bit n else fbor p n
theorem b_fbor (p : Nat → Bool) : ∀ n, n ≤ 32 → ∀ k, bt (fbor p n) k = (decide (k < n) && p k)
  | 0, _, k => by simp [fbor, b_0]
  | n + 1, h, k => by
    have ih := b_fbor p n (by omega) k
    simp only [fbor]
    by_cases hp : p n = true
    · rw [if_pos hp, b_or, ih, b_bit (by omega)]
      by_cases hk : k = n
      · subst hk; simp [hp]
      · have e : (k < n + 1) = (k < n) := by apply propext; omega
        simp [hk, e]
    · rw [if_neg hp, ih]
      by_cases hk : k = n
      · subst hk; simp at hp; simp [hp]
      · have e : (k < n + 1) = (k < n) := by apply propext; omega
        simp [e]
theorem fbor_congr {p q : Nat → Bool} : ∀ {n : Nat}, (∀ k, k < n → p k = q k) → fbor p n = fbor q n
  | 0, _ => rfl
  | n + 1, h => by
    simp only [fbor]
    rw [fbor_congr (n := n) (fun k hk => h k (by omega)), h n (by omega)]
theorem fbor_0 {p : Nat → Bool} : ∀ {n : Nat}, n ≤ 32 → (fbor p n = 0 ↔ ∀ k, k < n → p k = false) := by
  intro n hn
  constructor
  · intro h k hk
    have := b_fbor p n hn k
    rw [h, b_0] at this
    simp [hk] at this
    exact this
  · intro h
    apply b_ext
    intro i hi
    rw [b_fbor p n hn, b_0]
    by_cases hi2 : i < n
    · simp [h i hi2]
    · simp [hi2]
/-- a sum over 0 .. n - 1 -/
def fsum (f : Nat → Int32) : Nat → Int32
  | 0 => 0
  | n + 1 => fsum f n + f n
theorem fsum_congr {f g : Nat → Int32} : ∀ {n : Nat}, (∀ k, k < n → f k = g k) → fsum f n = fsum g n
  | 0, _ => rfl
  | n + 1, h => by
    simp only [fsum]
    rw [fsum_congr (n := n) (fun k hk => h k (by omega)), h n (by omega)]
theorem ix8 (a b : Nat) : nI a * 8 + nI b = nI (8 * a + b) := by rw [show (8 : Int32) = nI 8 from rfl, pk_mul, nI_add, Nat.mul_comm]
theorem i_add0 (x : Int32) : x + 0 = x := Int32.add_zero x
theorem i_0add (x : Int32) : 0 + x = x := Int32.zero_add x
/-! reading a memory with one place new -/
theorem sI {M : Mem} {i k a j : Nat} {x : Int32} : (setI M i k x).1 a j = if a = i ∧ j = k then x else M.1 a j := rfl
theorem sI_eq {M : Mem} {i k : Nat} {x : Int32} : (setI M i k x).1 i k = x := by simp [setI]
theorem sI_ne {M : Mem} {i k a j : Nat} {x : Int32} (h : ¬ (a = i ∧ j = k)) : (setI M i k x).1 a j = M.1 a j := if_neg h
theorem sI_na {M : Mem} {i k a j : Nat} {x : Int32} (h : a ≠ i) : (setI M i k x).1 a j = M.1 a j := if_neg fun q => h q.1
theorem sJ_1 {M : Mem} {i k : Nat} {x : Int64} : (setJ M i k x).1 = M.1 := rfl
theorem sI_2 {M : Mem} {i k : Nat} {x : Int32} : (setI M i k x).2 = M.2 := rfl
theorem sI_same {M : Mem} {i k : Nat} : setI M i k (M.1 i k) = M := by
  refine Prod.ext ?_ rfl
  funext a j
  simp only [setI]
  split
  · next h => rw [h.1, h.2]
  · rfl
theorem sI_sI {M : Mem} {i k : Nat} {x y : Int32} : setI (setI M i k x) i k y = setI M i k y := by
  refine Prod.ext ?_ rfl
  funext a j
  simp only [setI]
  split <;> rfl
/-! a town as it stands in a memory: people n, debts m -/
def TW (M : Mem) (t n m : Nat) : Prop := M.1 t 15 = nI n ∧ n ≤ 8 ∧ M.1 t 16 = nI m ∧ m ≤ 10 ∧ ∀ k, k < m → ∃ o g : Nat, o < n ∧ g < n ∧ o ≠ g ∧ M.1 (t + 7) k = nI o ∧ M.1 (t + 8) k = nI g
/-- what numbers of a town a read needs -/
theorem TW.keep {M M' : Mem} {t n m : Nat} (h : TW M t n m) (h1 : M'.1 t 15 = M.1 t 15) (h2 : M'.1 t 16 = M.1 t 16) (h3 : ∀ k, k < m → M'.1 (t + 7) k = M.1 (t + 7) k) (h4 : ∀ k, k < m → M'.1 (t + 8) k = M.1 (t + 8) k) : TW M' t n m := by
  obtain ⟨a1, a2, a3, a4, a5⟩ := h
  refine ⟨by rw [h1, a1], a2, by rw [h2, a3], a4, fun k hk => ?_⟩
  obtain ⟨o, g, b1, b2, b3, b4, b5⟩ := a5 k hk
  exact ⟨o, g, b1, b2, b3, by rw [h3 k hk, b4], by rw [h4 k hk, b5]⟩
