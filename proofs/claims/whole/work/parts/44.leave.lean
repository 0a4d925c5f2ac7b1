/-- the states while s is left: s stays -/
def SS.iv (S : SS) (s : Nat) (mk0 : Int32) (c0 : Nat → Nat) (p0 : Int32) (r0 : Nat) : Prop := S.dis ∧ s < S.N ∧ S.mk s = mk0 ∧ S.co s = c0 ∧ S.pr s = p0 ∧ S.rw s = r0 ∧ ∀ t, t < S.N → S.rw t < 2 ^ 60
theorem or_bit_ne {x : Int32} {k : Nat} (hk : k < 32) (h : bt x k = false) : x ≠ x ||| bit k := by
  intro q
  have e := congrArg (fun y => bt y k) q
  simp only [b_or, h, b_bit hk, Bool.false_or, decide_true] at e
  cases e
theorem iv_go {S : SS} {s : Nat} {mk0 : Int32} {c0 : Nat → Nat} {p0 : Int32} {r0 : Nat} (h : S.iv s mk0 c0 p0 r0) {k : Nat} (hk : k < 32) (hb : bt mk0 k = false) {c : Nat → Nat} {cost : Int32} {row : Nat} (hr : row < 2 ^ 60) : (S.go s (mk0 ||| bit k) c cost row).2.iv s mk0 c0 p0 r0 := by
  obtain ⟨h1, h2, h3, h4, h5, h6, h7⟩ := h
  obtain ⟨k1, k2, k3, k4, k5, k6⟩ := go_keep (s := s) (mk := mk0 ||| bit k) (c := c) (cost := cost) (row := row) h2 (by rw [h3]; exact or_bit_ne hk hb)
  exact ⟨go_dis h1, k1, k2.trans h3, k3.trans h4, k5.trans h5, k6.trans h6, go_all (P := fun _ _ r => r < 2 ^ 60) h7 (by decide) hr (fun _ _ _ => hr)⟩
/-- person i pays debt k in s -/
def gp (T : TT) (s : Nat) (mk0 : Int32) (c0 : Nat → Nat) (p0 : Int32) (r0 k i : Nat) (S : SS) : Bool × SS :=
  S.go s (mk0 ||| bit k) (shN c0 i (T 7 k).toNatClampNeg (T 8 k).toNatClampNeg) (p0 + prT T i k) (r0 * 64 + (k * 6 + rkN (T 6 k).toNatClampNeg (T 7 k).toNatClampNeg i))
/-- each of some (bits) pays debt k in s -/
def inn (T : TT) (s : Nat) (mk0 : Int32) (c0 : Nat → Nat) (p0 : Int32) (r0 k : Nat) (Q : Int32) : Nat → Bool × SS → Bool × SS
  | 0, r => r
  | i + 1, r => if bt Q i = true then ((inn T s mk0 c0 p0 r0 k Q i r).1 && (gp T s mk0 c0 p0 r0 k i (inn T s mk0 c0 p0 r0 k Q i r).2).1, (gp T s mk0 c0 p0 r0 k i (inn T s mk0 c0 p0 r0 k Q i r).2).2) else inn T s mk0 c0 p0 r0 k Q i r
theorem rkN_le {o g i : Nat} (hi : i < 8) : rkN o g i ≤ 7 := by simp only [rkN]; omega
theorem inn_iv {T : TT} {s : Nat} {mk0 : Int32} {c0 : Nat → Nat} {p0 : Int32} {r0 k : Nat} {Q : Int32} (hk : k < 10) (hb : bt mk0 k = false) (hr : r0 < 2 ^ 54) {r : Bool × SS} (h : r.2.iv s mk0 c0 p0 r0) : ∀ {i : Nat}, i ≤ 8 → (inn T s mk0 c0 p0 r0 k Q i r).2.iv s mk0 c0 p0 r0
  | 0, _ => h
  | i + 1, hi => by
    have h2 := inn_iv (T := T) (Q := Q) hk hb hr h (i := i) (by omega)
    simp only [inn]
    split
    · have := rkN_le (o := (T 6 k).toNatClampNeg) (g := (T 7 k).toNatClampNeg) (i := i) (by omega)
      exact iv_go h2 (by omega) hb (by omega)
    · exact h2
