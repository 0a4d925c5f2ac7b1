theorem inn_0 {T : TT} {s : Nat} {mk0 : Int32} {c0 : Nat → Nat} {p0 : Int32} {r0 k : Nat} {r : Bool × SS} : ∀ {i : Nat}, inn T s mk0 c0 p0 r0 k 0 i r = r
  | 0 => rfl
  | i + 1 => by rw [inn_f (b_0 i), inn_0]
/-- who may pay debt k of what is left (T: the town with the coin of s) -/
def lvQ (T : TT) (n : Nat) (these mk0 : Int32) (k : Nat) : Int32 := if bt these k = true ∧ bt mk0 k = false then payT T n k else 0
/-- s is left over k debts: the states, what can be paid at all, what is always paid before -/
def lvs (T : TT) (n s : Nat) (mk0 : Int32) (c0 : Nat → Nat) (p0 : Int32) (r0 : Nat) (these : Int32) : Nat → (Bool × SS) × Int32 × (Nat → Int32) → (Bool × SS) × Int32 × (Nat → Int32)
  | 0, x => x
  | k + 1, x => (inn T s mk0 c0 p0 r0 k (lvQ T n these mk0 k) n (lvs T n s mk0 c0 p0 r0 these k x).1,
      if lvQ T n these mk0 k = 0 then (lvs T n s mk0 c0 p0 r0 these k x).2.1 else (lvs T n s mk0 c0 p0 r0 these k x).2.1 ||| bit k,
      if lvQ T n these mk0 k = 0 then (lvs T n s mk0 c0 p0 r0 these k x).2.2 else upd (lvs T n s mk0 c0 p0 r0 these k x).2.2 k ((lvs T n s mk0 c0 p0 r0 these k x).2.2 k &&& mk0))
theorem lvs_iv {T : TT} {n s : Nat} {mk0 : Int32} {c0 : Nat → Nat} {p0 : Int32} {r0 : Nat} {these : Int32} (hn : n ≤ 8) (hr : r0 < 2 ^ 54) {x : (Bool × SS) × Int32 × (Nat → Int32)} (h : x.1.2.iv s mk0 c0 p0 r0) : ∀ {k : Nat}, k ≤ 10 → (lvs T n s mk0 c0 p0 r0 these k x).1.2.iv s mk0 c0 p0 r0
  | 0, _ => h
  | k + 1, hk => by
    have h2 := lvs_iv (T := T) (these := these) hn hr h (k := k) (by omega)
    simp only [lvs]
    by_cases hb : bt mk0 k = false
    · exact inn_iv (by omega) hb hr h2 hn
    · rw [show lvQ T n these mk0 k = 0 from if_neg fun q => hb q.2, inn_0]
      exact h2
