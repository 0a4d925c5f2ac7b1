def allB (p : Nat → Bool) : Nat → Bool
  | 0 => true
  | n + 1 => allB p n && p n
theorem allB_iff {p : Nat → Bool} : ∀ {n : Nat}, allB p n = true ↔ ∀ k, k < n → p k = true
  | 0 => ⟨fun _ k hk => absurd hk (Nat.not_lt_zero _), fun _ => rfl⟩
  | n + 1 => by
    simp only [allB, Bool.and_eq_true, allB_iff (n := n)]
    exact ⟨fun h k hk => if q : k = n then q ▸ h.2 else h.1 k (by omega), fun h => ⟨fun k hk => h k (by omega), h n (by omega)⟩⟩
/-- the first of n -/
def fstB (p : Nat → Bool) : Nat → Option Nat
  | 0 => none
  | n + 1 => match fstB p n with
    | some s => some s
    | none => if p n = true then some n else none
theorem fstB_none {p : Nat → Bool} : ∀ {n : Nat}, (∀ k, k < n → ¬ p k = true) → fstB p n = none
  | 0, _ => rfl
  | n + 1, h => by
    simp only [fstB]
    rw [fstB_none (n := n) (fun k hk => h k (by omega))]
    exact if_neg (h n (by omega))
theorem fstB_some {p : Nat → Bool} {s : Nat} : ∀ {n : Nat}, s < n → p s = true → (∀ k, k < s → ¬ p k = true) → fstB p n = some s
  | 0, h, _, _ => absurd h (Nat.not_lt_zero _)
  | n + 1, h, hp, hk => by
    simp only [fstB]
    by_cases q : s = n
    · subst q
      rw [fstB_none hk]
      exact if_pos hp
    · rw [fstB_some (n := n) (by omega) hp hk]
def SS.isB (S : SS) (mk : Int32) (c : Nat → Nat) (s : Nat) : Bool := decide (S.mk s = mk) && allB (fun i => decide (S.co s i = c i)) 8
theorem isB_iff {S : SS} {mk : Int32} {c : Nat → Nat} {s : Nat} : S.isB mk c s = true ↔ S.is mk c s := by
  simp only [SS.isB, SS.is, Bool.and_eq_true, allB_iff, decide_eq_true_eq]
def SS.fnd (S : SS) (mk : Int32) (c : Nat → Nat) : Option Nat := fstB (S.isB mk c) S.N
/-- no two are one -/
def SS.dis (S : SS) : Prop := ∀ s t, s < S.N → t < S.N → S.mk s = S.mk t → (∀ i, i < 8 → S.co s i = S.co t i) → s = t
theorem fd_some {S : SS} {mk : Int32} {c : Nat → Nat} {s : Nat} (h : S.dis) (hs : s < S.N) (hi : S.is mk c s) : S.fnd mk c = some s :=
  fstB_some hs (isB_iff.mpr hi) fun k hk q => by
    have q := isB_iff.mp q
    have := h k s (by omega) hs (q.1.trans hi.1.symm) (fun i h8 => (q.2 i h8).trans (hi.2 i h8).symm)
    omega
theorem fd_none {S : SS} {mk : Int32} {c : Nat → Nat} (h : ∀ s, s < S.N → ¬ S.is mk c s) : S.fnd mk c = none :=
  fstB_none fun k hk q => h k hk (isB_iff.mp q)
theorem add_dis {S : SS} {mk : Int32} {c : Nat → Nat} (h : S.dis) (hn : ∀ s, s < S.N → ¬ S.is mk c s) : (S.add mk c).dis := by
  intro s t hs ht e1 e2
  have hs : s < S.N + 1 := hs
  have ht : t < S.N + 1 := ht
  rw [ad_mk, ad_mk] at e1
  simp only [ad_co] at e2
  by_cases q : s = S.N
  · by_cases r : t = S.N
    · omega
    · rw [if_pos q, if_neg r] at e1
      exact absurd ⟨e1.symm, fun i hi => by have := e2 i hi; rw [if_pos q, if_neg r] at this; exact this.symm⟩ (hn t (by omega))
  · by_cases r : t = S.N
    · rw [if_neg q, if_pos r] at e1
      exact absurd ⟨e1, fun i hi => by have := e2 i hi; rw [if_neg q, if_pos r] at this; exact this⟩ (hn s (by omega))
    · rw [if_neg q, if_neg r] at e1
      exact h s t (by omega) (by omega) e1 fun i hi => by have := e2 i hi; rw [if_neg q, if_neg r] at this; exact this
/-- a way from s leads to t for so much, by such a row -/
def SS.lead (S : SS) (s t : Nat) (cost : Int32) (row : Nat) : SS :=
  (S.N, S.mk, S.co, fun j => if j = t then S.wy t + S.wy s else S.wy j, if cost < S.pr t ∨ (cost = S.pr t ∧ row < S.rw t) then upd S.pr t cost else S.pr, if cost < S.pr t ∨ (cost = S.pr t ∧ row < S.rw t) then updN S.rw t row else S.rw)
/-- a step from s: false, where there would be too many -/
def SS.go (S : SS) (s : Nat) (mk : Int32) (c : Nat → Nat) (cost : Int32) (row : Nat) : Bool × SS := match S.fnd mk c with
  | some t => (true, S.lead s t cost row)
  | none => if S.N < 3000 then (true, (S.add mk c).lead s S.N cost row) else (false, S)
def dcr (c : Nat → Nat) (i v : Nat) : Nat → Nat := fun j => if j = i then c i - v else c j
def icr (c : Nat → Nat) (i v : Nat) : Nat → Nat := fun j => if j = i then c i + v else c j
def shN (c : Nat → Nat) (i g v : Nat) : Nat → Nat := icr (dcr c i v) g v
theorem icr_dcr {c : Nat → Nat} {i v : Nat} (h : v ≤ c i) : icr (dcr c i v) i v = c := by
  funext j
  by_cases q : j = i
  · subst q; simp only [icr, dcr, if_true]; omega
  · simp only [icr, dcr, if_neg q]
theorem lnS {c : Nat → Nat} {i v h : Nat} (hi : i < 8) (hh : h < 2) (hv : v ≤ c i) : lN (p4 c h) - lN (ln i h v) = lN (p4 (dcr c i v) h) := by
  have e : p4 c h = p4 (dcr c i v) h + ln i h v := by
    rw [← p4_upd hi v h hh]
    exact congrArg (fun c => p4 c h) (icr_dcr hv).symm
  rw [e, lN_sub (by omega), Nat.add_sub_cancel]
theorem lnA {c : Nat → Nat} {i g v h : Nat} (hg : g < 8) (hh : h < 2) : lN (p4 (dcr c i v) h) + lN (ln g h v) = lN (p4 (shN c i g v) h) := by
  rw [lN_add, ← p4_upd hg v h hh]
  rfl
theorem row6 {a b : Nat} (hb : b < 64) : lN a <<< ((6 : Int32).toInt64 &&& 63) ||| lN b = lN (a * 64 + b) := by
  rw [show (6 : Int32).toInt64 &&& 63 = lN 6 by decide +kernel]
  refine Int64.toBitVec_inj.mp (BitVec.eq_of_toNat_eq ?_)
  rw [Int64.toBitVec_or, Int64.toBitVec_shiftLeft, BitVec.toNat_or, BitVec.shiftLeft_eq', BitVec.toNat_shiftLeft, (by decide +kernel : ((lN 6).toBitVec.smod 64).toNat = 6)]
  show (a % 2 ^ 64) <<< 6 % 2 ^ 64 ||| b % 2 ^ 64 = (a * 64 + b) % 2 ^ 64
  rw [Nat.mod_eq_of_lt (show b < 2 ^ 64 by omega), Nat.shiftLeft_eq]
  have e : a % 2 ^ 64 * 2 ^ 6 % 2 ^ 64 = (a % 2 ^ 58) <<< 6 := by rw [Nat.shiftLeft_eq]; omega
  rw [e, ← Nat.shiftLeft_add_eq_or_of_lt (by omega), Nat.shiftLeft_eq]
  omega
