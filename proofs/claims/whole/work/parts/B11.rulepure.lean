/-! THE CLASS'S READER OF A RULE AND THE MODEL'S: both on lists -/
/-- a sign as the model has it -/
def sgY (k : Nat) : Int32 := if k < 128 then nI k else nI k - 256
def ax1 (y : Int32) : Int32 := if y = 60 then 0 else if y = 62 then 1 else if y = 61 then 2 else if y = 43 then 3 else if y = 45 then 4 else if y = 42 then 5 else if y = 47 then 6 else -1
theorem sY_dig : ∀ k, k < 256 → dig (nI k) = dig (sgY k) := by decide +kernel
theorem sY_eq : ∀ k, k < 256 → dig (sgY k) = true → nI k = sgY k := by decide +kernel
theorem sY_c : ∀ k, k < 256 → (nI k = 45 ↔ sgY k = 45) ∧ (nI k = 40 ↔ sgY k = 40) ∧ (nI k = 41 ↔ sgY k = 41) := by decide +kernel
theorem sY_0 : ∀ k, k < 256 → strIx 0 (nI k) = if ltx (sgY k) = 8 then -1 else nI (ltx (sgY k)) := by decide +kernel
theorem sY_1 : ∀ k, k < 256 → strIx 1 (nI k) = ax1 (sgY k) := by decide +kernel
theorem sY_0n : ∀ k, k < 256 → (strIx 0 (nI k) < 0 ↔ ltx (sgY k) = 8) := by decide +kernel
/-- steps, what waits (the last first), compared, depth, digits, a thing is wanted -/
abbrev LSt : Type := List Int32 × List Int32 × (Nat → Int32) × Nat × Nat × Int32
def lStl (least : Int32) : List Int32 → List Int32 → List Int32 × List Int32
  | c, [] => (c, [])
  | c, a :: w => if least ≤ strg a then lStl least (c ++ [a]) w else (c, a :: w)
def lth (y : Int32) (s : LSt) : Bool × LSt := match s with
  | (c, w, Cp, dp, dg, wt) =>
    if y = 45 then (true, c, 2007 :: w, Cp, dp, dg, wt)
    else if y = 40 then (if dp < 4 then (true, c, 2008 :: w, upd Cp (dp + 1) 0, dp + 1, dg, wt) else (false, c, w, Cp, dp, dg, wt))
    else if ltx y = 8 ∧ dig y = false then (false, c, w, Cp, dp, dg, wt)
    else (true, c ++ [if dig y = true then y - 48 else 1000 + nI (ltx y)], w, Cp, dp, (if dig y = true then 1 else 0), 0)
def lbe (y : Int32) (s : LSt) : Bool × LSt := match s with
  | (c, w, Cp, dp, dg, wt) =>
    if dig y = true then (if 1 ≤ dg ∧ dg ≤ 2 then (true, c.dropLast ++ [c.getLastD 0 * 10 + (y - 48)], w, Cp, dp, dg + 1, wt) else (false, c, w, Cp, dp, dg, wt))
    else if y = 41 then (if 1 ≤ dp then (true, (lStl 1 c w).1, (lStl 1 c w).2.drop 1, Cp, dp - 1, 0, wt) else (false, c, w, Cp, dp, 0, wt))
    else if ax1 y < 0 ∨ (ax1 y < 3 ∧ ¬ Cp dp = 0) then (false, c, w, Cp, dp, 0, wt)
    else (true, (lStl (strg (2000 + ax1 y)) c w).1, (2000 + ax1 y) :: (lStl (strg (2000 + ax1 y)) c w).2, upd Cp dp (if ¬ Cp dp = 0 ∨ ax1 y < 3 then 1 else 0), dp, 0, 1)
def lst (y : Int32) (s : LSt) : Bool × LSt := if s.2.2.2.2.2 = 0 then lbe y s else lth y s
/-! what the functions hold, as lists -/
def cLs (St : Nat → Int32) (z : Nat) : List Int32 := (List.range z).map St
def wLs (Wt : Nat → Int32) : Nat → List Int32
  | 0 => []
  | n + 1 => Wt n :: wLs Wt n
theorem cLs_S {St : Nat → Int32} {z : Nat} : cLs St (z + 1) = cLs St z ++ [St z] := by simp [cLs, List.range_succ]
theorem cLs_cg {St St' : Nat → Int32} : ∀ {z : Nat}, (∀ j, j < z → St j = St' j) → cLs St z = cLs St' z
  | 0, _ => rfl
  | z + 1, h => by rw [cLs_S, cLs_S, cLs_cg (z := z) (fun j hj => h j (by omega)), h z (by omega)]
theorem wLs_cg {St St' : Nat → Int32} : ∀ {z : Nat}, (∀ j, j < z → St j = St' j) → wLs St z = wLs St' z
  | 0, _ => rfl
  | z + 1, h => by simp only [wLs]; rw [wLs_cg (z := z) (fun j hj => h j (by omega)), h z (by omega)]
theorem cLs_u {St : Nat → Int32} {z : Nat} {v : Int32} : cLs (upd St z v) (z + 1) = cLs St z ++ [v] := by
  rw [cLs_S, cLs_cg (St' := St) (fun j hj => by unfold upd; rw [if_neg (by omega)])]
  unfold upd; rw [if_pos rfl]
theorem wLs_u {Wt : Nat → Int32} {n : Nat} {v : Int32} : wLs (upd Wt n v) (n + 1) = v :: wLs Wt n := by
  simp only [wLs]
  rw [wLs_cg (St' := Wt) (fun j hj => by unfold upd; rw [if_neg (by omega)])]
  unfold upd; rw [if_pos rfl]
theorem stl_l {least : Int32} {Wt : Nat → Int32} : ∀ {n : Nat} {St : Nat → Int32} {z : Nat}, lStl least (cLs St z) (wLs Wt n) = (cLs (stl least Wt n St z).1 (stl least Wt n St z).2.1, wLs Wt (stl least Wt n St z).2.2)
  | 0, _, _ => rfl
  | n + 1, St, z => by
    simp only [stl, wLs, lStl]
    split
    · rw [← stl_l (n := n), cLs_u]
    · rfl
def absL (s : RSt) : LSt := (cLs s.1 s.2.1, wLs s.2.2.1 s.2.2.2.1, s.2.2.2.2.1, s.2.2.2.2.2.1, s.2.2.2.2.2.2.1, s.2.2.2.2.2.2.2)
theorem wLs_d {Wt : Nat → Int32} : ∀ {n : Nat}, (wLs Wt n).drop 1 = wLs Wt (n - 1)
  | 0 => rfl
  | n + 1 => by simp [wLs]
theorem last_c {l : List Int32} {v : Int32} : (l ++ [v]).getLastD 0 = v := by simp [List.getLastD_eq_getLast?]
def sameR (a : Bool × RSt) (b : Bool × LSt) : Prop := a.1 = b.1 ∧ (a.1 = true → absL a.2 = b.2)
theorem sameR_no {a : RSt} {b : LSt} : sameR (false, a) (false, b) := ⟨rfl, fun q => by cases q⟩
theorem sameR_ok {a : RSt} {b : LSt} (h : absL a = b) : sameR (true, a) (true, b) := ⟨rfl, fun _ => h⟩
theorem rst_abs {k i : Nat} (hk : k < 256) {s : RSt} (h : rOK i s) : sameR (rst (nI k) s) (lst (sgY k) (absL s)) := by
  obtain ⟨St, z, Wt, nw, Cp, dp, dg, wt⟩ := s
  obtain ⟨h1, h2, h3, h4, h5⟩ := h
  simp only at h1 h2 h3 h4 h5
  obtain ⟨e45, e40, e41⟩ := sY_c k hk
  have ed := sY_dig k hk
  have e0 := sY_0n k hk
  have e1 := sY_1 k hk
  show sameR (rst (nI k) (St, z, Wt, nw, Cp, dp, dg, wt)) (lst (sgY k) (cLs St z, wLs Wt nw, Cp, dp, dg, wt))
  unfold rst lst
  simp only
  by_cases hw : wt = 0
  · rw [if_pos hw, if_pos hw]
    unfold beS lbe
    simp only
    rw [ed, e1]
    by_cases hd : dig (sgY k) = true
    · rw [if_pos hd, if_pos hd]
      by_cases hg : 1 ≤ dg ∧ dg ≤ 2
      · rw [if_pos hg, if_pos hg]
        refine sameR_ok ?_
        obtain ⟨z, rfl⟩ : ∃ y, z = y + 1 := ⟨z - 1, by have := h4 hg.1; omega⟩
        show (cLs (upd St z (St z * 10 + (nI k - 48))) (z + 1), _) = ((cLs St (z + 1)).dropLast ++ [(cLs St (z + 1)).getLastD 0 * 10 + (sgY k - 48)], _)
        rw [cLs_u, cLs_S, last_c, List.dropLast_concat, sY_eq k hk hd]
      · rw [if_neg hg, if_neg hg]
        exact sameR_no
    · rw [if_neg hd, if_neg hd]
      by_cases q : nI k = 41
      · rw [if_pos q, if_pos (e41.mp q)]
        by_cases hp : 1 ≤ dp
        · rw [if_pos hp, if_pos hp]
          refine sameR_ok ?_
          show (cLs (stl 1 Wt nw St z).1 (stl 1 Wt nw St z).2.1, wLs Wt ((stl 1 Wt nw St z).2.2 - 1), _) = _
          rw [stl_l, wLs_d]
        · rw [if_neg hp, if_neg hp]
          exact sameR_no
      · rw [if_neg q, if_neg (fun z => q (e41.mpr z))]
        by_cases hx : ax1 (sgY k) < 0 ∨ (ax1 (sgY k) < 3 ∧ ¬ Cp dp = 0)
        · rw [if_pos hx, if_pos hx]
          exact sameR_no
        · rw [if_neg hx, if_neg hx]
          refine sameR_ok ?_
          show (cLs (stl (strg (2000 + ax1 (sgY k))) Wt nw St z).1 (stl (strg (2000 + ax1 (sgY k))) Wt nw St z).2.1, wLs (upd Wt (stl (strg (2000 + ax1 (sgY k))) Wt nw St z).2.2 (2000 + ax1 (sgY k))) ((stl (strg (2000 + ax1 (sgY k))) Wt nw St z).2.2 + 1), _) = _
          rw [wLs_u, stl_l]
  · rw [if_neg hw, if_neg hw]
    unfold thS lth
    simp only
    rw [ed]
    by_cases q : nI k = 45
    · rw [if_pos q, if_pos (e45.mp q)]
      refine sameR_ok ?_
      show (_, wLs (upd Wt nw 2007) (nw + 1), _) = _
      rw [wLs_u]
    · rw [if_neg q, if_neg (fun z => q (e45.mpr z))]
      by_cases q2 : nI k = 40
      · rw [if_pos q2, if_pos (e40.mp q2)]
        by_cases hp : dp < 4
        · rw [if_pos hp, if_pos hp]
          refine sameR_ok ?_
          show (_, wLs (upd Wt nw 2008) (nw + 1), _) = _
          rw [wLs_u]
        · rw [if_neg hp, if_neg hp]
          exact sameR_no
      · rw [if_neg q2, if_neg (fun z => q2 (e40.mpr z))]
        by_cases q3 : strIx 0 (nI k) < 0 ∧ dig (sgY k) = false
        · rw [if_pos q3, if_pos ⟨e0.mp q3.1, q3.2⟩]
          exact sameR_no
        · rw [if_neg q3, if_neg (show ¬ (ltx (sgY k) = 8 ∧ dig (sgY k) = false) from fun z => q3 ⟨e0.mpr z.1, z.2⟩)]
          refine sameR_ok ?_
          show (cLs (upd St z _) (z + 1), _) = _
          rw [cLs_u]
          by_cases hd : dig (sgY k) = true
          · rw [if_pos hd, if_pos hd, if_pos hd, sY_eq k hk hd]
          · rw [if_neg hd, if_neg hd, if_neg hd]
            have hl : ¬ ltx (sgY k) = 8 := fun z => q3 ⟨e0.mpr z, Bool.eq_false_iff.mpr hd⟩
            rw [sY_0 k hk, if_neg hl]
