
/-- who may pay parts of k, by sort srt -/
def ptT (T : TT) (n : Nat) (srt : Int32) (k i : Nat) : Bool := (!(decide (nI i = T 6 k)) && !(decide (nI i = T 7 k))) && blw srt (T 14 1) n (onT T) (T 6 k).toNatClampNeg i
def dueT (T : TT) (x : Int32) (k : Nat) : Bool := decide (T 10 k = 0) && decide (T 9 k ≤ x)
/-- the memory after a look: the town copied, its sort, THE LIST, these, the payers -/
def lkM (M : Mem) (n m : Nat) (srt x : Int32) : Mem := setI (mkL (setI (cpM M 124 28) 139 0 srt) 124 n) 15 2 (fbor (dueT (view M 28) x) m)


