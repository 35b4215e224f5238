/-! the reference's disk and queues -/
def mkR (T : Nat → Nat → Int32) (j : Nat) (b s : Int32) : Nat → Nat → Int32 := up2 (up2 (up2 (up2 (up2 T 0 j 1) 1 j b) 2 j s) 3 j 0) 4 j 0
def mkQ (T : Nat → Nat → Int32) (j : Nat) (b s : Int32) : Nat → Nat → Int32 := if j < 4 then mkR T j b s else up2 (mkR T j b s) 6 (j - 4) 1
/-- the row where block j is found -/
def bof (cb : Nat → Int32) (nc j : Nat) : Nat := match fnd cb (nI j) nc with
  | some k => 64 + k
  | none => j
def gsB (cb : Nat → Int32) : Nat → Nat → Int32
  | 0 => cb
  | k + 1 => upd (gsB cb k) k (gsB cb k (k + 1))
def gsR (R : Nat → Nat → Int64) : Nat → Nat → Nat → Int64
  | 0 => R
  | k + 1 => va_up (gsR R k) (64 + k) (va_cpy (gsR R k (64 + (k + 1))) (gsR R k (64 + k)) 0 0 8)
theorem gsB_hi {cb : Nat → Int32} : ∀ {n k : Nat}, n ≤ k → gsB cb n k = cb k
  | 0, k, _ => rfl
  | n + 1, k, h => by
    unfold gsB
    rw [pk_un (by omega), gsB_hi (by omega)]
theorem gsB_lo {cb : Nat → Int32} : ∀ {n k : Nat}, k < n → gsB cb n k = cb (k + 1)
  | 0, k, h => absurd h (Nat.not_lt_zero _)
  | n + 1, k, h => by
    unfold gsB
    by_cases e : k = n
    · subst e
      rw [pk_us, gsB_hi (by omega)]
    · rw [pk_un e, gsB_lo (by omega)]
/-- rows and blocks of the reference's disk -/
abbrev RD : Type := (Nat → Nat → Int64) × (Nat → Int32)
def gvU (d : RD) (n : Nat) : RD := (gsR (va_up d.1 (d.2 0).toNatClampNeg (va_cpy (d.1 (64 + 0)) (d.1 (d.2 0).toNatClampNeg) 0 0 8)) n, gsB d.2 n)
def flU : Nat → RD → RD
  | 0, d => d
  | n + 1, d => flU n (gvU d n)
def RI (d : RD) (n : Nat) : Prop := ∀ k, k < n → ∃ j : Nat, j < 64 ∧ d.2 k = nI j
theorem RI_gv {d : RD} {n : Nat} (h : RI d (n + 1)) : RI (gvU d n) n := fun k hk => by
  show ∃ j : Nat, j < 64 ∧ gsB d.2 n k = nI j
  rw [gsB_lo hk]
  exact h (k + 1) (by omega)
def stU (one : Nat → Int64) (cg : Int32) (d : RD) (nc j : Nat) : RD := if cg = 0 then (va_up d.1 j (va_cpy one (d.1 j) 0 0 8), d.2) else match fnd d.2 (nI j) nc with
  | some k => (va_up d.1 (64 + k) (va_cpy one (d.1 (64 + k)) 0 0 8), d.2)
  | none => if 6 < nc + 1 then gvU (va_up d.1 (64 + nc) (va_cpy one (d.1 (64 + nc)) 0 0 8), upd d.2 nc (nI j)) nc else (va_up d.1 (64 + nc) (va_cpy one (d.1 (64 + nc)) 0 0 8), upd d.2 nc (nI j))
def stV (cg : Int32) (cb : Nat → Int32) (nc j : Nat) : Nat := if cg = 0 then nc else match fnd cb (nI j) nc with
  | some _ => nc
  | none => if 6 < nc + 1 then nc else nc + 1
def rbT (T : Nat → Nat → Int32) (p0 p1 p2 p3 : Int32) : Nat → Nat → Int32 := up2 (up2 (mkQ (mkQ (upr T 0 (flI (T 0) 0 8)) 0 p0.toInt64.toInt32 p1.toInt64.toInt32) 4 p2.toInt64.toInt32 p3.toInt64.toInt32) 5 0 0) 7 0 1
theorem m1_lt : (-1 : Int32) < 0 := by decide
theorem RI_st {R R' : Nat → Nat → Int64} {cb : Nat → Int32} {n j : Nat} (h : RI (R, cb) n) (hj : j < 64) : RI (R', upd cb n (nI j)) (n + 1) := fun k hk => by
  show ∃ q : Nat, q < 64 ∧ upd cb n (nI j) k = nI q
  by_cases e : k = n
  · exact ⟨j, hj, by rw [e, pk_us]⟩
  · rw [pk_un e]
    exact h k (by omega)
