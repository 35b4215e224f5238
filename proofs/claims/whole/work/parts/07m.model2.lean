/-! pages: where the longs of a command's data are -/
/-- an address as a number -/
def pN (x : Int64) : Nat := x.toInt32.toNatClampNeg
theorem hol_n {x : Int64} (h : hol x) : pN x < 1024 ∧ x.toInt32 = nI (pN x) ∧ x = lN (pN x) := by
  obtain ⟨k, hk, rfl⟩ := pk_lOf h.1
  have h2 := h.2
  rw [show (1024 : Int64) = lN 1024 from rfl, pk_lLE (by omega) (by omega)] at h2
  have e : (lN k).toInt32 = nI k := lN_i k
  refine ⟨?_, ?_, ?_⟩
  · rw [pN, e, nI_clamp (by omega)]; omega
  · rw [pN, e, nI_clamp (by omega)]
  · rw [pN, e, nI_clamp (by omega)]
/-- how many longs are in the first page, and behind it -/
def fsN (n P : Nat) : Nat := min (n * 8) (16 - P % 16)
def rsN (n P : Nat) : Nat := n * 8 - fsN n P
/-- the places of a list, as far as they are pages -/
def lsC (mem : Nat → Int64) (b : Int32) : Nat → Nat
  | 0 => 0
  | n + 1 => if lsC mem b n = n ∧ hpg (mAt mem (b + nI n)) then n + 1 else lsC mem b n
def lsP (pg : Nat → Int32) (mem : Nat → Int64) (b : Int32) : Nat → Nat → Int32
  | 0 => pg
  | i + 1 => upd (lsP pg mem b i) i (mAt mem (b + nI i)).toInt32
theorem lsC_le (mem : Nat → Int64) (b : Int32) : ∀ n, lsC mem b n ≤ n
  | 0 => Nat.le_refl _
  | n + 1 => by
    unfold lsC
    split
    · exact Nat.le_refl _
    · exact Nat.le_succ_of_le (lsC_le mem b n)
theorem lsC_go {mem : Nat → Int64} {b : Int32} {i : Nat} (h : lsC mem b i = i) (hp : hpg (mAt mem (b + nI i))) : lsC mem b (i + 1) = i + 1 := by
  rw [lsC, if_pos ⟨h, hp⟩]
theorem lsC_stop {mem : Nat → Int64} {b : Int32} {i : Nat} (h : lsC mem b i = i) (hp : ¬ hpg (mAt mem (b + nI i))) : ∀ {n : Nat}, i < n → lsC mem b n = i
  | 0, hn => absurd hn (Nat.not_lt_zero _)
  | n + 1, hn => by
    by_cases e : i = n
    · subst e
      rw [lsC, if_neg (fun q => hp q.2)]
      exact h
    · have h2 : lsC mem b n = i := lsC_stop h hp (by omega)
      rw [lsC, if_neg (fun q => by have := q.1; omega)]
      exact h2
abbrev lstOk (mem : Nat → Int64) (x : Int64) (nd : Nat) : Prop := hol x ∧ ¬ 16 < pN x % 16 + nd ∧ lsC mem x.toInt32 nd = nd
def lstP (pg : Nat → Int32) (mem : Nat → Int64) (x : Int64) (nd : Nat) : Nat → Int32 := if hol x ∧ ¬ 16 < pN x % 16 + nd then lsP pg mem x.toInt32 (lsC mem x.toInt32 nd) else pg
/-- how many pages hold r longs -/
def ndN (r : Nat) : Nat := (r + 15) / 16
abbrev lyOk (mem : Nat → Int64) (cp cq : Int64) (n : Nat) : Prop := hol cp ∧ (rsN n (pN cp) = 0 ∨ (¬ rsN n (pN cp) = 0 ∧ ¬ 16 < rsN n (pN cp) ∧ hpg cq) ∨ (16 < rsN n (pN cp) ∧ lstOk mem cq (ndN (rsN n (pN cp)))))
def lyP (pg : Nat → Int32) (mem : Nat → Int64) (cp cq : Int64) (n : Nat) : Nat → Int32 := if ¬ hol cp ∨ rsN n (pN cp) = 0 then pg else if 16 < rsN n (pN cp) then lstP pg mem cq (ndN (rsN n (pN cp))) else if hpg cq then upd pg 0 cq.toInt32 else pg
/-- where long k of the data is -/
def adr (fi : Int32) (F : Nat) (pg : Nat → Int32) (k : Nat) : Int32 := if k < F then fi + nI k else pg (min ((k - F) / 16) 15) + nI ((k - F) % 16)
def flL (rw : Nat → Int64) (v : Int64) : Nat → Nat → Int64
  | 0 => rw
  | i + 1 => vp_updL (flL rw v i) i v
def flI (rw : Nat → Int32) (v : Int32) : Nat → Nat → Int32
  | 0 => rw
  | i + 1 => upd (flI rw v i) i v
theorem and15 {k : Nat} (h : k < 2 ^ 31) : nI k &&& 15 = nI (k % 16) := pk_andN (by omega) 4 (by decide)
theorem mn_l {a b : Nat} (ha : a < 2 ^ 31) (hb : b < 2 ^ 31) : (if nI b < nI a then nI b else nI a) = nI (min a b) := by
  by_cases h : b < a
  · rw [if_pos (nI_lt h ha), Nat.min_eq_right (by omega)]
  · rw [if_neg (nI_nlt (by omega) hb), Nat.min_eq_left (by omega)]
theorem bI_iff {P Q : Prop} [Decidable P] [Decidable Q] (h : P ↔ Q) : bI P = bI Q := by
  by_cases p : P
  · rw [← bI_1 p, ← bI_1 (h.mp p)]
  · rw [← bI_0 p, ← bI_0 (fun q => p (h.mpr q))]
