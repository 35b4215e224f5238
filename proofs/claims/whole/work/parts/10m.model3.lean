/-! the drive's small questions -/
abbrev bes (x : Int64) : Prop := ¬ x < 1 ∧ ¬ 4 ≤ x
def telS (hd tl sz an p : Int32) : Int32 := if p = 0 then hd else if p = 1 then tl else if p = 2 then fht hd sz tl else if p = 3 then sz else an
def telC (hd tl ph sz p : Int32) : Int32 := if p = 5 then hd else if p = 6 then tl else if p = 7 then ph else sz
abbrev hasS (T : Nat → Nat → Int32) (x : Int64) : Prop := ¬ x < 0 ∧ ¬ 4 ≤ x ∧ ¬ T 0 (pN x) = 0
abbrev hasC (T : Nat → Nat → Int32) (x : Int64) : Prop := ¬ x < 0 ∧ ¬ 4 ≤ x ∧ ¬ T 0 (4 + pN x) = 0
theorem q4_n {x : Int64} (h1 : ¬ x < 0) (h2 : ¬ 4 ≤ x) : pN x < 4 ∧ x.toInt32 = nI (pN x) ∧ x = lN (pN x) := by
  obtain ⟨k, hk, rfl⟩ := pk_lOf h1
  rw [show (4 : Int64) = lN 4 from rfl, pk_lLE (by omega) (by omega)] at h2
  have e : (lN k).toInt32 = nI k := lN_i k
  refine ⟨?_, ?_, ?_⟩
  · rw [pN, e, nI_clamp (by omega)]; omega
  · rw [pN, e, nI_clamp (by omega)]
  · rw [pN, e, nI_clamp (by omega)]
def mkS (T : Nat → Nat → Int32) (j : Nat) (b s c : Int32) : Nat → Nat → Int32 := up2 (up2 (up2 (up2 (up2 (up2 T 0 j 1) 1 j b) 2 j s) 3 j 0) 4 j 0) 5 j c
def mkC (T : Nat → Nat → Int32) (j : Nat) (b s i : Int32) : Nat → Nat → Int32 := up2 (up2 (up2 (up2 (up2 (up2 (up2 T 0 (4 + j) 1) 1 (4 + j) b) 2 (4 + j) s) 3 (4 + j) 0) 4 (4 + j) 0) 6 j 1) 7 j i
abbrev bgF (p0 p1 p2 p3 : Int32) : Prop := fitR p0.toInt64 p1.toInt64 4 ∧ fitR p2.toInt64 p3.toInt64 1
def drpN (T : Nat → Nat → Int32) : Nat → Nat → Nat → Int32
  | 0 => T
  | i + 1 => up2 (up2 (drpN T i) 0 i 0) 0 (4 + i) 0
theorem i64_n {p : Int32} (h1 : ¬ p.toInt64 < 0) (h2 : ¬ 4 ≤ p.toInt64) : p.toNatClampNeg < 4 ∧ p = nI p.toNatClampNeg ∧ pN p.toInt64 = p.toNatClampNeg := by
  have e : p.toInt64.toInt32 = p := by simp
  have h := q4_n h1 h2
  rw [pN, e] at h
  exact ⟨h.1, h.2.1, by rw [pN, e]⟩
abbrev rngO (T : Nat → Nat → Int32) (p0 p1 : Int32) : Prop := hasS T p0.toInt64 ∧ hpl (T 2 p0.toNatClampNeg) p1
abbrev senO (T : Nat → Nat → Int32) (p0 p1 : Int32) : Prop := hasC T p0.toInt64 ∧ rch (T 3 (4 + p0.toNatClampNeg)) (T 2 (4 + p0.toNatClampNeg)) (T 4 (4 + p0.toNatClampNeg)) p1
def ringR (T : Nat → Nat → Int32) (on p0 p1 : Int32) : Int32 := if on = 0 then -3 else if rngO T p0 p1 then fht (up2 T 4 p0.toNatClampNeg p1 3 p0.toNatClampNeg) (up2 T 4 p0.toNatClampNeg p1 2 p0.toNatClampNeg) (up2 T 4 p0.toNatClampNeg p1 4 p0.toNatClampNeg) else -1
def ringT (T : Nat → Nat → Int32) (on p0 p1 : Int32) : Nat → Nat → Int32 := if on = 0 then T else if rngO T p0 p1 then up2 T 4 p0.toNatClampNeg p1 else T
def seenR (T : Nat → Nat → Int32) (on p0 p1 : Int32) : Int32 := if on = 0 then -3 else if senO T p0 p1 then fht (up2 T 3 (4 + p0.toNatClampNeg) p1 3 (4 + p0.toNatClampNeg)) (up2 T 3 (4 + p0.toNatClampNeg) p1 2 (4 + p0.toNatClampNeg)) (up2 T 3 (4 + p0.toNatClampNeg) p1 4 (4 + p0.toNatClampNeg)) else -1
def seenT (T : Nat → Nat → Int32) (on p0 p1 : Int32) : Nat → Nat → Int32 := if on = 0 then T else if senO T p0 p1 then up2 T 3 (4 + p0.toNatClampNeg) p1 else T
def queueR (T : Nat → Nat → Int32) (p0 p1 : Int32) : Int32 := if p1 < 0 ∨ 8 < p1 then -1 else if p1 < 5 then (if hasS T p0.toInt64 then telS (T 3 p0.toNatClampNeg) (T 4 p0.toNatClampNeg) (T 2 p0.toNatClampNeg) (T 5 p0.toNatClampNeg) p1 else -2) else if hasC T p0.toInt64 then telC (T 3 (4 + p0.toNatClampNeg)) (T 4 (4 + p0.toNatClampNeg)) (T 6 p0.toNatClampNeg) (T 2 (4 + p0.toNatClampNeg)) p1 else -2
def countR (nc : Nat) (cg : Int32) (dw dq br bs : Nat) (p : Int32) : Int32 := if p = 0 then nI nc else if p = 1 then (if cg = 0 then 0 else 1) else if p = 2 then nI dw else if p = 3 then nI dq else if p = 4 then nI br else if p = 5 then nI bs else -1
/-- a submission queue has a command, and its answers a place -/
abbrev rdy (T : Nat → Nat → Int32) (j : Nat) : Prop := ¬ T 0 j = 0 ∧ ¬ fht (T 3 j) (T 2 j) (T 4 j) ≤ 0 ∧ hasC T (T 5 j).toInt64 ∧ ¬ bhd (T 2 (4 + (T 5 j).toNatClampNeg)) (T 4 (4 + (T 5 j).toNatClampNeg)) = T 3 (4 + (T 5 j).toNatClampNeg)
def nxr (T : Nat → Nat → Int32) (tu : Nat) : Nat → Option Nat
  | 0 => none
  | i + 1 => match nxr T tu i with
    | some q => some q
    | none => if rdy T ((tu + i) % 4) then some ((tu + i) % 4) else none
def nxtR (T : Nat → Nat → Int32) (tu : Nat) : Int32 := match nxr T tu 4 with
  | some q => nI q
  | none => -2
theorem nxr_up {T : Nat → Nat → Int32} {tu m k : Nat} (h : nxr T tu m = some k) : ∀ {n : Nat}, m ≤ n → nxr T tu n = some k
  | 0, hn => by
    have : m = 0 := by omega
    subst this; exact h
  | n + 1, hn => by
    by_cases e : m = n + 1
    · subst e; exact h
    · unfold nxr; rw [nxr_up h (n := n) (by omega)]
theorem nxr_hit {T : Nat → Nat → Int32} {tu i : Nat} (h : nxr T tu i = none) (hb : rdy T ((tu + i) % 4)) (hi : i < 4) : nxtR T tu = nI ((tu + i) % 4) := by
  rw [nxtR, nxr_up (m := i + 1) (k := (tu + i) % 4) (by unfold nxr; rw [h]; simp only [if_pos hb]) hi]
theorem nxr_no {T : Nat → Nat → Int32} {tu i : Nat} (h : nxr T tu i = none) (hb : ¬ rdy T ((tu + i) % 4)) : nxr T tu (i + 1) = none := by unfold nxr; rw [h]; simp only [if_neg hb]
theorem rem4 {a : Nat} (h : a < 2 ^ 31) : nI a - nI a / 4 * 4 = nI (a % 4) := pk_rem (d := 4) h (by decide) (by decide)
def ansB (T : Nat → Nat → Int32) (x : Int64) : Nat → Bool
  | 0 => false
  | i + 1 => ansB T x i || decide (¬ T 0 i = 0 ∧ (T 5 i).toInt64 = x)
theorem ansB_hit {T : Nat → Nat → Int32} {x : Int64} {i : Nat} (h : ¬ T 0 i = 0 ∧ (T 5 i).toInt64 = x) : ∀ {n : Nat}, i < n → ansB T x n = true
  | 0, hn => absurd hn (Nat.not_lt_zero _)
  | n + 1, hn => by
    unfold ansB
    by_cases e : i = n
    · subst e; simp [h]
    · rw [ansB_hit h (n := n) (by omega)]; rfl
theorem ansB_no {T : Nat → Nat → Int32} {x : Int64} {i : Nat} (h : ansB T x i = false) (hb : ¬ (¬ T 0 i = 0 ∧ (T 5 i).toInt64 = x)) : ansB T x (i + 1) = false := by
  unfold ansB; rw [h]; simp only [Bool.false_or]; exact decide_eq_false hb
