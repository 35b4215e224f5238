/-! THE MACHINE'S NUMBERS IN WORDS: what each small method answers, in the form that its bytecode asks -/
abbrev hol (x : Int64) : Prop := ¬ x < 0 ∧ ¬ 1024 ≤ x
abbrev hpg (x : Int64) : Prop := ¬ x < 0 ∧ ¬ 1024 ≤ x ∧ x - x / 16 * 16 = 0
def mAt (mem : Nat → Int64) (a : Int32) : Int64 := if hol a.toInt64 then mem a.toNatClampNeg else 0
def mPut (mem : Nat → Int64) (a : Int32) (v : Int64) : Nat → Int64 := if hol a.toInt64 then vp_updL mem a.toNatClampNeg v else mem
theorem hol_in {a : Int32} (h : hol a.toInt64) : vp_in a 1024 := by
  rw [vp_in_iff]
  have h1 := h.1
  have h2 := h.2
  rw [Int64.lt_iff_toInt_lt, Int32.toInt_toInt64] at h1
  rw [Int64.le_iff_toInt_le, Int32.toInt_toInt64] at h2
  have e0 : (0 : Int64).toInt = 0 := by decide
  have e1 : (1024 : Int64).toInt = 1024 := by decide
  rw [e0] at h1
  rw [e1] at h2
  omega
/-- a queue of base b and size s, its entries e longs wide, lies in memory as it must -/
abbrev fitR (b s : Int64) (e : Int32) : Prop := hol b ∧ b - b / 4 * 4 = 0 ∧ ¬ s < 2 ∧ ¬ 16 < s ∧ ¬ 1024 < b + s * e.toInt64
/-- the place behind p in a ring of size s; how far p is from the head h, round -/
def bhd (s p : Int32) : Int32 := if p + 1 < s then p + 1 else 0
def fht (h s p : Int32) : Int32 := if p < h then p - h + s else p - h
abbrev hpl (s p : Int32) : Prop := ¬ p < 0 ∧ ¬ s ≤ p
abbrev rch (h s t p : Int32) : Prop := hpl s p ∧ ¬ fht h s t < fht h s p
/-- a command's first long: op, id, flag, n -/
def cOp (f : Int64) : Int32 := (f &&& 255).toInt32
def cId (f : Int64) : Int32 := ((f.toUInt64 >>> ((8 : Int32).toInt64.toUInt64 &&& Int64.toUInt64 63)).toInt64 &&& 65535).toInt32
abbrev cFg (f : Int64) : Prop := (f.toUInt64 >>> ((24 : Int32).toInt64.toUInt64 &&& Int64.toUInt64 63)).toInt64 &&& 1 = 1
def cN (f : Int64) : Int32 := ((f.toUInt64 >>> ((32 : Int32).toInt64.toUInt64 &&& Int64.toUInt64 63)).toInt64 &&& 255).toInt32 + 1
theorem and255 (x : Int64) : ∃ m : Nat, m < 256 ∧ x &&& 255 = lN m := ⟨x.toBitVec.toNat % 2 ^ 8, Nat.mod_lt _ (by decide), Int64.toBitVec_inj.mp (BitVec.eq_of_toNat_eq (by
  show (x.toBitVec &&& 255#64).toNat = (BitVec.ofNat 64 (x.toBitVec.toNat % 2 ^ 8)).toNat
  rw [BitVec.toNat_and, show (255#64).toNat = 2 ^ 8 - 1 from by decide, Nat.and_two_pow_sub_one_eq_mod, BitVec.toNat_ofNat]
  omega))⟩
def cNn (f : Int64) : Nat := ((f.toUInt64 >>> ((32 : Int32).toInt64.toUInt64 &&& Int64.toUInt64 63)).toInt64 &&& 255).toInt32.toNatClampNeg + 1
theorem cN_n (f : Int64) : ((f.toUInt64 >>> ((32 : Int32).toInt64.toUInt64 &&& Int64.toUInt64 63)).toInt64 &&& 255).toInt32 + 1 = nI (cNn f) := by
  unfold cNn
  obtain ⟨m, hm, e⟩ := and255 (f.toUInt64 >>> ((32 : Int32).toInt64.toUInt64 &&& Int64.toUInt64 63)).toInt64
  rw [e, lN_i, nI_clamp (by omega), nI_1]
theorem cNn_b (f : Int64) : 1 ≤ cNn f ∧ cNn f ≤ 256 := by
  unfold cNn
  obtain ⟨m, hm, e⟩ := and255 (f.toUInt64 >>> ((32 : Int32).toInt64.toUInt64 &&& Int64.toUInt64 63)).toInt64
  rw [e, lN_i, nI_clamp (by omega)]
  omega
/-! the disk -/
abbrev isb (x : Int64) : Prop := ¬ x < 0 ∧ ¬ 64 ≤ x
abbrev isl (b k : Int32) : Prop := isb b.toInt64 ∧ ¬ k < 0 ∧ ¬ 8 ≤ k
/-- the first place below n that holds block b -/
def fnd (cb : Nat → Int32) (b : Int32) : Nat → Option Nat
  | 0 => none
  | n + 1 => match fnd cb b n with
    | some k => some k
    | none => if cb n = b then some n else none
def plc (cb : Nat → Int32) (b : Int32) (n : Nat) : Int32 := match fnd cb b n with
  | some k => nI k
  | none => -1
theorem fnd_lt {cb : Nat → Int32} {b : Int32} : ∀ {n k : Nat}, fnd cb b n = some k → k < n
  | 0, k, h => by cases h
  | n + 1, k, h => by
    unfold fnd at h
    cases hn : fnd cb b n with
    | some j =>
      rw [hn] at h
      cases h
      exact Nat.lt_succ_of_lt (fnd_lt hn)
    | none =>
      rw [hn] at h
      simp only at h
      split at h
      · cases h; exact Nat.lt_succ_self _
      · cases h
theorem fnd_up {cb : Nat → Int32} {b : Int32} {m k : Nat} (h : fnd cb b m = some k) : ∀ {n : Nat}, m ≤ n → fnd cb b n = some k
  | 0, hn => by
    have : m = 0 := by omega
    subst this; exact h
  | n + 1, hn => by
    by_cases e : m = n + 1
    · subst e; exact h
    · unfold fnd; rw [fnd_up h (n := n) (by omega)]
theorem fnd_hit {cb : Nat → Int32} {b : Int32} {i n : Nat} (h : fnd cb b i = none) (hb : cb i = b) (hi : i < n) : fnd cb b n = some i :=
  fnd_up (m := i + 1) (by unfold fnd; rw [h]; simp [hb]) hi
theorem fnd_no {cb : Nat → Int32} {b : Int32} {i : Nat} (h : fnd cb b i = none) (hb : ¬ cb i = b) : fnd cb b (i + 1) = none := by unfold fnd; rw [h]; simp [hb]
theorem plc_s {cb : Nat → Int32} {b : Int32} {n k : Nat} (h : fnd cb b n = some k) : plc cb b n = nI k := by rw [plc, h]
theorem plc_n {cb : Nat → Int32} {b : Int32} {n : Nat} (h : fnd cb b n = none) : plc cb b n = -1 := by rw [plc, h]
theorem nI_m1 {k : Nat} (h : k < 2 ^ 31) : ¬ nI k = -1 := fun e => by
  have := nI_toInt h
  rw [e] at this
  have e1 : (-1 : Int32).toInt = -1 := by decide
  rw [e1] at this
  omega
def onM (med : Nat → Int64) (b k : Int32) : Int64 := if isl b k then med (b * 8 + k).toNatClampNeg else 0
def asR (med : Nat → Int64) (cb : Nat → Int32) (ca : Nat → Int64) (nc : Nat) (b k : Int32) : Int64 := match fnd cb b nc with
  | some q => if isl b k then ca (nI q * 8 + k).toNatClampNeg else onM med b k
  | none => onM med b k
theorem isb_of {b : Int32} (h : isb b.toInt64) : ∃ j : Nat, j < 64 ∧ b = nI j := by
  have h1 := h.1
  have h2 := h.2
  rw [Int64.lt_iff_toInt_lt, Int32.toInt_toInt64] at h1
  rw [Int64.le_iff_toInt_le, Int32.toInt_toInt64] at h2
  have e0 : (0 : Int64).toInt = 0 := by decide
  have e1 : (64 : Int64).toInt = 64 := by decide
  rw [e0] at h1
  rw [e1] at h2
  exact vp_in_of (n := 64) (vp_in_iff.mpr ⟨by omega, by omega⟩) (by omega)
theorem k8_of {k : Int32} (h1 : ¬ k < 0) (h2 : ¬ 8 ≤ k) : ∃ j : Nat, j < 8 ∧ k = nI j := by
  rw [Int32.lt_iff_toInt_lt] at h1
  rw [Int32.le_iff_toInt_le] at h2
  have e0 : (0 : Int32).toInt = 0 := by decide
  have e1 : (8 : Int32).toInt = 8 := by decide
  rw [e0] at h1
  rw [e1] at h2
  exact vp_in_of (n := 8) (vp_in_iff.mpr ⟨by omega, by omega⟩) (by omega)
theorem isl_in {b k : Int32} (h : isl b k) : vp_in (b * 8 + k) 512 := by
  obtain ⟨j, hj, rfl⟩ := isb_of h.1
  obtain ⟨i, hi, rfl⟩ := k8_of h.2.1 h.2.2
  rw [show (8 : Int32) = nI 8 from rfl, pk_mul, nI_add]
  exact vp_in_nI (by omega) (by omega)
theorem pl_in {q : Nat} {k : Int32} (hq : q < 6) (h1 : ¬ k < 0) (h2 : ¬ 8 ≤ k) : vp_in (nI q * 8 + k) 48 := by
  obtain ⟨i, hi, rfl⟩ := k8_of h1 h2
  rw [show (8 : Int32) = nI 8 from rfl, pk_mul, nI_add]
  exact vp_in_nI (by omega) (by omega)
/-- a row as it is read: out of the cache, or of the medium -/
def ldR (med : Nat → Int64) (cb : Nat → Int32) (ca : Nat → Int64) (nc : Nat) (rw : Nat → Int64) (j : Nat) : Nat → Int64 := match fnd cb (nI j) nc with
  | some k => va_cpy ca rw (k * 8) 0 8
  | none => va_cpy med rw (j * 8) 0 8
/-- the medium with the first n places of the cache written there -/
def flM (cb : Nat → Int32) (ca med : Nat → Int64) : Nat → Nat → Int64
  | 0 => med
  | i + 1 => va_cpy ca (flM cb ca med i) (i * 8) ((cb i).toNatClampNeg * 8) 8
/-- the first of six makes room -/
def evM (med : Nat → Int64) (cb : Nat → Int32) (ca : Nat → Int64) (nc : Nat) : Nat → Int64 := if nc = 6 then va_cpy ca med 0 ((cb 0).toNatClampNeg * 8) 8 else med
def evB (cb : Nat → Int32) (nc : Nat) : Nat → Int32 := if nc = 6 then va_cpy cb cb 1 0 5 else cb
def evA (ca : Nat → Int64) (nc : Nat) : Nat → Int64 := if nc = 6 then va_cpy ca ca 8 0 40 else ca
def evN (nc : Nat) : Nat := if nc = 6 then 5 else nc
/-- a row stored as block j -/
def stM (rw med : Nat → Int64) (cb : Nat → Int32) (ca : Nat → Int64) (nc : Nat) (cg : Int32) (j : Nat) : Nat → Int64 := if cg = 0 then va_cpy rw med 0 (j * 8) 8 else match fnd cb (nI j) nc with
  | some _ => med
  | none => evM med cb ca nc
def stB (cb : Nat → Int32) (nc : Nat) (cg : Int32) (j : Nat) : Nat → Int32 := if cg = 0 then cb else match fnd cb (nI j) nc with
  | some _ => cb
  | none => upd (evB cb nc) (evN nc) (nI j)
def stA (rw : Nat → Int64) (cb : Nat → Int32) (ca : Nat → Int64) (nc : Nat) (cg : Int32) (j : Nat) : Nat → Int64 := if cg = 0 then ca else match fnd cb (nI j) nc with
  | some k => va_cpy rw ca 0 (k * 8) 8
  | none => va_cpy rw (evA ca nc) 0 (evN nc * 8) 8
def stN (cb : Nat → Int32) (nc : Nat) (cg : Int32) (j : Nat) : Nat := if cg = 0 then nc else match fnd cb (nI j) nc with
  | some _ => nc
  | none => evN nc + 1
theorem isb_j {j : Nat} (h : j < 64) : isb (nI j).toInt64 := by
  have e0 : (0 : Int64).toInt = 0 := by decide
  have e1 : (64 : Int64).toInt = 64 := by decide
  refine ⟨fun q => ?_, fun q => ?_⟩
  · rw [Int64.lt_iff_toInt_lt, Int32.toInt_toInt64, nI_toInt (by omega), e0] at q; omega
  · rw [Int64.le_iff_toInt_le, Int32.toInt_toInt64, nI_toInt (by omega), e1] at q; omega
theorem bI_nz {P : Prop} [Decidable P] (h : P) : ¬ bI P = 0 := by rw [← bI_1 h]; decide
theorem evN_le {nc : Nat} (h : nc ≤ 6) : evN nc ≤ 5 := by unfold evN; split <;> omega
