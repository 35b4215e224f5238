/-! the queues' invariant, and the reference's questions in the class's words -/
def TI (T : Nat → Nat → Int32) : Prop := (∀ q, q < 4 → ¬ T 0 q = 0 → QI T q 4 ∧ ∃ k : Nat, k < 4 ∧ T 5 q = nI k ∧ ¬ T 0 (4 + k) = 0) ∧ (∀ k, k < 4 → ¬ T 0 (4 + k) = 0 → QI T (4 + k) 1 ∧ (T 6 k = 0 ∨ T 6 k = 1)) ∧ (∀ q, q < 8 → T 0 q = 0 ∨ T 0 q = 1) ∧ ∀ k, k < 4 → T 7 k = 0 ∨ T 7 k = 1
theorem l3 {x : Int64} (h : 4 ≤ x) : 3 < x := by
  rw [Int64.le_iff_toInt_le] at h
  rw [Int64.lt_iff_toInt_lt]
  have e0 : (4 : Int64).toInt = 4 := by decide
  have e1 : (3 : Int64).toInt = 3 := by decide
  rw [e0] at h
  rw [e1]
  omega
theorem l4 {x : Int64} (h : 3 < x) : 4 ≤ x := by
  rw [Int64.le_iff_toInt_le]
  rw [Int64.lt_iff_toInt_lt] at h
  have e0 : (4 : Int64).toInt = 4 := by decide
  have e1 : (3 : Int64).toInt = 3 := by decide
  rw [e1] at h
  rw [e0]
  omega
theorem QI_sz {T : Nat → Nat → Int32} {q w : Nat} (h : QI T q w) : ∃ s : Nat, T 2 q = nI s ∧ 2 ≤ s ∧ s ≤ 16 := by
  obtain ⟨s, _, _, _, e, h2, h16, -⟩ := h
  exact ⟨s, e, h2, h16⟩
theorem hpl_in {z p : Int32} {s : Nat} (hz : z = nI s) (h2 : 2 ≤ s) (h16 : s ≤ 16) : (¬ p.toInt64 < 0 ∧ ¬ (z - 1).toInt64 < p.toInt64) ↔ hpl z p := by
  have e0 : (0 : Int64).toInt = 0 := by decide
  have e1 : (0 : Int32).toInt = 0 := by decide
  have e2 : (z - 1).toInt = (s : Int) - 1 := by
    rw [hz, show (1 : Int32) = nI 1 from rfl, pk_sub_toInt (by omega) (by omega)]; rfl
  have e3 : z.toInt = s := by rw [hz, nI_toInt (by omega)]
  rw [hpl, Int64.lt_iff_toInt_lt, Int64.lt_iff_toInt_lt, Int32.toInt_toInt64, Int32.toInt_toInt64, Int32.lt_iff_toInt_lt, Int32.le_iff_toInt_le, e0, e1, e2, e3]
  omega
theorem hpl_n {z p : Int32} {s : Nat} (hz : z = nI s) (h16 : s ≤ 16) (h : hpl z p) : ∃ t : Nat, t < s ∧ p = nI t := by
  have h1 := h.1
  have h2 := h.2
  have e1 : (0 : Int32).toInt = 0 := by decide
  rw [hz, Int32.le_iff_toInt_le, nI_toInt (by omega)] at h2
  rw [Int32.lt_iff_toInt_lt, e1] at h1
  exact vp_in_of (n := s) (vp_in_iff.mpr ⟨by omega, by omega⟩) (by omega)
theorem QI_rem {T : Nat → Nat → Int32} {q w : Nat} (h : QI T q w) {p : Int32} (hp : hpl (T 2 q) p) : (p - T 3 q + T 2 q) - (p - T 3 q + T 2 q) / T 2 q * T 2 q = fht (T 3 q) (T 2 q) p := by
  obtain ⟨s, h, t, b, e2, h2, h16, e3, hh, -⟩ := h
  obtain ⟨u, hu, rfl⟩ := hpl_n e2 h16 hp
  rw [e2, e3, fht_n hh hu h16]
  have e : nI u - nI h + nI s = nI (u + s - h) := by rw [sb_ad, nI_add, pk_sub (by omega)]
  rw [e]
  exact pk_rem (by omega) (by omega) (by omega)
theorem QI_bhd {T : Nat → Nat → Int32} {q w : Nat} (h : QI T q w) : (T 4 q + 1) - (T 4 q + 1) / T 2 q * T 2 q = bhd (T 2 q) (T 4 q) := by
  obtain ⟨s, h, t, b, e2, h2, h16, e3, hh, e4, ht, -⟩ := h
  rw [e2, e4, nI_1, pk_rem (by omega) (by omega) (by omega)]
  unfold bhd
  rw [nI_1]
  by_cases c : t + 1 < s
  · rw [if_pos (nI_lt c (by omega)), Nat.mod_eq_of_lt c]
  · rw [if_neg (nI_nlt (by omega) (by omega)), show t + 1 = s by omega, Nat.mod_self, nI_0]
theorem QI_bhd3 {T : Nat → Nat → Int32} {q w : Nat} (h : QI T q w) : (T 3 q + 1) - (T 3 q + 1) / T 2 q * T 2 q = bhd (T 2 q) (T 3 q) := by
  obtain ⟨s, h, t, b, e2, h2, h16, e3, hh, e4, ht, -⟩ := h
  rw [e2, e3, nI_1, pk_rem (by omega) (by omega) (by omega)]
  unfold bhd
  rw [nI_1]
  by_cases c : h + 1 < s
  · rw [if_pos (nI_lt c (by omega)), Nat.mod_eq_of_lt c]
  · rw [if_neg (nI_nlt (by omega) (by omega)), show h + 1 = s by omega, Nat.mod_self, nI_0]
theorem QI_t4 {T : Nat → Nat → Int32} {q w : Nat} (h : QI T q w) {p : Int32} (hp : hpl (T 2 q) p) : QI (up2 T 4 q p) q w := by
  obtain ⟨s, h, t, b, e2, h2, h16, e3, hh, e4, ht, e1, hb⟩ := h
  obtain ⟨u, hu, rfl⟩ := hpl_n e2 h16 hp
  exact ⟨s, h, u, b, by rw [up2_ne (Or.inl (by decide))]; exact e2, h2, h16, by rw [up2_ne (Or.inl (by decide))]; exact e3, hh, up2_eq, hu, by rw [up2_ne (Or.inl (by decide))]; exact e1, hb⟩
theorem QI_t3 {T : Nat → Nat → Int32} {q w : Nat} (h : QI T q w) {p : Int32} (hp : hpl (T 2 q) p) : QI (up2 T 3 q p) q w := by
  obtain ⟨s, h, t, b, e2, h2, h16, e3, hh, e4, ht, e1, hb⟩ := h
  obtain ⟨u, hu, rfl⟩ := hpl_n e2 h16 hp
  exact ⟨s, u, t, b, by rw [up2_ne (Or.inl (by decide))]; exact e2, h2, h16, up2_eq, hu, by rw [up2_ne (Or.inl (by decide))]; exact e4, ht, by rw [up2_ne (Or.inl (by decide))]; exact e1, hb⟩
theorem e4c {p : Int32} (h : p.toNatClampNeg < 4) (e : p = nI p.toNatClampNeg) : 4 + p = nI (4 + p.toNatClampNeg) := by
  conv => lhs; rw [e]
  exact nI_add 4 _
def blkV (R : Nat → Nat → Int64) (cb : Nat → Int32) (nc : Nat) (b k m : Int32) : Int64 := if isl b k then (if m = 0 then R (bof cb nc b.toNatClampNeg) k.toNatClampNeg else R b.toNatClampNeg k.toNatClampNeg) else 0
theorem isl_r {b k : Int32} : isl b k ↔ (¬ b.toInt64 < 0 ∧ ¬ 63 < b.toInt64) ∧ ¬ k.toInt64 < 0 ∧ ¬ 7 < k.toInt64 := by
  have e0 : (0 : Int64).toInt = 0 := by decide
  have e1 : (64 : Int64).toInt = 64 := by decide
  have e2 : (63 : Int64).toInt = 63 := by decide
  have e3 : (7 : Int64).toInt = 7 := by decide
  have e4 : (0 : Int32).toInt = 0 := by decide
  have e5 : (8 : Int32).toInt = 8 := by decide
  rw [isl, isb, Int64.lt_iff_toInt_lt, Int64.le_iff_toInt_le, Int64.lt_iff_toInt_lt, Int64.lt_iff_toInt_lt, Int64.lt_iff_toInt_lt, Int32.lt_iff_toInt_lt, Int32.le_iff_toInt_le, Int32.toInt_toInt64, Int32.toInt_toInt64, e0, e1, e2, e3, e4, e5]
  omega
theorem isl_n {b k : Int32} (h : isl b k) : (b.toNatClampNeg < 64 ∧ b = nI b.toNatClampNeg) ∧ k.toNatClampNeg < 8 ∧ k = nI k.toNatClampNeg := by
  obtain ⟨j, hj, e⟩ := isb_of h.1
  obtain ⟨i, hi, e2⟩ := k8_of h.2.1 h.2.2
  rw [e, e2, nI_clamp (by omega), nI_clamp (by omega)]
  exact ⟨⟨hj, rfl⟩, hi, rfl⟩
theorem w08 {p : Int32} : (¬ p.toInt64 < 0 ∧ ¬ 8 < p.toInt64) ↔ ¬ (p < 0 ∨ 8 < p) := by
  have e0 : (0 : Int64).toInt = 0 := by decide
  have e1 : (8 : Int64).toInt = 8 := by decide
  have e4 : (0 : Int32).toInt = 0 := by decide
  have e5 : (8 : Int32).toInt = 8 := by decide
  rw [Int64.lt_iff_toInt_lt, Int64.lt_iff_toInt_lt, Int32.lt_iff_toInt_lt, Int32.lt_iff_toInt_lt, Int32.toInt_toInt64, e0, e1, e4, e5]
  omega
theorem w200 {p : Int32} : (¬ p.toInt64 < 0 ∧ ¬ 200 < p.toInt64) ↔ ¬ (p < 0 ∨ 200 < p) := by
  have e0 : (0 : Int64).toInt = 0 := by decide
  have e1 : (200 : Int64).toInt = 200 := by decide
  have e4 : (0 : Int32).toInt = 0 := by decide
  have e5 : (200 : Int32).toInt = 200 := by decide
  rw [Int64.lt_iff_toInt_lt, Int64.lt_iff_toInt_lt, Int32.lt_iff_toInt_lt, Int32.lt_iff_toInt_lt, Int32.toInt_toInt64, e0, e1, e4, e5]
  omega
theorem has_of {T : Nat → Nat → Int32} {k : Nat} {v : Int32} (hk : k < 4) (e : v = nI k) (h : ¬ T 0 (4 + k) = 0) : hasC T v.toInt64 := by
  have e1 : v.toInt64 = lN k := by rw [e, nI_l (by omega)]
  have e2 : pN (lN k) = k := by rw [pN, lN_i, nI_clamp (by omega)]
  rw [e1]
  refine ⟨fun q => ?_, fun q => ?_, by rw [e2]; exact h⟩
  · rw [show (0 : Int64) = lN 0 from rfl, pk_lLT (by omega) (by omega)] at q; omega
  · rw [show (4 : Int64) = lN 4 from rfl, pk_lLE (by omega) (by omega)] at q; omega
theorem bof_lt {cb : Nat → Int32} {nc j : Nat} (hn : nc ≤ 6) (hj : j < 64) : bof cb nc j < 71 := by
  unfold bof
  cases hf : fnd cb (nI j) nc with
  | none => simp only; omega
  | some k =>
    have := fnd_lt hf
    simp only
    omega
theorem q_rng {p : Int32} (h : ¬ (p < 0 ∨ 8 < p)) : 0 ≤ p.toInt ∧ p.toInt ≤ 8 := by
  rw [Int32.lt_iff_toInt_lt, Int32.lt_iff_toInt_lt] at h
  have e4 : (0 : Int32).toInt = 0 := by decide
  have e5 : (8 : Int32).toInt = 8 := by decide
  rw [e4, e5] at h
  omega
theorem q_lt {p : Int32} (z0 : ¬ p.toInt = 0) (z1 : ¬ p.toInt = 1) (z2 : ¬ p.toInt = 2) (z3 : ¬ p.toInt = 3) (z4 : ¬ p.toInt = 4) (h : ¬ (p < 0 ∨ 8 < p)) : ¬ p < 5 := by
  have h1 := q_rng h
  rw [Int32.lt_iff_toInt_lt]
  have e5 : (5 : Int32).toInt = 5 := by decide
  rw [e5]
  omega
theorem q_7 {p : Int32} (z0 : ¬ p.toInt = 0) (z1 : ¬ p.toInt = 1) (z2 : ¬ p.toInt = 2) (z3 : ¬ p.toInt = 3) (z4 : ¬ p.toInt = 4) (z5 : ¬ p.toInt = 5) (z6 : ¬ p.toInt = 6) (z8 : ¬ p.toInt = 8) (h : ¬ (p < 0 ∨ 8 < p)) : p = 7 := by
  have h1 := q_rng h
  apply Int32.toInt_inj.mp
  have e5 : (7 : Int32).toInt = 7 := by decide
  rw [e5]
  omega
