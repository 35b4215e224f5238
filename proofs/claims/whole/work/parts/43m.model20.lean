/-! side by side: ops of blocks, the answer, a command, a run -/
theorem op_cases (o : Int32) : o < 16 ∨ 21 < o ∨ o = 16 ∨ o = 17 ∨ o = 18 ∨ o = 19 ∨ o = 20 ∨ o = 21 := by
  have e16 : (16 : Int32).toInt = 16 := by decide
  have e17 : (17 : Int32).toInt = 17 := by decide
  have e18 : (18 : Int32).toInt = 18 := by decide
  have e19 : (19 : Int32).toInt = 19 := by decide
  have e20 : (20 : Int32).toInt = 20 := by decide
  have e21 : (21 : Int32).toInt = 21 := by decide
  rw [Int32.lt_iff_toInt_lt, Int32.lt_iff_toInt_lt, ← Int32.toInt_inj, ← Int32.toInt_inj, ← Int32.toInt_inj, ← Int32.toInt_inj, ← Int32.toInt_inj, ← Int32.toInt_inj, e16, e17, e18, e19, e20, e21]
  omega
theorem lt16 {o : Int32} (h : o < 16) : ¬ o = 16 ∧ o < 17 := by
  have e16 : (16 : Int32).toInt = 16 := by decide
  have e17 : (17 : Int32).toInt = 17 := by decide
  rw [Int32.lt_iff_toInt_lt, e16] at h
  rw [Int32.lt_iff_toInt_lt, ← Int32.toInt_inj, e16, e17]
  omega
theorem gt21 {o : Int32} (h : 21 < o) : ¬ o = 16 ∧ ¬ o < 17 ∧ ¬ o < 16 := by
  have e16 : (16 : Int32).toInt = 16 := by decide
  have e17 : (17 : Int32).toInt = 17 := by decide
  have e21 : (21 : Int32).toInt = 21 := by decide
  rw [Int32.lt_iff_toInt_lt, e21] at h
  rw [Int32.lt_iff_toInt_lt, Int32.lt_iff_toInt_lt, ← Int32.toInt_inj, e16, e17]
  omega
theorem rc_end {N : Nat} {τ : CS} {ρ : RS} (h : RC N (s_bs τ (x_bs τ + x_n τ)) ρ) (hR : RI (z_R ρ, z_cb ρ) (z_nc ρ)) : RC N (g_end τ) (h_end ρ) := by
  have c2 : x_fg τ = z_fg ρ := h.2.2.1
  unfold g_end h_end
  rw [c2]
  split
  · exact h
  · exact rc_fl h hR
