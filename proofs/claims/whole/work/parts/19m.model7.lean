theorem runN_step {P i q : Nat} {σ τ : CS} (he : runN P σ = (i + (runN (P - i) τ).1, (runN (P - i) τ).2)) (hf : nxr (x_T τ) (x_tu τ) 4 = some q) (hi : i < P) : runN P σ = (i + 1 + (runN (P - (i + 1)) (g_cmd τ q)).1, (runN (P - (i + 1)) (g_cmd τ q)).2) := by
  rw [he, show P - i = (P - (i + 1)) + 1 by omega, runN_s hf]
  generalize runN (P - (i + 1)) (g_cmd τ q) = r
  exact Prod.ext (by show i + (r.1 + 1) = i + 1 + r.1; omega) rfl
theorem runN_halt {P i : Nat} {σ τ : CS} (he : runN P σ = (i + (runN (P - i) τ).1, (runN (P - i) τ).2)) (hf : nxr (x_T τ) (x_tu τ) 4 = none) : runN P σ = (i, τ) := by
  rw [he, runN_n hf]
  rfl
theorem runN_end {P i : Nat} {σ τ : CS} (he : runN P σ = (i + (runN (P - i) τ).1, (runN (P - i) τ).2)) (h : P - i = 0) : runN P σ = (i, τ) := by
  rw [he, h]
  rfl
theorem or_n {a b : Prop} (h1 : ¬ a) (h2 : ¬ b) : ¬ (a ∨ b) := fun q => q.elim h1 h2
