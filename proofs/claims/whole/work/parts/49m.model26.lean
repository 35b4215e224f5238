/-! side by side: a command, a run -/
theorem rc_op {N : Nat} {σ : CS} {ρ : RS} {j : Nat} (h : Rel N σ ρ) (hN : N < 2 ^ 31) (hI : CInv σ) (hR : RIv ρ) : RC (N + 256) (g_op σ j) (h_op (w_tu ρ ((j + 1) % 4)) j) ∧ r_op σ j = q_op (w_tu ρ ((j + 1) % 4)) j ∧ x_id (g_op σ j) = cId (f9 (w_tu ρ ((j + 1) % 4)) j) := by
  obtain ⟨a, b⟩ := rc_tk (j := j) h
  have ci := ci_tk (j := j) hI
  have rk : RK (h_tk (w_tu ρ ((j + 1) % 4)) j) := rk_tk (ρ := w_tu ρ ((j + 1) % 4)) ⟨hR.1.1, hR.1.2.1, Nat.mod_lt _ (by decide)⟩
  have n := htk_n (w_tu ρ ((j + 1) % 4)) j
  rw [← b]
  unfold g_op r_op h_op q_op
  generalize g_tk σ j = τ at a ci ⊢
  generalize h_tk (w_tu ρ ((j + 1) % 4)) j = π at a rk n ⊢
  by_cases e : j = 0
  · repeat rw [if_pos e]
    obtain ⟨c1, c2, c3⟩ := rc_adm a hN rk.2.1
    exact ⟨c1.up (by omega), c2, c3⟩
  · repeat rw [if_neg e]
    obtain ⟨c1, c2, c3⟩ := rc_blk a ci.1 n.1 n.2 rk.2.1 rk.1
    exact ⟨c1, c2, c3⟩
theorem rel_cmd {N : Nat} {σ : CS} {ρ : RS} {j : Nat} (h : Rel N σ ρ) (hN : N < 2 ^ 31) (hI : CInv σ) (hR : RIv ρ) : Rel (N + 300) (g_cmd σ j) (h_step ρ j) := by
  obtain ⟨a, b, c⟩ := rc_op (j := j) h hN hI hR
  have t5 := op_T5 σ j
  have e2 : x_T (g_op σ j) = z_T (h_op (w_tu ρ ((j + 1) % 4)) j) := a.1.1.2.1
  rw [e2] at t5
  unfold g_cmd h_step h_cmd
  rw [← t5, b]
  generalize g_op σ j = τ at a c ⊢
  generalize h_op (w_tu ρ ((j + 1) % 4)) j = π at a ⊢
  generalize q_op (w_tu ρ ((j + 1) % 4)) j = st
  exact ((rc_ans (rc_cnt a) ((cnt_i _ _).trans c)).up (by omega)).1
theorem rel_sp {N : Nat} {σ : CS} {ρ : RS} {f : Nat → Int32} (h : Rel N σ ρ) : Rel N σ (w_sp ρ f) := ⟨h.1, h.2.1, h.2.2.1, h.2.2.2⟩
theorem hst_on (ρ : RS) (src : Nat → Int64) : z_on (h_st ρ src) = z_on ρ := by
  have e : z_on (h_sd ρ src (z_n ρ)) = z_on ρ := rfl
  unfold h_st h_end
  generalize h_sd ρ src (z_n ρ) = τ at e ⊢
  split
  · exact e
  · exact e
theorem hadm_on (ρ : RS) : z_on (h_adm ρ) = z_on ρ := by
  unfold h_adm
  repeat' split
  all_goals rfl
theorem hrd_on (ρ : RS) : z_on (h_rd ρ) = z_on ρ := rfl
theorem hblk_on (ρ : RS) : z_on (h_blk ρ) = z_on ρ := by
  unfold h_blk
  repeat' split
  all_goals first | rfl | exact hst_on _ _ | exact hrd_on _
theorem htk_on (ρ : RS) (j : Nat) : z_on (h_tk ρ j) = z_on ρ := rfl
theorem hcmd_on (ρ : RS) (j : Nat) : z_on (h_cmd ρ j) = z_on ρ := by
  have e1 : z_on (h_op ρ j) = z_on ρ := by
    have e0 := htk_on ρ j
    unfold h_op
    generalize h_tk ρ j = τ at e0 ⊢
    split
    · rw [hadm_on, e0]
    · rw [hblk_on, e0]
  unfold h_cmd
  generalize h_op ρ j = τ at e1 ⊢
  have e2 : z_on (h_cnt τ (q_op ρ j)) = z_on ρ := by
    unfold h_cnt
    split
    · exact e1
    · exact e1
  generalize h_cnt τ (q_op ρ j) = π at e2 ⊢
  unfold h_ans
  split
  · exact e2
  · exact e2
theorem step_on (ρ : RS) (j : Nat) (f : Nat → Int32) : z_on (w_sp (h_step ρ j) f) = z_on ρ := by
  have e := hcmd_on (w_tu ρ ((j + 1) % 4)) j
  unfold h_step
  generalize h_cmd (w_tu ρ ((j + 1) % 4)) j = τ at e ⊢
  exact e
theorem rel_run : ∀ {m N : Nat} {σ : CS} {ρ : RS} {k : Nat} {τ : RS}, Rel N σ ρ → N + 300 * m < 2 ^ 31 → CInv σ → RIv ρ → runT m ρ k τ → (runN m σ).1 = k ∧ Rel (N + 300 * m) (runN m σ).2 τ ∧ CInv (runN m σ).2 ∧ RIv τ ∧ z_on τ = z_on ρ
  | 0, N, σ, ρ, k, τ, h, hN, hI, hR, hr => by
    obtain ⟨rfl, rfl⟩ := hr
    exact ⟨rfl, h, hI, hR, rfl⟩
  | m + 1, N, σ, ρ, k, τ, h, hN, hI, hR, hr => by
    have e2 : nxr (x_T σ) (x_tu σ) 4 = nxr (z_T ρ) (z_tu ρ) 4 := by rw [h.1.2.1, h.1.2.2.2.2.1]
    rw [runT] at hr
    cases hn : nxr (z_T ρ) (z_tu ρ) 4 with
    | none =>
      rw [hn] at hr
      obtain ⟨rfl, rfl⟩ := hr
      rw [runN_n (e2.trans hn)]
      exact ⟨rfl, h.up (by omega), hI, hR, rfl⟩
    | some q =>
      rw [hn] at hr
      obtain ⟨f, k', rfl, hr⟩ := hr
      rw [runN_s (e2.trans hn)]
      obtain ⟨i1, i2, i3, i4, i5⟩ := rel_run (rel_sp (f := f) (rel_cmd (j := q) h (by omega) hI hR)) (by omega) (ci_cmd hI) (riv_step hR (nxr_rdy hn).1.1) hr
      exact ⟨by rw [i1], i2.up (by omega), i3, i4, i5.trans (step_on ρ q f)⟩
