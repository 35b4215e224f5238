/-! a run of the reference: the places it wrote last are nobody's business -/
def RK (ρ : RS) : Prop := z_nc ρ ≤ 6 ∧ RI (z_R ρ, z_cb ρ) (z_nc ρ) ∧ z_tu ρ < 4
theorem RI0 {d : RD} : RI d 0 := fun k hk => absurd hk (Nat.not_lt_zero _)
theorem rk_of {ρ τ : RS} (h : RK ρ) (e1 : z_nc τ = z_nc ρ) (e2 : z_R τ = z_R ρ) (e3 : z_cb τ = z_cb ρ) (e4 : z_tu τ = z_tu ρ) : RK τ := ⟨by rw [e1]; exact h.1, by rw [e1, e2, e3]; exact h.2.1, by rw [e4]; exact h.2.2⟩
theorem rk_0 {ρ τ : RS} (h : RK ρ) (e1 : z_nc τ = 0) (e4 : z_tu τ = z_tu ρ) : RK τ := ⟨by rw [e1]; exact Nat.zero_le _, by rw [e1]; exact RI0, by rw [e4]; exact h.2.2⟩
theorem rk_tk {ρ : RS} {j : Nat} (h : RK ρ) : RK (h_tk ρ j) := rk_of h rfl rfl rfl rfl
theorem rk_adm {ρ : RS} (h : RK ρ) : RK (h_adm ρ) := by
  unfold h_adm
  split
  · split
    · exact rk_of h rfl rfl rfl rfl
    · exact h
  · split
    · split
      · exact rk_of h rfl rfl rfl rfl
      · exact h
    · split
      · split
        · exact rk_of h rfl rfl rfl rfl
        · exact h
      · split
        · split
          · exact rk_of h rfl rfl rfl rfl
          · exact h
        · split
          · split
            · exact rk_0 h rfl rfl
            · split
              · exact rk_of h rfl rfl rfl rfl
              · exact h
          · split
            · split
              · exact rk_of h rfl rfl rfl rfl
              · exact h
            · split
              · exact rk_of h rfl rfl rfl rfl
              · exact h
theorem rk_st {ρ : RS} {src : Nat → Int64} (h : RK ρ) (hX : pN (z_cx ρ) + z_n ρ ≤ 64) : RK (h_st ρ src) := by
  have h2 : RK (h_sd ρ src (z_n ρ)) := by
    obtain ⟨a, b⟩ := sbD_ok (one := z_one ρ) (src := src) (cg := z_cg ρ) (X := pN (z_cx ρ)) h.2.1 h.1 (b := z_n ρ) hX
    exact ⟨b, a, h.2.2⟩
  unfold h_st h_end
  generalize h_sd ρ src (z_n ρ) = τ at h2 ⊢
  split
  · exact h2
  · exact rk_0 h2 rfl rfl
theorem bl_X {ρ : RS} (h : blP ρ) (h1 : 1 ≤ z_n ρ) (h9 : z_n ρ ≤ 256) : pN (z_cx ρ) + z_n ρ ≤ 64 := ((x63 h.1 h1 h9).1).mp (Int64.not_lt.mp (isb_r.mp h.2).2)
theorem rk_blk {ρ : RS} (h : RK ρ) (h1 : 1 ≤ z_n ρ) (h9 : z_n ρ ≤ 256) : RK (h_blk ρ) := by
  unfold h_blk
  split
  · exact rk_0 h rfl rfl
  · split
    · exact h
    · split
      · exact h
      · split
        · rename_i hb
          have hX := bl_X hb h1 h9
          split
          · split
            · split
              · exact rk_st h hX
              · exact h
            · exact h
          · split
            · exact rk_st h hX
            · split
              · split
                · exact rk_of h rfl rfl rfl rfl
                · split
                  · exact h
                  · exact rk_st h hX
              · exact h
        · exact h
theorem rk_op {ρ : RS} {j : Nat} (h : RK ρ) : RK (h_op ρ j) := by
  have c := rk_tk (j := j) h
  have n := htk_n ρ j
  unfold h_op
  generalize h_tk ρ j = τ at c n ⊢
  split
  · exact rk_adm c
  · exact rk_blk c n.1 n.2
theorem rk_cmd {ρ : RS} {j : Nat} (h : RK ρ) : RK (h_cmd ρ j) := by
  have c := rk_op (j := j) h
  unfold h_cmd
  generalize h_op ρ j = τ at c ⊢
  have c2 : RK (h_cnt τ (q_op ρ j)) := by
    unfold h_cnt
    split
    · exact rk_of c rfl rfl rfl rfl
    · exact rk_of c rfl rfl rfl rfl
  generalize h_cnt τ (q_op ρ j) = π at c2 ⊢
  unfold h_ans
  split
  · exact rk_of c2 rfl rfl rfl rfl
  · exact rk_of c2 rfl rfl rfl rfl
def h_step (ρ : RS) (q : Nat) : RS := h_cmd (w_tu ρ ((q + 1) % 4)) q
def runT : Nat → RS → Nat → RS → Prop
  | 0, ρ, r, τ => r = 0 ∧ τ = ρ
  | n + 1, ρ, r, τ => match nxr (z_T ρ) (z_tu ρ) 4 with
    | none => r = 0 ∧ τ = ρ
    | some q => ∃ (f : Nat → Int32) (k : Nat), r = k + 1 ∧ runT n (w_sp (h_step ρ q) f) k τ
theorem runT_n {n : Nat} {ρ : RS} (h : nxr (z_T ρ) (z_tu ρ) 4 = none) : runT n ρ 0 ρ := by
  cases n with
  | zero => exact ⟨rfl, rfl⟩
  | succ n => rw [runT, h]; exact ⟨rfl, rfl⟩
theorem runT_s {n q k : Nat} {ρ τ : RS} {f : Nat → Int32} (h : nxr (z_T ρ) (z_tu ρ) 4 = some q) (hr : runT n (w_sp (h_step ρ q) f) k τ) : runT (n + 1) ρ (k + 1) τ := by
  rw [runT, h]
  exact ⟨f, k, rfl, hr⟩
def rrP (ρ : RS) (p r : Int32) (τ : RS) : Prop := if z_on ρ = 0 then r = -3 ∧ τ = ρ else if p < 0 ∨ 200 < p then r = -1 ∧ τ = ρ else ∃ k : Nat, r = nI k ∧ runT p.toNatClampNeg ρ k τ
theorem nxr_hit2 {T : Nat → Nat → Int32} {tu i : Nat} (h : nxr T tu i = none) (hb : rdy T ((tu + i) % 4)) (hi : i < 4) : nxr T tu 4 = some ((tu + i) % 4) := nxr_up (m := i + 1) (k := (tu + i) % 4) (by unfold nxr; rw [h]; simp only [if_pos hb]) hi
theorem nI_ne4 {x : Nat} (h : x < 4) : ¬ nI x = 4 := fun q => by
  have := congrArg Int32.toNatClampNeg q
  rw [nI_clamp (by omega), show (4 : Int32) = nI 4 from rfl, nI_clamp (by omega)] at this
  omega
def RIv (ρ : RS) : Prop := RK ρ ∧ TI (z_T ρ)
theorem riv_step {ρ : RS} {q : Nat} {f : Nat → Int32} (h : RIv ρ) (h0 : ¬ z_T ρ 0 q = 0) : RIv (w_sp (h_step ρ q) f) := by
  have a : RK (h_step ρ q) := rk_cmd (ρ := w_tu ρ ((q + 1) % 4)) ⟨h.1.1, h.1.2.1, Nat.mod_lt _ (by decide)⟩
  have b : TI (z_T (h_step ρ q)) := hcmd_TI (ρ := w_tu ρ ((q + 1) % 4)) h.2 h0
  generalize h_step ρ q = τ at a b ⊢
  exact ⟨rk_of a rfl rfl rfl rfl, b⟩
theorem p200' {p : Int32} (h : ¬ (p < 0 ∨ 200 < p)) : p.toNatClampNeg ≤ 200 ∧ p = nI p.toNatClampNeg := p200 (fun q => h (Or.inl q)) (Int32.not_lt.mp (fun q => h (Or.inr q)))
