/-! side by side: storing -/
theorem kx_ds (τ : CS) (r : Nat → Int64) (d : DS) (b : Nat) : KX (s_bs (s_ds (s_rw τ r) d) b) τ := ⟨⟨rfl, rfl, rfl, rfl, rfl⟩, ⟨rfl, rfl⟩, rfl, rfl, rfl, rfl, rfl, rfl, rfl⟩
theorem ds_x (τ : CS) (r : Nat → Int64) (d : DS) (b : Nat) : x_mem (s_bs (s_ds (s_rw τ r) d) b) = x_mem τ ∧ x_ds (s_bs (s_ds (s_rw τ r) d) b) = d ∧ x_br (s_bs (s_ds (s_rw τ r) d) b) = x_br τ ∧ x_bs (s_bs (s_ds (s_rw τ r) d) b) = b := ⟨rfl, rfl, rfl, rfl⟩
theorem ds_y (τ : CS) (r : Nat → Int64) (d : DS) : x_bs (s_ds (s_rw τ r) d) = x_bs τ ∧ x_n (s_ds (s_rw τ r) d) = x_n τ := ⟨rfl, rfl⟩
theorem kz_sd (ρ : RS) (src : Nat → Int64) (b : Nat) : KZ (h_sd ρ src b) ρ := ⟨⟨rfl, rfl, rfl, rfl, rfl⟩, ⟨rfl, rfl⟩, rfl, rfl, rfl, rfl, rfl, rfl, rfl⟩
theorem sd_z (ρ : RS) (src : Nat → Int64) (b : Nat) : z_mem (h_sd ρ src b) = z_mem ρ ∧ z_R (h_sd ρ src b) = (sbD (z_one ρ) src (z_cg ρ) (pN (z_cx ρ)) (z_R ρ, z_cb ρ) (z_nc ρ) b).1.1 ∧ z_cb (h_sd ρ src b) = (sbD (z_one ρ) src (z_cg ρ) (pN (z_cx ρ)) (z_R ρ, z_cb ρ) (z_nc ρ) b).1.2 ∧ z_nc (h_sd ρ src b) = (sbD (z_one ρ) src (z_cg ρ) (pN (z_cx ρ)) (z_R ρ, z_cb ρ) (z_nc ρ) b).2 ∧ z_br (h_sd ρ src b) = z_br ρ ∧ z_bs (h_sd ρ src b) = z_bs ρ + b := ⟨rfl, rfl, rfl, rfl, rfl, rfl⟩
theorem rc_sd {N : Nat} {τ : CS} {ρ : RS} {d : DS} {r src : Nat → Int64} (h : RC N τ ρ) (hX : pN (z_cx ρ) + z_n ρ ≤ 64) (hR : RI (z_R ρ, z_cb ρ) (z_nc ρ)) (hn : z_nc ρ ≤ 6) (hd : DR d (sbD (z_one ρ) src (z_cg ρ) (pN (z_cx ρ)) (z_R ρ, z_cb ρ) (z_nc ρ) (z_n ρ)).1 (sbD (z_one ρ) src (z_cg ρ) (pN (z_cx ρ)) (z_R ρ, z_cb ρ) (z_nc ρ) (z_n ρ)).2) : RC (N + 256) (g_end (s_ds (s_rw τ r) d)) (h_st ρ src) := by
  have hk := (sbD_ok (one := z_one ρ) (src := src) (cg := z_cg ρ) (X := pN (z_cx ρ)) hR hn (b := z_n ρ) hX).1
  unfold h_st
  obtain ⟨p1, p2, p3, p4, p5, p6⟩ := sd_z ρ src (z_n ρ)
  have kz := kz_sd ρ src (z_n ρ)
  generalize sbD (z_one ρ) src (z_cg ρ) (pN (z_cx ρ)) (z_R ρ, z_cb ρ) (z_nc ρ) (z_n ρ) = D at hd hk p2 p3 p4
  generalize h_sd ρ src (z_n ρ) = ρ' at p1 p2 p3 p4 p5 p6 kz ⊢
  obtain ⟨y1, y2⟩ := ds_y τ r d
  have hb : RC (N + 256) (s_bs (s_ds (s_rw τ r) d) (x_bs τ + x_n τ)) ρ' := by
    obtain ⟨q1, q2, q3, q4⟩ := ds_x τ r d (x_bs τ + x_n τ)
    have kx := kx_ds τ r d (x_bs τ + x_n τ)
    generalize s_bs (s_ds (s_rw τ r) d) (x_bs τ + x_n τ) = τ' at q1 q2 q3 q4 kx ⊢
    have hh2 := h
    obtain ⟨⟨⟨e1, -⟩, -, ⟨-, -, f3, f4⟩, -, -, b3, b4⟩, ⟨-, -, c3, -, -, c6, -⟩⟩ := h
    refine RC_mk hh2 kx kz ?_ ?_ ?_ ?_ ?_ ?_ (by omega)
    · rw [q1, p1, e1]
    · rw [q2, p2, p3, p4]; exact hd
    · rw [q3, p5]; exact f3
    · rw [q4, p6, f4, c3]
    · rw [p5]; omega
    · rw [p6]; omega
  refine rc_end ?_ (by rw [p2, p3, p4]; exact hk)
  rw [y1, y2]; exact hb
theorem store_e (τ : CS) : g_store τ = g_end (s_ds (s_rw τ (rwS (x_mem τ) (x_fi τ) (x_F τ) (x_pg τ) (x_rw τ) (x_n τ))) (stF (x_mem τ) (x_fi τ) (x_F τ) (x_pg τ) (x_rw τ) (x_cg τ) (pN (x_cx τ)) (x_ds τ) (x_n τ))) := rfl
theorem rc_store {N : Nat} {τ : CS} {ρ : RS} {src : Nat → Int64} (h : RC N τ ρ) (hI : DI (x_ds τ)) (hX : pN (z_cx ρ) + z_n ρ ≤ 64) (hR : RI (z_R ρ, z_cb ρ) (z_nc ρ)) (hn : z_nc ρ ≤ 6) (ha : ∀ k, k < z_n ρ * 8 → mAt (x_mem τ) (adr (x_fi τ) (x_F τ) (x_pg τ) k) = src k) : RC (N + 256) (g_store τ) (h_st ρ src) := by
  have hh := h
  obtain ⟨⟨⟨e1, e2, e3, e4, e5, e6⟩, hd, -⟩, ⟨c1, c2, c3, c4, c5, c6, c7⟩⟩ := h
  rw [store_e]
  refine rc_sd hh hX hR hn ?_
  rw [e6, c6, c3]
  exact stF_rel hd hI hX ha (z_n ρ) (Nat.le_refl _)
theorem zero_e (τ : CS) : g_zero τ = g_end (s_ds (s_rw τ (flL (x_rw τ) 0 8)) (stZ (flL (x_rw τ) 0 8) (x_cg τ) (pN (x_cx τ)) (x_ds τ) (x_n τ))) := rfl
theorem rc_zero {N : Nat} {τ : CS} {ρ : RS} (h : RC N τ ρ) (hI : DI (x_ds τ)) (hX : pN (z_cx ρ) + z_n ρ ≤ 64) (hR : RI (z_R ρ, z_cb ρ) (z_nc ρ)) (hn : z_nc ρ ≤ 6) : RC (N + 256) (g_zero τ) (h_st ρ (fun _ => 0)) := by
  have hh := h
  obtain ⟨⟨⟨e1, e2, e3, e4, e5, e6⟩, hd, -⟩, ⟨c1, c2, c3, c4, c5, c6, c7⟩⟩ := h
  rw [zero_e]
  refine rc_sd hh hX hR hn ?_
  rw [e6, c6, c3]
  exact stZ_rel hd hI hX (z_n ρ) (Nat.le_refl _)
