/-! side by side: reading and storing -/
def KX (τ σ : CS) : Prop := (x_T τ = x_T σ ∧ x_on τ = x_on σ ∧ x_bi τ = x_bi σ ∧ x_tu τ = x_tu σ ∧ x_cg τ = x_cg σ) ∧ (x_dw τ = x_dw σ ∧ x_dq τ = x_dq σ) ∧ x_op τ = x_op σ ∧ x_fg τ = x_fg σ ∧ x_n τ = x_n σ ∧ x_cp τ = x_cp σ ∧ x_cq τ = x_cq σ ∧ x_cx τ = x_cx σ ∧ x_re τ = x_re σ
def KZ (τ ρ : RS) : Prop := (z_T τ = z_T ρ ∧ z_on τ = z_on ρ ∧ z_bi τ = z_bi ρ ∧ z_tu τ = z_tu ρ ∧ z_cg τ = z_cg ρ) ∧ (z_dn τ = z_dn ρ ∧ z_fa τ = z_fa ρ) ∧ z_op τ = z_op ρ ∧ z_fg τ = z_fg ρ ∧ z_n τ = z_n ρ ∧ z_cp τ = z_cp ρ ∧ z_cq τ = z_cq ρ ∧ z_cx τ = z_cx ρ ∧ z_re τ = z_re ρ
theorem RC_mk {N M : Nat} {σ σ' : CS} {ρ ρ' : RS} (h : RC N σ ρ) (kx : KX σ' σ) (kz : KZ ρ' ρ) (hm : x_mem σ' = z_mem ρ') (hd : DR (x_ds σ') (z_R ρ', z_cb ρ') (z_nc ρ')) (h3 : x_br σ' = z_br ρ') (h4 : x_bs σ' = z_bs ρ') (b3 : z_br ρ' ≤ M) (b4 : z_bs ρ' ≤ M) (hN : N ≤ M) : RC M σ' ρ' := by
  obtain ⟨⟨⟨e1, e2, e3, e4, e5, e6⟩, -, ⟨f1, f2, -, -⟩, g1, g2, -, -⟩, ⟨c1, c2, c3, c4, c5, c6, c7⟩⟩ := h
  obtain ⟨⟨k1, k2, k3, k4, k5⟩, ⟨k6, k7⟩, k8, k9, k10, k11, k12, k13, k14⟩ := kx
  obtain ⟨⟨l1, l2, l3, l4, l5⟩, ⟨l6, l7⟩, l8, l9, l10, l11, l12, l13, l14⟩ := kz
  refine ⟨⟨⟨hm, k1.trans (e2.trans l1.symm), k2.trans (e3.trans l2.symm), k3.trans (e4.trans l3.symm), k4.trans (e5.trans l4.symm), k5.trans (e6.trans l5.symm)⟩, hd, ⟨k6.trans (f1.trans l6.symm), k7.trans (f2.trans l7.symm), h3, h4⟩, by rw [l6]; omega, by rw [l7]; omega, b3, b4⟩, ⟨k8.trans (c1.trans l8.symm), k9.trans (c2.trans l9.symm), k10.trans (c3.trans l10.symm), k11.trans (c4.trans l11.symm), k12.trans (c5.trans l12.symm), k13.trans (c6.trans l13.symm), ?_⟩⟩
  rw [k14, l14]; exact c7
theorem kx_read (τ : CS) : KX (g_read τ) τ := ⟨⟨rfl, rfl, rfl, rfl, rfl⟩, ⟨rfl, rfl⟩, rfl, rfl, rfl, rfl, rfl, rfl, rfl⟩
theorem kz_read (ρ : RS) : KZ (h_rd ρ) ρ := ⟨⟨rfl, rfl, rfl, rfl, rfl⟩, ⟨rfl, rfl⟩, rfl, rfl, rfl, rfl, rfl, rfl, rfl⟩
theorem read_x (τ : CS) : x_mem (g_read τ) = rdMem (x_med τ) (x_cb τ) (x_ca τ) (x_nc τ) (pN (x_cx τ)) (x_rw τ) (x_mem τ) (x_fi τ) (x_F τ) (x_pg τ) (x_n τ) ∧ x_ds (g_read τ) = x_ds τ ∧ x_br (g_read τ) = x_br τ + x_n τ ∧ x_bs (g_read τ) = x_bs τ := ⟨rfl, rfl, rfl, rfl⟩
theorem read_z (ρ : RS) : z_mem (h_rd ρ) = rpM (z_mem ρ) (adN (z_mem ρ) (z_cp ρ) (z_cq ρ) (z_n ρ)) (vR ρ) (z_n ρ * 8) ∧ z_R (h_rd ρ) = z_R ρ ∧ z_cb (h_rd ρ) = z_cb ρ ∧ z_nc (h_rd ρ) = z_nc ρ ∧ z_br (h_rd ρ) = z_br ρ + z_n ρ ∧ z_bs (h_rd ρ) = z_bs ρ := ⟨rfl, rfl, rfl, rfl, rfl, rfl⟩
theorem vR_e (ρ : RS) : vR ρ = fun k => z_R ρ (bof (z_cb ρ) (z_nc ρ) (pN (z_cx ρ) + k / 8)) (k % 8) := rfl
theorem rc_read {N : Nat} {σ : CS} {ρ : RS} (h : RC N σ ρ) (hl : lyOk (z_mem ρ) (z_cp ρ) (z_cq ρ) (z_n ρ)) (hX : pN (z_cx ρ) + z_n ρ ≤ 64) : RC (N + 256) (g_read (g_ly σ)) (h_rd ρ) := by
  have had := ly_ad h hl
  have hh := rc_ly h
  generalize g_ly σ = τ at had hh ⊢
  obtain ⟨q1, q2, q3, q4⟩ := read_x τ
  obtain ⟨p1, p2, p3, p4, p5, p6⟩ := read_z ρ
  have kx := kx_read τ
  have kz := kz_read ρ
  generalize g_read τ = τ' at q1 q2 q3 q4 kx ⊢
  generalize h_rd ρ = ρ' at p1 p2 p3 p4 p5 p6 kz ⊢
  have hh2 := hh
  obtain ⟨⟨⟨e1, -⟩, hd, ⟨-, -, f3, f4⟩, -, -, b3, b4⟩, ⟨-, -, c3, -, -, c6, -⟩⟩ := hh
  refine RC_mk hh2 kx kz ?_ ?_ ?_ ?_ ?_ ?_ (by omega)
  · rw [q1, p1, e1, c3, c6, vR_e]
    exact rd_rel hd hX had (z_n ρ) (Nat.le_refl _)
  · rw [q2, p2, p3, p4]; exact hd
  · rw [q3, p5, f3, c3]
  · rw [q4, p6]; exact f4
  · rw [p5]; omega
  · rw [p6]; omega
