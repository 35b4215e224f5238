/-! side by side: data -/
theorem sm_ly {N : Nat} {σ : CS} {ρ : RS} (h : RC N σ ρ) (hl : lyOk (z_mem ρ) (z_cp ρ) (z_cq ρ) (z_n ρ)) (hX : pN (z_cx ρ) + z_n ρ ≤ 64) : r_same (g_ly σ) ↔ cm19 ρ := by
  have had := ly_ad h hl
  have hh := rc_ly h
  generalize g_ly σ = τ at had hh ⊢
  obtain ⟨⟨⟨e1, -⟩, hd, -⟩, ⟨c1, c2, c3, c4, c5, c6, c7⟩⟩ := hh
  have q := sm_rel (σ := τ) (ad := aA ρ) hd (by rw [c6, c3]; exact hX) (fun k hk => by
    rw [c3] at hk
    obtain ⟨a1, a2, a3⟩ := had k hk
    rw [a1]
    exact mAt_a a2 a3)
  rw [e1, c3, c6] at q
  exact q
theorem st_ad {mem : Nat → Int64} {x : Int64} {n k : Nat} {pg : Nat → Int32} (h : fstO x n) (h9 : n ≤ 256) (hk : k < n * 8) : mAt mem (adr x.toInt32 (n * 8) pg k) = mem (pN x + k) := by
  obtain ⟨a1, a2⟩ := fst_n h h9
  rw [adr, if_pos hk, a2, nI_add, mAt_n (by omega)]
theorem sm_st {N : Nat} {σ : CS} {ρ : RS} (h : RC N σ ρ) (hf : fstO (z_cp ρ) (z_n ρ)) (h9 : z_n ρ ≤ 256) (hX : pN (z_cx ρ) + z_n ρ ≤ 64) : r_same (g_st σ (x_cp σ)) ↔ cm21 ρ := by
  obtain ⟨⟨⟨e1, -⟩, hd, -⟩, ⟨c1, c2, c3, c4, c5, c6, c7⟩⟩ := h
  have q := sm_rel (σ := g_st σ (x_cp σ)) (ad := fun k => pN (z_cp ρ) + k) hd (by show pN (x_cx σ) + x_n σ ≤ 64; rw [c6, c3]; exact hX) (fun k hk => by
    show mAt (x_mem σ) (adr (x_cp σ).toInt32 (x_n σ * 8) (x_pg σ) k) = x_mem σ (pN (z_cp ρ) + k)
    rw [c4, c3]
    exact st_ad hf h9 (by rw [← c3]; exact hk))
  refine q.trans ?_
  show cmB (x_mem σ) _ (fun k => z_R ρ (bof (z_cb ρ) (z_nc ρ) (pN (x_cx σ) + k / 8)) (k % 8)) (x_n σ * 8) = true ↔ _
  rw [e1, c6, c3]
  exact Iff.rfl
