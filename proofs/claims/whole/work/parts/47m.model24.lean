/-! side by side: ops of blocks -/
theorem gst_x (σ : CS) (x : Int64) : x_mem (g_st σ x) = x_mem σ ∧ x_fi (g_st σ x) = x.toInt32 ∧ x_F (g_st σ x) = x_n σ * 8 ∧ x_ds (g_st σ x) = x_ds σ := ⟨rfl, rfl, rfl, rfl⟩
theorem gsame_x (σ : CS) : x_mem (g_same σ) = x_mem σ ∧ x_n (g_same σ) = x_n σ ∧ x_ds (g_same σ) = x_ds σ ∧ x_id (g_same σ) = x_id σ := ⟨rfl, rfl, rfl, rfl⟩
theorem gst_i (σ : CS) (x : Int64) : x_id (g_st σ x) = x_id σ ∧ x_n (g_st σ x) = x_n σ := ⟨rfl, rfl⟩
theorem rc_caw {N : Nat} {σ : CS} {ρ : RS} (h : RC N σ ρ) (hI : DI (x_ds σ)) (hf : fstO (z_cp ρ) (z_n ρ)) (hg : fstO (z_cq ρ) (z_n ρ)) (h9 : z_n ρ ≤ 256) (hX : pN (z_cx ρ) + z_n ρ ≤ 64) (hR : RI (z_R ρ, z_cb ρ) (z_nc ρ)) (hn : z_nc ρ ≤ 6) : RC (N + 256) (g_caw σ) (if cm21 ρ then h_st ρ (fun t => z_mem ρ (pN (z_cq ρ) + t)) else ρ) ∧ r_caw σ = if cm21 ρ then 0 else 5 := by
  have hs := sm_st h hf h9 hX
  have r1 := rc_gst (x := x_cp σ) h
  have i1 : x_ds (g_st σ (x_cp σ)) = x_ds σ := (gst_x σ (x_cp σ)).2.2.2
  have m1 : x_mem (g_st σ (x_cp σ)) = x_mem σ := (gst_x σ (x_cp σ)).1
  have e1 : x_mem σ = z_mem ρ := h.1.1.1
  have c3 : x_n σ = z_n ρ := h.2.2.2.1
  have c5 : x_cq σ = z_cq ρ := h.2.2.2.2.2.1
  unfold g_caw r_caw
  rw [c5]
  generalize g_st σ (x_cp σ) = τ at hs r1 i1 m1 ⊢
  have r2 := rc_same r1
  obtain ⟨m2, -, i2, -⟩ := gsame_x τ
  generalize g_same τ = π at r2 m2 i2 ⊢
  by_cases hc : r_same τ
  · rw [if_pos hc, if_pos (hs.mp hc), if_pos hc, if_pos (hs.mp hc)]
    refine ⟨?_, rfl⟩
    have r3 := rc_gst (x := z_cq ρ) r2
    obtain ⟨y1, y2, y3, y4⟩ := gst_x π (z_cq ρ)
    have c3' : x_n π = z_n ρ := r2.2.2.2.1
    generalize g_st π (z_cq ρ) = φ at r3 y1 y2 y3 y4 ⊢
    refine rc_store r3 (by rw [y4, i2, i1]; exact hI) hX hR hn (fun k hk => ?_)
    rw [y1, y2, y3, m2, m1, e1, c3']
    exact st_ad hg h9 hk
  · rw [if_neg hc, if_neg (fun q => hc (hs.mpr q)), if_neg hc, if_neg (fun q => hc (hs.mpr q))]
    exact ⟨r2.up (by omega), rfl⟩
theorem end_i (σ : CS) : x_id (g_end σ) = x_id σ := by
  unfold g_end
  split <;> rfl
theorem store_i (σ : CS) : x_id (g_store σ) = x_id σ := by
  rw [store_e, end_i]
  rfl
theorem zero_i (σ : CS) : x_id (g_zero σ) = x_id σ := by
  rw [zero_e, end_i]
  rfl
theorem read_i (σ : CS) : x_id (g_read σ) = x_id σ := rfl
theorem ly_i (σ : CS) : x_id (g_ly σ) = x_id σ := rfl
theorem ly_ds (σ : CS) : x_ds (g_ly σ) = x_ds σ := rfl
theorem ly_op (σ : CS) : x_op (g_ly σ) = x_op σ := rfl
theorem ly_mem (σ : CS) : x_mem (g_ly σ) = x_mem σ := rfl
theorem caw_i (σ : CS) : x_id (g_caw σ) = x_id σ := by
  unfold g_caw
  have i1 := (gst_i σ (x_cp σ)).1
  generalize g_st σ (x_cp σ) = τ at i1 ⊢
  have i2 := (gsame_x τ).2.2.2
  generalize g_same τ = π at i2 ⊢
  split
  · rw [store_i, (gst_i _ _).1, i2, i1]
  · rw [i2, i1]
theorem flu_i (τ : CS) : x_id (s_nc (s_med τ (flM (x_cb τ) (x_ca τ) (x_med τ) (x_nc τ))) 0) = x_id τ := rfl
theorem rc_blk {N : Nat} {σ : CS} {ρ : RS} (h : RC N σ ρ) (hI : DI (x_ds σ)) (h1 : 1 ≤ z_n ρ) (h9 : z_n ρ ≤ 256) (hR : RI (z_R ρ, z_cb ρ) (z_nc ρ)) (hn : z_nc ρ ≤ 6) : RC (N + 256) (g_blk σ) (h_blk ρ) ∧ r_blk σ = q_blk ρ ∧ x_id (g_blk σ) = x_id σ := by
  have hh := h
  obtain ⟨⟨⟨e1, e2, e3, e4, e5, e6⟩, hd, hf, hb⟩, ⟨c1, c2, c3, c4, c5, c6, c7⟩⟩ := h
  have hbl : blO σ ↔ blP ρ := by show isb (x_cx σ) ∧ isb (x_cx σ + (nI (x_n σ)).toInt64 - 1) ↔ _; rw [c6, c3]
  have hfs : (fstO (x_cp σ) (x_n σ) ∧ fstO (x_cq σ) (x_n σ)) ↔ (fstO (z_cp ρ) (z_n ρ) ∧ fstO (z_cq ρ) (z_n ρ)) := by rw [c4, c5, c3]
  have hly : lyOk (x_mem σ) (x_cp σ) (x_cq σ) (x_n σ) ↔ lyOk (z_mem ρ) (z_cp ρ) (z_cq ρ) (z_n ρ) := by rw [e1, c4, c5, c3]
  rcases op_cases (x_op σ) with o | o | o | o | o | o | o | o
  · have ho : z_op ρ < 16 := by rw [← c1]; exact o
    have w1 : r_wr σ = 1 := by rw [r_wr, if_pos o]
    have w2 : g_wr σ = σ := by rw [g_wr, if_pos o]
    have w3 : ¬ r_wr σ = 0 := by rw [w1]; decide
    rw [g_blk, r_blk, if_neg w3, if_neg w3, w1, w2, h_blk, q_blk, if_neg (lt16 ho).1, if_pos (lt16 ho).2, if_neg (lt16 ho).1, if_pos (lt16 ho).2]
    exact ⟨hh.up (by omega), rfl, rfl⟩
  · have ho : 21 < z_op ρ := by rw [← c1]; exact o
    have w1 : r_wr σ = 1 := by rw [r_wr, if_neg (gt21 o).2.2, if_pos o]
    have w2 : g_wr σ = σ := by rw [g_wr, if_neg (gt21 o).2.2, if_pos o]
    have w3 : ¬ r_wr σ = 0 := by rw [w1]; decide
    rw [g_blk, r_blk, if_neg w3, if_neg w3, w1, w2, h_blk, q_blk, if_neg (gt21 ho).1, if_neg (gt21 ho).2.1, if_pos ho, if_neg (gt21 ho).1, if_neg (gt21 ho).2.1, if_pos ho]
    exact ⟨hh.up (by omega), rfl, rfl⟩
  · have ho : z_op ρ = 16 := by rw [← c1]; exact o
    have w1 : r_wr σ = 0 := by rw [r_wr, if_neg (by rw [o]; decide), if_neg (by rw [o]; decide), if_pos o]
    have w2 : g_wr σ = σ := by rw [g_wr, if_neg (by rw [o]; decide), if_neg (by rw [o]; decide), if_pos o]
    rw [g_blk, r_blk, if_pos w1, if_pos w1, w2, h_blk, q_blk, if_pos ho, if_pos ho, blkG, blkR, if_pos o, if_pos o]
    exact ⟨(rc_fl hh hR).up (by omega), rfl, flu_i σ⟩
  · have ho : z_op ρ = 17 := by rw [← c1]; exact o
    have n16 : ¬ z_op ρ = 16 := by rw [ho]; decide
    have n17 : ¬ z_op ρ < 17 := by rw [ho]; decide
    have n22 : ¬ 21 < z_op ρ := by rw [ho]; decide
    have x15 : ¬ x_op σ < 16 := by rw [o]; decide
    have x16 : ¬ x_op σ = 16 := by rw [o]; decide
    have x22 : ¬ 21 < x_op σ := by rw [o]; decide
    have n_18 : ¬ z_op ρ = 18 := by rw [ho]; decide
    have y_18 : ¬ x_op σ = 18 := by rw [o]; decide
    have n_19 : ¬ z_op ρ = 19 := by rw [ho]; decide
    have y_19 : ¬ x_op σ = 19 := by rw [o]; decide
    have n_20 : ¬ z_op ρ = 20 := by rw [ho]; decide
    have y_20 : ¬ x_op σ = 20 := by rw [o]; decide
    have n_21 : ¬ z_op ρ = 21 := by rw [ho]; decide
    have y_21 : ¬ x_op σ = 21 := by rw [o]; decide
    by_cases hbo : blO σ
    · have hX := bl_X (hbl.mp hbo) h1 h9
      by_cases hl : lyOk (z_mem ρ) (z_cp ρ) (z_cq ρ) (z_n ρ)
      · have w1 : r_wr σ = 0 := by rw [r_wr, if_neg x15, if_neg x22, if_neg x16, if_pos hbo, if_neg y_20, if_neg y_21, if_pos (hly.mpr hl)]
        have w2 : g_wr σ = g_ly σ := by rw [g_wr, if_neg x15, if_neg x22, if_neg x16, if_pos hbo, if_neg y_20, if_neg y_21]
        rw [g_blk, r_blk, if_pos w1, if_pos w1, w2, blkG, blkR, ly_op, h_blk, q_blk]
        repeat rw [if_neg x16]
        repeat rw [if_pos o]
        repeat rw [if_neg n16]
        repeat rw [if_neg n17]
        repeat rw [if_neg n22]
        repeat rw [if_pos (hbl.mp hbo)]
        repeat rw [if_neg n_21]
        repeat rw [if_neg n_20]
        repeat rw [if_pos hl]
        repeat rw [if_neg n_18]
        repeat rw [if_neg n_19]
        refine ⟨rc_store (rc_ly hh) (by rw [ly_ds]; exact hI) hX hR hn (fun k hk => ?_), rfl, by rw [store_i, ly_i]⟩
        obtain ⟨a1, a2, a3⟩ := ly_ad hh hl k hk
        rw [a1, ly_mem, e1]
        exact mAt_a a2 a3
      · have w1 : r_wr σ = 4 := by rw [r_wr, if_neg x15, if_neg x22, if_neg x16, if_pos hbo, if_neg y_20, if_neg y_21, if_neg (fun q => hl (hly.mp q))]
        have w2 : g_wr σ = g_ly σ := by rw [g_wr, if_neg x15, if_neg x22, if_neg x16, if_pos hbo, if_neg y_20, if_neg y_21]
        have w3 : ¬ r_wr σ = 0 := by rw [w1]; decide
        rw [g_blk, r_blk, if_neg w3, if_neg w3, w1, w2, h_blk, q_blk]
        repeat rw [if_neg n16]
        repeat rw [if_neg n17]
        repeat rw [if_neg n22]
        repeat rw [if_pos (hbl.mp hbo)]
        repeat rw [if_neg n_21]
        repeat rw [if_neg n_20]
        repeat rw [if_neg hl]
        exact ⟨(rc_ly hh).up (by omega), rfl, ly_i σ⟩
    · have w1 : r_wr σ = 3 := by rw [r_wr, if_neg x15, if_neg x22, if_neg x16, if_neg hbo]
      have w2 : g_wr σ = σ := by rw [g_wr, if_neg x15, if_neg x22, if_neg x16, if_neg hbo]
      have w3 : ¬ r_wr σ = 0 := by rw [w1]; decide
      rw [g_blk, r_blk, if_neg w3, if_neg w3, w1, w2, h_blk, q_blk]
      repeat rw [if_neg n16]
      repeat rw [if_neg n17]
      repeat rw [if_neg n22]
      rw [if_neg (fun q => hbo (hbl.mpr q)), if_neg (fun q => hbo (hbl.mpr q))]
      exact ⟨hh.up (by omega), rfl, rfl⟩
  · have ho : z_op ρ = 18 := by rw [← c1]; exact o
    have n16 : ¬ z_op ρ = 16 := by rw [ho]; decide
    have n17 : ¬ z_op ρ < 17 := by rw [ho]; decide
    have n22 : ¬ 21 < z_op ρ := by rw [ho]; decide
    have x15 : ¬ x_op σ < 16 := by rw [o]; decide
    have x16 : ¬ x_op σ = 16 := by rw [o]; decide
    have x22 : ¬ 21 < x_op σ := by rw [o]; decide
    have n_17 : ¬ z_op ρ = 17 := by rw [ho]; decide
    have y_17 : ¬ x_op σ = 17 := by rw [o]; decide
    have n_19 : ¬ z_op ρ = 19 := by rw [ho]; decide
    have y_19 : ¬ x_op σ = 19 := by rw [o]; decide
    have n_20 : ¬ z_op ρ = 20 := by rw [ho]; decide
    have y_20 : ¬ x_op σ = 20 := by rw [o]; decide
    have n_21 : ¬ z_op ρ = 21 := by rw [ho]; decide
    have y_21 : ¬ x_op σ = 21 := by rw [o]; decide
    by_cases hbo : blO σ
    · have hX := bl_X (hbl.mp hbo) h1 h9
      by_cases hl : lyOk (z_mem ρ) (z_cp ρ) (z_cq ρ) (z_n ρ)
      · have w1 : r_wr σ = 0 := by rw [r_wr, if_neg x15, if_neg x22, if_neg x16, if_pos hbo, if_neg y_20, if_neg y_21, if_pos (hly.mpr hl)]
        have w2 : g_wr σ = g_ly σ := by rw [g_wr, if_neg x15, if_neg x22, if_neg x16, if_pos hbo, if_neg y_20, if_neg y_21]
        rw [g_blk, r_blk, if_pos w1, if_pos w1, w2, blkG, blkR, ly_op, h_blk, q_blk]
        repeat rw [if_neg x16]
        repeat rw [if_neg y_17]
        repeat rw [if_pos o]
        repeat rw [if_neg n16]
        repeat rw [if_neg n17]
        repeat rw [if_neg n22]
        repeat rw [if_pos (hbl.mp hbo)]
        repeat rw [if_neg n_21]
        repeat rw [if_neg n_20]
        repeat rw [if_pos hl]
        repeat rw [if_pos ho]
        exact ⟨rc_read hh hl hX, rfl, by rw [read_i, ly_i]⟩
      · have w1 : r_wr σ = 4 := by rw [r_wr, if_neg x15, if_neg x22, if_neg x16, if_pos hbo, if_neg y_20, if_neg y_21, if_neg (fun q => hl (hly.mp q))]
        have w2 : g_wr σ = g_ly σ := by rw [g_wr, if_neg x15, if_neg x22, if_neg x16, if_pos hbo, if_neg y_20, if_neg y_21]
        have w3 : ¬ r_wr σ = 0 := by rw [w1]; decide
        rw [g_blk, r_blk, if_neg w3, if_neg w3, w1, w2, h_blk, q_blk]
        repeat rw [if_neg n16]
        repeat rw [if_neg n17]
        repeat rw [if_neg n22]
        repeat rw [if_pos (hbl.mp hbo)]
        repeat rw [if_neg n_21]
        repeat rw [if_neg n_20]
        repeat rw [if_neg hl]
        exact ⟨(rc_ly hh).up (by omega), rfl, ly_i σ⟩
    · have w1 : r_wr σ = 3 := by rw [r_wr, if_neg x15, if_neg x22, if_neg x16, if_neg hbo]
      have w2 : g_wr σ = σ := by rw [g_wr, if_neg x15, if_neg x22, if_neg x16, if_neg hbo]
      have w3 : ¬ r_wr σ = 0 := by rw [w1]; decide
      rw [g_blk, r_blk, if_neg w3, if_neg w3, w1, w2, h_blk, q_blk]
      repeat rw [if_neg n16]
      repeat rw [if_neg n17]
      repeat rw [if_neg n22]
      rw [if_neg (fun q => hbo (hbl.mpr q)), if_neg (fun q => hbo (hbl.mpr q))]
      exact ⟨hh.up (by omega), rfl, rfl⟩
  · have ho : z_op ρ = 19 := by rw [← c1]; exact o
    have n16 : ¬ z_op ρ = 16 := by rw [ho]; decide
    have n17 : ¬ z_op ρ < 17 := by rw [ho]; decide
    have n22 : ¬ 21 < z_op ρ := by rw [ho]; decide
    have x15 : ¬ x_op σ < 16 := by rw [o]; decide
    have x16 : ¬ x_op σ = 16 := by rw [o]; decide
    have x22 : ¬ 21 < x_op σ := by rw [o]; decide
    have n_17 : ¬ z_op ρ = 17 := by rw [ho]; decide
    have y_17 : ¬ x_op σ = 17 := by rw [o]; decide
    have n_18 : ¬ z_op ρ = 18 := by rw [ho]; decide
    have y_18 : ¬ x_op σ = 18 := by rw [o]; decide
    have n_20 : ¬ z_op ρ = 20 := by rw [ho]; decide
    have y_20 : ¬ x_op σ = 20 := by rw [o]; decide
    have n_21 : ¬ z_op ρ = 21 := by rw [ho]; decide
    have y_21 : ¬ x_op σ = 21 := by rw [o]; decide
    by_cases hbo : blO σ
    · have hX := bl_X (hbl.mp hbo) h1 h9
      by_cases hl : lyOk (z_mem ρ) (z_cp ρ) (z_cq ρ) (z_n ρ)
      · have w1 : r_wr σ = 0 := by rw [r_wr, if_neg x15, if_neg x22, if_neg x16, if_pos hbo, if_neg y_20, if_neg y_21, if_pos (hly.mpr hl)]
        have w2 : g_wr σ = g_ly σ := by rw [g_wr, if_neg x15, if_neg x22, if_neg x16, if_pos hbo, if_neg y_20, if_neg y_21]
        rw [g_blk, r_blk, if_pos w1, if_pos w1, w2, blkG, blkR, ly_op, h_blk, q_blk]
        repeat rw [if_neg x16]
        repeat rw [if_neg y_17]
        repeat rw [if_neg y_18]
        repeat rw [if_pos o]
        repeat rw [if_neg n16]
        repeat rw [if_neg n17]
        repeat rw [if_neg n22]
        repeat rw [if_pos (hbl.mp hbo)]
        repeat rw [if_neg n_21]
        repeat rw [if_neg n_20]
        repeat rw [if_pos hl]
        repeat rw [if_neg n_18]
        repeat rw [if_pos ho]
        have hs := sm_ly hh hl hX
        refine ⟨(rc_same (rc_ly hh)).up (by omega), ?_, by rw [(gsame_x _).2.2.2, ly_i]⟩
        by_cases hc : cm19 ρ
        · rw [if_pos hc, if_pos (hs.mpr hc)]
        · rw [if_neg hc, if_neg (fun q => hc (hs.mp q))]
      · have w1 : r_wr σ = 4 := by rw [r_wr, if_neg x15, if_neg x22, if_neg x16, if_pos hbo, if_neg y_20, if_neg y_21, if_neg (fun q => hl (hly.mp q))]
        have w2 : g_wr σ = g_ly σ := by rw [g_wr, if_neg x15, if_neg x22, if_neg x16, if_pos hbo, if_neg y_20, if_neg y_21]
        have w3 : ¬ r_wr σ = 0 := by rw [w1]; decide
        rw [g_blk, r_blk, if_neg w3, if_neg w3, w1, w2, h_blk, q_blk]
        repeat rw [if_neg n16]
        repeat rw [if_neg n17]
        repeat rw [if_neg n22]
        repeat rw [if_pos (hbl.mp hbo)]
        repeat rw [if_neg n_21]
        repeat rw [if_neg n_20]
        repeat rw [if_neg hl]
        exact ⟨(rc_ly hh).up (by omega), rfl, ly_i σ⟩
    · have w1 : r_wr σ = 3 := by rw [r_wr, if_neg x15, if_neg x22, if_neg x16, if_neg hbo]
      have w2 : g_wr σ = σ := by rw [g_wr, if_neg x15, if_neg x22, if_neg x16, if_neg hbo]
      have w3 : ¬ r_wr σ = 0 := by rw [w1]; decide
      rw [g_blk, r_blk, if_neg w3, if_neg w3, w1, w2, h_blk, q_blk]
      repeat rw [if_neg n16]
      repeat rw [if_neg n17]
      repeat rw [if_neg n22]
      rw [if_neg (fun q => hbo (hbl.mpr q)), if_neg (fun q => hbo (hbl.mpr q))]
      exact ⟨hh.up (by omega), rfl, rfl⟩
  · have ho : z_op ρ = 20 := by rw [← c1]; exact o
    have n16 : ¬ z_op ρ = 16 := by rw [ho]; decide
    have n17 : ¬ z_op ρ < 17 := by rw [ho]; decide
    have n22 : ¬ 21 < z_op ρ := by rw [ho]; decide
    have x15 : ¬ x_op σ < 16 := by rw [o]; decide
    have x16 : ¬ x_op σ = 16 := by rw [o]; decide
    have x22 : ¬ 21 < x_op σ := by rw [o]; decide
    have n_17 : ¬ z_op ρ = 17 := by rw [ho]; decide
    have y_17 : ¬ x_op σ = 17 := by rw [o]; decide
    have n_18 : ¬ z_op ρ = 18 := by rw [ho]; decide
    have y_18 : ¬ x_op σ = 18 := by rw [o]; decide
    have n_19 : ¬ z_op ρ = 19 := by rw [ho]; decide
    have y_19 : ¬ x_op σ = 19 := by rw [o]; decide
    have n_21 : ¬ z_op ρ = 21 := by rw [ho]; decide
    have y_21 : ¬ x_op σ = 21 := by rw [o]; decide
    by_cases hbo : blO σ
    · have hX := bl_X (hbl.mp hbo) h1 h9
      · have w1 : r_wr σ = 0 := by rw [r_wr, if_neg x15, if_neg x22, if_neg x16, if_pos hbo, if_pos o]
        have w2 : g_wr σ = σ := by rw [g_wr, if_neg x15, if_neg x22, if_neg x16, if_pos hbo, if_pos o]
        rw [g_blk, r_blk, if_pos w1, if_pos w1, w2, blkG, blkR, h_blk, q_blk]
        repeat rw [if_neg x16]
        repeat rw [if_neg y_17]
        repeat rw [if_neg y_18]
        repeat rw [if_neg y_19]
        repeat rw [if_pos o]
        repeat rw [if_neg n16]
        repeat rw [if_neg n17]
        repeat rw [if_neg n22]
        repeat rw [if_pos (hbl.mp hbo)]
        repeat rw [if_neg n_21]
        repeat rw [if_pos ho]
        exact ⟨rc_zero hh hI hX hR hn, rfl, zero_i σ⟩
    · have w1 : r_wr σ = 3 := by rw [r_wr, if_neg x15, if_neg x22, if_neg x16, if_neg hbo]
      have w2 : g_wr σ = σ := by rw [g_wr, if_neg x15, if_neg x22, if_neg x16, if_neg hbo]
      have w3 : ¬ r_wr σ = 0 := by rw [w1]; decide
      rw [g_blk, r_blk, if_neg w3, if_neg w3, w1, w2, h_blk, q_blk]
      repeat rw [if_neg n16]
      repeat rw [if_neg n17]
      repeat rw [if_neg n22]
      rw [if_neg (fun q => hbo (hbl.mpr q)), if_neg (fun q => hbo (hbl.mpr q))]
      exact ⟨hh.up (by omega), rfl, rfl⟩
  · have ho : z_op ρ = 21 := by rw [← c1]; exact o
    have n16 : ¬ z_op ρ = 16 := by rw [ho]; decide
    have n17 : ¬ z_op ρ < 17 := by rw [ho]; decide
    have n22 : ¬ 21 < z_op ρ := by rw [ho]; decide
    have x15 : ¬ x_op σ < 16 := by rw [o]; decide
    have x16 : ¬ x_op σ = 16 := by rw [o]; decide
    have x22 : ¬ 21 < x_op σ := by rw [o]; decide
    have n_17 : ¬ z_op ρ = 17 := by rw [ho]; decide
    have y_17 : ¬ x_op σ = 17 := by rw [o]; decide
    have n_18 : ¬ z_op ρ = 18 := by rw [ho]; decide
    have y_18 : ¬ x_op σ = 18 := by rw [o]; decide
    have n_19 : ¬ z_op ρ = 19 := by rw [ho]; decide
    have y_19 : ¬ x_op σ = 19 := by rw [o]; decide
    have n_20 : ¬ z_op ρ = 20 := by rw [ho]; decide
    have y_20 : ¬ x_op σ = 20 := by rw [o]; decide
    by_cases hbo : blO σ
    · have hX := bl_X (hbl.mp hbo) h1 h9
      by_cases hl : fstO (z_cp ρ) (z_n ρ) ∧ fstO (z_cq ρ) (z_n ρ)
      · have w1 : r_wr σ = 0 := by rw [r_wr, if_neg x15, if_neg x22, if_neg x16, if_pos hbo, if_neg y_20, if_pos o, if_pos (hfs.mpr hl)]
        have w2 : g_wr σ = σ := by rw [g_wr, if_neg x15, if_neg x22, if_neg x16, if_pos hbo, if_neg y_20, if_pos o]
        rw [g_blk, r_blk, if_pos w1, if_pos w1, w2, blkG, blkR, h_blk, q_blk]
        repeat rw [if_neg x16]
        repeat rw [if_neg y_17]
        repeat rw [if_neg y_18]
        repeat rw [if_neg y_19]
        repeat rw [if_neg y_20]
        repeat rw [if_neg n16]
        repeat rw [if_neg n17]
        repeat rw [if_neg n22]
        repeat rw [if_pos (hbl.mp hbo)]
        repeat rw [if_pos ho]
        repeat rw [if_pos hl]
        obtain ⟨a1, a2⟩ := rc_caw hh hI hl.1 hl.2 h9 hX hR hn
        exact ⟨a1, a2, caw_i σ⟩
      · have w1 : r_wr σ = 4 := by rw [r_wr, if_neg x15, if_neg x22, if_neg x16, if_pos hbo, if_neg y_20, if_pos o, if_neg (fun q => hl (hfs.mp q))]
        have w2 : g_wr σ = σ := by rw [g_wr, if_neg x15, if_neg x22, if_neg x16, if_pos hbo, if_neg y_20, if_pos o]
        have w3 : ¬ r_wr σ = 0 := by rw [w1]; decide
        rw [g_blk, r_blk, if_neg w3, if_neg w3, w1, w2, h_blk, q_blk]
        repeat rw [if_neg n16]
        repeat rw [if_neg n17]
        repeat rw [if_neg n22]
        repeat rw [if_pos (hbl.mp hbo)]
        repeat rw [if_pos ho]
        repeat rw [if_neg hl]
        exact ⟨hh.up (by omega), rfl, rfl⟩
    · have w1 : r_wr σ = 3 := by rw [r_wr, if_neg x15, if_neg x22, if_neg x16, if_neg hbo]
      have w2 : g_wr σ = σ := by rw [g_wr, if_neg x15, if_neg x22, if_neg x16, if_neg hbo]
      have w3 : ¬ r_wr σ = 0 := by rw [w1]; decide
      rw [g_blk, r_blk, if_neg w3, if_neg w3, w1, w2, h_blk, q_blk]
      repeat rw [if_neg n16]
      repeat rw [if_neg n17]
      repeat rw [if_neg n22]
      rw [if_neg (fun q => hbo (hbl.mpr q)), if_neg (fun q => hbo (hbl.mpr q))]
      exact ⟨hh.up (by omega), rfl, rfl⟩
