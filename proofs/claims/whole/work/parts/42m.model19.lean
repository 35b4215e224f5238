/-! the class and the reference, side by side -/
def Rel (N : Nat) (σ : CS) (ρ : RS) : Prop := (x_mem σ = z_mem ρ ∧ x_T σ = z_T ρ ∧ x_on σ = z_on ρ ∧ x_bi σ = z_bi ρ ∧ x_tu σ = z_tu ρ ∧ x_cg σ = z_cg ρ) ∧ DR (x_ds σ) (z_R ρ, z_cb ρ) (z_nc ρ) ∧ (x_dw σ = z_dn ρ ∧ x_dq σ = z_fa ρ ∧ x_br σ = z_br ρ ∧ x_bs σ = z_bs ρ) ∧ z_dn ρ ≤ N ∧ z_fa ρ ≤ N ∧ z_br ρ ≤ N ∧ z_bs ρ ≤ N
def Cm (σ : CS) (ρ : RS) : Prop := x_op σ = z_op ρ ∧ x_fg σ = z_fg ρ ∧ x_n σ = z_n ρ ∧ x_cp σ = z_cp ρ ∧ x_cq σ = z_cq ρ ∧ x_cx σ = z_cx ρ ∧ (nI (x_re σ)).toInt64 = z_re ρ
def RC (N : Nat) (σ : CS) (ρ : RS) : Prop := Rel N σ ρ ∧ Cm σ ρ
theorem Rel.up {N M : Nat} {σ : CS} {ρ : RS} (h : Rel N σ ρ) (hN : N ≤ M) : Rel M σ ρ := ⟨h.1, h.2.1, h.2.2.1, by have := h.2.2.2; omega⟩
theorem RC.up {N M : Nat} {σ : CS} {ρ : RS} (h : RC N σ ρ) (hN : N ≤ M) : RC M σ ρ := ⟨h.1.up hN, h.2⟩
theorem rc_T {N : Nat} {σ : CS} {ρ : RS} {T T' : Nat → Nat → Int32} (h : RC N σ ρ) (e : T = T') : RC N (s_T σ T) (w_T ρ T') := by
  obtain ⟨⟨⟨e1, e2, e3, e4, e5, e6⟩, hd, hf, hb⟩, hc⟩ := h
  exact ⟨⟨⟨e1, e, e3, e4, e5, e6⟩, hd, hf, hb⟩, hc⟩
theorem rc_mem {N : Nat} {σ : CS} {ρ : RS} {f f' : Nat → Int64} (h : RC N σ ρ) (e : f = f') : RC N (s_mem σ f) (w_mem ρ f') := by
  obtain ⟨⟨⟨e1, e2, e3, e4, e5, e6⟩, hd, hf, hb⟩, hc⟩ := h
  exact ⟨⟨⟨e, e2, e3, e4, e5, e6⟩, hd, hf, hb⟩, hc⟩
theorem rc_re {N : Nat} {σ : CS} {ρ : RS} {f : Nat} {f' : Int64} (h : RC N σ ρ) (e : (nI f).toInt64 = f') : RC N (s_re σ f) (w_re ρ f') := by
  obtain ⟨⟨⟨e1, e2, e3, e4, e5, e6⟩, hd, hf, hb⟩, ⟨c1, c2, c3, c4, c5, c6, c7⟩⟩ := h
  exact ⟨⟨⟨e1, e2, e3, e4, e5, e6⟩, hd, hf, hb⟩, ⟨c1, c2, c3, c4, c5, c6, e⟩⟩
theorem rc_cg {N : Nat} {σ : CS} {ρ : RS} {f : Int32} (h : RC N σ ρ) : RC N (s_cg σ f) (w_cg ρ f) := by
  obtain ⟨⟨⟨e1, e2, e3, e4, e5, e6⟩, hd, hf, hb⟩, hc⟩ := h
  exact ⟨⟨⟨e1, e2, e3, e4, e5, rfl⟩, hd, hf, hb⟩, hc⟩
theorem rc_fl {N : Nat} {σ : CS} {ρ : RS} (h : RC N σ ρ) (hR : RI (z_R ρ, z_cb ρ) (z_nc ρ)) : RC N (s_nc (s_med σ (flM (x_cb σ) (x_ca σ) (x_med σ) (x_nc σ))) 0) (h_fl ρ) := by
  obtain ⟨⟨⟨e1, e2, e3, e4, e5, e6⟩, hd, hf, hb⟩, hc⟩ := h
  exact ⟨⟨⟨e1, e2, e3, e4, e5, e6⟩, DR_fl hd hR, hf, hb⟩, hc⟩
theorem rc_ly {N : Nat} {σ : CS} {ρ : RS} (h : RC N σ ρ) : RC N (g_ly σ) ρ := ⟨⟨h.1.1, h.1.2.1, h.1.2.2.1, h.1.2.2.2⟩, h.2⟩
theorem rc_rw {N : Nat} {σ : CS} {ρ : RS} {r : Nat → Int64} (h : RC N σ ρ) : RC N (s_rw σ r) ρ := ⟨⟨h.1.1, h.1.2.1, h.1.2.2.1, h.1.2.2.2⟩, h.2⟩
theorem rc_same {N : Nat} {σ : CS} {ρ : RS} (h : RC N σ ρ) : RC N (g_same σ) ρ := rc_rw h
theorem rc_gst {N : Nat} {σ : CS} {ρ : RS} {x : Int64} (h : RC N σ ρ) : RC N (g_st σ x) ρ := ⟨⟨h.1.1, h.1.2.1, h.1.2.2.1, h.1.2.2.2⟩, h.2⟩
theorem tld_eq {N : Nat} {σ : CS} {ρ : RS} (h : Rel N σ ρ) (hN : N < 2 ^ 31) : ∀ k, k < 8 → tldR σ k = tldQ ρ (0 * 8 + k) := by
  obtain ⟨-, -, ⟨f1, f2, f3, f4⟩, b1, b2, b3, b4⟩ := h
  intro k hk
  unfold tldR tldQ
  rw [f1, f2, f3, f4, nI_l (by omega), nI_l (by omega), nI_l (by omega), nI_l (by omega), Nat.zero_mul, Nat.zero_add]
  unfold vp_updL
  by_cases k4 : k = 4
  · subst k4; rfl
  by_cases k3 : k = 3
  · subst k3; rfl
  by_cases k2 : k = 2
  · subst k2; rfl
  by_cases k1 : k = 1
  · subst k1; rfl
  by_cases k0 : k = 0
  · subst k0; rfl
  rw [if_neg k4, if_neg k3, if_neg k2, if_neg k1, if_neg k0, if_neg k4, if_neg k3, if_neg k2, if_neg k1, if_neg k0, flL_at hk]
  repeat' split
  all_goals rfl
theorem ly_ad {N : Nat} {σ : CS} {ρ : RS} (h : RC N σ ρ) (hl : lyOk (z_mem ρ) (z_cp ρ) (z_cq ρ) (z_n ρ)) : ∀ k, k < z_n ρ * 8 → adr (x_fi (g_ly σ)) (x_F (g_ly σ)) (x_pg (g_ly σ)) k = adN (z_mem ρ) (z_cp ρ) (z_cq ρ) (z_n ρ) k ∧ (adN (z_mem ρ) (z_cp ρ) (z_cq ρ) (z_n ρ) k).toNatClampNeg < 1024 ∧ adN (z_mem ρ) (z_cp ρ) (z_cq ρ) (z_n ρ) k = nI (adN (z_mem ρ) (z_cp ρ) (z_cq ρ) (z_n ρ) k).toNatClampNeg := by
  intro k hk
  refine ⟨?_, adN_n hl hk⟩
  obtain ⟨⟨⟨e1, -⟩, -⟩, -, -, c3, c4, c5, -⟩ := h
  show adr (if hol (x_cp σ) then nI (pN (x_cp σ)) else x_fi σ) (if hol (x_cp σ) then fsN (x_n σ) (pN (x_cp σ)) else x_F σ) (lyP (x_pg σ) (x_mem σ) (x_cp σ) (x_cq σ) (x_n σ)) k = _
  rw [c4, c5, c3, e1, if_pos hl.1, if_pos hl.1]
  exact ad_eq hl hk
theorem rc_adm {N : Nat} {σ : CS} {ρ : RS} (h : RC N σ ρ) (hN : N < 2 ^ 31) (hR : RI (z_R ρ, z_cb ρ) (z_nc ρ)) : RC N (g_adm σ) (h_adm ρ) ∧ r_adm σ = q_adm ρ ∧ x_id (g_adm σ) = x_id σ := by
  have hh := h
  obtain ⟨⟨⟨e1, e2, e3, e4, e5, e6⟩, hd, hf, hb⟩, ⟨c1, c2, c3, c4, c5, c6, c7⟩⟩ := h
  unfold g_adm h_adm r_adm q_adm
  rw [← c1]
  by_cases o1 : x_op σ = 1
  · repeat rw [if_pos o1]
    have hi : mcO σ ↔ mcP ρ := by show bes (x_cp σ) ∧ ¬ hasC (x_T σ) (x_cp σ) ∧ fitR (x_cq σ) (x_cx σ) 1 ↔ _; rw [e2, c4, c5, c6]
    unfold g_mc r_mc
    by_cases hm : mcO σ
    · rw [if_pos hm, if_pos hm, if_pos (hi.mp hm), if_pos (hi.mp hm)]
      exact ⟨rc_T hh (by rw [e2, c4, c5, c6, c2]), rfl, rfl⟩
    · rw [if_neg hm, if_neg hm, if_neg (fun q => hm (hi.mpr q)), if_neg (fun q => hm (hi.mpr q))]
      exact ⟨hh, rfl, rfl⟩
  repeat rw [if_neg o1]
  by_cases o2 : x_op σ = 2
  · repeat rw [if_pos o2]
    have hi : msO σ ↔ msP ρ := by show bes (x_cp σ) ∧ ¬ hasS (x_T σ) (x_cp σ) ∧ fitR (x_cq σ) (x_cx σ) 4 ∧ bes (nI (x_n σ - 1)).toInt64 ∧ hasC (x_T σ) (nI (x_n σ - 1)).toInt64 ↔ _; rw [e2, c4, c5, c6, c3]
    unfold g_ms r_ms
    by_cases hm : msO σ
    · rw [if_pos hm, if_pos hm, if_pos (hi.mp hm), if_pos (hi.mp hm)]
      exact ⟨rc_T hh (by rw [e2, c4, c5, c6, c3]), rfl, rfl⟩
    · rw [if_neg hm, if_neg hm, if_neg (fun q => hm (hi.mpr q)), if_neg (fun q => hm (hi.mpr q))]
      exact ⟨hh, rfl, rfl⟩
  repeat rw [if_neg o2]
  by_cases o3 : x_op σ = 3
  · repeat rw [if_pos o3]
    have hi : dcO σ ↔ dcP ρ := by show bes (x_cp σ) ∧ hasC (x_T σ) (x_cp σ) ∧ ¬ ansB (x_T σ) (x_cp σ) 4 = true ↔ _; rw [e2, c4]
    unfold g_dc r_dc
    by_cases hm : dcO σ
    · rw [if_pos hm, if_pos hm, if_pos (hi.mp hm), if_pos (hi.mp hm)]
      exact ⟨rc_T hh (by rw [e2, c4]), rfl, rfl⟩
    · rw [if_neg hm, if_neg hm, if_neg (fun q => hm (hi.mpr q)), if_neg (fun q => hm (hi.mpr q))]
      exact ⟨hh, rfl, rfl⟩
  repeat rw [if_neg o3]
  by_cases o4 : x_op σ = 4
  · repeat rw [if_pos o4]
    have hi : dsO σ ↔ dsP ρ := by show bes (x_cp σ) ∧ hasS (x_T σ) (x_cp σ) ↔ _; rw [e2, c4]
    unfold g_ds r_ds
    by_cases hm : dsO σ
    · rw [if_pos hm, if_pos hm, if_pos (hi.mp hm), if_pos (hi.mp hm)]
      exact ⟨rc_T hh (by rw [e2, c4]), rfl, rfl⟩
    · rw [if_neg hm, if_neg hm, if_neg (fun q => hm (hi.mpr q)), if_neg (fun q => hm (hi.mpr q))]
      exact ⟨hh, rfl, rfl⟩
  repeat rw [if_neg o4]
  by_cases o5 : x_op σ = 5
  · repeat rw [if_pos o5]
    have er : (nI (if x_cg σ = 0 then 0 else 1)).toInt64 = if z_cg ρ = 0 then 0 else 1 := by rw [e6]; split <;> rfl
    unfold g_sc r_sc
    rw [← c4]
    by_cases p0 : x_cp σ = 0
    · repeat rw [if_pos p0]
      refine ⟨?_, rfl, rfl⟩
      exact ⟨⟨⟨e1, e2, e3, e4, e5, rfl⟩, DR_fl hd hR, hf, hb⟩, ⟨c1, c2, c3, c4, c5, c6, er⟩⟩
    · repeat rw [if_neg p0]
      by_cases p1 : x_cp σ = 1
      · repeat rw [if_pos p1]
        exact ⟨⟨⟨⟨e1, e2, e3, e4, e5, rfl⟩, hd, hf, hb⟩, ⟨c1, c2, c3, c4, c5, c6, er⟩⟩, rfl, rfl⟩
      · repeat rw [if_neg p1]
        exact ⟨hh, rfl, rfl⟩
  repeat rw [if_neg o5]
  by_cases o6 : x_op σ = 6
  · repeat rw [if_pos o6]
    unfold g_rp r_rp
    rw [c3, e1, c4, c5]
    by_cases n1 : z_n ρ = 1
    · repeat rw [if_pos n1]
      by_cases hl : lyOk (z_mem ρ) (z_cp ρ) (z_cq ρ) (z_n ρ)
      · rw [if_pos (show z_n ρ = 1 ∧ lyOk (z_mem ρ) (z_cp ρ) (z_cq ρ) (z_n ρ) from ⟨n1, hl⟩)]
        repeat rw [if_pos hl]
        refine ⟨?_, rfl, rfl⟩
        have had := ly_ad hh hl
        have he := rt_rel (mem := z_mem ρ) (i := 0) (fi := x_fi (g_ly σ)) (F := x_F (g_ly σ)) (pg := x_pg (g_ly σ)) (ad := adN (z_mem ρ) (z_cp ρ) (z_cq ρ) (z_n ρ)) (v := tldQ ρ) (row := tldR σ) (fun k hk => had _ (by omega)) (tld_eq hh.1 hN) 8 (Nat.le_refl _)
        refine rc_mem (rc_rw (rc_ly hh)) ?_
        refine Eq.trans ?_ he
        show rtd (x_mem σ) _ _ _ _ 0 8 = rtd (z_mem ρ) _ _ _ _ 0 8
        rw [e1]
      · rw [if_neg (show ¬ (z_n ρ = 1 ∧ lyOk (z_mem ρ) (z_cp ρ) (z_cq ρ) (z_n ρ)) from fun q => hl q.2)]
        repeat rw [if_neg hl]
        exact ⟨rc_ly hh, rfl, rfl⟩
    · rw [if_neg (show ¬ (z_n ρ = 1 ∧ lyOk (z_mem ρ) (z_cp ρ) (z_cq ρ) (z_n ρ)) from fun q => n1 q.1)]
      repeat rw [if_neg n1]
      exact ⟨hh, rfl, rfl⟩
  repeat rw [if_neg o6]
  by_cases o7 : x_op σ = 7
  · repeat rw [if_pos o7]
    exact ⟨rc_re hh (by rw [show x_nc σ = z_nc ρ from hd.1]), rfl, rfl⟩
  · repeat rw [if_neg o7]
    exact ⟨hh, rfl, rfl⟩
