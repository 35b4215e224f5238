set_option maxHeartbeats 4000000 in
set_option maxRecDepth 100000 in
/-- op 21 -/
theorem kX7_compareAndWrite (l : Launch) (g : GG) (a : Nat → Nat) (σ : CS) (hn : x_nc σ ≤ 6) (hcb : ∀ k, k < x_nc σ → ∃ j : Nat, j < 64 ∧ x_cb σ k = nI j) (hX : pN (x_cx σ) + x_n σ ≤ 64) (ex : (x_cx σ).toInt32 = nI (pN (x_cx σ))) (hn9 : x_n σ ≤ 64) : Ct l yX7_compareAndWrite cX7_compareAndWrite 1 (some .int) ({ frames := 4, cells := 0, slots := 0, locals := 107 } : Room) g [.ref (a 0)] (dvW g a (x_mem σ) (x_med σ) (x_cb σ) (x_ca σ) (x_nc σ) (x_cg σ) (x_T σ) (x_op σ) (x_id σ) (x_fg σ) (x_n σ) (x_cp σ) (x_cq σ) (x_cx σ) (x_pg σ) (x_fi σ) (x_F σ) (x_rw σ) (x_on σ) (x_bi σ) (x_tu σ) (x_re σ) (x_dw σ) (x_dq σ) (x_br σ) (x_bs σ)) (fun v w' => v = some (.int (r_caw σ)) ∧ w' = dvW g a (x_mem (g_caw σ)) (x_med (g_caw σ)) (x_cb (g_caw σ)) (x_ca (g_caw σ)) (x_nc (g_caw σ)) (x_cg (g_caw σ)) (x_T (g_caw σ)) (x_op (g_caw σ)) (x_id (g_caw σ)) (x_fg (g_caw σ)) (x_n (g_caw σ)) (x_cp (g_caw σ)) (x_cq (g_caw σ)) (x_cx (g_caw σ)) (x_pg (g_caw σ)) (x_fi (g_caw σ)) (x_F (g_caw σ)) (x_rw (g_caw σ)) (x_on (g_caw σ)) (x_bi (g_caw σ)) (x_tu (g_caw σ)) (x_re (g_caw σ)) (x_dw (g_caw σ)) (x_dq (g_caw σ)) (x_br (g_caw σ)) (x_bs (g_caw σ))) := by
  refine Ct.of (by decide) (Nat.le_of_ble_eq_true rfl) ?_
  intro p e s m below meth c A ls H locs hx hb hr hml hlocks hts hown hin hA hS hK hP hD hl
  have hown : s.vm.findClass RX7 = some m.cls := hown
  have hl : lv_has ls 1 [(0, .ref (a 0))] := hl
  refine lv_aload_n hx hb dX7_compareAndWrite_0 rfl (lv_at hl 0 rfl) ?_
  refine va_get (D := g.1) (ci := 6) (v := .ref (a 10)) (C := RX7) (T := TX7) (N := 15) hx hb hts inX7 hown hK hP 0 rfl rfl 5 (by decide) (hts _ tw188) (fun _ h9 => h9) rfl dX7_compareAndWrite_1 ?_
  refine lv_aload_n hx hb dX7_compareAndWrite_4 rfl (lv_at hl 0 rfl) ?_
  refine va_get (D := g.1) (ci := 6) (v := .ref (a 9)) (C := RX7) (T := TX7) (N := 15) hx hb hts inX7 hown hK hP 0 rfl rfl 4 (by decide) (hts _ tw187) (fun _ h9 => h9) rfl dX7_compareAndWrite_5 ?_
  refine va_get (D := g.1) (ci := 0) (v := .long (x_cp σ)) (C := RX0) (T := TX0) (N := 7) hx hb hts inX0 hown hK hP 9 rfl rfl 4 (by decide) (hts _ tw146) (fun _ h9 => h9) rfl dX7_compareAndWrite_8 ?_
  refine lv_l2i hx hb dX7_compareAndWrite_11 rfl ?_
  refine lv_aload_n hx hb dX7_compareAndWrite_12 rfl (lv_at hl 0 rfl) ?_
  refine va_get (D := g.1) (ci := 6) (v := .ref (a 9)) (C := RX7) (T := TX7) (N := 15) hx hb hts inX7 hown hK hP 0 rfl rfl 4 (by decide) (hts _ tw187) (fun _ h9 => h9) rfl dX7_compareAndWrite_13 ?_
  refine va_get (D := g.1) (ci := 0) (v := .int (nI (x_n σ))) (C := RX0) (T := TX0) (N := 7) hx hb hts inX0 hown hK hP 9 rfl rfl 3 (by decide) (hts _ tw143) (fun _ h9 => h9) rfl dX7_compareAndWrite_16 ?_
  refine fr_go (va_runV (As := [.int ((x_cp σ).toInt32), .int (nI (x_n σ))]) (rest := []) ⟨hx, hb, hml, hown, hts⟩ (kX2_layStraight l g (a 10) (a 11) (x_fi σ) (nI (x_F σ)) (x_pg σ) ((x_cp σ).toInt32) (x_n σ) H.size) (cwV 2 hts (gdV tw545 tw546 tw547 tw8 tw548) rfl rfl rfl (by decide +kernel) ⟨Nat.le_of_ble_eq_true rfl, Nat.le_of_ble_eq_true rfl⟩) ⟨Pst.blind, va_recv hK hP (ci := 2) (q0 := 10) rfl rfl, fr_pre hK hP hD [10, 11] (by decide) rfl⟩ rfl rfl hl.1 rfl (lv_room (Nat.le_of_ble_eq_true rfl)) dX7_compareAndWrite_19 ⟨Nat.le_of_ble_eq_true rfl, Nat.le_of_ble_eq_true rfl⟩) hP hD hS hA [10, 11] rfl (fun v w9 H locs hq hP hD hS => ?_)
  obtain ⟨rfl, rfl⟩ := hq
  have hP : va_P g.1 vwCl (dvW g a (x_mem σ) (x_med σ) (x_cb σ) (x_ca σ) (x_nc σ) (x_cg σ) (x_T σ) (x_op σ) (x_id σ) (x_fg σ) (x_n σ) (x_cp σ) (x_cq σ) (x_cx σ) (x_pg σ) ((x_cp σ).toInt32) ((x_n σ) * 8) (x_rw σ) (x_on σ) (x_bi σ) (x_tu σ) (x_re σ) (x_dw σ) (x_dq σ) (x_br σ) (x_bs σ)) H := hP
  have hD : va_D A (dvW g a (x_mem σ) (x_med σ) (x_cb σ) (x_ca σ) (x_nc σ) (x_cg σ) (x_T σ) (x_op σ) (x_id σ) (x_fg σ) (x_n σ) (x_cp σ) (x_cq σ) (x_cx σ) (x_pg σ) ((x_cp σ).toInt32) ((x_n σ) * 8) (x_rw σ) (x_on σ) (x_bi σ) (x_tu σ) (x_re σ) (x_dw σ) (x_dq σ) (x_br σ) (x_bs σ)) := hD
  show W p l e _ s m _ below meth c H locs _ _ _ (F0 m (19 + 3) ls ([]))
  refine lv_aload_n hx hb dX7_compareAndWrite_22 rfl (lv_at hl 0 rfl) ?_
  refine fr_goA (va_runV (As := []) (rest := []) ⟨hx, hb, hml, hown, hts⟩ (kX7_sameAsData l g a (s_F (s_fi σ ((x_cp σ).toInt32)) ((x_n σ) * 8)) hn hX ex (show x_n σ * 8 < 2048 by omega) H.size) (cwV 0 hts (gdV tw533 tw535 tp24 tw1 tw536) rfl rfl rfl (by decide +kernel) ⟨Nat.le_of_ble_eq_true rfl, Nat.le_of_ble_eq_true rfl⟩) ⟨Pst.blind, va_recv hK hP (ci := 6) (q0 := 0) rfl rfl, fr_preA hK hP hD⟩ rfl rfl hl.1 rfl (lv_room (Nat.le_of_ble_eq_true rfl)) dX7_compareAndWrite_23 ⟨Nat.le_of_ble_eq_true rfl, Nat.le_of_ble_eq_true rfl⟩) hD hS hA (fun v w9 H locs hq hP hD hS => ?_)
  obtain ⟨rfl, rfl⟩ := hq
  obtain ⟨s1, hs1⟩ : ∃ z9 : CS, z9 = g_same (s_F (s_fi σ ((x_cp σ).toInt32)) ((x_n σ) * 8)) := ⟨_, rfl⟩
  rw [← hs1] at hP hD
  have hP : va_P g.1 vwCl (dvW g a (x_mem s1) (x_med s1) (x_cb s1) (x_ca s1) (x_nc s1) (x_cg s1) (x_T s1) (x_op s1) (x_id s1) (x_fg s1) (x_n s1) (x_cp s1) (x_cq s1) (x_cx s1) (x_pg s1) (x_fi s1) (x_F s1) (x_rw s1) (x_on s1) (x_bi s1) (x_tu s1) (x_re s1) (x_dw s1) (x_dq s1) (x_br s1) (x_bs s1)) H := hP
  have hD : va_D A (dvW g a (x_mem s1) (x_med s1) (x_cb s1) (x_ca s1) (x_nc s1) (x_cg s1) (x_T s1) (x_op s1) (x_id s1) (x_fg s1) (x_n s1) (x_cp s1) (x_cq s1) (x_cx s1) (x_pg s1) (x_fi s1) (x_F s1) (x_rw s1) (x_on s1) (x_bi s1) (x_tu s1) (x_re s1) (x_dw s1) (x_dq s1) (x_br s1) (x_bs s1)) := hD
  show W p l e _ s m _ below meth c H locs _ _ _ (F0 m (23 + 3) ls (.int (bI (r_same (s_F (s_fi σ ((x_cp σ).toInt32)) ((x_n σ) * 8)))) :: []))
  refine lv_if_ne (tgt := 31) hx hb dX7_compareAndWrite_26 (by decide) (fun c26 => ?_) (fun c26 => ?_)
  · have c26 := bI_t c26
    refine lv_aload_n hx hb dX7_compareAndWrite_31 rfl (lv_at hl 0 rfl) ?_
    refine va_get (D := g.1) (ci := 6) (v := .ref (a 10)) (C := RX7) (T := TX7) (N := 15) hx hb hts inX7 hown hK hP 0 rfl rfl 5 (by decide) (hts _ tw188) (fun _ h9 => h9) rfl dX7_compareAndWrite_32 ?_
    refine lv_aload_n hx hb dX7_compareAndWrite_35 rfl (lv_at hl 0 rfl) ?_
    refine va_get (D := g.1) (ci := 6) (v := .ref (a 9)) (C := RX7) (T := TX7) (N := 15) hx hb hts inX7 hown hK hP 0 rfl rfl 4 (by decide) (hts _ tw187) (fun _ h9 => h9) rfl dX7_compareAndWrite_36 ?_
    refine va_get (D := g.1) (ci := 0) (v := .long (x_cq s1)) (C := RX0) (T := TX0) (N := 7) hx hb hts inX0 hown hK hP 9 rfl rfl 5 (by decide) (hts _ tw149) (fun _ h9 => h9) rfl dX7_compareAndWrite_39 ?_
    refine lv_l2i hx hb dX7_compareAndWrite_42 rfl ?_
    refine lv_aload_n hx hb dX7_compareAndWrite_43 rfl (lv_at hl 0 rfl) ?_
    refine va_get (D := g.1) (ci := 6) (v := .ref (a 9)) (C := RX7) (T := TX7) (N := 15) hx hb hts inX7 hown hK hP 0 rfl rfl 4 (by decide) (hts _ tw187) (fun _ h9 => h9) rfl dX7_compareAndWrite_44 ?_
    refine va_get (D := g.1) (ci := 0) (v := .int (nI (x_n s1))) (C := RX0) (T := TX0) (N := 7) hx hb hts inX0 hown hK hP 9 rfl rfl 3 (by decide) (hts _ tw143) (fun _ h9 => h9) rfl dX7_compareAndWrite_47 ?_
    refine fr_go (va_runV (As := [.int ((x_cq s1).toInt32), .int (nI (x_n s1))]) (rest := []) ⟨hx, hb, hml, hown, hts⟩ (kX2_layStraight l g (a 10) (a 11) (x_fi s1) (nI (x_F s1)) (x_pg s1) ((x_cq s1).toInt32) (x_n s1) H.size) (cwV 2 hts (gdV tw545 tw546 tw547 tw8 tw548) rfl rfl rfl (by decide +kernel) ⟨Nat.le_of_ble_eq_true rfl, Nat.le_of_ble_eq_true rfl⟩) ⟨Pst.blind, va_recv hK hP (ci := 2) (q0 := 10) rfl rfl, fr_pre hK hP hD [10, 11] (by decide) rfl⟩ rfl rfl hl.1 rfl (lv_room (Nat.le_of_ble_eq_true rfl)) dX7_compareAndWrite_50 ⟨Nat.le_of_ble_eq_true rfl, Nat.le_of_ble_eq_true rfl⟩) hP hD hS hA [10, 11] rfl (fun v w9 H locs hq hP hD hS => ?_)
    obtain ⟨rfl, rfl⟩ := hq
    have hP : va_P g.1 vwCl (dvW g a (x_mem s1) (x_med s1) (x_cb s1) (x_ca s1) (x_nc s1) (x_cg s1) (x_T s1) (x_op s1) (x_id s1) (x_fg s1) (x_n s1) (x_cp s1) (x_cq s1) (x_cx s1) (x_pg s1) ((x_cq s1).toInt32) ((x_n s1) * 8) (x_rw s1) (x_on s1) (x_bi s1) (x_tu s1) (x_re s1) (x_dw s1) (x_dq s1) (x_br s1) (x_bs s1)) H := hP
    have hD : va_D A (dvW g a (x_mem s1) (x_med s1) (x_cb s1) (x_ca s1) (x_nc s1) (x_cg s1) (x_T s1) (x_op s1) (x_id s1) (x_fg s1) (x_n s1) (x_cp s1) (x_cq s1) (x_cx s1) (x_pg s1) ((x_cq s1).toInt32) ((x_n s1) * 8) (x_rw s1) (x_on s1) (x_bi s1) (x_tu s1) (x_re s1) (x_dw s1) (x_dq s1) (x_br s1) (x_bs s1)) := hD
    show W p l e _ s m _ below meth c H locs _ _ _ (F0 m (50 + 3) ls ([]))
    refine lv_aload_n hx hb dX7_compareAndWrite_53 rfl (lv_at hl 0 rfl) ?_
    refine fr_goA (va_runV (As := []) (rest := []) ⟨hx, hb, hml, hown, hts⟩ (kX7_storeFromData l g a (s_F (s_fi s1 ((x_cq s1).toInt32)) ((x_n s1) * 8)) (by rw [hs1]; exact hn) (by rw [hs1]; exact hcb) (by rw [hs1]; exact hX) (by rw [hs1]; exact ex) (by rw [hs1]; exact (show x_n σ * 8 < 2048 by omega)) H.size) (cwV 0 hts (gdV tw504 tw506 tp19 tw1 tw507) rfl rfl rfl (by decide +kernel) ⟨Nat.le_of_ble_eq_true rfl, Nat.le_of_ble_eq_true rfl⟩) ⟨Pst.blind, va_recv hK hP (ci := 6) (q0 := 0) rfl rfl, fr_preA hK hP hD⟩ rfl rfl hl.1 rfl (lv_room (Nat.le_of_ble_eq_true rfl)) dX7_compareAndWrite_54 ⟨Nat.le_of_ble_eq_true rfl, Nat.le_of_ble_eq_true rfl⟩) hD hS hA (fun v w9 H locs hq hP hD hS => ?_)
    obtain ⟨rfl, rfl⟩ := hq
    obtain ⟨s2, hs2⟩ : ∃ z9 : CS, z9 = g_store (s_F (s_fi s1 ((x_cq s1).toInt32)) ((x_n s1) * 8)) := ⟨_, rfl⟩
    rw [← hs2] at hP hD
    have hP : va_P g.1 vwCl (dvW g a (x_mem s2) (x_med s2) (x_cb s2) (x_ca s2) (x_nc s2) (x_cg s2) (x_T s2) (x_op s2) (x_id s2) (x_fg s2) (x_n s2) (x_cp s2) (x_cq s2) (x_cx s2) (x_pg s2) (x_fi s2) (x_F s2) (x_rw s2) (x_on s2) (x_bi s2) (x_tu s2) (x_re s2) (x_dw s2) (x_dq s2) (x_br s2) (x_bs s2)) H := hP
    have hD : va_D A (dvW g a (x_mem s2) (x_med s2) (x_cb s2) (x_ca s2) (x_nc s2) (x_cg s2) (x_T s2) (x_op s2) (x_id s2) (x_fg s2) (x_n s2) (x_cp s2) (x_cq s2) (x_cx s2) (x_pg s2) (x_fi s2) (x_F s2) (x_rw s2) (x_on s2) (x_bi s2) (x_tu s2) (x_re s2) (x_dw s2) (x_dq s2) (x_br s2) (x_bs s2)) := hD
    show W p l e _ s m _ below meth c H locs _ _ _ (F0 m (54 + 3) ls ([]))
    refine lv_iconst (v := 0) hx hb dX7_compareAndWrite_57 (by decide) ?_
    exact W.iret (v := 0) hx hb hr (fun t ht _ => ⟨⟨(some (.int 0)), dvW g a (x_mem s2) (x_med s2) (x_cb s2) (x_ca s2) (x_nc s2) (x_cg s2) (x_T s2) (x_op s2) (x_id s2) (x_fg s2) (x_n s2) (x_cp s2) (x_cq s2) (x_cx s2) (x_pg s2) (x_fi s2) (x_F s2) (x_rw s2) (x_on s2) (x_bi s2) (x_tu s2) (x_re s2) (x_dw s2) (x_dq s2) (x_br s2) (x_bs s2), rfl, ⟨congrArg (fun z : Int32 => some (Value.int z)) (if_pos (show r_same (g_st σ (x_cp σ)) from c26)).symm, by rw [g_caw, if_pos (show r_same (g_st σ (x_cp σ)) from c26), hs2, hs1]; rfl⟩, rfl, by rw [ht]; exact hP⟩, hS.F ht⟩) hS.2.2 dX7_compareAndWrite_58
  · have c26 := bI_f c26
    refine lv_iconst (v := 5) hx hb dX7_compareAndWrite_29 (by decide) ?_
    exact W.iret (v := 5) hx hb hr (fun t ht _ => ⟨⟨(some (.int 5)), dvW g a (x_mem s1) (x_med s1) (x_cb s1) (x_ca s1) (x_nc s1) (x_cg s1) (x_T s1) (x_op s1) (x_id s1) (x_fg s1) (x_n s1) (x_cp s1) (x_cq s1) (x_cx s1) (x_pg s1) (x_fi s1) (x_F s1) (x_rw s1) (x_on s1) (x_bi s1) (x_tu s1) (x_re s1) (x_dw s1) (x_dq s1) (x_br s1) (x_bs s1), rfl, ⟨congrArg (fun z : Int32 => some (Value.int z)) (if_neg (show ¬ r_same (g_st σ (x_cp σ)) from c26)).symm, by rw [g_caw, if_neg (show ¬ r_same (g_st σ (x_cp σ)) from c26), hs1]; rfl⟩, rfl, by rw [ht]; exact hP⟩, hS.F ht⟩) hS.2.2 dX7_compareAndWrite_30
