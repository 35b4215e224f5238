set_option maxHeartbeats 4000000 in
set_option maxRecDepth 100000 in
/-- op 5 -/
theorem kX7_switchCaching (l : Launch) (g : GG) (a : Nat → Nat) (σ : CS) (hn : x_nc σ ≤ 6) (hcb : ∀ k, k < x_nc σ → ∃ j : Nat, j < 64 ∧ x_cb σ k = nI j) (hz : x_cg σ = 0 ∨ x_cg σ = 1) : Ct l yX7_switchCaching cX7_switchCaching 1 (some .int) ({ frames := 3, cells := 0, slots := 0, locals := 82 } : Room) g [.ref (a 0)] (dvW g a (x_mem σ) (x_med σ) (x_cb σ) (x_ca σ) (x_nc σ) (x_cg σ) (x_T σ) (x_op σ) (x_id σ) (x_fg σ) (x_n σ) (x_cp σ) (x_cq σ) (x_cx σ) (x_pg σ) (x_fi σ) (x_F σ) (x_rw σ) (x_on σ) (x_bi σ) (x_tu σ) (x_re σ) (x_dw σ) (x_dq σ) (x_br σ) (x_bs σ)) (fun v w' => v = some (.int (r_sc σ)) ∧ w' = dvW g a (x_mem (g_sc σ)) (x_med (g_sc σ)) (x_cb (g_sc σ)) (x_ca (g_sc σ)) (x_nc (g_sc σ)) (x_cg (g_sc σ)) (x_T (g_sc σ)) (x_op (g_sc σ)) (x_id (g_sc σ)) (x_fg (g_sc σ)) (x_n (g_sc σ)) (x_cp (g_sc σ)) (x_cq (g_sc σ)) (x_cx (g_sc σ)) (x_pg (g_sc σ)) (x_fi (g_sc σ)) (x_F (g_sc σ)) (x_rw (g_sc σ)) (x_on (g_sc σ)) (x_bi (g_sc σ)) (x_tu (g_sc σ)) (x_re (g_sc σ)) (x_dw (g_sc σ)) (x_dq (g_sc σ)) (x_br (g_sc σ)) (x_bs (g_sc σ))) := by
  refine Ct.of (by decide) (Nat.le_of_ble_eq_true rfl) ?_
  intro p e s m below meth c A ls H locs hx hb hr hml hlocks hts hown hin hA hS hK hP hD hl
  have hown : s.vm.findClass RX7 = some m.cls := hown
  have hl : lv_has ls 1 [(0, .ref (a 0))] := hl
  refine lv_aload_n hx hb dX7_switchCaching_0 rfl (lv_at hl 0 rfl) ?_
  refine va_get (D := g.1) (ci := 6) (v := .ref (a 9)) (C := RX7) (T := TX7) (N := 15) hx hb hts inX7 hown hK hP 0 rfl rfl 4 (by decide) (hts _ tw187) (fun _ h9 => h9) rfl dX7_switchCaching_1 ?_
  refine va_get (D := g.1) (ci := 0) (v := .long (x_cp σ)) (C := RX0) (T := TX0) (N := 7) hx hb hts inX0 hown hK hP 9 rfl rfl 4 (by decide) (hts _ tw146) (fun _ h9 => h9) rfl dX7_switchCaching_4 ?_
  refine lv_lconst (v := 0) hx hb dX7_switchCaching_7 (by decide) ?_
  refine W.lcmp hx hb dX7_switchCaching_8 ?_
  refine lv_if_eq (tgt := 26) hx hb dX7_switchCaching_9 (by decide) (fun c9 => ?_) (fun c9 => ?_)
  · have c9 := (lg_cmp_eq (x_cp σ) 0).mp c9
    refine lv_aload_n hx hb dX7_switchCaching_26 rfl (lv_at hl 0 rfl) ?_
    refine lv_aload_n hx hb dX7_switchCaching_27 rfl (lv_at hl 0 rfl) ?_
    refine va_get (D := g.1) (ci := 6) (v := .ref (a 3)) (C := RX7) (T := TX7) (N := 15) hx hb hts inX7 hown hK hP 0 rfl rfl 1 (by decide) (hts _ tw184) (fun _ h9 => h9) rfl dX7_switchCaching_28 ?_
    refine fr_go (va_runV (As := []) (rest := [.ref (a 0)]) ⟨hx, hb, hml, hown, hts⟩ (kX3_isCaching l g (a 3) (a 4) (a 5) (a 6) (x_med σ) (x_cb σ) (x_ca σ) (x_nc σ) (x_cg σ) hz H.size) (cwV 0 hts (gdV tw435 tw436 tw437 tw3 tw438) rfl rfl rfl (by decide +kernel) ⟨Nat.le_of_ble_eq_true rfl, Nat.le_of_ble_eq_true rfl⟩) ⟨Pst.blind, va_recv hK hP (ci := 3) (q0 := 3) rfl rfl, fr_pre hK hP hD [3, 4, 5, 6] (by decide) rfl⟩ rfl rfl hl.1 rfl (lv_room (Nat.le_of_ble_eq_true rfl)) dX7_switchCaching_31 ⟨Nat.le_of_ble_eq_true rfl, Nat.le_of_ble_eq_true rfl⟩) hP hD hS hA [3, 4, 5, 6] rfl (fun v w9 H locs hq hP hD hS => ?_)
    obtain ⟨rfl, rfl⟩ := hq
    have hP : va_P g.1 vwCl (dvW g a (x_mem σ) (x_med σ) (x_cb σ) (x_ca σ) (x_nc σ) (x_cg σ) (x_T σ) (x_op σ) (x_id σ) (x_fg σ) (x_n σ) (x_cp σ) (x_cq σ) (x_cx σ) (x_pg σ) (x_fi σ) (x_F σ) (x_rw σ) (x_on σ) (x_bi σ) (x_tu σ) (x_re σ) (x_dw σ) (x_dq σ) (x_br σ) (x_bs σ)) H := hP
    have hD : va_D A (dvW g a (x_mem σ) (x_med σ) (x_cb σ) (x_ca σ) (x_nc σ) (x_cg σ) (x_T σ) (x_op σ) (x_id σ) (x_fg σ) (x_n σ) (x_cp σ) (x_cq σ) (x_cx σ) (x_pg σ) (x_fi σ) (x_F σ) (x_rw σ) (x_on σ) (x_bi σ) (x_tu σ) (x_re σ) (x_dw σ) (x_dq σ) (x_br σ) (x_bs σ)) := hD
    show W p l e _ s m _ below meth c H locs _ _ _ (F0 m (31 + 3) ls (.int (x_cg σ) :: .ref (a 0) :: []))
    refine lv_if_eq (tgt := 41) hx hb dX7_switchCaching_34 (by decide) (fun c34 => ?_) (fun c34 => ?_)
    · refine lv_iconst (v := 0) hx hb dX7_switchCaching_41 (by decide) ?_
      refine fr_topi (y := nI 0) nI_0.symm ?_
      refine va_put (D := g.1) (ci := 6) (v := .int (nI 0)) (ty := .int) (C := RX7) (T := TX7) (N := 15) hx hb hts inX7 tyX7 tyX7_ok nmX7 hown hK hP hD hS 0 rfl rfl 10 (by decide) (hts _ tw193) (fun _ h9 => h9) rfl (by decide +kernel) rfl rfl (Nat.le_of_ble_eq_true rfl) dX7_switchCaching_42 (fun H locs hP hD hS => ?_)
      have hP : va_P g.1 vwCl (dvW g a (x_mem σ) (x_med σ) (x_cb σ) (x_ca σ) (x_nc σ) (x_cg σ) (x_T σ) (x_op σ) (x_id σ) (x_fg σ) (x_n σ) (x_cp σ) (x_cq σ) (x_cx σ) (x_pg σ) (x_fi σ) (x_F σ) (x_rw σ) (x_on σ) (x_bi σ) (x_tu σ) 0 (x_dw σ) (x_dq σ) (x_br σ) (x_bs σ)) H := hP
      have hD : va_D A (dvW g a (x_mem σ) (x_med σ) (x_cb σ) (x_ca σ) (x_nc σ) (x_cg σ) (x_T σ) (x_op σ) (x_id σ) (x_fg σ) (x_n σ) (x_cp σ) (x_cq σ) (x_cx σ) (x_pg σ) (x_fi σ) (x_F σ) (x_rw σ) (x_on σ) (x_bi σ) (x_tu σ) 0 (x_dw σ) (x_dq σ) (x_br σ) (x_bs σ)) := hD
      refine lv_aload_n hx hb dX7_switchCaching_45 rfl (lv_at hl 0 rfl) ?_
      refine va_get (D := g.1) (ci := 6) (v := .ref (a 3)) (C := RX7) (T := TX7) (N := 15) hx hb hts inX7 hown hK hP 0 rfl rfl 1 (by decide) (hts _ tw184) (fun _ h9 => h9) rfl dX7_switchCaching_46 ?_
      refine lv_aload_n hx hb dX7_switchCaching_49 rfl (lv_at hl 0 rfl) ?_
      refine va_get (D := g.1) (ci := 6) (v := .ref (a 9)) (C := RX7) (T := TX7) (N := 15) hx hb hts inX7 hown hK hP 0 rfl rfl 4 (by decide) (hts _ tw187) (fun _ h9 => h9) rfl dX7_switchCaching_50 ?_
      refine va_get (D := g.1) (ci := 0) (v := .long (x_cp σ)) (C := RX0) (T := TX0) (N := 7) hx hb hts inX0 hown hK hP 9 rfl rfl 4 (by decide) (hts _ tw146) (fun _ h9 => h9) rfl dX7_switchCaching_53 ?_
      refine lv_lconst (v := 1) hx hb dX7_switchCaching_56 (by decide) ?_
      refine W.lcmp hx hb dX7_switchCaching_57 ?_
      refine lv_if_ne (tgt := 65) hx hb dX7_switchCaching_58 (by decide) (fun _ => ?_) (fun q9 => absurd q9 (by rw [c9]; decide))
      refine lv_iconst (v := 0) hx hb dX7_switchCaching_65 (by decide) ?_
      refine fr_go (va_runV (As := [.int 0]) (rest := []) ⟨hx, hb, hml, hown, hts⟩ (kX3_setCaching l g (a 3) (a 4) (a 5) (a 6) (x_med σ) (x_cb σ) (x_ca σ) (x_nc σ) (x_cg σ) 0 hn hcb (by decide) H.size) (cwV 1 hts (gdV tw439 tw440 tw441 tw3 tw442) rfl rfl rfl (by decide +kernel) ⟨Nat.le_of_ble_eq_true rfl, Nat.le_of_ble_eq_true rfl⟩) ⟨Pst.blind, va_recv hK hP (ci := 3) (q0 := 3) rfl rfl, fr_pre hK hP hD [3, 4, 5, 6] (by decide) rfl⟩ rfl rfl hl.1 rfl (lv_room (Nat.le_of_ble_eq_true rfl)) dX7_switchCaching_66 ⟨Nat.le_of_ble_eq_true rfl, Nat.le_of_ble_eq_true rfl⟩) hP hD hS hA [3, 4, 5, 6] rfl (fun v w9 H locs hq hP hD hS => ?_)
      obtain ⟨rfl, rfl⟩ := hq
      have hP : va_P g.1 vwCl (dvW g a (x_mem σ) (if 0 = 0 then flM (x_cb σ) (x_ca σ) (x_med σ) (x_nc σ) else (x_med σ)) (x_cb σ) (x_ca σ) (if 0 = 0 then 0 else (x_nc σ)) 0 (x_T σ) (x_op σ) (x_id σ) (x_fg σ) (x_n σ) (x_cp σ) (x_cq σ) (x_cx σ) (x_pg σ) (x_fi σ) (x_F σ) (x_rw σ) (x_on σ) (x_bi σ) (x_tu σ) 0 (x_dw σ) (x_dq σ) (x_br σ) (x_bs σ)) H := hP
      have hD : va_D A (dvW g a (x_mem σ) (if 0 = 0 then flM (x_cb σ) (x_ca σ) (x_med σ) (x_nc σ) else (x_med σ)) (x_cb σ) (x_ca σ) (if 0 = 0 then 0 else (x_nc σ)) 0 (x_T σ) (x_op σ) (x_id σ) (x_fg σ) (x_n σ) (x_cp σ) (x_cq σ) (x_cx σ) (x_pg σ) (x_fi σ) (x_F σ) (x_rw σ) (x_on σ) (x_bi σ) (x_tu σ) 0 (x_dw σ) (x_dq σ) (x_br σ) (x_bs σ)) := hD
      show W p l e _ s m _ below meth c H locs _ _ _ (F0 m (66 + 3) ls ([]))
      refine lv_iconst (v := 0) hx hb dX7_switchCaching_69 (by decide) ?_
      exact W.iret (v := 0) hx hb hr (fun t ht _ => ⟨⟨(some (.int 0)), dvW g a (x_mem σ) (if 0 = 0 then flM (x_cb σ) (x_ca σ) (x_med σ) (x_nc σ) else (x_med σ)) (x_cb σ) (x_ca σ) (if 0 = 0 then 0 else (x_nc σ)) 0 (x_T σ) (x_op σ) (x_id σ) (x_fg σ) (x_n σ) (x_cp σ) (x_cq σ) (x_cx σ) (x_pg σ) (x_fi σ) (x_F σ) (x_rw σ) (x_on σ) (x_bi σ) (x_tu σ) 0 (x_dw σ) (x_dq σ) (x_br σ) (x_bs σ), rfl, ⟨congrArg (fun z : Int32 => some (Value.int z)) (by rw [r_sc, if_pos c9]), by rw [g_sc, if_pos c9, if_pos c34] <;> rfl⟩, rfl, by rw [ht]; exact hP⟩, hS.F ht⟩) hS.2.2 dX7_switchCaching_70
    · refine lv_iconst (v := 1) hx hb dX7_switchCaching_37 (by decide) ?_
      refine fr_topi (y := nI 1) rfl ?_
      refine lv_goto (tgt := 42) hx hb dX7_switchCaching_38 (by decide) ?_
      refine va_put (D := g.1) (ci := 6) (v := .int (nI 1)) (ty := .int) (C := RX7) (T := TX7) (N := 15) hx hb hts inX7 tyX7 tyX7_ok nmX7 hown hK hP hD hS 0 rfl rfl 10 (by decide) (hts _ tw193) (fun _ h9 => h9) rfl (by decide +kernel) rfl rfl (Nat.le_of_ble_eq_true rfl) dX7_switchCaching_42 (fun H locs hP hD hS => ?_)
      have hP : va_P g.1 vwCl (dvW g a (x_mem σ) (x_med σ) (x_cb σ) (x_ca σ) (x_nc σ) (x_cg σ) (x_T σ) (x_op σ) (x_id σ) (x_fg σ) (x_n σ) (x_cp σ) (x_cq σ) (x_cx σ) (x_pg σ) (x_fi σ) (x_F σ) (x_rw σ) (x_on σ) (x_bi σ) (x_tu σ) 1 (x_dw σ) (x_dq σ) (x_br σ) (x_bs σ)) H := hP
      have hD : va_D A (dvW g a (x_mem σ) (x_med σ) (x_cb σ) (x_ca σ) (x_nc σ) (x_cg σ) (x_T σ) (x_op σ) (x_id σ) (x_fg σ) (x_n σ) (x_cp σ) (x_cq σ) (x_cx σ) (x_pg σ) (x_fi σ) (x_F σ) (x_rw σ) (x_on σ) (x_bi σ) (x_tu σ) 1 (x_dw σ) (x_dq σ) (x_br σ) (x_bs σ)) := hD
      refine lv_aload_n hx hb dX7_switchCaching_45 rfl (lv_at hl 0 rfl) ?_
      refine va_get (D := g.1) (ci := 6) (v := .ref (a 3)) (C := RX7) (T := TX7) (N := 15) hx hb hts inX7 hown hK hP 0 rfl rfl 1 (by decide) (hts _ tw184) (fun _ h9 => h9) rfl dX7_switchCaching_46 ?_
      refine lv_aload_n hx hb dX7_switchCaching_49 rfl (lv_at hl 0 rfl) ?_
      refine va_get (D := g.1) (ci := 6) (v := .ref (a 9)) (C := RX7) (T := TX7) (N := 15) hx hb hts inX7 hown hK hP 0 rfl rfl 4 (by decide) (hts _ tw187) (fun _ h9 => h9) rfl dX7_switchCaching_50 ?_
      refine va_get (D := g.1) (ci := 0) (v := .long (x_cp σ)) (C := RX0) (T := TX0) (N := 7) hx hb hts inX0 hown hK hP 9 rfl rfl 4 (by decide) (hts _ tw146) (fun _ h9 => h9) rfl dX7_switchCaching_53 ?_
      refine lv_lconst (v := 1) hx hb dX7_switchCaching_56 (by decide) ?_
      refine W.lcmp hx hb dX7_switchCaching_57 ?_
      refine lv_if_ne (tgt := 65) hx hb dX7_switchCaching_58 (by decide) (fun _ => ?_) (fun q9 => absurd q9 (by rw [c9]; decide))
      refine lv_iconst (v := 0) hx hb dX7_switchCaching_65 (by decide) ?_
      refine fr_go (va_runV (As := [.int 0]) (rest := []) ⟨hx, hb, hml, hown, hts⟩ (kX3_setCaching l g (a 3) (a 4) (a 5) (a 6) (x_med σ) (x_cb σ) (x_ca σ) (x_nc σ) (x_cg σ) 0 hn hcb (by decide) H.size) (cwV 1 hts (gdV tw439 tw440 tw441 tw3 tw442) rfl rfl rfl (by decide +kernel) ⟨Nat.le_of_ble_eq_true rfl, Nat.le_of_ble_eq_true rfl⟩) ⟨Pst.blind, va_recv hK hP (ci := 3) (q0 := 3) rfl rfl, fr_pre hK hP hD [3, 4, 5, 6] (by decide) rfl⟩ rfl rfl hl.1 rfl (lv_room (Nat.le_of_ble_eq_true rfl)) dX7_switchCaching_66 ⟨Nat.le_of_ble_eq_true rfl, Nat.le_of_ble_eq_true rfl⟩) hP hD hS hA [3, 4, 5, 6] rfl (fun v w9 H locs hq hP hD hS => ?_)
      obtain ⟨rfl, rfl⟩ := hq
      have hP : va_P g.1 vwCl (dvW g a (x_mem σ) (if 0 = 0 then flM (x_cb σ) (x_ca σ) (x_med σ) (x_nc σ) else (x_med σ)) (x_cb σ) (x_ca σ) (if 0 = 0 then 0 else (x_nc σ)) 0 (x_T σ) (x_op σ) (x_id σ) (x_fg σ) (x_n σ) (x_cp σ) (x_cq σ) (x_cx σ) (x_pg σ) (x_fi σ) (x_F σ) (x_rw σ) (x_on σ) (x_bi σ) (x_tu σ) 1 (x_dw σ) (x_dq σ) (x_br σ) (x_bs σ)) H := hP
      have hD : va_D A (dvW g a (x_mem σ) (if 0 = 0 then flM (x_cb σ) (x_ca σ) (x_med σ) (x_nc σ) else (x_med σ)) (x_cb σ) (x_ca σ) (if 0 = 0 then 0 else (x_nc σ)) 0 (x_T σ) (x_op σ) (x_id σ) (x_fg σ) (x_n σ) (x_cp σ) (x_cq σ) (x_cx σ) (x_pg σ) (x_fi σ) (x_F σ) (x_rw σ) (x_on σ) (x_bi σ) (x_tu σ) 1 (x_dw σ) (x_dq σ) (x_br σ) (x_bs σ)) := hD
      show W p l e _ s m _ below meth c H locs _ _ _ (F0 m (66 + 3) ls ([]))
      refine lv_iconst (v := 0) hx hb dX7_switchCaching_69 (by decide) ?_
      exact W.iret (v := 0) hx hb hr (fun t ht _ => ⟨⟨(some (.int 0)), dvW g a (x_mem σ) (if 0 = 0 then flM (x_cb σ) (x_ca σ) (x_med σ) (x_nc σ) else (x_med σ)) (x_cb σ) (x_ca σ) (if 0 = 0 then 0 else (x_nc σ)) 0 (x_T σ) (x_op σ) (x_id σ) (x_fg σ) (x_n σ) (x_cp σ) (x_cq σ) (x_cx σ) (x_pg σ) (x_fi σ) (x_F σ) (x_rw σ) (x_on σ) (x_bi σ) (x_tu σ) 1 (x_dw σ) (x_dq σ) (x_br σ) (x_bs σ), rfl, ⟨congrArg (fun z : Int32 => some (Value.int z)) (by rw [r_sc, if_pos c9]), by rw [g_sc, if_pos c9, if_neg c34] <;> rfl⟩, rfl, by rw [ht]; exact hP⟩, hS.F ht⟩) hS.2.2 dX7_switchCaching_70
  · have c9 := (not_congr (lg_cmp_eq (x_cp σ) 0)).mp c9
    refine lv_aload_n hx hb dX7_switchCaching_12 rfl (lv_at hl 0 rfl) ?_
    refine va_get (D := g.1) (ci := 6) (v := .ref (a 9)) (C := RX7) (T := TX7) (N := 15) hx hb hts inX7 hown hK hP 0 rfl rfl 4 (by decide) (hts _ tw187) (fun _ h9 => h9) rfl dX7_switchCaching_13 ?_
    refine va_get (D := g.1) (ci := 0) (v := .long (x_cp σ)) (C := RX0) (T := TX0) (N := 7) hx hb hts inX0 hown hK hP 9 rfl rfl 4 (by decide) (hts _ tw146) (fun _ h9 => h9) rfl dX7_switchCaching_16 ?_
    refine lv_lconst (v := 1) hx hb dX7_switchCaching_19 (by decide) ?_
    refine W.lcmp hx hb dX7_switchCaching_20 ?_
    refine lv_if_eq (tgt := 26) hx hb dX7_switchCaching_21 (by decide) (fun c21 => ?_) (fun c21 => ?_)
    · have c21 := (lg_cmp_eq (x_cp σ) 1).mp c21
      refine lv_aload_n hx hb dX7_switchCaching_26 rfl (lv_at hl 0 rfl) ?_
      refine lv_aload_n hx hb dX7_switchCaching_27 rfl (lv_at hl 0 rfl) ?_
      refine va_get (D := g.1) (ci := 6) (v := .ref (a 3)) (C := RX7) (T := TX7) (N := 15) hx hb hts inX7 hown hK hP 0 rfl rfl 1 (by decide) (hts _ tw184) (fun _ h9 => h9) rfl dX7_switchCaching_28 ?_
      refine fr_go (va_runV (As := []) (rest := [.ref (a 0)]) ⟨hx, hb, hml, hown, hts⟩ (kX3_isCaching l g (a 3) (a 4) (a 5) (a 6) (x_med σ) (x_cb σ) (x_ca σ) (x_nc σ) (x_cg σ) hz H.size) (cwV 0 hts (gdV tw435 tw436 tw437 tw3 tw438) rfl rfl rfl (by decide +kernel) ⟨Nat.le_of_ble_eq_true rfl, Nat.le_of_ble_eq_true rfl⟩) ⟨Pst.blind, va_recv hK hP (ci := 3) (q0 := 3) rfl rfl, fr_pre hK hP hD [3, 4, 5, 6] (by decide) rfl⟩ rfl rfl hl.1 rfl (lv_room (Nat.le_of_ble_eq_true rfl)) dX7_switchCaching_31 ⟨Nat.le_of_ble_eq_true rfl, Nat.le_of_ble_eq_true rfl⟩) hP hD hS hA [3, 4, 5, 6] rfl (fun v w9 H locs hq hP hD hS => ?_)
      obtain ⟨rfl, rfl⟩ := hq
      have hP : va_P g.1 vwCl (dvW g a (x_mem σ) (x_med σ) (x_cb σ) (x_ca σ) (x_nc σ) (x_cg σ) (x_T σ) (x_op σ) (x_id σ) (x_fg σ) (x_n σ) (x_cp σ) (x_cq σ) (x_cx σ) (x_pg σ) (x_fi σ) (x_F σ) (x_rw σ) (x_on σ) (x_bi σ) (x_tu σ) (x_re σ) (x_dw σ) (x_dq σ) (x_br σ) (x_bs σ)) H := hP
      have hD : va_D A (dvW g a (x_mem σ) (x_med σ) (x_cb σ) (x_ca σ) (x_nc σ) (x_cg σ) (x_T σ) (x_op σ) (x_id σ) (x_fg σ) (x_n σ) (x_cp σ) (x_cq σ) (x_cx σ) (x_pg σ) (x_fi σ) (x_F σ) (x_rw σ) (x_on σ) (x_bi σ) (x_tu σ) (x_re σ) (x_dw σ) (x_dq σ) (x_br σ) (x_bs σ)) := hD
      show W p l e _ s m _ below meth c H locs _ _ _ (F0 m (31 + 3) ls (.int (x_cg σ) :: .ref (a 0) :: []))
      refine lv_if_eq (tgt := 41) hx hb dX7_switchCaching_34 (by decide) (fun c34 => ?_) (fun c34 => ?_)
      · refine lv_iconst (v := 0) hx hb dX7_switchCaching_41 (by decide) ?_
        refine fr_topi (y := nI 0) nI_0.symm ?_
        refine va_put (D := g.1) (ci := 6) (v := .int (nI 0)) (ty := .int) (C := RX7) (T := TX7) (N := 15) hx hb hts inX7 tyX7 tyX7_ok nmX7 hown hK hP hD hS 0 rfl rfl 10 (by decide) (hts _ tw193) (fun _ h9 => h9) rfl (by decide +kernel) rfl rfl (Nat.le_of_ble_eq_true rfl) dX7_switchCaching_42 (fun H locs hP hD hS => ?_)
        have hP : va_P g.1 vwCl (dvW g a (x_mem σ) (x_med σ) (x_cb σ) (x_ca σ) (x_nc σ) (x_cg σ) (x_T σ) (x_op σ) (x_id σ) (x_fg σ) (x_n σ) (x_cp σ) (x_cq σ) (x_cx σ) (x_pg σ) (x_fi σ) (x_F σ) (x_rw σ) (x_on σ) (x_bi σ) (x_tu σ) 0 (x_dw σ) (x_dq σ) (x_br σ) (x_bs σ)) H := hP
        have hD : va_D A (dvW g a (x_mem σ) (x_med σ) (x_cb σ) (x_ca σ) (x_nc σ) (x_cg σ) (x_T σ) (x_op σ) (x_id σ) (x_fg σ) (x_n σ) (x_cp σ) (x_cq σ) (x_cx σ) (x_pg σ) (x_fi σ) (x_F σ) (x_rw σ) (x_on σ) (x_bi σ) (x_tu σ) 0 (x_dw σ) (x_dq σ) (x_br σ) (x_bs σ)) := hD
        refine lv_aload_n hx hb dX7_switchCaching_45 rfl (lv_at hl 0 rfl) ?_
        refine va_get (D := g.1) (ci := 6) (v := .ref (a 3)) (C := RX7) (T := TX7) (N := 15) hx hb hts inX7 hown hK hP 0 rfl rfl 1 (by decide) (hts _ tw184) (fun _ h9 => h9) rfl dX7_switchCaching_46 ?_
        refine lv_aload_n hx hb dX7_switchCaching_49 rfl (lv_at hl 0 rfl) ?_
        refine va_get (D := g.1) (ci := 6) (v := .ref (a 9)) (C := RX7) (T := TX7) (N := 15) hx hb hts inX7 hown hK hP 0 rfl rfl 4 (by decide) (hts _ tw187) (fun _ h9 => h9) rfl dX7_switchCaching_50 ?_
        refine va_get (D := g.1) (ci := 0) (v := .long (x_cp σ)) (C := RX0) (T := TX0) (N := 7) hx hb hts inX0 hown hK hP 9 rfl rfl 4 (by decide) (hts _ tw146) (fun _ h9 => h9) rfl dX7_switchCaching_53 ?_
        refine lv_lconst (v := 1) hx hb dX7_switchCaching_56 (by decide) ?_
        refine W.lcmp hx hb dX7_switchCaching_57 ?_
        refine lv_if_ne (tgt := 65) hx hb dX7_switchCaching_58 (by decide) (fun q9 => absurd (by rw [c21]; decide) q9) (fun _ => ?_)
        refine lv_iconst (v := 1) hx hb dX7_switchCaching_61 (by decide) ?_
        refine lv_goto (tgt := 66) hx hb dX7_switchCaching_62 (by decide) ?_
        refine fr_go (va_runV (As := [.int 1]) (rest := []) ⟨hx, hb, hml, hown, hts⟩ (kX3_setCaching l g (a 3) (a 4) (a 5) (a 6) (x_med σ) (x_cb σ) (x_ca σ) (x_nc σ) (x_cg σ) 1 hn hcb (by decide) H.size) (cwV 1 hts (gdV tw439 tw440 tw441 tw3 tw442) rfl rfl rfl (by decide +kernel) ⟨Nat.le_of_ble_eq_true rfl, Nat.le_of_ble_eq_true rfl⟩) ⟨Pst.blind, va_recv hK hP (ci := 3) (q0 := 3) rfl rfl, fr_pre hK hP hD [3, 4, 5, 6] (by decide) rfl⟩ rfl rfl hl.1 rfl (lv_room (Nat.le_of_ble_eq_true rfl)) dX7_switchCaching_66 ⟨Nat.le_of_ble_eq_true rfl, Nat.le_of_ble_eq_true rfl⟩) hP hD hS hA [3, 4, 5, 6] rfl (fun v w9 H locs hq hP hD hS => ?_)
        obtain ⟨rfl, rfl⟩ := hq
        have hP : va_P g.1 vwCl (dvW g a (x_mem σ) (if 1 = 0 then flM (x_cb σ) (x_ca σ) (x_med σ) (x_nc σ) else (x_med σ)) (x_cb σ) (x_ca σ) (if 1 = 0 then 0 else (x_nc σ)) 1 (x_T σ) (x_op σ) (x_id σ) (x_fg σ) (x_n σ) (x_cp σ) (x_cq σ) (x_cx σ) (x_pg σ) (x_fi σ) (x_F σ) (x_rw σ) (x_on σ) (x_bi σ) (x_tu σ) 0 (x_dw σ) (x_dq σ) (x_br σ) (x_bs σ)) H := hP
        have hD : va_D A (dvW g a (x_mem σ) (if 1 = 0 then flM (x_cb σ) (x_ca σ) (x_med σ) (x_nc σ) else (x_med σ)) (x_cb σ) (x_ca σ) (if 1 = 0 then 0 else (x_nc σ)) 1 (x_T σ) (x_op σ) (x_id σ) (x_fg σ) (x_n σ) (x_cp σ) (x_cq σ) (x_cx σ) (x_pg σ) (x_fi σ) (x_F σ) (x_rw σ) (x_on σ) (x_bi σ) (x_tu σ) 0 (x_dw σ) (x_dq σ) (x_br σ) (x_bs σ)) := hD
        show W p l e _ s m _ below meth c H locs _ _ _ (F0 m (66 + 3) ls ([]))
        refine lv_iconst (v := 0) hx hb dX7_switchCaching_69 (by decide) ?_
        exact W.iret (v := 0) hx hb hr (fun t ht _ => ⟨⟨(some (.int 0)), dvW g a (x_mem σ) (if 1 = 0 then flM (x_cb σ) (x_ca σ) (x_med σ) (x_nc σ) else (x_med σ)) (x_cb σ) (x_ca σ) (if 1 = 0 then 0 else (x_nc σ)) 1 (x_T σ) (x_op σ) (x_id σ) (x_fg σ) (x_n σ) (x_cp σ) (x_cq σ) (x_cx σ) (x_pg σ) (x_fi σ) (x_F σ) (x_rw σ) (x_on σ) (x_bi σ) (x_tu σ) 0 (x_dw σ) (x_dq σ) (x_br σ) (x_bs σ), rfl, ⟨congrArg (fun z : Int32 => some (Value.int z)) (by rw [r_sc, if_neg c9, if_pos c21]), by rw [g_sc, if_neg c9, if_pos c21, if_pos c34] <;> rfl⟩, rfl, by rw [ht]; exact hP⟩, hS.F ht⟩) hS.2.2 dX7_switchCaching_70
      · refine lv_iconst (v := 1) hx hb dX7_switchCaching_37 (by decide) ?_
        refine fr_topi (y := nI 1) rfl ?_
        refine lv_goto (tgt := 42) hx hb dX7_switchCaching_38 (by decide) ?_
        refine va_put (D := g.1) (ci := 6) (v := .int (nI 1)) (ty := .int) (C := RX7) (T := TX7) (N := 15) hx hb hts inX7 tyX7 tyX7_ok nmX7 hown hK hP hD hS 0 rfl rfl 10 (by decide) (hts _ tw193) (fun _ h9 => h9) rfl (by decide +kernel) rfl rfl (Nat.le_of_ble_eq_true rfl) dX7_switchCaching_42 (fun H locs hP hD hS => ?_)
        have hP : va_P g.1 vwCl (dvW g a (x_mem σ) (x_med σ) (x_cb σ) (x_ca σ) (x_nc σ) (x_cg σ) (x_T σ) (x_op σ) (x_id σ) (x_fg σ) (x_n σ) (x_cp σ) (x_cq σ) (x_cx σ) (x_pg σ) (x_fi σ) (x_F σ) (x_rw σ) (x_on σ) (x_bi σ) (x_tu σ) 1 (x_dw σ) (x_dq σ) (x_br σ) (x_bs σ)) H := hP
        have hD : va_D A (dvW g a (x_mem σ) (x_med σ) (x_cb σ) (x_ca σ) (x_nc σ) (x_cg σ) (x_T σ) (x_op σ) (x_id σ) (x_fg σ) (x_n σ) (x_cp σ) (x_cq σ) (x_cx σ) (x_pg σ) (x_fi σ) (x_F σ) (x_rw σ) (x_on σ) (x_bi σ) (x_tu σ) 1 (x_dw σ) (x_dq σ) (x_br σ) (x_bs σ)) := hD
        refine lv_aload_n hx hb dX7_switchCaching_45 rfl (lv_at hl 0 rfl) ?_
        refine va_get (D := g.1) (ci := 6) (v := .ref (a 3)) (C := RX7) (T := TX7) (N := 15) hx hb hts inX7 hown hK hP 0 rfl rfl 1 (by decide) (hts _ tw184) (fun _ h9 => h9) rfl dX7_switchCaching_46 ?_
        refine lv_aload_n hx hb dX7_switchCaching_49 rfl (lv_at hl 0 rfl) ?_
        refine va_get (D := g.1) (ci := 6) (v := .ref (a 9)) (C := RX7) (T := TX7) (N := 15) hx hb hts inX7 hown hK hP 0 rfl rfl 4 (by decide) (hts _ tw187) (fun _ h9 => h9) rfl dX7_switchCaching_50 ?_
        refine va_get (D := g.1) (ci := 0) (v := .long (x_cp σ)) (C := RX0) (T := TX0) (N := 7) hx hb hts inX0 hown hK hP 9 rfl rfl 4 (by decide) (hts _ tw146) (fun _ h9 => h9) rfl dX7_switchCaching_53 ?_
        refine lv_lconst (v := 1) hx hb dX7_switchCaching_56 (by decide) ?_
        refine W.lcmp hx hb dX7_switchCaching_57 ?_
        refine lv_if_ne (tgt := 65) hx hb dX7_switchCaching_58 (by decide) (fun q9 => absurd (by rw [c21]; decide) q9) (fun _ => ?_)
        refine lv_iconst (v := 1) hx hb dX7_switchCaching_61 (by decide) ?_
        refine lv_goto (tgt := 66) hx hb dX7_switchCaching_62 (by decide) ?_
        refine fr_go (va_runV (As := [.int 1]) (rest := []) ⟨hx, hb, hml, hown, hts⟩ (kX3_setCaching l g (a 3) (a 4) (a 5) (a 6) (x_med σ) (x_cb σ) (x_ca σ) (x_nc σ) (x_cg σ) 1 hn hcb (by decide) H.size) (cwV 1 hts (gdV tw439 tw440 tw441 tw3 tw442) rfl rfl rfl (by decide +kernel) ⟨Nat.le_of_ble_eq_true rfl, Nat.le_of_ble_eq_true rfl⟩) ⟨Pst.blind, va_recv hK hP (ci := 3) (q0 := 3) rfl rfl, fr_pre hK hP hD [3, 4, 5, 6] (by decide) rfl⟩ rfl rfl hl.1 rfl (lv_room (Nat.le_of_ble_eq_true rfl)) dX7_switchCaching_66 ⟨Nat.le_of_ble_eq_true rfl, Nat.le_of_ble_eq_true rfl⟩) hP hD hS hA [3, 4, 5, 6] rfl (fun v w9 H locs hq hP hD hS => ?_)
        obtain ⟨rfl, rfl⟩ := hq
        have hP : va_P g.1 vwCl (dvW g a (x_mem σ) (if 1 = 0 then flM (x_cb σ) (x_ca σ) (x_med σ) (x_nc σ) else (x_med σ)) (x_cb σ) (x_ca σ) (if 1 = 0 then 0 else (x_nc σ)) 1 (x_T σ) (x_op σ) (x_id σ) (x_fg σ) (x_n σ) (x_cp σ) (x_cq σ) (x_cx σ) (x_pg σ) (x_fi σ) (x_F σ) (x_rw σ) (x_on σ) (x_bi σ) (x_tu σ) 1 (x_dw σ) (x_dq σ) (x_br σ) (x_bs σ)) H := hP
        have hD : va_D A (dvW g a (x_mem σ) (if 1 = 0 then flM (x_cb σ) (x_ca σ) (x_med σ) (x_nc σ) else (x_med σ)) (x_cb σ) (x_ca σ) (if 1 = 0 then 0 else (x_nc σ)) 1 (x_T σ) (x_op σ) (x_id σ) (x_fg σ) (x_n σ) (x_cp σ) (x_cq σ) (x_cx σ) (x_pg σ) (x_fi σ) (x_F σ) (x_rw σ) (x_on σ) (x_bi σ) (x_tu σ) 1 (x_dw σ) (x_dq σ) (x_br σ) (x_bs σ)) := hD
        show W p l e _ s m _ below meth c H locs _ _ _ (F0 m (66 + 3) ls ([]))
        refine lv_iconst (v := 0) hx hb dX7_switchCaching_69 (by decide) ?_
        exact W.iret (v := 0) hx hb hr (fun t ht _ => ⟨⟨(some (.int 0)), dvW g a (x_mem σ) (if 1 = 0 then flM (x_cb σ) (x_ca σ) (x_med σ) (x_nc σ) else (x_med σ)) (x_cb σ) (x_ca σ) (if 1 = 0 then 0 else (x_nc σ)) 1 (x_T σ) (x_op σ) (x_id σ) (x_fg σ) (x_n σ) (x_cp σ) (x_cq σ) (x_cx σ) (x_pg σ) (x_fi σ) (x_F σ) (x_rw σ) (x_on σ) (x_bi σ) (x_tu σ) 1 (x_dw σ) (x_dq σ) (x_br σ) (x_bs σ), rfl, ⟨congrArg (fun z : Int32 => some (Value.int z)) (by rw [r_sc, if_neg c9, if_pos c21]), by rw [g_sc, if_neg c9, if_pos c21, if_neg c34] <;> rfl⟩, rfl, by rw [ht]; exact hP⟩, hS.F ht⟩) hS.2.2 dX7_switchCaching_70
    · have c21 := (not_congr (lg_cmp_eq (x_cp σ) 1)).mp c21
      refine lv_iconst (v := 2) hx hb dX7_switchCaching_24 (by decide) ?_
      exact W.iret (v := 2) hx hb hr (fun t ht _ => ⟨⟨(some (.int 2)), dvW g a (x_mem σ) (x_med σ) (x_cb σ) (x_ca σ) (x_nc σ) (x_cg σ) (x_T σ) (x_op σ) (x_id σ) (x_fg σ) (x_n σ) (x_cp σ) (x_cq σ) (x_cx σ) (x_pg σ) (x_fi σ) (x_F σ) (x_rw σ) (x_on σ) (x_bi σ) (x_tu σ) (x_re σ) (x_dw σ) (x_dq σ) (x_br σ) (x_bs σ), rfl, ⟨congrArg (fun z : Int32 => some (Value.int z)) (by rw [r_sc, if_neg c9, if_neg c21]), by rw [g_sc, if_neg c9, if_neg c21]⟩, rfl, by rw [ht]; exact hP⟩, hS.F ht⟩) hS.2.2 dX7_switchCaching_25
