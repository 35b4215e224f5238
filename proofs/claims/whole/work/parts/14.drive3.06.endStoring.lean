set_option maxHeartbeats 4000000 in
set_option maxRecDepth 100000 in
/-- endStoring -/
theorem kX7_endStoring (l : Launch) (g : GG) (a : Nat → Nat) (σ : CS) (hn : x_nc σ ≤ 6) (hcb : ∀ k, k < x_nc σ → ∃ j : Nat, j < 64 ∧ x_cb σ k = nI j) : Ct l yX7_endStoring cX7_endStoring 1 none ({ frames := 2, cells := 0, slots := 0, locals := 61 } : Room) g [.ref (a 0)] (dvW g a (x_mem σ) (x_med σ) (x_cb σ) (x_ca σ) (x_nc σ) (x_cg σ) (x_T σ) (x_op σ) (x_id σ) (x_fg σ) (x_n σ) (x_cp σ) (x_cq σ) (x_cx σ) (x_pg σ) (x_fi σ) (x_F σ) (x_rw σ) (x_on σ) (x_bi σ) (x_tu σ) (x_re σ) (x_dw σ) (x_dq σ) (x_br σ) (x_bs σ)) (fun v w' => v = none ∧ w' = dvW g a (x_mem (g_end σ)) (x_med (g_end σ)) (x_cb (g_end σ)) (x_ca (g_end σ)) (x_nc (g_end σ)) (x_cg (g_end σ)) (x_T (g_end σ)) (x_op (g_end σ)) (x_id (g_end σ)) (x_fg (g_end σ)) (x_n (g_end σ)) (x_cp (g_end σ)) (x_cq (g_end σ)) (x_cx (g_end σ)) (x_pg (g_end σ)) (x_fi (g_end σ)) (x_F (g_end σ)) (x_rw (g_end σ)) (x_on (g_end σ)) (x_bi (g_end σ)) (x_tu (g_end σ)) (x_re (g_end σ)) (x_dw (g_end σ)) (x_dq (g_end σ)) (x_br (g_end σ)) (x_bs (g_end σ))) := by
  refine Ct.of (by decide) (Nat.le_of_ble_eq_true rfl) ?_
  intro p e s m below meth c A ls H locs hx hb hr hml hlocks hts hown hin hA hS hK hP hD hl
  have hown : s.vm.findClass RX7 = some m.cls := hown
  have hl : lv_has ls 1 [(0, .ref (a 0))] := hl
  refine lv_aload_n hx hb dX7_endStoring_0 rfl (lv_at hl 0 rfl) ?_
  refine lv_dup hx hb dX7_endStoring_1 rfl ?_
  refine va_get (D := g.1) (ci := 6) (v := .int (nI (x_bs σ))) (C := RX7) (T := TX7) (N := 15) hx hb hts inX7 hown hK hP 0 rfl rfl 14 (by decide) (hts _ tw197) (fun _ h9 => h9) rfl dX7_endStoring_2 ?_
  refine lv_aload_n hx hb dX7_endStoring_5 rfl (lv_at hl 0 rfl) ?_
  refine va_get (D := g.1) (ci := 6) (v := .ref (a 9)) (C := RX7) (T := TX7) (N := 15) hx hb hts inX7 hown hK hP 0 rfl rfl 4 (by decide) (hts _ tw187) (fun _ h9 => h9) rfl dX7_endStoring_6 ?_
  refine va_get (D := g.1) (ci := 0) (v := .int (nI (x_n σ))) (C := RX0) (T := TX0) (N := 7) hx hb hts inX0 hown hK hP 9 rfl rfl 3 (by decide) (hts _ tw143) (fun _ h9 => h9) rfl dX7_endStoring_9 ?_
  refine lv_iadd hx hb dX7_endStoring_12 ?_
  refine fr_topi (y := nI (x_bs σ + x_n σ)) (nI_add _ _) ?_
  refine va_put (D := g.1) (ci := 6) (v := .int (nI (x_bs σ + x_n σ))) (ty := .int) (C := RX7) (T := TX7) (N := 15) hx hb hts inX7 tyX7 tyX7_ok nmX7 hown hK hP hD hS 0 rfl rfl 14 (by decide) (hts _ tw197) (fun _ h9 => h9) rfl (by decide +kernel) rfl rfl (Nat.le_of_ble_eq_true rfl) dX7_endStoring_13 (fun H locs hP hD hS => ?_)
  have hP : va_P g.1 vwCl (dvW g a (x_mem σ) (x_med σ) (x_cb σ) (x_ca σ) (x_nc σ) (x_cg σ) (x_T σ) (x_op σ) (x_id σ) (x_fg σ) (x_n σ) (x_cp σ) (x_cq σ) (x_cx σ) (x_pg σ) (x_fi σ) (x_F σ) (x_rw σ) (x_on σ) (x_bi σ) (x_tu σ) (x_re σ) (x_dw σ) (x_dq σ) (x_br σ) (x_bs σ + x_n σ)) H := hP
  have hD : va_D A (dvW g a (x_mem σ) (x_med σ) (x_cb σ) (x_ca σ) (x_nc σ) (x_cg σ) (x_T σ) (x_op σ) (x_id σ) (x_fg σ) (x_n σ) (x_cp σ) (x_cq σ) (x_cx σ) (x_pg σ) (x_fi σ) (x_F σ) (x_rw σ) (x_on σ) (x_bi σ) (x_tu σ) (x_re σ) (x_dw σ) (x_dq σ) (x_br σ) (x_bs σ + x_n σ)) := hD
  refine lv_aload_n hx hb dX7_endStoring_16 rfl (lv_at hl 0 rfl) ?_
  refine va_get (D := g.1) (ci := 6) (v := .ref (a 9)) (C := RX7) (T := TX7) (N := 15) hx hb hts inX7 hown hK hP 0 rfl rfl 4 (by decide) (hts _ tw187) (fun _ h9 => h9) rfl dX7_endStoring_17 ?_
  refine va_get (D := g.1) (ci := 0) (v := .int (x_fg σ)) (C := RX0) (T := TX0) (N := 7) hx hb hts inX0 hown hK hP 9 rfl rfl 2 (by decide) (hts _ tw140) (fun _ h9 => h9) rfl dX7_endStoring_20 ?_
  refine lv_if_eq (tgt := 33) hx hb dX7_endStoring_23 (by decide) (fun c23 => ?_) (fun c23 => ?_)
  · exact W.vret hx hb hr (fun t ht _ => ⟨⟨none, dvW g a (x_mem σ) (x_med σ) (x_cb σ) (x_ca σ) (x_nc σ) (x_cg σ) (x_T σ) (x_op σ) (x_id σ) (x_fg σ) (x_n σ) (x_cp σ) (x_cq σ) (x_cx σ) (x_pg σ) (x_fi σ) (x_F σ) (x_rw σ) (x_on σ) (x_bi σ) (x_tu σ) (x_re σ) (x_dw σ) (x_dq σ) (x_br σ) (x_bs σ + x_n σ), rfl, ⟨rfl, by rw [g_end, if_pos c23] <;> rfl⟩, rfl, by rw [ht]; exact hP⟩, hS.F ht⟩) hS.2.2 dX7_endStoring_33
  · refine lv_aload_n hx hb dX7_endStoring_26 rfl (lv_at hl 0 rfl) ?_
    refine va_get (D := g.1) (ci := 6) (v := .ref (a 3)) (C := RX7) (T := TX7) (N := 15) hx hb hts inX7 hown hK hP 0 rfl rfl 1 (by decide) (hts _ tw184) (fun _ h9 => h9) rfl dX7_endStoring_27 ?_
    refine fr_go (va_runV (As := []) (rest := []) ⟨hx, hb, hml, hown, hts⟩ (kX3_flush l g (a 3) (a 4) (a 5) (a 6) (x_med σ) (x_cb σ) (x_ca σ) (x_nc σ) (x_cg σ) hn hcb H.size) (cwV 0 hts (gdV tw298 tw299 tw300 tw3 tw301) rfl rfl rfl (by decide +kernel) ⟨Nat.le_of_ble_eq_true rfl, Nat.le_of_ble_eq_true rfl⟩) ⟨Pst.blind, va_recv hK hP (ci := 3) (q0 := 3) rfl rfl, fr_pre hK hP hD [3, 4, 5, 6] (by decide) rfl⟩ rfl rfl hl.1 rfl (lv_room (Nat.le_of_ble_eq_true rfl)) dX7_endStoring_30 ⟨Nat.le_of_ble_eq_true rfl, Nat.le_of_ble_eq_true rfl⟩) hP hD hS hA [3, 4, 5, 6] rfl (fun v w9 H locs hq hP hD hS => ?_)
    obtain ⟨rfl, rfl⟩ := hq
    have hP : va_P g.1 vwCl (dvW g a (x_mem σ) (flM (x_cb σ) (x_ca σ) (x_med σ) (x_nc σ)) (x_cb σ) (x_ca σ) 0 (x_cg σ) (x_T σ) (x_op σ) (x_id σ) (x_fg σ) (x_n σ) (x_cp σ) (x_cq σ) (x_cx σ) (x_pg σ) (x_fi σ) (x_F σ) (x_rw σ) (x_on σ) (x_bi σ) (x_tu σ) (x_re σ) (x_dw σ) (x_dq σ) (x_br σ) (x_bs σ + x_n σ)) H := hP
    have hD : va_D A (dvW g a (x_mem σ) (flM (x_cb σ) (x_ca σ) (x_med σ) (x_nc σ)) (x_cb σ) (x_ca σ) 0 (x_cg σ) (x_T σ) (x_op σ) (x_id σ) (x_fg σ) (x_n σ) (x_cp σ) (x_cq σ) (x_cx σ) (x_pg σ) (x_fi σ) (x_F σ) (x_rw σ) (x_on σ) (x_bi σ) (x_tu σ) (x_re σ) (x_dw σ) (x_dq σ) (x_br σ) (x_bs σ + x_n σ)) := hD
    show W p l e _ s m _ below meth c H locs _ _ _ (F0 m (30 + 3) ls ([]))
    exact W.vret hx hb hr (fun t ht _ => ⟨⟨none, dvW g a (x_mem σ) (flM (x_cb σ) (x_ca σ) (x_med σ) (x_nc σ)) (x_cb σ) (x_ca σ) 0 (x_cg σ) (x_T σ) (x_op σ) (x_id σ) (x_fg σ) (x_n σ) (x_cp σ) (x_cq σ) (x_cx σ) (x_pg σ) (x_fi σ) (x_F σ) (x_rw σ) (x_on σ) (x_bi σ) (x_tu σ) (x_re σ) (x_dw σ) (x_dq σ) (x_br σ) (x_bs σ + x_n σ), rfl, ⟨rfl, by rw [g_end, if_neg c23] <;> rfl⟩, rfl, by rw [ht]; exact hP⟩, hS.F ht⟩) hS.2.2 dX7_endStoring_33
