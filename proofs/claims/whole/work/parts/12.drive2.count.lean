set_option maxHeartbeats 4000000 in
set_option maxRecDepth 100000 in
/-- count -/
theorem kX7_count (l : Launch) (g : GG) (a : Nat → Nat) (σ : CS) (p0 : Int32) (hz : x_cg σ = 0 ∨ x_cg σ = 1) : Ct l yX7_count cX7_count 2 (some .int) ({ frames := 1, cells := 0, slots := 0, locals := 20 } : Room) g [.ref (a 0), .int p0] (dvW g a (x_mem σ) (x_med σ) (x_cb σ) (x_ca σ) (x_nc σ) (x_cg σ) (x_T σ) (x_op σ) (x_id σ) (x_fg σ) (x_n σ) (x_cp σ) (x_cq σ) (x_cx σ) (x_pg σ) (x_fi σ) (x_F σ) (x_rw σ) (x_on σ) (x_bi σ) (x_tu σ) (x_re σ) (x_dw σ) (x_dq σ) (x_br σ) (x_bs σ)) (fun v w' => v = some (.int (countR (x_nc σ) (x_cg σ) (x_dw σ) (x_dq σ) (x_br σ) (x_bs σ) p0)) ∧ w' = dvW g a (x_mem σ) (x_med σ) (x_cb σ) (x_ca σ) (x_nc σ) (x_cg σ) (x_T σ) (x_op σ) (x_id σ) (x_fg σ) (x_n σ) (x_cp σ) (x_cq σ) (x_cx σ) (x_pg σ) (x_fi σ) (x_F σ) (x_rw σ) (x_on σ) (x_bi σ) (x_tu σ) (x_re σ) (x_dw σ) (x_dq σ) (x_br σ) (x_bs σ)) := by
  refine Ct.of (by decide) (Nat.le_of_ble_eq_true rfl) ?_
  intro p e s m below meth c A ls H locs hx hb hr hml hlocks hts hown hin hA hS hK hP hD hl
  have hown : s.vm.findClass RX7 = some m.cls := hown
  have hl : lv_has ls 2 [(0, .ref (a 0)), (1, .int p0)] := hl
  refine lv_iload_n hx hb dX7_count_0 rfl (lv_at hl 1 rfl) ?_
  by_cases w0 : p0 = 0
  · refine lv_tableIn (off := 39) (tgt := 40) hx hb dX7_count_1 (by rw [w0]; decide) (by rw [w0]; decide) (by rw [w0]; decide) (by decide) ?_
    refine lv_aload_n hx hb dX7_count_40 rfl (lv_at hl 0 rfl) ?_
    refine va_get (D := g.1) (ci := 6) (v := .ref (a 3)) (C := RX7) (T := TX7) (N := 15) hx hb hts inX7 hown hK hP 0 rfl rfl 1 (by decide) (hts _ tw184) (fun _ h9 => h9) rfl dX7_count_41 ?_
    refine fr_go (va_runV (As := []) (rest := []) ⟨hx, hb, hml, hown, hts⟩ (kX3_cachedCount l g (a 3) (a 4) (a 5) (a 6) (x_med σ) (x_cb σ) (x_ca σ) (x_nc σ) (x_cg σ) H.size) (cwV 0 hts (gdV tw290 tw291 tw292 tw3 tw293) rfl rfl rfl (by decide +kernel) ⟨Nat.le_of_ble_eq_true rfl, Nat.le_of_ble_eq_true rfl⟩) ⟨Pst.blind, va_recv hK hP (ci := 3) (q0 := 3) rfl rfl, fr_pre hK hP hD [3, 4, 5, 6] (by decide) rfl⟩ rfl rfl hl.1 rfl (lv_room (Nat.le_of_ble_eq_true rfl)) dX7_count_44 ⟨Nat.le_of_ble_eq_true rfl, Nat.le_of_ble_eq_true rfl⟩) hP hD hS hA [3, 4, 5, 6] rfl (fun v w9 H locs hq hP hD hS => ?_)
    obtain ⟨rfl, rfl⟩ := hq
    have hP : va_P g.1 vwCl (dvW g a (x_mem σ) (x_med σ) (x_cb σ) (x_ca σ) (x_nc σ) (x_cg σ) (x_T σ) (x_op σ) (x_id σ) (x_fg σ) (x_n σ) (x_cp σ) (x_cq σ) (x_cx σ) (x_pg σ) (x_fi σ) (x_F σ) (x_rw σ) (x_on σ) (x_bi σ) (x_tu σ) (x_re σ) (x_dw σ) (x_dq σ) (x_br σ) (x_bs σ)) H := hP
    have hD : va_D A (dvW g a (x_mem σ) (x_med σ) (x_cb σ) (x_ca σ) (x_nc σ) (x_cg σ) (x_T σ) (x_op σ) (x_id σ) (x_fg σ) (x_n σ) (x_cp σ) (x_cq σ) (x_cx σ) (x_pg σ) (x_fi σ) (x_F σ) (x_rw σ) (x_on σ) (x_bi σ) (x_tu σ) (x_re σ) (x_dw σ) (x_dq σ) (x_br σ) (x_bs σ)) := hD
    show W p l e _ s m _ below meth c H locs _ _ _ (F0 m (44 + 3) ls (.int (nI (x_nc σ)) :: []))
    exact W.iret (v := nI (x_nc σ)) hx hb hr (fun t ht _ => ⟨⟨(some (.int (nI (x_nc σ)))), dvW g a (x_mem σ) (x_med σ) (x_cb σ) (x_ca σ) (x_nc σ) (x_cg σ) (x_T σ) (x_op σ) (x_id σ) (x_fg σ) (x_n σ) (x_cp σ) (x_cq σ) (x_cx σ) (x_pg σ) (x_fi σ) (x_F σ) (x_rw σ) (x_on σ) (x_bi σ) (x_tu σ) (x_re σ) (x_dw σ) (x_dq σ) (x_br σ) (x_bs σ), rfl, ⟨congrArg (fun z : Int32 => some (Value.int z)) (by simp [countR, *]), rfl⟩, rfl, by rw [ht]; exact hP⟩, hS.F ht⟩) hS.2.2 dX7_count_47
  · have z0 := lv_neT (a := 0) w0 (by decide)
    by_cases w1 : p0 = 1
    · refine lv_tableIn (off := 47) (tgt := 48) hx hb dX7_count_1 (by rw [w1]; decide) (by rw [w1]; decide) (by rw [w1]; decide) (by decide) ?_
      refine lv_aload_n hx hb dX7_count_48 rfl (lv_at hl 0 rfl) ?_
      refine va_get (D := g.1) (ci := 6) (v := .ref (a 3)) (C := RX7) (T := TX7) (N := 15) hx hb hts inX7 hown hK hP 0 rfl rfl 1 (by decide) (hts _ tw184) (fun _ h9 => h9) rfl dX7_count_49 ?_
      refine fr_go (va_runV (As := []) (rest := []) ⟨hx, hb, hml, hown, hts⟩ (kX3_isCaching l g (a 3) (a 4) (a 5) (a 6) (x_med σ) (x_cb σ) (x_ca σ) (x_nc σ) (x_cg σ) (by first | assumption | omega) H.size) (cwV 0 hts (gdV tw435 tw436 tw437 tw3 tw438) rfl rfl rfl (by decide +kernel) ⟨Nat.le_of_ble_eq_true rfl, Nat.le_of_ble_eq_true rfl⟩) ⟨Pst.blind, va_recv hK hP (ci := 3) (q0 := 3) rfl rfl, fr_pre hK hP hD [3, 4, 5, 6] (by decide) rfl⟩ rfl rfl hl.1 rfl (lv_room (Nat.le_of_ble_eq_true rfl)) dX7_count_52 ⟨Nat.le_of_ble_eq_true rfl, Nat.le_of_ble_eq_true rfl⟩) hP hD hS hA [3, 4, 5, 6] rfl (fun v w9 H locs hq hP hD hS => ?_)
      obtain ⟨rfl, rfl⟩ := hq
      have hP : va_P g.1 vwCl (dvW g a (x_mem σ) (x_med σ) (x_cb σ) (x_ca σ) (x_nc σ) (x_cg σ) (x_T σ) (x_op σ) (x_id σ) (x_fg σ) (x_n σ) (x_cp σ) (x_cq σ) (x_cx σ) (x_pg σ) (x_fi σ) (x_F σ) (x_rw σ) (x_on σ) (x_bi σ) (x_tu σ) (x_re σ) (x_dw σ) (x_dq σ) (x_br σ) (x_bs σ)) H := hP
      have hD : va_D A (dvW g a (x_mem σ) (x_med σ) (x_cb σ) (x_ca σ) (x_nc σ) (x_cg σ) (x_T σ) (x_op σ) (x_id σ) (x_fg σ) (x_n σ) (x_cp σ) (x_cq σ) (x_cx σ) (x_pg σ) (x_fi σ) (x_F σ) (x_rw σ) (x_on σ) (x_bi σ) (x_tu σ) (x_re σ) (x_dw σ) (x_dq σ) (x_br σ) (x_bs σ)) := hD
      show W p l e _ s m _ below meth c H locs _ _ _ (F0 m (52 + 3) ls (.int (x_cg σ) :: []))
      refine lv_if_eq (tgt := 62) hx hb dX7_count_55 (by decide) (fun c55 => ?_) (fun c55 => ?_)
      · refine lv_iconst (v := 0) hx hb dX7_count_62 (by decide) ?_
        exact W.iret (v := 0) hx hb hr (fun t ht _ => ⟨⟨(some (.int 0)), dvW g a (x_mem σ) (x_med σ) (x_cb σ) (x_ca σ) (x_nc σ) (x_cg σ) (x_T σ) (x_op σ) (x_id σ) (x_fg σ) (x_n σ) (x_cp σ) (x_cq σ) (x_cx σ) (x_pg σ) (x_fi σ) (x_F σ) (x_rw σ) (x_on σ) (x_bi σ) (x_tu σ) (x_re σ) (x_dw σ) (x_dq σ) (x_br σ) (x_bs σ), rfl, ⟨congrArg (fun z : Int32 => some (Value.int z)) (by simp [countR, *]), rfl⟩, rfl, by rw [ht]; exact hP⟩, hS.F ht⟩) hS.2.2 dX7_count_63
      · refine lv_iconst (v := 1) hx hb dX7_count_58 (by decide) ?_
        refine lv_goto (tgt := 63) hx hb dX7_count_59 (by decide) ?_
        exact W.iret (v := 1) hx hb hr (fun t ht _ => ⟨⟨(some (.int 1)), dvW g a (x_mem σ) (x_med σ) (x_cb σ) (x_ca σ) (x_nc σ) (x_cg σ) (x_T σ) (x_op σ) (x_id σ) (x_fg σ) (x_n σ) (x_cp σ) (x_cq σ) (x_cx σ) (x_pg σ) (x_fi σ) (x_F σ) (x_rw σ) (x_on σ) (x_bi σ) (x_tu σ) (x_re σ) (x_dw σ) (x_dq σ) (x_br σ) (x_bs σ), rfl, ⟨congrArg (fun z : Int32 => some (Value.int z)) (by simp [countR, *]), rfl⟩, rfl, by rw [ht]; exact hP⟩, hS.F ht⟩) hS.2.2 dX7_count_63
    · have z1 := lv_neT (a := 1) w1 (by decide)
      by_cases w2 : p0 = 2
      · refine lv_tableIn (off := 63) (tgt := 64) hx hb dX7_count_1 (by rw [w2]; decide) (by rw [w2]; decide) (by rw [w2]; decide) (by decide) ?_
        refine lv_aload_n hx hb dX7_count_64 rfl (lv_at hl 0 rfl) ?_
        refine va_get (D := g.1) (ci := 6) (v := .int (nI (x_dw σ))) (C := RX7) (T := TX7) (N := 15) hx hb hts inX7 hown hK hP 0 rfl rfl 11 (by decide) (hts _ tw194) (fun _ h9 => h9) rfl dX7_count_65 ?_
        exact W.iret (v := nI (x_dw σ)) hx hb hr (fun t ht _ => ⟨⟨(some (.int (nI (x_dw σ)))), dvW g a (x_mem σ) (x_med σ) (x_cb σ) (x_ca σ) (x_nc σ) (x_cg σ) (x_T σ) (x_op σ) (x_id σ) (x_fg σ) (x_n σ) (x_cp σ) (x_cq σ) (x_cx σ) (x_pg σ) (x_fi σ) (x_F σ) (x_rw σ) (x_on σ) (x_bi σ) (x_tu σ) (x_re σ) (x_dw σ) (x_dq σ) (x_br σ) (x_bs σ), rfl, ⟨congrArg (fun z : Int32 => some (Value.int z)) (by simp [countR, *]), rfl⟩, rfl, by rw [ht]; exact hP⟩, hS.F ht⟩) hS.2.2 dX7_count_68
      · have z2 := lv_neT (a := 2) w2 (by decide)
        by_cases w3 : p0 = 3
        · refine lv_tableIn (off := 68) (tgt := 69) hx hb dX7_count_1 (by rw [w3]; decide) (by rw [w3]; decide) (by rw [w3]; decide) (by decide) ?_
          refine lv_aload_n hx hb dX7_count_69 rfl (lv_at hl 0 rfl) ?_
          refine va_get (D := g.1) (ci := 6) (v := .int (nI (x_dq σ))) (C := RX7) (T := TX7) (N := 15) hx hb hts inX7 hown hK hP 0 rfl rfl 12 (by decide) (hts _ tw195) (fun _ h9 => h9) rfl dX7_count_70 ?_
          exact W.iret (v := nI (x_dq σ)) hx hb hr (fun t ht _ => ⟨⟨(some (.int (nI (x_dq σ)))), dvW g a (x_mem σ) (x_med σ) (x_cb σ) (x_ca σ) (x_nc σ) (x_cg σ) (x_T σ) (x_op σ) (x_id σ) (x_fg σ) (x_n σ) (x_cp σ) (x_cq σ) (x_cx σ) (x_pg σ) (x_fi σ) (x_F σ) (x_rw σ) (x_on σ) (x_bi σ) (x_tu σ) (x_re σ) (x_dw σ) (x_dq σ) (x_br σ) (x_bs σ), rfl, ⟨congrArg (fun z : Int32 => some (Value.int z)) (by simp [countR, *]), rfl⟩, rfl, by rw [ht]; exact hP⟩, hS.F ht⟩) hS.2.2 dX7_count_73
        · have z3 := lv_neT (a := 3) w3 (by decide)
          by_cases w4 : p0 = 4
          · refine lv_tableIn (off := 73) (tgt := 74) hx hb dX7_count_1 (by rw [w4]; decide) (by rw [w4]; decide) (by rw [w4]; decide) (by decide) ?_
            refine lv_aload_n hx hb dX7_count_74 rfl (lv_at hl 0 rfl) ?_
            refine va_get (D := g.1) (ci := 6) (v := .int (nI (x_br σ))) (C := RX7) (T := TX7) (N := 15) hx hb hts inX7 hown hK hP 0 rfl rfl 13 (by decide) (hts _ tw196) (fun _ h9 => h9) rfl dX7_count_75 ?_
            exact W.iret (v := nI (x_br σ)) hx hb hr (fun t ht _ => ⟨⟨(some (.int (nI (x_br σ)))), dvW g a (x_mem σ) (x_med σ) (x_cb σ) (x_ca σ) (x_nc σ) (x_cg σ) (x_T σ) (x_op σ) (x_id σ) (x_fg σ) (x_n σ) (x_cp σ) (x_cq σ) (x_cx σ) (x_pg σ) (x_fi σ) (x_F σ) (x_rw σ) (x_on σ) (x_bi σ) (x_tu σ) (x_re σ) (x_dw σ) (x_dq σ) (x_br σ) (x_bs σ), rfl, ⟨congrArg (fun z : Int32 => some (Value.int z)) (by simp [countR, *]), rfl⟩, rfl, by rw [ht]; exact hP⟩, hS.F ht⟩) hS.2.2 dX7_count_78
          · have z4 := lv_neT (a := 4) w4 (by decide)
            by_cases w5 : p0 = 5
            · refine lv_tableIn (off := 78) (tgt := 79) hx hb dX7_count_1 (by rw [w5]; decide) (by rw [w5]; decide) (by rw [w5]; decide) (by decide) ?_
              refine lv_aload_n hx hb dX7_count_79 rfl (lv_at hl 0 rfl) ?_
              refine va_get (D := g.1) (ci := 6) (v := .int (nI (x_bs σ))) (C := RX7) (T := TX7) (N := 15) hx hb hts inX7 hown hK hP 0 rfl rfl 14 (by decide) (hts _ tw197) (fun _ h9 => h9) rfl dX7_count_80 ?_
              exact W.iret (v := nI (x_bs σ)) hx hb hr (fun t ht _ => ⟨⟨(some (.int (nI (x_bs σ)))), dvW g a (x_mem σ) (x_med σ) (x_cb σ) (x_ca σ) (x_nc σ) (x_cg σ) (x_T σ) (x_op σ) (x_id σ) (x_fg σ) (x_n σ) (x_cp σ) (x_cq σ) (x_cx σ) (x_pg σ) (x_fi σ) (x_F σ) (x_rw σ) (x_on σ) (x_bi σ) (x_tu σ) (x_re σ) (x_dw σ) (x_dq σ) (x_br σ) (x_bs σ), rfl, ⟨congrArg (fun z : Int32 => some (Value.int z)) (by simp [countR, *]), rfl⟩, rfl, by rw [ht]; exact hP⟩, hS.F ht⟩) hS.2.2 dX7_count_83
            · have z5 := lv_neT (a := 5) w5 (by decide)
              refine lv_tableOut (tgt := 84) hx hb dX7_count_1 (by omega) (by decide) ?_
              refine lv_iconst (v := -1) hx hb dX7_count_84 (by decide) ?_
              exact W.iret (v := -1) hx hb hr (fun t ht _ => ⟨⟨(some (.int (-1))), dvW g a (x_mem σ) (x_med σ) (x_cb σ) (x_ca σ) (x_nc σ) (x_cg σ) (x_T σ) (x_op σ) (x_id σ) (x_fg σ) (x_n σ) (x_cp σ) (x_cq σ) (x_cx σ) (x_pg σ) (x_fi σ) (x_F σ) (x_rw σ) (x_on σ) (x_bi σ) (x_tu σ) (x_re σ) (x_dw σ) (x_dq σ) (x_br σ) (x_bs σ), rfl, ⟨congrArg (fun z : Int32 => some (Value.int z)) (by simp [countR, *]), rfl⟩, rfl, by rw [ht]; exact hP⟩, hS.F ht⟩) hS.2.2 dX7_count_85
