set_option maxHeartbeats 4000000 in
set_option maxRecDepth 100000 in
/-- begin -/
theorem kX7_begin (l : Launch) (g : GG) (a : Nat → Nat) (σ : CS) (p0 : Int32) (p1 : Int32) (p2 : Int32) (p3 : Int32) : Ct l yX7_begin cX7_begin 5 (some .int) ({ frames := 3, cells := 0, slots := 0, locals := 68 } : Room) g [.ref (a 0), .int p0, .int p1, .int p2, .int p3] (dvW g a (x_mem σ) (x_med σ) (x_cb σ) (x_ca σ) (x_nc σ) (x_cg σ) (x_T σ) (x_op σ) (x_id σ) (x_fg σ) (x_n σ) (x_cp σ) (x_cq σ) (x_cx σ) (x_pg σ) (x_fi σ) (x_F σ) (x_rw σ) (x_on σ) (x_bi σ) (x_tu σ) (x_re σ) (x_dw σ) (x_dq σ) (x_br σ) (x_bs σ)) (fun v w' => v = some (.int (if ¬ bgF p0 p1 p2 p3 then -1 else if ¬ x_on σ = 0 then -2 else 0)) ∧ w' = dvW g a (x_mem σ) (x_med σ) (x_cb σ) (x_ca σ) (x_nc σ) (x_cg σ) (if bgF p0 p1 p2 p3 ∧ x_on σ = 0 then mkS (mkC (x_T σ) 0 p2 p3 1) 0 p0 p1 0 else x_T σ) (x_op σ) (x_id σ) (x_fg σ) (x_n σ) (x_cp σ) (x_cq σ) (x_cx σ) (x_pg σ) (x_fi σ) (x_F σ) (x_rw σ) (if bgF p0 p1 p2 p3 ∧ x_on σ = 0 then 1 else x_on σ) (if bgF p0 p1 p2 p3 ∧ x_on σ = 0 then 0 else x_bi σ) (if bgF p0 p1 p2 p3 ∧ x_on σ = 0 then 0 else x_tu σ) (x_re σ) (x_dw σ) (x_dq σ) (x_br σ) (x_bs σ)) := by
  refine Ct.of (by decide) (Nat.le_of_ble_eq_true rfl) ?_
  intro p e s m below meth c A ls H locs hx hb hr hml hlocks hts hown hin hA hS hK hP hD hl
  have hown : s.vm.findClass RX7 = some m.cls := hown
  have hl : lv_has ls 5 [(0, .ref (a 0)), (1, .int p0), (2, .int p1), (3, .int p2), (4, .int p3)] := hl
  refine lv_iload_n hx hb dX7_begin_0 rfl (lv_at hl 1 rfl) ?_
  refine lv_i2l hx hb dX7_begin_1 rfl ?_
  refine lv_iload_n hx hb dX7_begin_2 rfl (lv_at hl 2 rfl) ?_
  refine lv_i2l hx hb dX7_begin_3 rfl ?_
  refine fr_go (va_runS (As := [.long p0.toInt64, .long p1.toInt64]) (rest := []) ⟨hx, hb, hml, hown, hts⟩ (kX6_fits l g p0.toInt64 p1.toInt64 H.size) (va_cwS 2 hts (gdS tw254 tw255 tw5 tw256) rfl rfl rfl (by decide +kernel) ⟨Nat.le_of_ble_eq_true rfl, Nat.le_of_ble_eq_true rfl⟩) ⟨Pst.blind, fr_pre hK hP hD [] rfl rfl⟩ rfl rfl hl.1 rfl (lv_room (Nat.le_of_ble_eq_true rfl)) dX7_begin_4 ⟨Nat.le_of_ble_eq_true rfl, Nat.le_of_ble_eq_true rfl⟩) hP hD hS hA [] rfl (fun v w9 H locs hq hP hD hS => ?_)
  obtain ⟨rfl, rfl⟩ := hq
  have hP : va_P g.1 vwCl (dvW g a (x_mem σ) (x_med σ) (x_cb σ) (x_ca σ) (x_nc σ) (x_cg σ) (x_T σ) (x_op σ) (x_id σ) (x_fg σ) (x_n σ) (x_cp σ) (x_cq σ) (x_cx σ) (x_pg σ) (x_fi σ) (x_F σ) (x_rw σ) (x_on σ) (x_bi σ) (x_tu σ) (x_re σ) (x_dw σ) (x_dq σ) (x_br σ) (x_bs σ)) H := hP
  have hD : va_D A (dvW g a (x_mem σ) (x_med σ) (x_cb σ) (x_ca σ) (x_nc σ) (x_cg σ) (x_T σ) (x_op σ) (x_id σ) (x_fg σ) (x_n σ) (x_cp σ) (x_cq σ) (x_cx σ) (x_pg σ) (x_fi σ) (x_F σ) (x_rw σ) (x_on σ) (x_bi σ) (x_tu σ) (x_re σ) (x_dw σ) (x_dq σ) (x_br σ) (x_bs σ)) := hD
  show W p l e _ s m _ below meth c H locs _ _ _ (F0 m (4 + 3) ls (.int (bI (fitR p0.toInt64 p1.toInt64 4)) :: []))
  refine lv_if_eq (tgt := 21) hx hb dX7_begin_7 (by decide) (fun c7 => ?_) (fun c7 => ?_)
  · have c7 := bI_f c7
    refine lv_iconst (v := -1) hx hb dX7_begin_21 (by decide) ?_
    exact W.iret (v := -1) hx hb hr (fun t ht _ => ⟨⟨(some (.int (-1))), dvW g a (x_mem σ) (x_med σ) (x_cb σ) (x_ca σ) (x_nc σ) (x_cg σ) (x_T σ) (x_op σ) (x_id σ) (x_fg σ) (x_n σ) (x_cp σ) (x_cq σ) (x_cx σ) (x_pg σ) (x_fi σ) (x_F σ) (x_rw σ) (x_on σ) (x_bi σ) (x_tu σ) (x_re σ) (x_dw σ) (x_dq σ) (x_br σ) (x_bs σ), rfl, ⟨congrArg (fun z : Int32 => some (Value.int z)) (if_pos (fun q => c7 q.1)).symm, by rw [if_neg (fun q => (fun q => c7 q.1) q.1), if_neg (fun q => (fun q => c7 q.1) q.1), if_neg (fun q => (fun q => c7 q.1) q.1), if_neg (fun q => (fun q => c7 q.1) q.1)]⟩, rfl, by rw [ht]; exact hP⟩, hS.F ht⟩) hS.2.2 dX7_begin_22
  · have c7 := bI_t c7
    refine lv_iload_n hx hb dX7_begin_10 rfl (lv_at hl 3 rfl) ?_
    refine lv_i2l hx hb dX7_begin_11 rfl ?_
    refine lv_iload hx hb dX7_begin_12 (lv_at hl 4 rfl) ?_
    refine lv_i2l hx hb dX7_begin_14 rfl ?_
    refine fr_go (va_runS (As := [.long p2.toInt64, .long p3.toInt64]) (rest := []) ⟨hx, hb, hml, hown, hts⟩ (kX1_fits l g p2.toInt64 p3.toInt64 H.size) (va_cwS 2 hts (gdS tw265 tw266 tw6 tw267) rfl rfl rfl (by decide +kernel) ⟨Nat.le_of_ble_eq_true rfl, Nat.le_of_ble_eq_true rfl⟩) ⟨Pst.blind, fr_pre hK hP hD [] rfl rfl⟩ rfl rfl hl.1 rfl (lv_room (Nat.le_of_ble_eq_true rfl)) dX7_begin_15 ⟨Nat.le_of_ble_eq_true rfl, Nat.le_of_ble_eq_true rfl⟩) hP hD hS hA [] rfl (fun v w9 H locs hq hP hD hS => ?_)
    obtain ⟨rfl, rfl⟩ := hq
    have hP : va_P g.1 vwCl (dvW g a (x_mem σ) (x_med σ) (x_cb σ) (x_ca σ) (x_nc σ) (x_cg σ) (x_T σ) (x_op σ) (x_id σ) (x_fg σ) (x_n σ) (x_cp σ) (x_cq σ) (x_cx σ) (x_pg σ) (x_fi σ) (x_F σ) (x_rw σ) (x_on σ) (x_bi σ) (x_tu σ) (x_re σ) (x_dw σ) (x_dq σ) (x_br σ) (x_bs σ)) H := hP
    have hD : va_D A (dvW g a (x_mem σ) (x_med σ) (x_cb σ) (x_ca σ) (x_nc σ) (x_cg σ) (x_T σ) (x_op σ) (x_id σ) (x_fg σ) (x_n σ) (x_cp σ) (x_cq σ) (x_cx σ) (x_pg σ) (x_fi σ) (x_F σ) (x_rw σ) (x_on σ) (x_bi σ) (x_tu σ) (x_re σ) (x_dw σ) (x_dq σ) (x_br σ) (x_bs σ)) := hD
    show W p l e _ s m _ below meth c H locs _ _ _ (F0 m (15 + 3) ls (.int (bI (fitR p2.toInt64 p3.toInt64 1)) :: []))
    refine lv_if_ne (tgt := 23) hx hb dX7_begin_18 (by decide) (fun c18 => ?_) (fun c18 => ?_)
    · have c18 := bI_t c18
      refine lv_aload_n hx hb dX7_begin_23 rfl (lv_at hl 0 rfl) ?_
      refine va_get (D := g.1) (ci := 6) (v := .int (x_on σ)) (C := RX7) (T := TX7) (N := 15) hx hb hts inX7 hown hK hP 0 rfl rfl 7 (by decide) (hts _ tw190) (fun _ h9 => h9) rfl dX7_begin_24 ?_
      refine lv_if_eq (tgt := 33) hx hb dX7_begin_27 (by decide) (fun c27 => ?_) (fun c27 => ?_)
      · refine lv_aload_n hx hb dX7_begin_33 rfl (lv_at hl 0 rfl) ?_
        refine lv_iconst (v := 1) hx hb dX7_begin_34 (by decide) ?_
        refine va_put (D := g.1) (ci := 6) (v := .int 1) (ty := .boolean) (C := RX7) (T := TX7) (N := 15) hx hb hts inX7 tyX7 tyX7_ok nmX7 hown hK hP hD hS 0 rfl rfl 7 (by decide) (hts _ tw190) (fun _ h9 => h9) rfl (by decide +kernel) rfl rfl (Nat.le_of_ble_eq_true rfl) dX7_begin_35 (fun H locs hP hD hS => ?_)
        have hP : va_P g.1 vwCl (dvW g a (x_mem σ) (x_med σ) (x_cb σ) (x_ca σ) (x_nc σ) (x_cg σ) (x_T σ) (x_op σ) (x_id σ) (x_fg σ) (x_n σ) (x_cp σ) (x_cq σ) (x_cx σ) (x_pg σ) (x_fi σ) (x_F σ) (x_rw σ) 1 (x_bi σ) (x_tu σ) (x_re σ) (x_dw σ) (x_dq σ) (x_br σ) (x_bs σ)) H := hP
        have hD : va_D A (dvW g a (x_mem σ) (x_med σ) (x_cb σ) (x_ca σ) (x_nc σ) (x_cg σ) (x_T σ) (x_op σ) (x_id σ) (x_fg σ) (x_n σ) (x_cp σ) (x_cq σ) (x_cx σ) (x_pg σ) (x_fi σ) (x_F σ) (x_rw σ) 1 (x_bi σ) (x_tu σ) (x_re σ) (x_dw σ) (x_dq σ) (x_br σ) (x_bs σ)) := hD
        refine lv_aload_n hx hb dX7_begin_38 rfl (lv_at hl 0 rfl) ?_
        refine lv_iconst (v := 0) hx hb dX7_begin_39 (by decide) ?_
        refine va_put (D := g.1) (ci := 6) (v := .int 0) (ty := .int) (C := RX7) (T := TX7) (N := 15) hx hb hts inX7 tyX7 tyX7_ok nmX7 hown hK hP hD hS 0 rfl rfl 8 (by decide) (hts _ tw191) (fun _ h9 => h9) rfl (by decide +kernel) rfl rfl (Nat.le_of_ble_eq_true rfl) dX7_begin_40 (fun H locs hP hD hS => ?_)
        have hP : va_P g.1 vwCl (dvW g a (x_mem σ) (x_med σ) (x_cb σ) (x_ca σ) (x_nc σ) (x_cg σ) (x_T σ) (x_op σ) (x_id σ) (x_fg σ) (x_n σ) (x_cp σ) (x_cq σ) (x_cx σ) (x_pg σ) (x_fi σ) (x_F σ) (x_rw σ) 1 0 (x_tu σ) (x_re σ) (x_dw σ) (x_dq σ) (x_br σ) (x_bs σ)) H := hP
        have hD : va_D A (dvW g a (x_mem σ) (x_med σ) (x_cb σ) (x_ca σ) (x_nc σ) (x_cg σ) (x_T σ) (x_op σ) (x_id σ) (x_fg σ) (x_n σ) (x_cp σ) (x_cq σ) (x_cx σ) (x_pg σ) (x_fi σ) (x_F σ) (x_rw σ) 1 0 (x_tu σ) (x_re σ) (x_dw σ) (x_dq σ) (x_br σ) (x_bs σ)) := hD
        refine lv_aload_n hx hb dX7_begin_43 rfl (lv_at hl 0 rfl) ?_
        refine lv_iconst (v := 0) hx hb dX7_begin_44 (by decide) ?_
        refine fr_topi (y := nI 0) nI_0.symm ?_
        refine va_put (D := g.1) (ci := 6) (v := .int (nI 0)) (ty := .int) (C := RX7) (T := TX7) (N := 15) hx hb hts inX7 tyX7 tyX7_ok nmX7 hown hK hP hD hS 0 rfl rfl 9 (by decide) (hts _ tw192) (fun _ h9 => h9) rfl (by decide +kernel) rfl rfl (Nat.le_of_ble_eq_true rfl) dX7_begin_45 (fun H locs hP hD hS => ?_)
        have hP : va_P g.1 vwCl (dvW g a (x_mem σ) (x_med σ) (x_cb σ) (x_ca σ) (x_nc σ) (x_cg σ) (x_T σ) (x_op σ) (x_id σ) (x_fg σ) (x_n σ) (x_cp σ) (x_cq σ) (x_cx σ) (x_pg σ) (x_fi σ) (x_F σ) (x_rw σ) 1 0 0 (x_re σ) (x_dw σ) (x_dq σ) (x_br σ) (x_bs σ)) H := hP
        have hD : va_D A (dvW g a (x_mem σ) (x_med σ) (x_cb σ) (x_ca σ) (x_nc σ) (x_cg σ) (x_T σ) (x_op σ) (x_id σ) (x_fg σ) (x_n σ) (x_cp σ) (x_cq σ) (x_cx σ) (x_pg σ) (x_fi σ) (x_F σ) (x_rw σ) 1 0 0 (x_re σ) (x_dw σ) (x_dq σ) (x_br σ) (x_bs σ)) := hD
        refine lv_aload_n hx hb dX7_begin_48 rfl (lv_at hl 0 rfl) ?_
        refine va_get (D := g.1) (ci := 6) (v := .ref (a 8)) (C := RX7) (T := TX7) (N := 15) hx hb hts inX7 hown hK hP 0 rfl rfl 3 (by decide) (hts _ tw186) (fun _ h9 => h9) rfl dX7_begin_49 ?_
        refine lv_iconst (v := 0) hx hb dX7_begin_52 (by decide) ?_
        refine fr_aald (k := 0) (b := (a (17 + 0))) hx hb hK hP 8 4 rfl rfl (by rfl) (by omega) (by decide) (if_pos (by omega)) dX7_begin_53 ?_
        refine lv_iload_n hx hb dX7_begin_54 rfl (lv_at hl 3 rfl) ?_
        refine lv_iload hx hb dX7_begin_55 (lv_at hl 4 rfl) ?_
        refine lv_iconst (v := 1) hx hb dX7_begin_57 (by decide) ?_
        refine fr_go (va_runV (As := [.int p2, .int p3, .int 1]) (rest := []) ⟨hx, hb, hml, hown, hts⟩ (kX1_make l g (a (17 + 0)) ((x_T σ) 0 (4 + 0)) ((x_T σ) 1 (4 + 0)) ((x_T σ) 2 (4 + 0)) ((x_T σ) 3 (4 + 0)) ((x_T σ) 4 (4 + 0)) ((x_T σ) 6 0) ((x_T σ) 7 0) p2 p3 1 (Or.inr rfl) H.size) (cwV 3 hts (gdV tw269 tw270 tw271 tw6 tw272) rfl rfl rfl (by decide +kernel) ⟨Nat.le_of_ble_eq_true rfl, Nat.le_of_ble_eq_true rfl⟩) ⟨Pst.blind, va_recv hK hP (ci := 1) (q0 := (17 + 0)) rfl (dvC (j := 0) (by decide)), fr_pre hK hP hD [17 + 0] rfl (fr_c1 (dvC (j := 0) (by decide)))⟩ rfl rfl hl.1 rfl (lv_room (Nat.le_of_ble_eq_true rfl)) dX7_begin_58 ⟨Nat.le_of_ble_eq_true rfl, Nat.le_of_ble_eq_true rfl⟩) hP hD hS hA [17 + 0] (fr_c1 (dvC (j := 0) (by decide))) (fun v w9 H locs hq hP hD hS => ?_)
        obtain ⟨rfl, rfl⟩ := hq
        have hP : va_P g.1 vwCl (dvW g a (x_mem σ) (x_med σ) (x_cb σ) (x_ca σ) (x_nc σ) (x_cg σ) (up2 (up2 (up2 (up2 (up2 (up2 (up2 (x_T σ) 0 (4 + 0) 1) 1 (4 + 0) p2) 2 (4 + 0) p3) 3 (4 + 0) 0) 4 (4 + 0) 0) 6 0 1) 7 0 1) (x_op σ) (x_id σ) (x_fg σ) (x_n σ) (x_cp σ) (x_cq σ) (x_cx σ) (x_pg σ) (x_fi σ) (x_F σ) (x_rw σ) 1 0 0 (x_re σ) (x_dw σ) (x_dq σ) (x_br σ) (x_bs σ)) H := fr_eqP (dvC_0123456 (j := 0) (by decide)) hP
        have hD : va_D A (dvW g a (x_mem σ) (x_med σ) (x_cb σ) (x_ca σ) (x_nc σ) (x_cg σ) (up2 (up2 (up2 (up2 (up2 (up2 (up2 (x_T σ) 0 (4 + 0) 1) 1 (4 + 0) p2) 2 (4 + 0) p3) 3 (4 + 0) 0) 4 (4 + 0) 0) 6 0 1) 7 0 1) (x_op σ) (x_id σ) (x_fg σ) (x_n σ) (x_cp σ) (x_cq σ) (x_cx σ) (x_pg σ) (x_fi σ) (x_F σ) (x_rw σ) 1 0 0 (x_re σ) (x_dw σ) (x_dq σ) (x_br σ) (x_bs σ)) := fr_eqD (dvC_0123456 (j := 0) (by decide)) hD
        show W p l e _ s m _ below meth c H locs _ _ _ (F0 m (58 + 3) ls ([]))
        refine lv_aload_n hx hb dX7_begin_61 rfl (lv_at hl 0 rfl) ?_
        refine va_get (D := g.1) (ci := 6) (v := .ref (a 7)) (C := RX7) (T := TX7) (N := 15) hx hb hts inX7 hown hK hP 0 rfl rfl 2 (by decide) (hts _ tw185) (fun _ h9 => h9) rfl dX7_begin_62 ?_
        refine lv_iconst (v := 0) hx hb dX7_begin_65 (by decide) ?_
        refine fr_aald (k := 0) (b := (a (13 + 0))) hx hb hK hP 7 3 rfl rfl (by rfl) (by omega) (by decide) (if_pos (by omega)) dX7_begin_66 ?_
        refine lv_iload_n hx hb dX7_begin_67 rfl (lv_at hl 1 rfl) ?_
        refine lv_iload_n hx hb dX7_begin_68 rfl (lv_at hl 2 rfl) ?_
        refine lv_iconst (v := 0) hx hb dX7_begin_69 (by decide) ?_
        refine fr_go (va_runV (As := [.int p0, .int p1, .int 0]) (rest := []) ⟨hx, hb, hml, hown, hts⟩ (kX6_make l g (a (13 + 0)) ((up2 (up2 (up2 (up2 (up2 (up2 (up2 (x_T σ) 0 (4 + 0) 1) 1 (4 + 0) p2) 2 (4 + 0) p3) 3 (4 + 0) 0) 4 (4 + 0) 0) 6 0 1) 7 0 1) 0 0) ((up2 (up2 (up2 (up2 (up2 (up2 (up2 (x_T σ) 0 (4 + 0) 1) 1 (4 + 0) p2) 2 (4 + 0) p3) 3 (4 + 0) 0) 4 (4 + 0) 0) 6 0 1) 7 0 1) 1 0) ((up2 (up2 (up2 (up2 (up2 (up2 (up2 (x_T σ) 0 (4 + 0) 1) 1 (4 + 0) p2) 2 (4 + 0) p3) 3 (4 + 0) 0) 4 (4 + 0) 0) 6 0 1) 7 0 1) 2 0) ((up2 (up2 (up2 (up2 (up2 (up2 (up2 (x_T σ) 0 (4 + 0) 1) 1 (4 + 0) p2) 2 (4 + 0) p3) 3 (4 + 0) 0) 4 (4 + 0) 0) 6 0 1) 7 0 1) 3 0) ((up2 (up2 (up2 (up2 (up2 (up2 (up2 (x_T σ) 0 (4 + 0) 1) 1 (4 + 0) p2) 2 (4 + 0) p3) 3 (4 + 0) 0) 4 (4 + 0) 0) 6 0 1) 7 0 1) 4 0) ((up2 (up2 (up2 (up2 (up2 (up2 (up2 (x_T σ) 0 (4 + 0) 1) 1 (4 + 0) p2) 2 (4 + 0) p3) 3 (4 + 0) 0) 4 (4 + 0) 0) 6 0 1) 7 0 1) 5 0) p0 p1 0 H.size) (cwV 3 hts (gdV tw279 tw280 tw281 tw5 tw282) rfl rfl rfl (by decide +kernel) ⟨Nat.le_of_ble_eq_true rfl, Nat.le_of_ble_eq_true rfl⟩) ⟨Pst.blind, va_recv hK hP (ci := 5) (q0 := (13 + 0)) rfl (dvS (j := 0) (by decide)), fr_pre hK hP hD [13 + 0] rfl (fr_c1 (dvS (j := 0) (by decide)))⟩ rfl rfl hl.1 rfl (lv_room (Nat.le_of_ble_eq_true rfl)) dX7_begin_70 ⟨Nat.le_of_ble_eq_true rfl, Nat.le_of_ble_eq_true rfl⟩) hP hD hS hA [13 + 0] (fr_c1 (dvS (j := 0) (by decide))) (fun v w9 H locs hq hP hD hS => ?_)
        obtain ⟨rfl, rfl⟩ := hq
        have hP : va_P g.1 vwCl (dvW g a (x_mem σ) (x_med σ) (x_cb σ) (x_ca σ) (x_nc σ) (x_cg σ) (up2 (up2 (up2 (up2 (up2 (up2 (up2 (up2 (up2 (up2 (up2 (up2 (up2 (x_T σ) 0 (4 + 0) 1) 1 (4 + 0) p2) 2 (4 + 0) p3) 3 (4 + 0) 0) 4 (4 + 0) 0) 6 0 1) 7 0 1) 0 0 1) 1 0 p0) 2 0 p1) 3 0 0) 4 0 0) 5 0 0) (x_op σ) (x_id σ) (x_fg σ) (x_n σ) (x_cp σ) (x_cq σ) (x_cx σ) (x_pg σ) (x_fi σ) (x_F σ) (x_rw σ) 1 0 0 (x_re σ) (x_dw σ) (x_dq σ) (x_br σ) (x_bs σ)) H := fr_eqP (dvS_012345 (j := 0) (by decide)) hP
        have hD : va_D A (dvW g a (x_mem σ) (x_med σ) (x_cb σ) (x_ca σ) (x_nc σ) (x_cg σ) (up2 (up2 (up2 (up2 (up2 (up2 (up2 (up2 (up2 (up2 (up2 (up2 (up2 (x_T σ) 0 (4 + 0) 1) 1 (4 + 0) p2) 2 (4 + 0) p3) 3 (4 + 0) 0) 4 (4 + 0) 0) 6 0 1) 7 0 1) 0 0 1) 1 0 p0) 2 0 p1) 3 0 0) 4 0 0) 5 0 0) (x_op σ) (x_id σ) (x_fg σ) (x_n σ) (x_cp σ) (x_cq σ) (x_cx σ) (x_pg σ) (x_fi σ) (x_F σ) (x_rw σ) 1 0 0 (x_re σ) (x_dw σ) (x_dq σ) (x_br σ) (x_bs σ)) := fr_eqD (dvS_012345 (j := 0) (by decide)) hD
        show W p l e _ s m _ below meth c H locs _ _ _ (F0 m (70 + 3) ls ([]))
        refine lv_iconst (v := 0) hx hb dX7_begin_73 (by decide) ?_
        exact W.iret (v := 0) hx hb hr (fun t ht _ => ⟨⟨(some (.int 0)), dvW g a (x_mem σ) (x_med σ) (x_cb σ) (x_ca σ) (x_nc σ) (x_cg σ) (up2 (up2 (up2 (up2 (up2 (up2 (up2 (up2 (up2 (up2 (up2 (up2 (up2 (x_T σ) 0 (4 + 0) 1) 1 (4 + 0) p2) 2 (4 + 0) p3) 3 (4 + 0) 0) 4 (4 + 0) 0) 6 0 1) 7 0 1) 0 0 1) 1 0 p0) 2 0 p1) 3 0 0) 4 0 0) 5 0 0) (x_op σ) (x_id σ) (x_fg σ) (x_n σ) (x_cp σ) (x_cq σ) (x_cx σ) (x_pg σ) (x_fi σ) (x_F σ) (x_rw σ) 1 0 0 (x_re σ) (x_dw σ) (x_dq σ) (x_br σ) (x_bs σ), rfl, ⟨congrArg (fun z : Int32 => some (Value.int z)) (by rw [if_neg (fun q => q ⟨c7, c18⟩), if_neg (fun q => q c27)]), by rw [if_pos ⟨⟨c7, c18⟩, c27⟩, if_pos ⟨⟨c7, c18⟩, c27⟩, if_pos ⟨⟨c7, c18⟩, c27⟩, if_pos ⟨⟨c7, c18⟩, c27⟩]; rfl⟩, rfl, by rw [ht]; exact hP⟩, hS.F ht⟩) hS.2.2 dX7_begin_74
      · refine lv_bipush (v := -2) hx hb dX7_begin_30 (by decide) ?_
        exact W.iret (v := -2) hx hb hr (fun t ht _ => ⟨⟨(some (.int (-2))), dvW g a (x_mem σ) (x_med σ) (x_cb σ) (x_ca σ) (x_nc σ) (x_cg σ) (x_T σ) (x_op σ) (x_id σ) (x_fg σ) (x_n σ) (x_cp σ) (x_cq σ) (x_cx σ) (x_pg σ) (x_fi σ) (x_F σ) (x_rw σ) (x_on σ) (x_bi σ) (x_tu σ) (x_re σ) (x_dw σ) (x_dq σ) (x_br σ) (x_bs σ), rfl, ⟨congrArg (fun z : Int32 => some (Value.int z)) (by rw [if_neg (fun q => q ⟨c7, c18⟩), if_pos c27]), by rw [if_neg (fun q => c27 q.2), if_neg (fun q => c27 q.2), if_neg (fun q => c27 q.2), if_neg (fun q => c27 q.2)]⟩, rfl, by rw [ht]; exact hP⟩, hS.F ht⟩) hS.2.2 dX7_begin_32
    · have c18 := bI_f c18
      refine lv_iconst (v := -1) hx hb dX7_begin_21 (by decide) ?_
      exact W.iret (v := -1) hx hb hr (fun t ht _ => ⟨⟨(some (.int (-1))), dvW g a (x_mem σ) (x_med σ) (x_cb σ) (x_ca σ) (x_nc σ) (x_cg σ) (x_T σ) (x_op σ) (x_id σ) (x_fg σ) (x_n σ) (x_cp σ) (x_cq σ) (x_cx σ) (x_pg σ) (x_fi σ) (x_F σ) (x_rw σ) (x_on σ) (x_bi σ) (x_tu σ) (x_re σ) (x_dw σ) (x_dq σ) (x_br σ) (x_bs σ), rfl, ⟨congrArg (fun z : Int32 => some (Value.int z)) (if_pos (fun q => c18 q.2)).symm, by rw [if_neg (fun q => (fun q => c18 q.2) q.1), if_neg (fun q => (fun q => c18 q.2) q.1), if_neg (fun q => (fun q => c18 q.2) q.1), if_neg (fun q => (fun q => c18 q.2) q.1)]⟩, rfl, by rw [ht]; exact hP⟩, hS.F ht⟩) hS.2.2 dX7_begin_22
