set_option maxHeartbeats 4000000 in
set_option maxRecDepth 100000 in
/-- queue -/
theorem kX7_queue (l : Launch) (g : GG) (a : Nat → Nat) (σ : CS) (p0 : Int32) (p1 : Int32) : Ct l yX7_queue cX7_queue 3 (some .int) ({ frames := 3, cells := 0, slots := 0, locals := 62 } : Room) g [.ref (a 0), .int p0, .int p1] (dvW g a (x_mem σ) (x_med σ) (x_cb σ) (x_ca σ) (x_nc σ) (x_cg σ) (x_T σ) (x_op σ) (x_id σ) (x_fg σ) (x_n σ) (x_cp σ) (x_cq σ) (x_cx σ) (x_pg σ) (x_fi σ) (x_F σ) (x_rw σ) (x_on σ) (x_bi σ) (x_tu σ) (x_re σ) (x_dw σ) (x_dq σ) (x_br σ) (x_bs σ)) (fun v w' => v = some (.int (queueR (x_T σ) p0 p1)) ∧ w' = dvW g a (x_mem σ) (x_med σ) (x_cb σ) (x_ca σ) (x_nc σ) (x_cg σ) (x_T σ) (x_op σ) (x_id σ) (x_fg σ) (x_n σ) (x_cp σ) (x_cq σ) (x_cx σ) (x_pg σ) (x_fi σ) (x_F σ) (x_rw σ) (x_on σ) (x_bi σ) (x_tu σ) (x_re σ) (x_dw σ) (x_dq σ) (x_br σ) (x_bs σ)) := by
  refine Ct.of (by decide) (Nat.le_of_ble_eq_true rfl) ?_
  intro p e s m below meth c A ls H locs hx hb hr hml hlocks hts hown hin hA hS hK hP hD hl
  have hown : s.vm.findClass RX7 = some m.cls := hown
  have hl : lv_has ls 3 [(0, .ref (a 0)), (1, .int p0), (2, .int p1)] := hl
  refine lv_iload_n hx hb dX7_queue_0 rfl (lv_at hl 2 rfl) ?_
  refine lv_if_lt (tgt := 10) hx hb dX7_queue_1 (by decide) (fun c1 => ?_) (fun c1 => ?_)
  · refine lv_iconst (v := -1) hx hb dX7_queue_10 (by decide) ?_
    exact W.iret (v := -1) hx hb hr (fun t ht _ => ⟨⟨(some (.int (-1))), dvW g a (x_mem σ) (x_med σ) (x_cb σ) (x_ca σ) (x_nc σ) (x_cg σ) (x_T σ) (x_op σ) (x_id σ) (x_fg σ) (x_n σ) (x_cp σ) (x_cq σ) (x_cx σ) (x_pg σ) (x_fi σ) (x_F σ) (x_rw σ) (x_on σ) (x_bi σ) (x_tu σ) (x_re σ) (x_dw σ) (x_dq σ) (x_br σ) (x_bs σ), rfl, ⟨congrArg (fun z : Int32 => some (Value.int z)) (if_pos (Or.inl c1)).symm, rfl⟩, rfl, by rw [ht]; exact hP⟩, hS.F ht⟩) hS.2.2 dX7_queue_11
  · refine lv_iload_n hx hb dX7_queue_4 rfl (lv_at hl 2 rfl) ?_
    refine lv_bipush (v := 8) hx hb dX7_queue_5 (by decide) ?_
    refine lv_icmp_le (tgt := 12) hx hb dX7_queue_7 (by decide) (fun c7 => ?_) (fun c7 => ?_)
    · refine lv_iload_n hx hb dX7_queue_12 rfl (lv_at hl 2 rfl) ?_
      refine lv_iconst (v := 5) hx hb dX7_queue_13 (by decide) ?_
      refine lv_icmp_ge (tgt := 42) hx hb dX7_queue_14 (by decide) (fun c14 => ?_) (fun c14 => ?_)
      · refine lv_aload_n hx hb dX7_queue_42 rfl (lv_at hl 0 rfl) ?_
        refine lv_iload_n hx hb dX7_queue_43 rfl (lv_at hl 1 rfl) ?_
        refine lv_i2l hx hb dX7_queue_44 rfl ?_
        refine fr_goA (va_runV (As := [.long p0.toInt64]) (rest := []) ⟨hx, hb, hml, hown, hts⟩ (kX7_hasCompletion l g a σ p0.toInt64 H.size) (cwV 1 hts (gdV tw345 tw347 tp1 tw1 tw348) rfl rfl rfl (by decide +kernel) ⟨Nat.le_of_ble_eq_true rfl, Nat.le_of_ble_eq_true rfl⟩) ⟨Pst.blind, va_recv hK hP (ci := 6) (q0 := 0) rfl rfl, fr_preA hK hP hD⟩ rfl rfl hl.1 rfl (lv_room (Nat.le_of_ble_eq_true rfl)) dX7_queue_45 ⟨Nat.le_of_ble_eq_true rfl, Nat.le_of_ble_eq_true rfl⟩) hD hS hA (fun v w9 H locs hq hP hD hS => ?_)
        obtain ⟨rfl, rfl⟩ := hq
        have hP : va_P g.1 vwCl (dvW g a (x_mem σ) (x_med σ) (x_cb σ) (x_ca σ) (x_nc σ) (x_cg σ) (x_T σ) (x_op σ) (x_id σ) (x_fg σ) (x_n σ) (x_cp σ) (x_cq σ) (x_cx σ) (x_pg σ) (x_fi σ) (x_F σ) (x_rw σ) (x_on σ) (x_bi σ) (x_tu σ) (x_re σ) (x_dw σ) (x_dq σ) (x_br σ) (x_bs σ)) H := hP
        have hD : va_D A (dvW g a (x_mem σ) (x_med σ) (x_cb σ) (x_ca σ) (x_nc σ) (x_cg σ) (x_T σ) (x_op σ) (x_id σ) (x_fg σ) (x_n σ) (x_cp σ) (x_cq σ) (x_cx σ) (x_pg σ) (x_fi σ) (x_F σ) (x_rw σ) (x_on σ) (x_bi σ) (x_tu σ) (x_re σ) (x_dw σ) (x_dq σ) (x_br σ) (x_bs σ)) := hD
        show W p l e _ s m _ below meth c H locs _ _ _ (F0 m (45 + 3) ls (.int (bI (hasC (x_T σ) p0.toInt64)) :: []))
        refine lv_if_eq (tgt := 64) hx hb dX7_queue_48 (by decide) (fun c48 => ?_) (fun c48 => ?_)
        · have c48 := bI_f c48
          refine lv_bipush (v := -2) hx hb dX7_queue_64 (by decide) ?_
          exact W.iret (v := -2) hx hb hr (fun t ht _ => ⟨⟨(some (.int (-2))), dvW g a (x_mem σ) (x_med σ) (x_cb σ) (x_ca σ) (x_nc σ) (x_cg σ) (x_T σ) (x_op σ) (x_id σ) (x_fg σ) (x_n σ) (x_cp σ) (x_cq σ) (x_cx σ) (x_pg σ) (x_fi σ) (x_F σ) (x_rw σ) (x_on σ) (x_bi σ) (x_tu σ) (x_re σ) (x_dw σ) (x_dq σ) (x_br σ) (x_bs σ), rfl, ⟨congrArg (fun z : Int32 => some (Value.int z)) (by rw [queueR, if_neg (fun q => q.elim c1 (Int32.not_lt.mpr c7)), if_neg (Int32.not_lt.mpr c14), if_neg c48]), rfl⟩, rfl, by rw [ht]; exact hP⟩, hS.F ht⟩) hS.2.2 dX7_queue_66
        · have c48 := bI_t c48
          obtain ⟨h4, e4, n4⟩ := i64_n c48.1 c48.2.1
          refine lv_aload_n hx hb dX7_queue_51 rfl (lv_at hl 0 rfl) ?_
          refine va_get (D := g.1) (ci := 6) (v := .ref (a 8)) (C := RX7) (T := TX7) (N := 15) hx hb hts inX7 hown hK hP 0 rfl rfl 3 (by decide) (hts _ tw186) (fun _ h9 => h9) rfl dX7_queue_52 ?_
          refine lv_iload_n hx hb dX7_queue_55 rfl (lv_at hl 1 rfl) ?_
          refine fr_topi (y := nI p0.toNatClampNeg) e4 ?_
          refine fr_aald (k := p0.toNatClampNeg) (b := (a (17 + p0.toNatClampNeg))) hx hb hK hP 8 4 rfl rfl rfl h4 (by decide) (if_pos h4) dX7_queue_56 ?_
          refine lv_iload_n hx hb dX7_queue_57 rfl (lv_at hl 2 rfl) ?_
          refine fr_go (va_runS (As := [.ref (a (17 + p0.toNatClampNeg)), .int p1]) (rest := []) ⟨hx, hb, hml, hown, hts⟩ (kX7_tellOfCompletion l g (a (17 + p0.toNatClampNeg)) ((x_T σ) 0 (4 + p0.toNatClampNeg)) ((x_T σ) 1 (4 + p0.toNatClampNeg)) ((x_T σ) 2 (4 + p0.toNatClampNeg)) ((x_T σ) 3 (4 + p0.toNatClampNeg)) ((x_T σ) 4 (4 + p0.toNatClampNeg)) ((x_T σ) 6 p0.toNatClampNeg) ((x_T σ) 7 p0.toNatClampNeg) p1 H.size) (va_cwS 2 hts (gdS tw588 tw589 tw1 tw590) rfl rfl rfl (by decide +kernel) ⟨Nat.le_of_ble_eq_true rfl, Nat.le_of_ble_eq_true rfl⟩) ⟨Pst.blind, fr_pre hK hP hD [17 + p0.toNatClampNeg] rfl (fr_c1 (dvC (j := p0.toNatClampNeg) (by omega)))⟩ rfl rfl hl.1 rfl (lv_room (Nat.le_of_ble_eq_true rfl)) dX7_queue_58 ⟨Nat.le_of_ble_eq_true rfl, Nat.le_of_ble_eq_true rfl⟩) hP hD hS hA [17 + p0.toNatClampNeg] (fr_c1 (dvC (j := p0.toNatClampNeg) (by omega))) (fun v w9 H locs hq hP hD hS => ?_)
          obtain ⟨rfl, rfl⟩ := hq
          have hP : va_P g.1 vwCl (dvW g a (x_mem σ) (x_med σ) (x_cb σ) (x_ca σ) (x_nc σ) (x_cg σ) (x_T σ) (x_op σ) (x_id σ) (x_fg σ) (x_n σ) (x_cp σ) (x_cq σ) (x_cx σ) (x_pg σ) (x_fi σ) (x_F σ) (x_rw σ) (x_on σ) (x_bi σ) (x_tu σ) (x_re σ) (x_dw σ) (x_dq σ) (x_br σ) (x_bs σ)) H := (fr_eqP (fr_s1 (dvC (j := p0.toNatClampNeg) (by omega))) hP)
          have hD : va_D A (dvW g a (x_mem σ) (x_med σ) (x_cb σ) (x_ca σ) (x_nc σ) (x_cg σ) (x_T σ) (x_op σ) (x_id σ) (x_fg σ) (x_n σ) (x_cp σ) (x_cq σ) (x_cx σ) (x_pg σ) (x_fi σ) (x_F σ) (x_rw σ) (x_on σ) (x_bi σ) (x_tu σ) (x_re σ) (x_dw σ) (x_dq σ) (x_br σ) (x_bs σ)) := (fr_eqD (fr_s1 (dvC (j := p0.toNatClampNeg) (by omega))) hD)
          show W p l e _ s m _ below meth c H locs _ _ _ (F0 m (58 + 3) ls (.int (telC ((x_T σ) 3 (4 + p0.toNatClampNeg)) ((x_T σ) 4 (4 + p0.toNatClampNeg)) ((x_T σ) 6 p0.toNatClampNeg) ((x_T σ) 2 (4 + p0.toNatClampNeg)) p1) :: []))
          refine lv_goto (tgt := 66) hx hb dX7_queue_61 (by decide) ?_
          exact W.iret (v := telC ((x_T σ) 3 (4 + p0.toNatClampNeg)) ((x_T σ) 4 (4 + p0.toNatClampNeg)) ((x_T σ) 6 p0.toNatClampNeg) ((x_T σ) 2 (4 + p0.toNatClampNeg)) p1) hx hb hr (fun t ht _ => ⟨⟨(some (.int (telC ((x_T σ) 3 (4 + p0.toNatClampNeg)) ((x_T σ) 4 (4 + p0.toNatClampNeg)) ((x_T σ) 6 p0.toNatClampNeg) ((x_T σ) 2 (4 + p0.toNatClampNeg)) p1))), dvW g a (x_mem σ) (x_med σ) (x_cb σ) (x_ca σ) (x_nc σ) (x_cg σ) (x_T σ) (x_op σ) (x_id σ) (x_fg σ) (x_n σ) (x_cp σ) (x_cq σ) (x_cx σ) (x_pg σ) (x_fi σ) (x_F σ) (x_rw σ) (x_on σ) (x_bi σ) (x_tu σ) (x_re σ) (x_dw σ) (x_dq σ) (x_br σ) (x_bs σ), rfl, ⟨congrArg (fun z : Int32 => some (Value.int z)) (by rw [queueR, if_neg (fun q => q.elim c1 (Int32.not_lt.mpr c7)), if_neg (Int32.not_lt.mpr c14), if_pos c48]), rfl⟩, rfl, by rw [ht]; exact hP⟩, hS.F ht⟩) hS.2.2 dX7_queue_66
      · refine lv_aload_n hx hb dX7_queue_17 rfl (lv_at hl 0 rfl) ?_
        refine lv_iload_n hx hb dX7_queue_18 rfl (lv_at hl 1 rfl) ?_
        refine lv_i2l hx hb dX7_queue_19 rfl ?_
        refine fr_goA (va_runV (As := [.long p0.toInt64]) (rest := []) ⟨hx, hb, hml, hown, hts⟩ (kX7_hasSubmission l g a σ p0.toInt64 H.size) (cwV 1 hts (gdV tw318 tw320 tp0 tw1 tw321) rfl rfl rfl (by decide +kernel) ⟨Nat.le_of_ble_eq_true rfl, Nat.le_of_ble_eq_true rfl⟩) ⟨Pst.blind, va_recv hK hP (ci := 6) (q0 := 0) rfl rfl, fr_preA hK hP hD⟩ rfl rfl hl.1 rfl (lv_room (Nat.le_of_ble_eq_true rfl)) dX7_queue_20 ⟨Nat.le_of_ble_eq_true rfl, Nat.le_of_ble_eq_true rfl⟩) hD hS hA (fun v w9 H locs hq hP hD hS => ?_)
        obtain ⟨rfl, rfl⟩ := hq
        have hP : va_P g.1 vwCl (dvW g a (x_mem σ) (x_med σ) (x_cb σ) (x_ca σ) (x_nc σ) (x_cg σ) (x_T σ) (x_op σ) (x_id σ) (x_fg σ) (x_n σ) (x_cp σ) (x_cq σ) (x_cx σ) (x_pg σ) (x_fi σ) (x_F σ) (x_rw σ) (x_on σ) (x_bi σ) (x_tu σ) (x_re σ) (x_dw σ) (x_dq σ) (x_br σ) (x_bs σ)) H := hP
        have hD : va_D A (dvW g a (x_mem σ) (x_med σ) (x_cb σ) (x_ca σ) (x_nc σ) (x_cg σ) (x_T σ) (x_op σ) (x_id σ) (x_fg σ) (x_n σ) (x_cp σ) (x_cq σ) (x_cx σ) (x_pg σ) (x_fi σ) (x_F σ) (x_rw σ) (x_on σ) (x_bi σ) (x_tu σ) (x_re σ) (x_dw σ) (x_dq σ) (x_br σ) (x_bs σ)) := hD
        show W p l e _ s m _ below meth c H locs _ _ _ (F0 m (20 + 3) ls (.int (bI (hasS (x_T σ) p0.toInt64)) :: []))
        refine lv_if_eq (tgt := 39) hx hb dX7_queue_23 (by decide) (fun c23 => ?_) (fun c23 => ?_)
        · have c23 := bI_f c23
          refine lv_bipush (v := -2) hx hb dX7_queue_39 (by decide) ?_
          exact W.iret (v := -2) hx hb hr (fun t ht _ => ⟨⟨(some (.int (-2))), dvW g a (x_mem σ) (x_med σ) (x_cb σ) (x_ca σ) (x_nc σ) (x_cg σ) (x_T σ) (x_op σ) (x_id σ) (x_fg σ) (x_n σ) (x_cp σ) (x_cq σ) (x_cx σ) (x_pg σ) (x_fi σ) (x_F σ) (x_rw σ) (x_on σ) (x_bi σ) (x_tu σ) (x_re σ) (x_dw σ) (x_dq σ) (x_br σ) (x_bs σ), rfl, ⟨congrArg (fun z : Int32 => some (Value.int z)) (by rw [queueR, if_neg (fun q => q.elim c1 (Int32.not_lt.mpr c7)), if_pos (Int32.not_le.mp c14), if_neg c23]), rfl⟩, rfl, by rw [ht]; exact hP⟩, hS.F ht⟩) hS.2.2 dX7_queue_41
        · have c23 := bI_t c23
          obtain ⟨h4, e4, n4⟩ := i64_n c23.1 c23.2.1
          refine lv_aload_n hx hb dX7_queue_26 rfl (lv_at hl 0 rfl) ?_
          refine va_get (D := g.1) (ci := 6) (v := .ref (a 7)) (C := RX7) (T := TX7) (N := 15) hx hb hts inX7 hown hK hP 0 rfl rfl 2 (by decide) (hts _ tw185) (fun _ h9 => h9) rfl dX7_queue_27 ?_
          refine lv_iload_n hx hb dX7_queue_30 rfl (lv_at hl 1 rfl) ?_
          refine fr_topi (y := nI p0.toNatClampNeg) e4 ?_
          refine fr_aald (k := p0.toNatClampNeg) (b := (a (13 + p0.toNatClampNeg))) hx hb hK hP 7 3 rfl rfl rfl h4 (by decide) (if_pos h4) dX7_queue_31 ?_
          refine lv_iload_n hx hb dX7_queue_32 rfl (lv_at hl 2 rfl) ?_
          refine fr_go (va_runS (As := [.ref (a (13 + p0.toNatClampNeg)), .int p1]) (rest := []) ⟨hx, hb, hml, hown, hts⟩ (kX7_tellOfSubmission l g (a (13 + p0.toNatClampNeg)) ((x_T σ) 0 p0.toNatClampNeg) ((x_T σ) 1 p0.toNatClampNeg) ((x_T σ) 2 p0.toNatClampNeg) ((x_T σ) 3 p0.toNatClampNeg) ((x_T σ) 4 p0.toNatClampNeg) ((x_T σ) 5 p0.toNatClampNeg) p1 H.size) (va_cwS 2 hts (gdS tw585 tw586 tw1 tw587) rfl rfl rfl (by decide +kernel) ⟨Nat.le_of_ble_eq_true rfl, Nat.le_of_ble_eq_true rfl⟩) ⟨Pst.blind, fr_pre hK hP hD [13 + p0.toNatClampNeg] rfl (fr_c1 (dvS (j := p0.toNatClampNeg) (by omega)))⟩ rfl rfl hl.1 rfl (lv_room (Nat.le_of_ble_eq_true rfl)) dX7_queue_33 ⟨Nat.le_of_ble_eq_true rfl, Nat.le_of_ble_eq_true rfl⟩) hP hD hS hA [13 + p0.toNatClampNeg] (fr_c1 (dvS (j := p0.toNatClampNeg) (by omega))) (fun v w9 H locs hq hP hD hS => ?_)
          obtain ⟨rfl, rfl⟩ := hq
          have hP : va_P g.1 vwCl (dvW g a (x_mem σ) (x_med σ) (x_cb σ) (x_ca σ) (x_nc σ) (x_cg σ) (x_T σ) (x_op σ) (x_id σ) (x_fg σ) (x_n σ) (x_cp σ) (x_cq σ) (x_cx σ) (x_pg σ) (x_fi σ) (x_F σ) (x_rw σ) (x_on σ) (x_bi σ) (x_tu σ) (x_re σ) (x_dw σ) (x_dq σ) (x_br σ) (x_bs σ)) H := (fr_eqP (fr_s1 (dvS (j := p0.toNatClampNeg) (by omega))) hP)
          have hD : va_D A (dvW g a (x_mem σ) (x_med σ) (x_cb σ) (x_ca σ) (x_nc σ) (x_cg σ) (x_T σ) (x_op σ) (x_id σ) (x_fg σ) (x_n σ) (x_cp σ) (x_cq σ) (x_cx σ) (x_pg σ) (x_fi σ) (x_F σ) (x_rw σ) (x_on σ) (x_bi σ) (x_tu σ) (x_re σ) (x_dw σ) (x_dq σ) (x_br σ) (x_bs σ)) := (fr_eqD (fr_s1 (dvS (j := p0.toNatClampNeg) (by omega))) hD)
          show W p l e _ s m _ below meth c H locs _ _ _ (F0 m (33 + 3) ls (.int (telS ((x_T σ) 3 p0.toNatClampNeg) ((x_T σ) 4 p0.toNatClampNeg) ((x_T σ) 2 p0.toNatClampNeg) ((x_T σ) 5 p0.toNatClampNeg) p1) :: []))
          refine lv_goto (tgt := 41) hx hb dX7_queue_36 (by decide) ?_
          exact W.iret (v := telS ((x_T σ) 3 p0.toNatClampNeg) ((x_T σ) 4 p0.toNatClampNeg) ((x_T σ) 2 p0.toNatClampNeg) ((x_T σ) 5 p0.toNatClampNeg) p1) hx hb hr (fun t ht _ => ⟨⟨(some (.int (telS ((x_T σ) 3 p0.toNatClampNeg) ((x_T σ) 4 p0.toNatClampNeg) ((x_T σ) 2 p0.toNatClampNeg) ((x_T σ) 5 p0.toNatClampNeg) p1))), dvW g a (x_mem σ) (x_med σ) (x_cb σ) (x_ca σ) (x_nc σ) (x_cg σ) (x_T σ) (x_op σ) (x_id σ) (x_fg σ) (x_n σ) (x_cp σ) (x_cq σ) (x_cx σ) (x_pg σ) (x_fi σ) (x_F σ) (x_rw σ) (x_on σ) (x_bi σ) (x_tu σ) (x_re σ) (x_dw σ) (x_dq σ) (x_br σ) (x_bs σ), rfl, ⟨congrArg (fun z : Int32 => some (Value.int z)) (by rw [queueR, if_neg (fun q => q.elim c1 (Int32.not_lt.mpr c7)), if_pos (Int32.not_le.mp c14), if_pos c23]), rfl⟩, rfl, by rw [ht]; exact hP⟩, hS.F ht⟩) hS.2.2 dX7_queue_41
    · refine lv_iconst (v := -1) hx hb dX7_queue_10 (by decide) ?_
      exact W.iret (v := -1) hx hb hr (fun t ht _ => ⟨⟨(some (.int (-1))), dvW g a (x_mem σ) (x_med σ) (x_cb σ) (x_ca σ) (x_nc σ) (x_cg σ) (x_T σ) (x_op σ) (x_id σ) (x_fg σ) (x_n σ) (x_cp σ) (x_cq σ) (x_cx σ) (x_pg σ) (x_fi σ) (x_F σ) (x_rw σ) (x_on σ) (x_bi σ) (x_tu σ) (x_re σ) (x_dw σ) (x_dq σ) (x_br σ) (x_bs σ), rfl, ⟨congrArg (fun z : Int32 => some (Value.int z)) (if_pos (Or.inr (Int32.not_le.mp c7))).symm, rfl⟩, rfl, by rw [ht]; exact hP⟩, hS.F ht⟩) hS.2.2 dX7_queue_11
