set_option maxHeartbeats 4000000 in
set_option maxRecDepth 100000 in
/-- op 2 -/
theorem kX7_makeSubmission (l : Launch) (g : GG) (a : Nat → Nat) (σ : CS) (hn1 : 1 ≤ x_n σ) : Ct l yX7_makeSubmission cX7_makeSubmission 2 (some .int) ({ frames := 3, cells := 0, slots := 0, locals := 68 } : Room) g [.ref (a 0)] (dvW g a (x_mem σ) (x_med σ) (x_cb σ) (x_ca σ) (x_nc σ) (x_cg σ) (x_T σ) (x_op σ) (x_id σ) (x_fg σ) (x_n σ) (x_cp σ) (x_cq σ) (x_cx σ) (x_pg σ) (x_fi σ) (x_F σ) (x_rw σ) (x_on σ) (x_bi σ) (x_tu σ) (x_re σ) (x_dw σ) (x_dq σ) (x_br σ) (x_bs σ)) (fun v w' => v = some (.int (r_ms σ)) ∧ w' = dvW g a (x_mem (g_ms σ)) (x_med (g_ms σ)) (x_cb (g_ms σ)) (x_ca (g_ms σ)) (x_nc (g_ms σ)) (x_cg (g_ms σ)) (x_T (g_ms σ)) (x_op (g_ms σ)) (x_id (g_ms σ)) (x_fg (g_ms σ)) (x_n (g_ms σ)) (x_cp (g_ms σ)) (x_cq (g_ms σ)) (x_cx (g_ms σ)) (x_pg (g_ms σ)) (x_fi (g_ms σ)) (x_F (g_ms σ)) (x_rw (g_ms σ)) (x_on (g_ms σ)) (x_bi (g_ms σ)) (x_tu (g_ms σ)) (x_re (g_ms σ)) (x_dw (g_ms σ)) (x_dq (g_ms σ)) (x_br (g_ms σ)) (x_bs (g_ms σ))) := by
  refine Ct.of (by decide) (Nat.le_of_ble_eq_true rfl) ?_
  intro p e s m below meth c A ls H locs hx hb hr hml hlocks hts hown hin hA hS hK hP hD hl
  have hown : s.vm.findClass RX7 = some m.cls := hown
  have hl : lv_has ls 2 [(0, .ref (a 0))] := hl
  refine lv_aload_n hx hb dX7_makeSubmission_0 rfl (lv_at hl 0 rfl) ?_
  refine va_get (D := g.1) (ci := 6) (v := .ref (a 9)) (C := RX7) (T := TX7) (N := 15) hx hb hts inX7 hown hK hP 0 rfl rfl 4 (by decide) (hts _ tw187) (fun _ h9 => h9) rfl dX7_makeSubmission_1 ?_
  refine va_get (D := g.1) (ci := 0) (v := .int (nI (x_n σ))) (C := RX0) (T := TX0) (N := 7) hx hb hts inX0 hown hK hP 9 rfl rfl 3 (by decide) (hts _ tw143) (fun _ h9 => h9) rfl dX7_makeSubmission_4 ?_
  refine lv_iconst (v := 1) hx hb dX7_makeSubmission_7 (by decide) ?_
  refine lv_isub hx hb dX7_makeSubmission_8 ?_
  refine fr_topi (y := nI (x_n σ - 1)) (pk_sub (b := 1) hn1) ?_
  refine lv_istore_n (lv' := [(1, .int (nI (x_n σ - 1))), (0, .ref (a 0))]) hx hb dX7_makeSubmission_9 rfl hl (by decide) rfl (fun ls hl => ?_)
  refine lv_aload_n hx hb dX7_makeSubmission_10 rfl (lv_at hl 1 rfl) ?_
  refine va_get (D := g.1) (ci := 6) (v := .ref (a 9)) (C := RX7) (T := TX7) (N := 15) hx hb hts inX7 hown hK hP 0 rfl rfl 4 (by decide) (hts _ tw187) (fun _ h9 => h9) rfl dX7_makeSubmission_11 ?_
  refine va_get (D := g.1) (ci := 0) (v := .long (x_cp σ)) (C := RX0) (T := TX0) (N := 7) hx hb hts inX0 hown hK hP 9 rfl rfl 4 (by decide) (hts _ tw146) (fun _ h9 => h9) rfl dX7_makeSubmission_14 ?_
  refine fr_go (va_runS (As := [.long (x_cp σ)]) (rest := []) ⟨hx, hb, hml, hown, hts⟩ (kX7_isBesideAdmin l g (x_cp σ) H.size) (va_cwS 1 hts (gdS tw412 tw413 tw1 tw414) rfl rfl rfl (by decide +kernel) ⟨Nat.le_of_ble_eq_true rfl, Nat.le_of_ble_eq_true rfl⟩) ⟨Pst.blind, fr_pre hK hP hD [] rfl rfl⟩ rfl rfl hl.1 rfl (lv_room (Nat.le_of_ble_eq_true rfl)) dX7_makeSubmission_17 ⟨Nat.le_of_ble_eq_true rfl, Nat.le_of_ble_eq_true rfl⟩) hP hD hS hA [] rfl (fun v w9 H locs hq hP hD hS => ?_)
  obtain ⟨rfl, rfl⟩ := hq
  have hP : va_P g.1 vwCl (dvW g a (x_mem σ) (x_med σ) (x_cb σ) (x_ca σ) (x_nc σ) (x_cg σ) (x_T σ) (x_op σ) (x_id σ) (x_fg σ) (x_n σ) (x_cp σ) (x_cq σ) (x_cx σ) (x_pg σ) (x_fi σ) (x_F σ) (x_rw σ) (x_on σ) (x_bi σ) (x_tu σ) (x_re σ) (x_dw σ) (x_dq σ) (x_br σ) (x_bs σ)) H := hP
  have hD : va_D A (dvW g a (x_mem σ) (x_med σ) (x_cb σ) (x_ca σ) (x_nc σ) (x_cg σ) (x_T σ) (x_op σ) (x_id σ) (x_fg σ) (x_n σ) (x_cp σ) (x_cq σ) (x_cx σ) (x_pg σ) (x_fi σ) (x_F σ) (x_rw σ) (x_on σ) (x_bi σ) (x_tu σ) (x_re σ) (x_dw σ) (x_dq σ) (x_br σ) (x_bs σ)) := hD
  show W p l e _ s m _ below meth c H locs _ _ _ (F0 m (17 + 3) ls (.int (bI (bes (x_cp σ))) :: []))
  refine lv_if_eq (tgt := 74) hx hb dX7_makeSubmission_20 (by decide) (fun c20 => ?_) (fun c20 => ?_)
  · have c20 := bI_f c20
    refine lv_iconst (v := 2) hx hb dX7_makeSubmission_74 (by decide) ?_
    exact W.iret (v := 2) hx hb hr (fun t ht _ => ⟨⟨(some (.int 2)), dvW g a (x_mem σ) (x_med σ) (x_cb σ) (x_ca σ) (x_nc σ) (x_cg σ) (x_T σ) (x_op σ) (x_id σ) (x_fg σ) (x_n σ) (x_cp σ) (x_cq σ) (x_cx σ) (x_pg σ) (x_fi σ) (x_F σ) (x_rw σ) (x_on σ) (x_bi σ) (x_tu σ) (x_re σ) (x_dw σ) (x_dq σ) (x_br σ) (x_bs σ), rfl, ⟨congrArg (fun z : Int32 => some (Value.int z)) (by rw [r_ms, if_neg (show ¬ msO σ from by first | exact (fun q => q.1 c20) | exact (fun q => c20 q.1))]), by rw [g_ms, if_neg (show ¬ msO σ from by first | exact (fun q => q.1 c20) | exact (fun q => c20 q.1))] <;> rfl⟩, rfl, by rw [ht]; exact hP⟩, hS.F ht⟩) hS.2.2 dX7_makeSubmission_75
  · have c20 := bI_t c20
    have hb9 := bes_n c20
    have h4 := hb9.2.1
    refine lv_aload_n hx hb dX7_makeSubmission_23 rfl (lv_at hl 1 rfl) ?_
    refine lv_aload_n hx hb dX7_makeSubmission_24 rfl (lv_at hl 1 rfl) ?_
    refine va_get (D := g.1) (ci := 6) (v := .ref (a 9)) (C := RX7) (T := TX7) (N := 15) hx hb hts inX7 hown hK hP 0 rfl rfl 4 (by decide) (hts _ tw187) (fun _ h9 => h9) rfl dX7_makeSubmission_25 ?_
    refine va_get (D := g.1) (ci := 0) (v := .long (x_cp σ)) (C := RX0) (T := TX0) (N := 7) hx hb hts inX0 hown hK hP 9 rfl rfl 4 (by decide) (hts _ tw146) (fun _ h9 => h9) rfl dX7_makeSubmission_28 ?_
    refine fr_goA (va_runV (As := [.long (x_cp σ)]) (rest := []) ⟨hx, hb, hml, hown, hts⟩ (kX7_hasSubmission l g a σ (x_cp σ) H.size) (cwV 1 hts (gdV tw318 tw320 tp0 tw1 tw321) rfl rfl rfl (by decide +kernel) ⟨Nat.le_of_ble_eq_true rfl, Nat.le_of_ble_eq_true rfl⟩) ⟨Pst.blind, va_recv hK hP (ci := 6) (q0 := 0) rfl rfl, fr_preA hK hP hD⟩ rfl rfl hl.1 rfl (lv_room (Nat.le_of_ble_eq_true rfl)) dX7_makeSubmission_31 ⟨Nat.le_of_ble_eq_true rfl, Nat.le_of_ble_eq_true rfl⟩) hD hS hA (fun v w9 H locs hq hP hD hS => ?_)
    obtain ⟨rfl, rfl⟩ := hq
    have hP : va_P g.1 vwCl (dvW g a (x_mem σ) (x_med σ) (x_cb σ) (x_ca σ) (x_nc σ) (x_cg σ) (x_T σ) (x_op σ) (x_id σ) (x_fg σ) (x_n σ) (x_cp σ) (x_cq σ) (x_cx σ) (x_pg σ) (x_fi σ) (x_F σ) (x_rw σ) (x_on σ) (x_bi σ) (x_tu σ) (x_re σ) (x_dw σ) (x_dq σ) (x_br σ) (x_bs σ)) H := hP
    have hD : va_D A (dvW g a (x_mem σ) (x_med σ) (x_cb σ) (x_ca σ) (x_nc σ) (x_cg σ) (x_T σ) (x_op σ) (x_id σ) (x_fg σ) (x_n σ) (x_cp σ) (x_cq σ) (x_cx σ) (x_pg σ) (x_fi σ) (x_F σ) (x_rw σ) (x_on σ) (x_bi σ) (x_tu σ) (x_re σ) (x_dw σ) (x_dq σ) (x_br σ) (x_bs σ)) := hD
    show W p l e _ s m _ below meth c H locs _ _ _ (F0 m (31 + 3) ls (.int (bI (hasS (x_T σ) (x_cp σ))) :: []))
    refine lv_if_ne (tgt := 74) hx hb dX7_makeSubmission_34 (by decide) (fun c34 => ?_) (fun c34 => ?_)
    · have c34 := bI_t c34
      refine lv_iconst (v := 2) hx hb dX7_makeSubmission_74 (by decide) ?_
      exact W.iret (v := 2) hx hb hr (fun t ht _ => ⟨⟨(some (.int 2)), dvW g a (x_mem σ) (x_med σ) (x_cb σ) (x_ca σ) (x_nc σ) (x_cg σ) (x_T σ) (x_op σ) (x_id σ) (x_fg σ) (x_n σ) (x_cp σ) (x_cq σ) (x_cx σ) (x_pg σ) (x_fi σ) (x_F σ) (x_rw σ) (x_on σ) (x_bi σ) (x_tu σ) (x_re σ) (x_dw σ) (x_dq σ) (x_br σ) (x_bs σ), rfl, ⟨congrArg (fun z : Int32 => some (Value.int z)) (by rw [r_ms, if_neg (show ¬ msO σ from by first | exact (fun q => q.2.1 c34) | exact (fun q => c34 q.2.1))]), by rw [g_ms, if_neg (show ¬ msO σ from by first | exact (fun q => q.2.1 c34) | exact (fun q => c34 q.2.1))] <;> rfl⟩, rfl, by rw [ht]; exact hP⟩, hS.F ht⟩) hS.2.2 dX7_makeSubmission_75
    · have c34 := bI_f c34
      refine lv_aload_n hx hb dX7_makeSubmission_37 rfl (lv_at hl 1 rfl) ?_
      refine va_get (D := g.1) (ci := 6) (v := .ref (a 9)) (C := RX7) (T := TX7) (N := 15) hx hb hts inX7 hown hK hP 0 rfl rfl 4 (by decide) (hts _ tw187) (fun _ h9 => h9) rfl dX7_makeSubmission_38 ?_
      refine va_get (D := g.1) (ci := 0) (v := .long (x_cq σ)) (C := RX0) (T := TX0) (N := 7) hx hb hts inX0 hown hK hP 9 rfl rfl 5 (by decide) (hts _ tw149) (fun _ h9 => h9) rfl dX7_makeSubmission_41 ?_
      refine lv_aload_n hx hb dX7_makeSubmission_44 rfl (lv_at hl 1 rfl) ?_
      refine va_get (D := g.1) (ci := 6) (v := .ref (a 9)) (C := RX7) (T := TX7) (N := 15) hx hb hts inX7 hown hK hP 0 rfl rfl 4 (by decide) (hts _ tw187) (fun _ h9 => h9) rfl dX7_makeSubmission_45 ?_
      refine va_get (D := g.1) (ci := 0) (v := .long (x_cx σ)) (C := RX0) (T := TX0) (N := 7) hx hb hts inX0 hown hK hP 9 rfl rfl 6 (by decide) (hts _ tw151) (fun _ h9 => h9) rfl dX7_makeSubmission_48 ?_
      refine fr_go (va_runS (As := [.long (x_cq σ), .long (x_cx σ)]) (rest := []) ⟨hx, hb, hml, hown, hts⟩ (kX6_fits l g (x_cq σ) (x_cx σ) H.size) (va_cwS 2 hts (gdS tw254 tw255 tw5 tw256) rfl rfl rfl (by decide +kernel) ⟨Nat.le_of_ble_eq_true rfl, Nat.le_of_ble_eq_true rfl⟩) ⟨Pst.blind, fr_pre hK hP hD [] rfl rfl⟩ rfl rfl hl.1 rfl (lv_room (Nat.le_of_ble_eq_true rfl)) dX7_makeSubmission_51 ⟨Nat.le_of_ble_eq_true rfl, Nat.le_of_ble_eq_true rfl⟩) hP hD hS hA [] rfl (fun v w9 H locs hq hP hD hS => ?_)
      obtain ⟨rfl, rfl⟩ := hq
      have hP : va_P g.1 vwCl (dvW g a (x_mem σ) (x_med σ) (x_cb σ) (x_ca σ) (x_nc σ) (x_cg σ) (x_T σ) (x_op σ) (x_id σ) (x_fg σ) (x_n σ) (x_cp σ) (x_cq σ) (x_cx σ) (x_pg σ) (x_fi σ) (x_F σ) (x_rw σ) (x_on σ) (x_bi σ) (x_tu σ) (x_re σ) (x_dw σ) (x_dq σ) (x_br σ) (x_bs σ)) H := hP
      have hD : va_D A (dvW g a (x_mem σ) (x_med σ) (x_cb σ) (x_ca σ) (x_nc σ) (x_cg σ) (x_T σ) (x_op σ) (x_id σ) (x_fg σ) (x_n σ) (x_cp σ) (x_cq σ) (x_cx σ) (x_pg σ) (x_fi σ) (x_F σ) (x_rw σ) (x_on σ) (x_bi σ) (x_tu σ) (x_re σ) (x_dw σ) (x_dq σ) (x_br σ) (x_bs σ)) := hD
      show W p l e _ s m _ below meth c H locs _ _ _ (F0 m (51 + 3) ls (.int (bI (fitR (x_cq σ) (x_cx σ) 4)) :: []))
      refine lv_if_eq (tgt := 74) hx hb dX7_makeSubmission_54 (by decide) (fun c54 => ?_) (fun c54 => ?_)
      · have c54 := bI_f c54
        refine lv_iconst (v := 2) hx hb dX7_makeSubmission_74 (by decide) ?_
        exact W.iret (v := 2) hx hb hr (fun t ht _ => ⟨⟨(some (.int 2)), dvW g a (x_mem σ) (x_med σ) (x_cb σ) (x_ca σ) (x_nc σ) (x_cg σ) (x_T σ) (x_op σ) (x_id σ) (x_fg σ) (x_n σ) (x_cp σ) (x_cq σ) (x_cx σ) (x_pg σ) (x_fi σ) (x_F σ) (x_rw σ) (x_on σ) (x_bi σ) (x_tu σ) (x_re σ) (x_dw σ) (x_dq σ) (x_br σ) (x_bs σ), rfl, ⟨congrArg (fun z : Int32 => some (Value.int z)) (by rw [r_ms, if_neg (show ¬ msO σ from by first | exact (fun q => q.2.2.1 c54) | exact (fun q => c54 q.2.2.1))]), by rw [g_ms, if_neg (show ¬ msO σ from by first | exact (fun q => q.2.2.1 c54) | exact (fun q => c54 q.2.2.1))] <;> rfl⟩, rfl, by rw [ht]; exact hP⟩, hS.F ht⟩) hS.2.2 dX7_makeSubmission_75
      · have c54 := bI_t c54
        refine lv_iload_n hx hb dX7_makeSubmission_57 rfl (lv_at hl 0 rfl) ?_
        refine lv_i2l hx hb dX7_makeSubmission_58 rfl ?_
        refine fr_go (va_runS (As := [.long ((nI (x_n σ - 1)).toInt64)]) (rest := []) ⟨hx, hb, hml, hown, hts⟩ (kX7_isBesideAdmin l g ((nI (x_n σ - 1)).toInt64) H.size) (va_cwS 1 hts (gdS tw412 tw413 tw1 tw414) rfl rfl rfl (by decide +kernel) ⟨Nat.le_of_ble_eq_true rfl, Nat.le_of_ble_eq_true rfl⟩) ⟨Pst.blind, fr_pre hK hP hD [] rfl rfl⟩ rfl rfl hl.1 rfl (lv_room (Nat.le_of_ble_eq_true rfl)) dX7_makeSubmission_59 ⟨Nat.le_of_ble_eq_true rfl, Nat.le_of_ble_eq_true rfl⟩) hP hD hS hA [] rfl (fun v w9 H locs hq hP hD hS => ?_)
        obtain ⟨rfl, rfl⟩ := hq
        have hP : va_P g.1 vwCl (dvW g a (x_mem σ) (x_med σ) (x_cb σ) (x_ca σ) (x_nc σ) (x_cg σ) (x_T σ) (x_op σ) (x_id σ) (x_fg σ) (x_n σ) (x_cp σ) (x_cq σ) (x_cx σ) (x_pg σ) (x_fi σ) (x_F σ) (x_rw σ) (x_on σ) (x_bi σ) (x_tu σ) (x_re σ) (x_dw σ) (x_dq σ) (x_br σ) (x_bs σ)) H := hP
        have hD : va_D A (dvW g a (x_mem σ) (x_med σ) (x_cb σ) (x_ca σ) (x_nc σ) (x_cg σ) (x_T σ) (x_op σ) (x_id σ) (x_fg σ) (x_n σ) (x_cp σ) (x_cq σ) (x_cx σ) (x_pg σ) (x_fi σ) (x_F σ) (x_rw σ) (x_on σ) (x_bi σ) (x_tu σ) (x_re σ) (x_dw σ) (x_dq σ) (x_br σ) (x_bs σ)) := hD
        show W p l e _ s m _ below meth c H locs _ _ _ (F0 m (59 + 3) ls (.int (bI (bes ((nI (x_n σ - 1)).toInt64))) :: []))
        refine lv_if_eq (tgt := 74) hx hb dX7_makeSubmission_62 (by decide) (fun c62 => ?_) (fun c62 => ?_)
        · have c62 := bI_f c62
          refine lv_iconst (v := 2) hx hb dX7_makeSubmission_74 (by decide) ?_
          exact W.iret (v := 2) hx hb hr (fun t ht _ => ⟨⟨(some (.int 2)), dvW g a (x_mem σ) (x_med σ) (x_cb σ) (x_ca σ) (x_nc σ) (x_cg σ) (x_T σ) (x_op σ) (x_id σ) (x_fg σ) (x_n σ) (x_cp σ) (x_cq σ) (x_cx σ) (x_pg σ) (x_fi σ) (x_F σ) (x_rw σ) (x_on σ) (x_bi σ) (x_tu σ) (x_re σ) (x_dw σ) (x_dq σ) (x_br σ) (x_bs σ), rfl, ⟨congrArg (fun z : Int32 => some (Value.int z)) (by rw [r_ms, if_neg (show ¬ msO σ from by first | exact (fun q => q.2.2.2.1 c62) | exact (fun q => c62 q.2.2.2.1))]), by rw [g_ms, if_neg (show ¬ msO σ from by first | exact (fun q => q.2.2.2.1 c62) | exact (fun q => c62 q.2.2.2.1))] <;> rfl⟩, rfl, by rw [ht]; exact hP⟩, hS.F ht⟩) hS.2.2 dX7_makeSubmission_75
        · have c62 := bI_t c62
          refine lv_aload_n hx hb dX7_makeSubmission_65 rfl (lv_at hl 1 rfl) ?_
          refine lv_iload_n hx hb dX7_makeSubmission_66 rfl (lv_at hl 0 rfl) ?_
          refine lv_i2l hx hb dX7_makeSubmission_67 rfl ?_
          refine fr_goA (va_runV (As := [.long ((nI (x_n σ - 1)).toInt64)]) (rest := []) ⟨hx, hb, hml, hown, hts⟩ (kX7_hasCompletion l g a σ ((nI (x_n σ - 1)).toInt64) H.size) (cwV 1 hts (gdV tw345 tw347 tp1 tw1 tw348) rfl rfl rfl (by decide +kernel) ⟨Nat.le_of_ble_eq_true rfl, Nat.le_of_ble_eq_true rfl⟩) ⟨Pst.blind, va_recv hK hP (ci := 6) (q0 := 0) rfl rfl, fr_preA hK hP hD⟩ rfl rfl hl.1 rfl (lv_room (Nat.le_of_ble_eq_true rfl)) dX7_makeSubmission_68 ⟨Nat.le_of_ble_eq_true rfl, Nat.le_of_ble_eq_true rfl⟩) hD hS hA (fun v w9 H locs hq hP hD hS => ?_)
          obtain ⟨rfl, rfl⟩ := hq
          have hP : va_P g.1 vwCl (dvW g a (x_mem σ) (x_med σ) (x_cb σ) (x_ca σ) (x_nc σ) (x_cg σ) (x_T σ) (x_op σ) (x_id σ) (x_fg σ) (x_n σ) (x_cp σ) (x_cq σ) (x_cx σ) (x_pg σ) (x_fi σ) (x_F σ) (x_rw σ) (x_on σ) (x_bi σ) (x_tu σ) (x_re σ) (x_dw σ) (x_dq σ) (x_br σ) (x_bs σ)) H := hP
          have hD : va_D A (dvW g a (x_mem σ) (x_med σ) (x_cb σ) (x_ca σ) (x_nc σ) (x_cg σ) (x_T σ) (x_op σ) (x_id σ) (x_fg σ) (x_n σ) (x_cp σ) (x_cq σ) (x_cx σ) (x_pg σ) (x_fi σ) (x_F σ) (x_rw σ) (x_on σ) (x_bi σ) (x_tu σ) (x_re σ) (x_dw σ) (x_dq σ) (x_br σ) (x_bs σ)) := hD
          show W p l e _ s m _ below meth c H locs _ _ _ (F0 m (68 + 3) ls (.int (bI (hasC (x_T σ) ((nI (x_n σ - 1)).toInt64))) :: []))
          refine lv_if_ne (tgt := 76) hx hb dX7_makeSubmission_71 (by decide) (fun c71 => ?_) (fun c71 => ?_)
          · have c71 := bI_t c71
            refine lv_aload_n hx hb dX7_makeSubmission_76 rfl (lv_at hl 1 rfl) ?_
            refine va_get (D := g.1) (ci := 6) (v := .ref (a 7)) (C := RX7) (T := TX7) (N := 15) hx hb hts inX7 hown hK hP 0 rfl rfl 2 (by decide) (hts _ tw185) (fun _ h9 => h9) rfl dX7_makeSubmission_77 ?_
            refine lv_aload_n hx hb dX7_makeSubmission_80 rfl (lv_at hl 1 rfl) ?_
            refine va_get (D := g.1) (ci := 6) (v := .ref (a 9)) (C := RX7) (T := TX7) (N := 15) hx hb hts inX7 hown hK hP 0 rfl rfl 4 (by decide) (hts _ tw187) (fun _ h9 => h9) rfl dX7_makeSubmission_81 ?_
            refine va_get (D := g.1) (ci := 0) (v := .long (x_cp σ)) (C := RX0) (T := TX0) (N := 7) hx hb hts inX0 hown hK hP 9 rfl rfl 4 (by decide) (hts _ tw146) (fun _ h9 => h9) rfl dX7_makeSubmission_84 ?_
            refine lv_l2i hx hb dX7_makeSubmission_87 rfl ?_
            refine fr_topi (y := nI (pN (x_cp σ))) hb9.2.2.1 ?_
            refine fr_aald (k := (pN (x_cp σ))) (b := (a (13 + (pN (x_cp σ))))) hx hb hK hP 7 3 rfl rfl rfl h4 (by decide) (if_pos h4) dX7_makeSubmission_88 ?_
            refine lv_aload_n hx hb dX7_makeSubmission_89 rfl (lv_at hl 1 rfl) ?_
            refine va_get (D := g.1) (ci := 6) (v := .ref (a 9)) (C := RX7) (T := TX7) (N := 15) hx hb hts inX7 hown hK hP 0 rfl rfl 4 (by decide) (hts _ tw187) (fun _ h9 => h9) rfl dX7_makeSubmission_90 ?_
            refine va_get (D := g.1) (ci := 0) (v := .long (x_cq σ)) (C := RX0) (T := TX0) (N := 7) hx hb hts inX0 hown hK hP 9 rfl rfl 5 (by decide) (hts _ tw149) (fun _ h9 => h9) rfl dX7_makeSubmission_93 ?_
            refine lv_l2i hx hb dX7_makeSubmission_96 rfl ?_
            refine lv_aload_n hx hb dX7_makeSubmission_97 rfl (lv_at hl 1 rfl) ?_
            refine va_get (D := g.1) (ci := 6) (v := .ref (a 9)) (C := RX7) (T := TX7) (N := 15) hx hb hts inX7 hown hK hP 0 rfl rfl 4 (by decide) (hts _ tw187) (fun _ h9 => h9) rfl dX7_makeSubmission_98 ?_
            refine va_get (D := g.1) (ci := 0) (v := .long (x_cx σ)) (C := RX0) (T := TX0) (N := 7) hx hb hts inX0 hown hK hP 9 rfl rfl 6 (by decide) (hts _ tw151) (fun _ h9 => h9) rfl dX7_makeSubmission_101 ?_
            refine lv_l2i hx hb dX7_makeSubmission_104 rfl ?_
            refine lv_iload_n hx hb dX7_makeSubmission_105 rfl (lv_at hl 0 rfl) ?_
            refine fr_go (va_runV (As := [.int ((x_cq σ).toInt32), .int ((x_cx σ).toInt32), .int (nI (x_n σ - 1))]) (rest := []) ⟨hx, hb, hml, hown, hts⟩ (kX6_make l g (a (13 + (pN (x_cp σ)))) ((x_T σ) 0 (pN (x_cp σ))) ((x_T σ) 1 (pN (x_cp σ))) ((x_T σ) 2 (pN (x_cp σ))) ((x_T σ) 3 (pN (x_cp σ))) ((x_T σ) 4 (pN (x_cp σ))) ((x_T σ) 5 (pN (x_cp σ))) ((x_cq σ).toInt32) ((x_cx σ).toInt32) (nI (x_n σ - 1)) H.size) (cwV 3 hts (gdV tw279 tw280 tw281 tw5 tw282) rfl rfl rfl (by decide +kernel) ⟨Nat.le_of_ble_eq_true rfl, Nat.le_of_ble_eq_true rfl⟩) ⟨Pst.blind, va_recv hK hP (ci := 5) (q0 := (13 + (pN (x_cp σ)))) rfl (dvS (j := pN (x_cp σ)) h4), fr_pre hK hP hD [13 + (pN (x_cp σ))] rfl (fr_c1 (dvS (j := pN (x_cp σ)) h4))⟩ rfl rfl hl.1 rfl (lv_room (Nat.le_of_ble_eq_true rfl)) dX7_makeSubmission_106 ⟨Nat.le_of_ble_eq_true rfl, Nat.le_of_ble_eq_true rfl⟩) hP hD hS hA [13 + (pN (x_cp σ))] (fr_c1 (dvS (j := pN (x_cp σ)) h4)) (fun v w9 H locs hq hP hD hS => ?_)
            obtain ⟨rfl, rfl⟩ := hq
            have hP : va_P g.1 vwCl (dvW g a (x_mem σ) (x_med σ) (x_cb σ) (x_ca σ) (x_nc σ) (x_cg σ) (up2 (up2 (up2 (up2 (up2 (up2 (x_T σ) 0 (pN (x_cp σ)) 1) 1 (pN (x_cp σ)) ((x_cq σ).toInt32)) 2 (pN (x_cp σ)) ((x_cx σ).toInt32)) 3 (pN (x_cp σ)) 0) 4 (pN (x_cp σ)) 0) 5 (pN (x_cp σ)) (nI (x_n σ - 1))) (x_op σ) (x_id σ) (x_fg σ) (x_n σ) (x_cp σ) (x_cq σ) (x_cx σ) (x_pg σ) (x_fi σ) (x_F σ) (x_rw σ) (x_on σ) (x_bi σ) (x_tu σ) (x_re σ) (x_dw σ) (x_dq σ) (x_br σ) (x_bs σ)) H := fr_eqP (dvS_012345 (j := pN (x_cp σ)) h4) hP
            have hD : va_D A (dvW g a (x_mem σ) (x_med σ) (x_cb σ) (x_ca σ) (x_nc σ) (x_cg σ) (up2 (up2 (up2 (up2 (up2 (up2 (x_T σ) 0 (pN (x_cp σ)) 1) 1 (pN (x_cp σ)) ((x_cq σ).toInt32)) 2 (pN (x_cp σ)) ((x_cx σ).toInt32)) 3 (pN (x_cp σ)) 0) 4 (pN (x_cp σ)) 0) 5 (pN (x_cp σ)) (nI (x_n σ - 1))) (x_op σ) (x_id σ) (x_fg σ) (x_n σ) (x_cp σ) (x_cq σ) (x_cx σ) (x_pg σ) (x_fi σ) (x_F σ) (x_rw σ) (x_on σ) (x_bi σ) (x_tu σ) (x_re σ) (x_dw σ) (x_dq σ) (x_br σ) (x_bs σ)) := fr_eqD (dvS_012345 (j := pN (x_cp σ)) h4) hD
            show W p l e _ s m _ below meth c H locs _ _ _ (F0 m (106 + 3) ls ([]))
            refine lv_iconst (v := 0) hx hb dX7_makeSubmission_109 (by decide) ?_
            exact W.iret (v := 0) hx hb hr (fun t ht _ => ⟨⟨(some (.int 0)), dvW g a (x_mem σ) (x_med σ) (x_cb σ) (x_ca σ) (x_nc σ) (x_cg σ) (up2 (up2 (up2 (up2 (up2 (up2 (x_T σ) 0 (pN (x_cp σ)) 1) 1 (pN (x_cp σ)) ((x_cq σ).toInt32)) 2 (pN (x_cp σ)) ((x_cx σ).toInt32)) 3 (pN (x_cp σ)) 0) 4 (pN (x_cp σ)) 0) 5 (pN (x_cp σ)) (nI (x_n σ - 1))) (x_op σ) (x_id σ) (x_fg σ) (x_n σ) (x_cp σ) (x_cq σ) (x_cx σ) (x_pg σ) (x_fi σ) (x_F σ) (x_rw σ) (x_on σ) (x_bi σ) (x_tu σ) (x_re σ) (x_dw σ) (x_dq σ) (x_br σ) (x_bs σ), rfl, ⟨congrArg (fun z : Int32 => some (Value.int z)) (by rw [r_ms, if_pos ⟨c20, c34, c54, c62, c71⟩]), by rw [g_ms, if_pos ⟨c20, c34, c54, c62, c71⟩] <;> rfl⟩, rfl, by rw [ht]; exact hP⟩, hS.F ht⟩) hS.2.2 dX7_makeSubmission_110
          · have c71 := bI_f c71
            refine lv_iconst (v := 2) hx hb dX7_makeSubmission_74 (by decide) ?_
            exact W.iret (v := 2) hx hb hr (fun t ht _ => ⟨⟨(some (.int 2)), dvW g a (x_mem σ) (x_med σ) (x_cb σ) (x_ca σ) (x_nc σ) (x_cg σ) (x_T σ) (x_op σ) (x_id σ) (x_fg σ) (x_n σ) (x_cp σ) (x_cq σ) (x_cx σ) (x_pg σ) (x_fi σ) (x_F σ) (x_rw σ) (x_on σ) (x_bi σ) (x_tu σ) (x_re σ) (x_dw σ) (x_dq σ) (x_br σ) (x_bs σ), rfl, ⟨congrArg (fun z : Int32 => some (Value.int z)) (by rw [r_ms, if_neg (show ¬ msO σ from by first | exact (fun q => q.2.2.2.2 c71) | exact (fun q => c71 q.2.2.2.2))]), by rw [g_ms, if_neg (show ¬ msO σ from by first | exact (fun q => q.2.2.2.2 c71) | exact (fun q => c71 q.2.2.2.2))] <;> rfl⟩, rfl, by rw [ht]; exact hP⟩, hS.F ht⟩) hS.2.2 dX7_makeSubmission_75
