set_option maxHeartbeats 4000000 in
set_option maxRecDepth 100000 in
/-- op 4 -/
theorem kX7_dropSubmission (l : Launch) (g : GG) (a : Nat → Nat) (σ : CS) : Ct l yX7_dropSubmission cX7_dropSubmission 1 (some .int) ({ frames := 1, cells := 0, slots := 0, locals := 22 } : Room) g [.ref (a 0)] (dvW g a (x_mem σ) (x_med σ) (x_cb σ) (x_ca σ) (x_nc σ) (x_cg σ) (x_T σ) (x_op σ) (x_id σ) (x_fg σ) (x_n σ) (x_cp σ) (x_cq σ) (x_cx σ) (x_pg σ) (x_fi σ) (x_F σ) (x_rw σ) (x_on σ) (x_bi σ) (x_tu σ) (x_re σ) (x_dw σ) (x_dq σ) (x_br σ) (x_bs σ)) (fun v w' => v = some (.int (r_ds σ)) ∧ w' = dvW g a (x_mem (g_ds σ)) (x_med (g_ds σ)) (x_cb (g_ds σ)) (x_ca (g_ds σ)) (x_nc (g_ds σ)) (x_cg (g_ds σ)) (x_T (g_ds σ)) (x_op (g_ds σ)) (x_id (g_ds σ)) (x_fg (g_ds σ)) (x_n (g_ds σ)) (x_cp (g_ds σ)) (x_cq (g_ds σ)) (x_cx (g_ds σ)) (x_pg (g_ds σ)) (x_fi (g_ds σ)) (x_F (g_ds σ)) (x_rw (g_ds σ)) (x_on (g_ds σ)) (x_bi (g_ds σ)) (x_tu (g_ds σ)) (x_re (g_ds σ)) (x_dw (g_ds σ)) (x_dq (g_ds σ)) (x_br (g_ds σ)) (x_bs (g_ds σ))) := by
  refine Ct.of (by decide) (Nat.le_of_ble_eq_true rfl) ?_
  intro p e s m below meth c A ls H locs hx hb hr hml hlocks hts hown hin hA hS hK hP hD hl
  have hown : s.vm.findClass RX7 = some m.cls := hown
  have hl : lv_has ls 1 [(0, .ref (a 0))] := hl
  refine lv_aload_n hx hb dX7_dropSubmission_0 rfl (lv_at hl 0 rfl) ?_
  refine va_get (D := g.1) (ci := 6) (v := .ref (a 9)) (C := RX7) (T := TX7) (N := 15) hx hb hts inX7 hown hK hP 0 rfl rfl 4 (by decide) (hts _ tw187) (fun _ h9 => h9) rfl dX7_dropSubmission_1 ?_
  refine va_get (D := g.1) (ci := 0) (v := .long (x_cp σ)) (C := RX0) (T := TX0) (N := 7) hx hb hts inX0 hown hK hP 9 rfl rfl 4 (by decide) (hts _ tw146) (fun _ h9 => h9) rfl dX7_dropSubmission_4 ?_
  refine fr_go (va_runS (As := [.long (x_cp σ)]) (rest := []) ⟨hx, hb, hml, hown, hts⟩ (kX7_isBesideAdmin l g (x_cp σ) H.size) (va_cwS 1 hts (gdS tw412 tw413 tw1 tw414) rfl rfl rfl (by decide +kernel) ⟨Nat.le_of_ble_eq_true rfl, Nat.le_of_ble_eq_true rfl⟩) ⟨Pst.blind, fr_pre hK hP hD [] rfl rfl⟩ rfl rfl hl.1 rfl (lv_room (Nat.le_of_ble_eq_true rfl)) dX7_dropSubmission_7 ⟨Nat.le_of_ble_eq_true rfl, Nat.le_of_ble_eq_true rfl⟩) hP hD hS hA [] rfl (fun v w9 H locs hq hP hD hS => ?_)
  obtain ⟨rfl, rfl⟩ := hq
  have hP : va_P g.1 vwCl (dvW g a (x_mem σ) (x_med σ) (x_cb σ) (x_ca σ) (x_nc σ) (x_cg σ) (x_T σ) (x_op σ) (x_id σ) (x_fg σ) (x_n σ) (x_cp σ) (x_cq σ) (x_cx σ) (x_pg σ) (x_fi σ) (x_F σ) (x_rw σ) (x_on σ) (x_bi σ) (x_tu σ) (x_re σ) (x_dw σ) (x_dq σ) (x_br σ) (x_bs σ)) H := hP
  have hD : va_D A (dvW g a (x_mem σ) (x_med σ) (x_cb σ) (x_ca σ) (x_nc σ) (x_cg σ) (x_T σ) (x_op σ) (x_id σ) (x_fg σ) (x_n σ) (x_cp σ) (x_cq σ) (x_cx σ) (x_pg σ) (x_fi σ) (x_F σ) (x_rw σ) (x_on σ) (x_bi σ) (x_tu σ) (x_re σ) (x_dw σ) (x_dq σ) (x_br σ) (x_bs σ)) := hD
  show W p l e _ s m _ below meth c H locs _ _ _ (F0 m (7 + 3) ls (.int (bI (bes (x_cp σ))) :: []))
  refine lv_if_eq (tgt := 27) hx hb dX7_dropSubmission_10 (by decide) (fun c10 => ?_) (fun c10 => ?_)
  · have c10 := bI_f c10
    refine lv_iconst (v := 2) hx hb dX7_dropSubmission_27 (by decide) ?_
    exact W.iret (v := 2) hx hb hr (fun t ht _ => ⟨⟨(some (.int 2)), dvW g a (x_mem σ) (x_med σ) (x_cb σ) (x_ca σ) (x_nc σ) (x_cg σ) (x_T σ) (x_op σ) (x_id σ) (x_fg σ) (x_n σ) (x_cp σ) (x_cq σ) (x_cx σ) (x_pg σ) (x_fi σ) (x_F σ) (x_rw σ) (x_on σ) (x_bi σ) (x_tu σ) (x_re σ) (x_dw σ) (x_dq σ) (x_br σ) (x_bs σ), rfl, ⟨congrArg (fun z : Int32 => some (Value.int z)) (by rw [r_ds, if_neg (show ¬ dsO σ from by first | exact (fun q => q.1 c10) | exact (fun q => c10 q.1))]), by rw [g_ds, if_neg (show ¬ dsO σ from by first | exact (fun q => q.1 c10) | exact (fun q => c10 q.1))] <;> rfl⟩, rfl, by rw [ht]; exact hP⟩, hS.F ht⟩) hS.2.2 dX7_dropSubmission_28
  · have c10 := bI_t c10
    have hb9 := bes_n c10
    have h4 := hb9.2.1
    refine lv_aload_n hx hb dX7_dropSubmission_13 rfl (lv_at hl 0 rfl) ?_
    refine lv_aload_n hx hb dX7_dropSubmission_14 rfl (lv_at hl 0 rfl) ?_
    refine va_get (D := g.1) (ci := 6) (v := .ref (a 9)) (C := RX7) (T := TX7) (N := 15) hx hb hts inX7 hown hK hP 0 rfl rfl 4 (by decide) (hts _ tw187) (fun _ h9 => h9) rfl dX7_dropSubmission_15 ?_
    refine va_get (D := g.1) (ci := 0) (v := .long (x_cp σ)) (C := RX0) (T := TX0) (N := 7) hx hb hts inX0 hown hK hP 9 rfl rfl 4 (by decide) (hts _ tw146) (fun _ h9 => h9) rfl dX7_dropSubmission_18 ?_
    refine fr_goA (va_runV (As := [.long (x_cp σ)]) (rest := []) ⟨hx, hb, hml, hown, hts⟩ (kX7_hasSubmission l g a σ (x_cp σ) H.size) (cwV 1 hts (gdV tw318 tw320 tp0 tw1 tw321) rfl rfl rfl (by decide +kernel) ⟨Nat.le_of_ble_eq_true rfl, Nat.le_of_ble_eq_true rfl⟩) ⟨Pst.blind, va_recv hK hP (ci := 6) (q0 := 0) rfl rfl, fr_preA hK hP hD⟩ rfl rfl hl.1 rfl (lv_room (Nat.le_of_ble_eq_true rfl)) dX7_dropSubmission_21 ⟨Nat.le_of_ble_eq_true rfl, Nat.le_of_ble_eq_true rfl⟩) hD hS hA (fun v w9 H locs hq hP hD hS => ?_)
    obtain ⟨rfl, rfl⟩ := hq
    have hP : va_P g.1 vwCl (dvW g a (x_mem σ) (x_med σ) (x_cb σ) (x_ca σ) (x_nc σ) (x_cg σ) (x_T σ) (x_op σ) (x_id σ) (x_fg σ) (x_n σ) (x_cp σ) (x_cq σ) (x_cx σ) (x_pg σ) (x_fi σ) (x_F σ) (x_rw σ) (x_on σ) (x_bi σ) (x_tu σ) (x_re σ) (x_dw σ) (x_dq σ) (x_br σ) (x_bs σ)) H := hP
    have hD : va_D A (dvW g a (x_mem σ) (x_med σ) (x_cb σ) (x_ca σ) (x_nc σ) (x_cg σ) (x_T σ) (x_op σ) (x_id σ) (x_fg σ) (x_n σ) (x_cp σ) (x_cq σ) (x_cx σ) (x_pg σ) (x_fi σ) (x_F σ) (x_rw σ) (x_on σ) (x_bi σ) (x_tu σ) (x_re σ) (x_dw σ) (x_dq σ) (x_br σ) (x_bs σ)) := hD
    show W p l e _ s m _ below meth c H locs _ _ _ (F0 m (21 + 3) ls (.int (bI (hasS (x_T σ) (x_cp σ))) :: []))
    refine lv_if_ne (tgt := 29) hx hb dX7_dropSubmission_24 (by decide) (fun c24 => ?_) (fun c24 => ?_)
    · have c24 := bI_t c24
      refine lv_aload_n hx hb dX7_dropSubmission_29 rfl (lv_at hl 0 rfl) ?_
      refine va_get (D := g.1) (ci := 6) (v := .ref (a 7)) (C := RX7) (T := TX7) (N := 15) hx hb hts inX7 hown hK hP 0 rfl rfl 2 (by decide) (hts _ tw185) (fun _ h9 => h9) rfl dX7_dropSubmission_30 ?_
      refine lv_aload_n hx hb dX7_dropSubmission_33 rfl (lv_at hl 0 rfl) ?_
      refine va_get (D := g.1) (ci := 6) (v := .ref (a 9)) (C := RX7) (T := TX7) (N := 15) hx hb hts inX7 hown hK hP 0 rfl rfl 4 (by decide) (hts _ tw187) (fun _ h9 => h9) rfl dX7_dropSubmission_34 ?_
      refine va_get (D := g.1) (ci := 0) (v := .long (x_cp σ)) (C := RX0) (T := TX0) (N := 7) hx hb hts inX0 hown hK hP 9 rfl rfl 4 (by decide) (hts _ tw146) (fun _ h9 => h9) rfl dX7_dropSubmission_37 ?_
      refine lv_l2i hx hb dX7_dropSubmission_40 rfl ?_
      refine fr_topi (y := nI (pN (x_cp σ))) hb9.2.2.1 ?_
      refine fr_aald (k := (pN (x_cp σ))) (b := (a (13 + (pN (x_cp σ))))) hx hb hK hP 7 3 rfl rfl rfl h4 (by decide) (if_pos h4) dX7_dropSubmission_41 ?_
      refine fr_go (va_runU (As := []) (rest := []) ⟨hx, hb, hml, hown, hts⟩ (kX5_drop_X6 l g (a (13 + (pN (x_cp σ)))) ((x_T σ) 0 (pN (x_cp σ))) ((x_T σ) 1 (pN (x_cp σ))) ((x_T σ) 2 (pN (x_cp σ))) ((x_T σ) 3 (pN (x_cp σ))) ((x_T σ) 4 (pN (x_cp σ))) ((x_T σ) 5 (pN (x_cp σ))) H.size) (va_cwU 0 hts (gdU (x := ⟨"DoorbellDrive$Submission", "drop", "()V"⟩) (owner := RX5) tw305 tw306 tw308 tw309 tw4 tw310) rfl rfl rfl rfl (by decide +kernel) ⟨Nat.le_of_ble_eq_true rfl, Nat.le_of_ble_eq_true rfl⟩) ⟨Pst.blind, va_recv hK hP (ci := 5) (q0 := (13 + (pN (x_cp σ)))) rfl (dvS (j := pN (x_cp σ)) h4), fr_pre hK hP hD [13 + (pN (x_cp σ))] rfl (fr_c1 (dvS (j := pN (x_cp σ)) h4))⟩ rfl rfl hl.1 rfl (lv_room (Nat.le_of_ble_eq_true rfl)) dX7_dropSubmission_42 ⟨Nat.le_of_ble_eq_true rfl, Nat.le_of_ble_eq_true rfl⟩) hP hD hS hA [13 + (pN (x_cp σ))] (fr_c1 (dvS (j := pN (x_cp σ)) h4)) (fun v w9 H locs hq hP hD hS => ?_)
      obtain ⟨rfl, rfl⟩ := hq
      have hP : va_P g.1 vwCl (dvW g a (x_mem σ) (x_med σ) (x_cb σ) (x_ca σ) (x_nc σ) (x_cg σ) (up2 (x_T σ) 0 (pN (x_cp σ)) 0) (x_op σ) (x_id σ) (x_fg σ) (x_n σ) (x_cp σ) (x_cq σ) (x_cx σ) (x_pg σ) (x_fi σ) (x_F σ) (x_rw σ) (x_on σ) (x_bi σ) (x_tu σ) (x_re σ) (x_dw σ) (x_dq σ) (x_br σ) (x_bs σ)) H := fr_eqP (dvS_0 (j := pN (x_cp σ)) h4) hP
      have hD : va_D A (dvW g a (x_mem σ) (x_med σ) (x_cb σ) (x_ca σ) (x_nc σ) (x_cg σ) (up2 (x_T σ) 0 (pN (x_cp σ)) 0) (x_op σ) (x_id σ) (x_fg σ) (x_n σ) (x_cp σ) (x_cq σ) (x_cx σ) (x_pg σ) (x_fi σ) (x_F σ) (x_rw σ) (x_on σ) (x_bi σ) (x_tu σ) (x_re σ) (x_dw σ) (x_dq σ) (x_br σ) (x_bs σ)) := fr_eqD (dvS_0 (j := pN (x_cp σ)) h4) hD
      show W p l e _ s m _ below meth c H locs _ _ _ (F0 m (42 + 3) ls ([]))
      refine lv_iconst (v := 0) hx hb dX7_dropSubmission_45 (by decide) ?_
      exact W.iret (v := 0) hx hb hr (fun t ht _ => ⟨⟨(some (.int 0)), dvW g a (x_mem σ) (x_med σ) (x_cb σ) (x_ca σ) (x_nc σ) (x_cg σ) (up2 (x_T σ) 0 (pN (x_cp σ)) 0) (x_op σ) (x_id σ) (x_fg σ) (x_n σ) (x_cp σ) (x_cq σ) (x_cx σ) (x_pg σ) (x_fi σ) (x_F σ) (x_rw σ) (x_on σ) (x_bi σ) (x_tu σ) (x_re σ) (x_dw σ) (x_dq σ) (x_br σ) (x_bs σ), rfl, ⟨congrArg (fun z : Int32 => some (Value.int z)) (by rw [r_ds, if_pos ⟨c10, c24⟩]), by rw [g_ds, if_pos ⟨c10, c24⟩] <;> rfl⟩, rfl, by rw [ht]; exact hP⟩, hS.F ht⟩) hS.2.2 dX7_dropSubmission_46
    · have c24 := bI_f c24
      refine lv_iconst (v := 2) hx hb dX7_dropSubmission_27 (by decide) ?_
      exact W.iret (v := 2) hx hb hr (fun t ht _ => ⟨⟨(some (.int 2)), dvW g a (x_mem σ) (x_med σ) (x_cb σ) (x_ca σ) (x_nc σ) (x_cg σ) (x_T σ) (x_op σ) (x_id σ) (x_fg σ) (x_n σ) (x_cp σ) (x_cq σ) (x_cx σ) (x_pg σ) (x_fi σ) (x_F σ) (x_rw σ) (x_on σ) (x_bi σ) (x_tu σ) (x_re σ) (x_dw σ) (x_dq σ) (x_br σ) (x_bs σ), rfl, ⟨congrArg (fun z : Int32 => some (Value.int z)) (by rw [r_ds, if_neg (show ¬ dsO σ from by first | exact (fun q => q.2 c24) | exact (fun q => c24 q.2))]), by rw [g_ds, if_neg (show ¬ dsO σ from by first | exact (fun q => q.2 c24) | exact (fun q => c24 q.2))] <;> rfl⟩, rfl, by rw [ht]; exact hP⟩, hS.F ht⟩) hS.2.2 dX7_dropSubmission_28
