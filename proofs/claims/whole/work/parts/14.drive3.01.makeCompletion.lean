set_option maxHeartbeats 4000000 in
set_option maxRecDepth 100000 in
/-- op 1 -/
theorem kX7_makeCompletion (l : Launch) (g : GG) (a : Nat → Nat) (σ : CS) (hz : x_fg σ = 0 ∨ x_fg σ = 1) : Ct l yX7_makeCompletion cX7_makeCompletion 1 (some .int) ({ frames := 3, cells := 0, slots := 0, locals := 68 } : Room) g [.ref (a 0)] (dvW g a (x_mem σ) (x_med σ) (x_cb σ) (x_ca σ) (x_nc σ) (x_cg σ) (x_T σ) (x_op σ) (x_id σ) (x_fg σ) (x_n σ) (x_cp σ) (x_cq σ) (x_cx σ) (x_pg σ) (x_fi σ) (x_F σ) (x_rw σ) (x_on σ) (x_bi σ) (x_tu σ) (x_re σ) (x_dw σ) (x_dq σ) (x_br σ) (x_bs σ)) (fun v w' => v = some (.int (r_mc σ)) ∧ w' = dvW g a (x_mem (g_mc σ)) (x_med (g_mc σ)) (x_cb (g_mc σ)) (x_ca (g_mc σ)) (x_nc (g_mc σ)) (x_cg (g_mc σ)) (x_T (g_mc σ)) (x_op (g_mc σ)) (x_id (g_mc σ)) (x_fg (g_mc σ)) (x_n (g_mc σ)) (x_cp (g_mc σ)) (x_cq (g_mc σ)) (x_cx (g_mc σ)) (x_pg (g_mc σ)) (x_fi (g_mc σ)) (x_F (g_mc σ)) (x_rw (g_mc σ)) (x_on (g_mc σ)) (x_bi (g_mc σ)) (x_tu (g_mc σ)) (x_re (g_mc σ)) (x_dw (g_mc σ)) (x_dq (g_mc σ)) (x_br (g_mc σ)) (x_bs (g_mc σ))) := by
  refine Ct.of (by decide) (Nat.le_of_ble_eq_true rfl) ?_
  intro p e s m below meth c A ls H locs hx hb hr hml hlocks hts hown hin hA hS hK hP hD hl
  have hown : s.vm.findClass RX7 = some m.cls := hown
  have hl : lv_has ls 1 [(0, .ref (a 0))] := hl
  refine lv_aload_n hx hb dX7_makeCompletion_0 rfl (lv_at hl 0 rfl) ?_
  refine va_get (D := g.1) (ci := 6) (v := .ref (a 9)) (C := RX7) (T := TX7) (N := 15) hx hb hts inX7 hown hK hP 0 rfl rfl 4 (by decide) (hts _ tw187) (fun _ h9 => h9) rfl dX7_makeCompletion_1 ?_
  refine va_get (D := g.1) (ci := 0) (v := .long (x_cp σ)) (C := RX0) (T := TX0) (N := 7) hx hb hts inX0 hown hK hP 9 rfl rfl 4 (by decide) (hts _ tw146) (fun _ h9 => h9) rfl dX7_makeCompletion_4 ?_
  refine fr_go (va_runS (As := [.long (x_cp σ)]) (rest := []) ⟨hx, hb, hml, hown, hts⟩ (kX7_isBesideAdmin l g (x_cp σ) H.size) (va_cwS 1 hts (gdS tw412 tw413 tw1 tw414) rfl rfl rfl (by decide +kernel) ⟨Nat.le_of_ble_eq_true rfl, Nat.le_of_ble_eq_true rfl⟩) ⟨Pst.blind, fr_pre hK hP hD [] rfl rfl⟩ rfl rfl hl.1 rfl (lv_room (Nat.le_of_ble_eq_true rfl)) dX7_makeCompletion_7 ⟨Nat.le_of_ble_eq_true rfl, Nat.le_of_ble_eq_true rfl⟩) hP hD hS hA [] rfl (fun v w9 H locs hq hP hD hS => ?_)
  obtain ⟨rfl, rfl⟩ := hq
  have hP : va_P g.1 vwCl (dvW g a (x_mem σ) (x_med σ) (x_cb σ) (x_ca σ) (x_nc σ) (x_cg σ) (x_T σ) (x_op σ) (x_id σ) (x_fg σ) (x_n σ) (x_cp σ) (x_cq σ) (x_cx σ) (x_pg σ) (x_fi σ) (x_F σ) (x_rw σ) (x_on σ) (x_bi σ) (x_tu σ) (x_re σ) (x_dw σ) (x_dq σ) (x_br σ) (x_bs σ)) H := hP
  have hD : va_D A (dvW g a (x_mem σ) (x_med σ) (x_cb σ) (x_ca σ) (x_nc σ) (x_cg σ) (x_T σ) (x_op σ) (x_id σ) (x_fg σ) (x_n σ) (x_cp σ) (x_cq σ) (x_cx σ) (x_pg σ) (x_fi σ) (x_F σ) (x_rw σ) (x_on σ) (x_bi σ) (x_tu σ) (x_re σ) (x_dw σ) (x_dq σ) (x_br σ) (x_bs σ)) := hD
  show W p l e _ s m _ below meth c H locs _ _ _ (F0 m (7 + 3) ls (.int (bI (bes (x_cp σ))) :: []))
  refine lv_if_eq (tgt := 47) hx hb dX7_makeCompletion_10 (by decide) (fun c10 => ?_) (fun c10 => ?_)
  · have c10 := bI_f c10
    refine lv_iconst (v := 2) hx hb dX7_makeCompletion_47 (by decide) ?_
    exact W.iret (v := 2) hx hb hr (fun t ht _ => ⟨⟨(some (.int 2)), dvW g a (x_mem σ) (x_med σ) (x_cb σ) (x_ca σ) (x_nc σ) (x_cg σ) (x_T σ) (x_op σ) (x_id σ) (x_fg σ) (x_n σ) (x_cp σ) (x_cq σ) (x_cx σ) (x_pg σ) (x_fi σ) (x_F σ) (x_rw σ) (x_on σ) (x_bi σ) (x_tu σ) (x_re σ) (x_dw σ) (x_dq σ) (x_br σ) (x_bs σ), rfl, ⟨congrArg (fun z : Int32 => some (Value.int z)) (by rw [r_mc, if_neg (show ¬ mcO σ from by first | exact (fun q => q.1 c10) | exact (fun q => c10 q.1))]), by rw [g_mc, if_neg (show ¬ mcO σ from by first | exact (fun q => q.1 c10) | exact (fun q => c10 q.1))] <;> rfl⟩, rfl, by rw [ht]; exact hP⟩, hS.F ht⟩) hS.2.2 dX7_makeCompletion_48
  · have c10 := bI_t c10
    have hb9 := bes_n c10
    have h4 := hb9.2.1
    refine lv_aload_n hx hb dX7_makeCompletion_13 rfl (lv_at hl 0 rfl) ?_
    refine lv_aload_n hx hb dX7_makeCompletion_14 rfl (lv_at hl 0 rfl) ?_
    refine va_get (D := g.1) (ci := 6) (v := .ref (a 9)) (C := RX7) (T := TX7) (N := 15) hx hb hts inX7 hown hK hP 0 rfl rfl 4 (by decide) (hts _ tw187) (fun _ h9 => h9) rfl dX7_makeCompletion_15 ?_
    refine va_get (D := g.1) (ci := 0) (v := .long (x_cp σ)) (C := RX0) (T := TX0) (N := 7) hx hb hts inX0 hown hK hP 9 rfl rfl 4 (by decide) (hts _ tw146) (fun _ h9 => h9) rfl dX7_makeCompletion_18 ?_
    refine fr_goA (va_runV (As := [.long (x_cp σ)]) (rest := []) ⟨hx, hb, hml, hown, hts⟩ (kX7_hasCompletion l g a σ (x_cp σ) H.size) (cwV 1 hts (gdV tw345 tw347 tp1 tw1 tw348) rfl rfl rfl (by decide +kernel) ⟨Nat.le_of_ble_eq_true rfl, Nat.le_of_ble_eq_true rfl⟩) ⟨Pst.blind, va_recv hK hP (ci := 6) (q0 := 0) rfl rfl, fr_preA hK hP hD⟩ rfl rfl hl.1 rfl (lv_room (Nat.le_of_ble_eq_true rfl)) dX7_makeCompletion_21 ⟨Nat.le_of_ble_eq_true rfl, Nat.le_of_ble_eq_true rfl⟩) hD hS hA (fun v w9 H locs hq hP hD hS => ?_)
    obtain ⟨rfl, rfl⟩ := hq
    have hP : va_P g.1 vwCl (dvW g a (x_mem σ) (x_med σ) (x_cb σ) (x_ca σ) (x_nc σ) (x_cg σ) (x_T σ) (x_op σ) (x_id σ) (x_fg σ) (x_n σ) (x_cp σ) (x_cq σ) (x_cx σ) (x_pg σ) (x_fi σ) (x_F σ) (x_rw σ) (x_on σ) (x_bi σ) (x_tu σ) (x_re σ) (x_dw σ) (x_dq σ) (x_br σ) (x_bs σ)) H := hP
    have hD : va_D A (dvW g a (x_mem σ) (x_med σ) (x_cb σ) (x_ca σ) (x_nc σ) (x_cg σ) (x_T σ) (x_op σ) (x_id σ) (x_fg σ) (x_n σ) (x_cp σ) (x_cq σ) (x_cx σ) (x_pg σ) (x_fi σ) (x_F σ) (x_rw σ) (x_on σ) (x_bi σ) (x_tu σ) (x_re σ) (x_dw σ) (x_dq σ) (x_br σ) (x_bs σ)) := hD
    show W p l e _ s m _ below meth c H locs _ _ _ (F0 m (21 + 3) ls (.int (bI (hasC (x_T σ) (x_cp σ))) :: []))
    refine lv_if_ne (tgt := 47) hx hb dX7_makeCompletion_24 (by decide) (fun c24 => ?_) (fun c24 => ?_)
    · have c24 := bI_t c24
      refine lv_iconst (v := 2) hx hb dX7_makeCompletion_47 (by decide) ?_
      exact W.iret (v := 2) hx hb hr (fun t ht _ => ⟨⟨(some (.int 2)), dvW g a (x_mem σ) (x_med σ) (x_cb σ) (x_ca σ) (x_nc σ) (x_cg σ) (x_T σ) (x_op σ) (x_id σ) (x_fg σ) (x_n σ) (x_cp σ) (x_cq σ) (x_cx σ) (x_pg σ) (x_fi σ) (x_F σ) (x_rw σ) (x_on σ) (x_bi σ) (x_tu σ) (x_re σ) (x_dw σ) (x_dq σ) (x_br σ) (x_bs σ), rfl, ⟨congrArg (fun z : Int32 => some (Value.int z)) (by rw [r_mc, if_neg (show ¬ mcO σ from by first | exact (fun q => q.2.1 c24) | exact (fun q => c24 q.2.1))]), by rw [g_mc, if_neg (show ¬ mcO σ from by first | exact (fun q => q.2.1 c24) | exact (fun q => c24 q.2.1))] <;> rfl⟩, rfl, by rw [ht]; exact hP⟩, hS.F ht⟩) hS.2.2 dX7_makeCompletion_48
    · have c24 := bI_f c24
      refine lv_aload_n hx hb dX7_makeCompletion_27 rfl (lv_at hl 0 rfl) ?_
      refine va_get (D := g.1) (ci := 6) (v := .ref (a 9)) (C := RX7) (T := TX7) (N := 15) hx hb hts inX7 hown hK hP 0 rfl rfl 4 (by decide) (hts _ tw187) (fun _ h9 => h9) rfl dX7_makeCompletion_28 ?_
      refine va_get (D := g.1) (ci := 0) (v := .long (x_cq σ)) (C := RX0) (T := TX0) (N := 7) hx hb hts inX0 hown hK hP 9 rfl rfl 5 (by decide) (hts _ tw149) (fun _ h9 => h9) rfl dX7_makeCompletion_31 ?_
      refine lv_aload_n hx hb dX7_makeCompletion_34 rfl (lv_at hl 0 rfl) ?_
      refine va_get (D := g.1) (ci := 6) (v := .ref (a 9)) (C := RX7) (T := TX7) (N := 15) hx hb hts inX7 hown hK hP 0 rfl rfl 4 (by decide) (hts _ tw187) (fun _ h9 => h9) rfl dX7_makeCompletion_35 ?_
      refine va_get (D := g.1) (ci := 0) (v := .long (x_cx σ)) (C := RX0) (T := TX0) (N := 7) hx hb hts inX0 hown hK hP 9 rfl rfl 6 (by decide) (hts _ tw151) (fun _ h9 => h9) rfl dX7_makeCompletion_38 ?_
      refine fr_go (va_runS (As := [.long (x_cq σ), .long (x_cx σ)]) (rest := []) ⟨hx, hb, hml, hown, hts⟩ (kX1_fits l g (x_cq σ) (x_cx σ) H.size) (va_cwS 2 hts (gdS tw265 tw266 tw6 tw267) rfl rfl rfl (by decide +kernel) ⟨Nat.le_of_ble_eq_true rfl, Nat.le_of_ble_eq_true rfl⟩) ⟨Pst.blind, fr_pre hK hP hD [] rfl rfl⟩ rfl rfl hl.1 rfl (lv_room (Nat.le_of_ble_eq_true rfl)) dX7_makeCompletion_41 ⟨Nat.le_of_ble_eq_true rfl, Nat.le_of_ble_eq_true rfl⟩) hP hD hS hA [] rfl (fun v w9 H locs hq hP hD hS => ?_)
      obtain ⟨rfl, rfl⟩ := hq
      have hP : va_P g.1 vwCl (dvW g a (x_mem σ) (x_med σ) (x_cb σ) (x_ca σ) (x_nc σ) (x_cg σ) (x_T σ) (x_op σ) (x_id σ) (x_fg σ) (x_n σ) (x_cp σ) (x_cq σ) (x_cx σ) (x_pg σ) (x_fi σ) (x_F σ) (x_rw σ) (x_on σ) (x_bi σ) (x_tu σ) (x_re σ) (x_dw σ) (x_dq σ) (x_br σ) (x_bs σ)) H := hP
      have hD : va_D A (dvW g a (x_mem σ) (x_med σ) (x_cb σ) (x_ca σ) (x_nc σ) (x_cg σ) (x_T σ) (x_op σ) (x_id σ) (x_fg σ) (x_n σ) (x_cp σ) (x_cq σ) (x_cx σ) (x_pg σ) (x_fi σ) (x_F σ) (x_rw σ) (x_on σ) (x_bi σ) (x_tu σ) (x_re σ) (x_dw σ) (x_dq σ) (x_br σ) (x_bs σ)) := hD
      show W p l e _ s m _ below meth c H locs _ _ _ (F0 m (41 + 3) ls (.int (bI (fitR (x_cq σ) (x_cx σ) 1)) :: []))
      refine lv_if_ne (tgt := 49) hx hb dX7_makeCompletion_44 (by decide) (fun c44 => ?_) (fun c44 => ?_)
      · have c44 := bI_t c44
        refine lv_aload_n hx hb dX7_makeCompletion_49 rfl (lv_at hl 0 rfl) ?_
        refine va_get (D := g.1) (ci := 6) (v := .ref (a 8)) (C := RX7) (T := TX7) (N := 15) hx hb hts inX7 hown hK hP 0 rfl rfl 3 (by decide) (hts _ tw186) (fun _ h9 => h9) rfl dX7_makeCompletion_50 ?_
        refine lv_aload_n hx hb dX7_makeCompletion_53 rfl (lv_at hl 0 rfl) ?_
        refine va_get (D := g.1) (ci := 6) (v := .ref (a 9)) (C := RX7) (T := TX7) (N := 15) hx hb hts inX7 hown hK hP 0 rfl rfl 4 (by decide) (hts _ tw187) (fun _ h9 => h9) rfl dX7_makeCompletion_54 ?_
        refine va_get (D := g.1) (ci := 0) (v := .long (x_cp σ)) (C := RX0) (T := TX0) (N := 7) hx hb hts inX0 hown hK hP 9 rfl rfl 4 (by decide) (hts _ tw146) (fun _ h9 => h9) rfl dX7_makeCompletion_57 ?_
        refine lv_l2i hx hb dX7_makeCompletion_60 rfl ?_
        refine fr_topi (y := nI (pN (x_cp σ))) hb9.2.2.1 ?_
        refine fr_aald (k := (pN (x_cp σ))) (b := (a (17 + (pN (x_cp σ))))) hx hb hK hP 8 4 rfl rfl rfl h4 (by decide) (if_pos h4) dX7_makeCompletion_61 ?_
        refine lv_aload_n hx hb dX7_makeCompletion_62 rfl (lv_at hl 0 rfl) ?_
        refine va_get (D := g.1) (ci := 6) (v := .ref (a 9)) (C := RX7) (T := TX7) (N := 15) hx hb hts inX7 hown hK hP 0 rfl rfl 4 (by decide) (hts _ tw187) (fun _ h9 => h9) rfl dX7_makeCompletion_63 ?_
        refine va_get (D := g.1) (ci := 0) (v := .long (x_cq σ)) (C := RX0) (T := TX0) (N := 7) hx hb hts inX0 hown hK hP 9 rfl rfl 5 (by decide) (hts _ tw149) (fun _ h9 => h9) rfl dX7_makeCompletion_66 ?_
        refine lv_l2i hx hb dX7_makeCompletion_69 rfl ?_
        refine lv_aload_n hx hb dX7_makeCompletion_70 rfl (lv_at hl 0 rfl) ?_
        refine va_get (D := g.1) (ci := 6) (v := .ref (a 9)) (C := RX7) (T := TX7) (N := 15) hx hb hts inX7 hown hK hP 0 rfl rfl 4 (by decide) (hts _ tw187) (fun _ h9 => h9) rfl dX7_makeCompletion_71 ?_
        refine va_get (D := g.1) (ci := 0) (v := .long (x_cx σ)) (C := RX0) (T := TX0) (N := 7) hx hb hts inX0 hown hK hP 9 rfl rfl 6 (by decide) (hts _ tw151) (fun _ h9 => h9) rfl dX7_makeCompletion_74 ?_
        refine lv_l2i hx hb dX7_makeCompletion_77 rfl ?_
        refine lv_aload_n hx hb dX7_makeCompletion_78 rfl (lv_at hl 0 rfl) ?_
        refine va_get (D := g.1) (ci := 6) (v := .ref (a 9)) (C := RX7) (T := TX7) (N := 15) hx hb hts inX7 hown hK hP 0 rfl rfl 4 (by decide) (hts _ tw187) (fun _ h9 => h9) rfl dX7_makeCompletion_79 ?_
        refine va_get (D := g.1) (ci := 0) (v := .int (x_fg σ)) (C := RX0) (T := TX0) (N := 7) hx hb hts inX0 hown hK hP 9 rfl rfl 2 (by decide) (hts _ tw140) (fun _ h9 => h9) rfl dX7_makeCompletion_82 ?_
        refine fr_go (va_runV (As := [.int ((x_cq σ).toInt32), .int ((x_cx σ).toInt32), .int (x_fg σ)]) (rest := []) ⟨hx, hb, hml, hown, hts⟩ (kX1_make l g (a (17 + (pN (x_cp σ)))) ((x_T σ) 0 (4 + (pN (x_cp σ)))) ((x_T σ) 1 (4 + (pN (x_cp σ)))) ((x_T σ) 2 (4 + (pN (x_cp σ)))) ((x_T σ) 3 (4 + (pN (x_cp σ)))) ((x_T σ) 4 (4 + (pN (x_cp σ)))) ((x_T σ) 6 (pN (x_cp σ))) ((x_T σ) 7 (pN (x_cp σ))) ((x_cq σ).toInt32) ((x_cx σ).toInt32) (x_fg σ) hz H.size) (cwV 3 hts (gdV tw269 tw270 tw271 tw6 tw272) rfl rfl rfl (by decide +kernel) ⟨Nat.le_of_ble_eq_true rfl, Nat.le_of_ble_eq_true rfl⟩) ⟨Pst.blind, va_recv hK hP (ci := 1) (q0 := (17 + (pN (x_cp σ)))) rfl (dvC (j := pN (x_cp σ)) h4), fr_pre hK hP hD [17 + (pN (x_cp σ))] rfl (fr_c1 (dvC (j := pN (x_cp σ)) h4))⟩ rfl rfl hl.1 rfl (lv_room (Nat.le_of_ble_eq_true rfl)) dX7_makeCompletion_85 ⟨Nat.le_of_ble_eq_true rfl, Nat.le_of_ble_eq_true rfl⟩) hP hD hS hA [17 + (pN (x_cp σ))] (fr_c1 (dvC (j := pN (x_cp σ)) h4)) (fun v w9 H locs hq hP hD hS => ?_)
        obtain ⟨rfl, rfl⟩ := hq
        have hP : va_P g.1 vwCl (dvW g a (x_mem σ) (x_med σ) (x_cb σ) (x_ca σ) (x_nc σ) (x_cg σ) (up2 (up2 (up2 (up2 (up2 (up2 (up2 (x_T σ) 0 (4 + (pN (x_cp σ))) 1) 1 (4 + (pN (x_cp σ))) ((x_cq σ).toInt32)) 2 (4 + (pN (x_cp σ))) ((x_cx σ).toInt32)) 3 (4 + (pN (x_cp σ))) 0) 4 (4 + (pN (x_cp σ))) 0) 6 (pN (x_cp σ)) 1) 7 (pN (x_cp σ)) (x_fg σ)) (x_op σ) (x_id σ) (x_fg σ) (x_n σ) (x_cp σ) (x_cq σ) (x_cx σ) (x_pg σ) (x_fi σ) (x_F σ) (x_rw σ) (x_on σ) (x_bi σ) (x_tu σ) (x_re σ) (x_dw σ) (x_dq σ) (x_br σ) (x_bs σ)) H := fr_eqP (dvC_0123456 (j := pN (x_cp σ)) h4) hP
        have hD : va_D A (dvW g a (x_mem σ) (x_med σ) (x_cb σ) (x_ca σ) (x_nc σ) (x_cg σ) (up2 (up2 (up2 (up2 (up2 (up2 (up2 (x_T σ) 0 (4 + (pN (x_cp σ))) 1) 1 (4 + (pN (x_cp σ))) ((x_cq σ).toInt32)) 2 (4 + (pN (x_cp σ))) ((x_cx σ).toInt32)) 3 (4 + (pN (x_cp σ))) 0) 4 (4 + (pN (x_cp σ))) 0) 6 (pN (x_cp σ)) 1) 7 (pN (x_cp σ)) (x_fg σ)) (x_op σ) (x_id σ) (x_fg σ) (x_n σ) (x_cp σ) (x_cq σ) (x_cx σ) (x_pg σ) (x_fi σ) (x_F σ) (x_rw σ) (x_on σ) (x_bi σ) (x_tu σ) (x_re σ) (x_dw σ) (x_dq σ) (x_br σ) (x_bs σ)) := fr_eqD (dvC_0123456 (j := pN (x_cp σ)) h4) hD
        show W p l e _ s m _ below meth c H locs _ _ _ (F0 m (85 + 3) ls ([]))
        refine lv_iconst (v := 0) hx hb dX7_makeCompletion_88 (by decide) ?_
        exact W.iret (v := 0) hx hb hr (fun t ht _ => ⟨⟨(some (.int 0)), dvW g a (x_mem σ) (x_med σ) (x_cb σ) (x_ca σ) (x_nc σ) (x_cg σ) (up2 (up2 (up2 (up2 (up2 (up2 (up2 (x_T σ) 0 (4 + (pN (x_cp σ))) 1) 1 (4 + (pN (x_cp σ))) ((x_cq σ).toInt32)) 2 (4 + (pN (x_cp σ))) ((x_cx σ).toInt32)) 3 (4 + (pN (x_cp σ))) 0) 4 (4 + (pN (x_cp σ))) 0) 6 (pN (x_cp σ)) 1) 7 (pN (x_cp σ)) (x_fg σ)) (x_op σ) (x_id σ) (x_fg σ) (x_n σ) (x_cp σ) (x_cq σ) (x_cx σ) (x_pg σ) (x_fi σ) (x_F σ) (x_rw σ) (x_on σ) (x_bi σ) (x_tu σ) (x_re σ) (x_dw σ) (x_dq σ) (x_br σ) (x_bs σ), rfl, ⟨congrArg (fun z : Int32 => some (Value.int z)) (by rw [r_mc, if_pos ⟨c10, c24, c44⟩]), by rw [g_mc, if_pos ⟨c10, c24, c44⟩] <;> rfl⟩, rfl, by rw [ht]; exact hP⟩, hS.F ht⟩) hS.2.2 dX7_makeCompletion_89
      · have c44 := bI_f c44
        refine lv_iconst (v := 2) hx hb dX7_makeCompletion_47 (by decide) ?_
        exact W.iret (v := 2) hx hb hr (fun t ht _ => ⟨⟨(some (.int 2)), dvW g a (x_mem σ) (x_med σ) (x_cb σ) (x_ca σ) (x_nc σ) (x_cg σ) (x_T σ) (x_op σ) (x_id σ) (x_fg σ) (x_n σ) (x_cp σ) (x_cq σ) (x_cx σ) (x_pg σ) (x_fi σ) (x_F σ) (x_rw σ) (x_on σ) (x_bi σ) (x_tu σ) (x_re σ) (x_dw σ) (x_dq σ) (x_br σ) (x_bs σ), rfl, ⟨congrArg (fun z : Int32 => some (Value.int z)) (by rw [r_mc, if_neg (show ¬ mcO σ from by first | exact (fun q => q.2.2 c44) | exact (fun q => c44 q.2.2))]), by rw [g_mc, if_neg (show ¬ mcO σ from by first | exact (fun q => q.2.2 c44) | exact (fun q => c44 q.2.2))] <;> rfl⟩, rfl, by rw [ht]; exact hP⟩, hS.F ht⟩) hS.2.2 dX7_makeCompletion_48
