set_option maxHeartbeats 4000000 in
set_option maxRecDepth 100000 in
/-- op 19 -/
theorem kX7_sameAsData (l : Launch) (g : GG) (a : Nat → Nat) (σ : CS) (hn : x_nc σ ≤ 6) (hX : pN (x_cx σ) + x_n σ ≤ 64) (ex : (x_cx σ).toInt32 = nI (pN (x_cx σ))) (hF : x_F σ < 2048) : Ct l yX7_sameAsData cX7_sameAsData 3 (some .boolean) ({ frames := 2, cells := 0, slots := 0, locals := 63 } : Room) g [.ref (a 0)] (dvW g a (x_mem σ) (x_med σ) (x_cb σ) (x_ca σ) (x_nc σ) (x_cg σ) (x_T σ) (x_op σ) (x_id σ) (x_fg σ) (x_n σ) (x_cp σ) (x_cq σ) (x_cx σ) (x_pg σ) (x_fi σ) (x_F σ) (x_rw σ) (x_on σ) (x_bi σ) (x_tu σ) (x_re σ) (x_dw σ) (x_dq σ) (x_br σ) (x_bs σ)) (fun v w' => v = some (.int (bI (r_same σ))) ∧ w' = dvW g a (x_mem (g_same σ)) (x_med (g_same σ)) (x_cb (g_same σ)) (x_ca (g_same σ)) (x_nc (g_same σ)) (x_cg (g_same σ)) (x_T (g_same σ)) (x_op (g_same σ)) (x_id (g_same σ)) (x_fg (g_same σ)) (x_n (g_same σ)) (x_cp (g_same σ)) (x_cq (g_same σ)) (x_cx (g_same σ)) (x_pg (g_same σ)) (x_fi (g_same σ)) (x_F (g_same σ)) (x_rw (g_same σ)) (x_on (g_same σ)) (x_bi (g_same σ)) (x_tu (g_same σ)) (x_re (g_same σ)) (x_dw (g_same σ)) (x_dq (g_same σ)) (x_br (g_same σ)) (x_bs (g_same σ))) := by
  refine Ct.of (by decide) (Nat.le_of_ble_eq_true rfl) ?_
  intro p e s m below meth c A ls H locs hx hb hr hml hlocks hts hown hin hA hS hK hP hD hl
  have hown : s.vm.findClass RX7 = some m.cls := hown
  have hl : lv_has ls 3 [(0, .ref (a 0))] := hl
  refine lv_iconst (v := 0) hx hb dX7_sameAsData_0 (by decide) ?_
  refine fr_topi (y := nI 0) nI_0.symm ?_
  refine lv_istore_n (lv' := [(1, .int (nI 0)), (0, .ref (a 0))]) hx hb dX7_sameAsData_1 rfl hl (by decide) rfl (fun ls hl => ?_)
  have lp2 : ∀ (n9 : Nat) (i : Nat) , x_n σ - i < n9 → (i ≤ x_n σ) → (smC σ i = i) → ∀ (H : Heap) (locs : List Loc) (ls : Array Slot), va_P g.1 vwCl (dvW g a (x_mem σ) (x_med σ) (x_cb σ) (x_ca σ) (x_nc σ) (x_cg σ) (x_T σ) (x_op σ) (x_id σ) (x_fg σ) (x_n σ) (x_cp σ) (x_cq σ) (x_cx σ) (x_pg σ) (x_fi σ) (x_F σ) (rdRow (x_med σ) (x_cb σ) (x_ca σ) (x_nc σ) (pN (x_cx σ)) (x_rw σ) i) (x_on σ) (x_bi σ) (x_tu σ) (x_re σ) (x_dw σ) (x_dq σ) (x_br σ) (x_bs σ)) H → va_D A (dvW g a (x_mem σ) (x_med σ) (x_cb σ) (x_ca σ) (x_nc σ) (x_cg σ) (x_T σ) (x_op σ) (x_id σ) (x_fg σ) (x_n σ) (x_cp σ) (x_cq σ) (x_cx σ) (x_pg σ) (x_fi σ) (x_F σ) (rdRow (x_med σ) (x_cb σ) (x_ca σ) (x_nc σ) (pN (x_cx σ)) (x_rw σ) i) (x_on σ) (x_bi σ) (x_tu σ) (x_re σ) (x_dw σ) (x_dq σ) (x_br σ) (x_bs σ)) → va_S A s.heap H locs → lv_has ls 3 [(1, .int (nI i)), (0, .ref (a 0))] → W p l e ({ frames := 2, cells := 0, slots := 0, locals := 63 } : Room) s m ([.ref (a 0)].toArray) below meth c H locs 0 0 (MQ below (Qst g (dvW g a (x_mem σ) (x_med σ) (x_cb σ) (x_ca σ) (x_nc σ) (x_cg σ) (x_T σ) (x_op σ) (x_id σ) (x_fg σ) (x_n σ) (x_cp σ) (x_cq σ) (x_cx σ) (x_pg σ) (x_fi σ) (x_F σ) (x_rw σ) (x_on σ) (x_bi σ) (x_tu σ) (x_re σ) (x_dw σ) (x_dq σ) (x_br σ) (x_bs σ)) (fun v w' => v = some (.int (bI (r_same σ))) ∧ w' = dvW g a (x_mem (g_same σ)) (x_med (g_same σ)) (x_cb (g_same σ)) (x_ca (g_same σ)) (x_nc (g_same σ)) (x_cg (g_same σ)) (x_T (g_same σ)) (x_op (g_same σ)) (x_id (g_same σ)) (x_fg (g_same σ)) (x_n (g_same σ)) (x_cp (g_same σ)) (x_cq (g_same σ)) (x_cx (g_same σ)) (x_pg (g_same σ)) (x_fi (g_same σ)) (x_F (g_same σ)) (x_rw (g_same σ)) (x_on (g_same σ)) (x_bi (g_same σ)) (x_tu (g_same σ)) (x_re (g_same σ)) (x_dw (g_same σ)) (x_dq (g_same σ)) (x_br (g_same σ)) (x_bs (g_same σ))) A) ([.ref (a 0)].toArray) s 0 0 A) (F0 m 2 ls []) := by
    intro n9
    induction n9 with
    | zero => intro i q9; exact absurd q9 (Nat.not_lt_zero _)
    | succ n9 ih2 =>
      intro i hn9 hi hc H locs ls hP hD hS hl
      refine lv_iload_n hx hb dX7_sameAsData_2 rfl (lv_at hl 0 rfl) ?_
      refine lv_aload_n hx hb dX7_sameAsData_3 rfl (lv_at hl 1 rfl) ?_
      refine va_get (D := g.1) (ci := 6) (v := .ref (a 9)) (C := RX7) (T := TX7) (N := 15) hx hb hts inX7 hown hK hP 0 rfl rfl 4 (by decide) (hts _ tw187) (fun _ h9 => h9) rfl dX7_sameAsData_4 ?_
      refine va_get (D := g.1) (ci := 0) (v := .int (nI (x_n σ))) (C := RX0) (T := TX0) (N := 7) hx hb hts inX0 hown hK hP 9 rfl rfl 3 (by decide) (hts _ tw143) (fun _ h9 => h9) rfl dX7_sameAsData_7 ?_
      refine lv_icmp_ge (tgt := 86) hx hb dX7_sameAsData_10 (by decide) (fun c10 => ?_) (fun c10 => ?_)
      · have c10 := (nI_leI (a := (x_n σ)) (b := i) (by omega) (by omega)).mp c10
        refine lv_iconst (v := 1) hx hb dX7_sameAsData_86 (by decide) ?_
        exact W.zret (v := 1) hx hb hr (by first | rfl | exact bz_n (by first | assumption | exact bI_z | decide)) (fun t ht _ => ⟨⟨(some (.int 1)), dvW g a (x_mem σ) (x_med σ) (x_cb σ) (x_ca σ) (x_nc σ) (x_cg σ) (x_T σ) (x_op σ) (x_id σ) (x_fg σ) (x_n σ) (x_cp σ) (x_cq σ) (x_cx σ) (x_pg σ) (x_fi σ) (x_F σ) (rdRow (x_med σ) (x_cb σ) (x_ca σ) (x_nc σ) (pN (x_cx σ)) (x_rw σ) i) (x_on σ) (x_bi σ) (x_tu σ) (x_re σ) (x_dw σ) (x_dq σ) (x_br σ) (x_bs σ), rfl, ⟨congrArg (fun z : Int32 => some (Value.int z)) (bI_1 ((fun (e9 : i = x_n σ) => (by subst e9; exact hc : r_same σ)) (by omega))), (fun (e9 : i = x_n σ) (e8 : r_same σ) => by rw [g_same, if_pos e8, e9]) (by omega) ((fun (e9 : i = x_n σ) => (by subst e9; exact hc : r_same σ)) (by omega))⟩, rfl, by rw [ht]; exact hP⟩, hS.F ht⟩) hS.2.2 dX7_sameAsData_87
      · have c10 := (not_congr (nI_leI (a := (x_n σ)) (b := i) (by omega) (by omega))).mp c10
        refine lv_aload_n hx hb dX7_sameAsData_13 rfl (lv_at hl 1 rfl) ?_
        refine va_get (D := g.1) (ci := 6) (v := .ref (a 3)) (C := RX7) (T := TX7) (N := 15) hx hb hts inX7 hown hK hP 0 rfl rfl 1 (by decide) (hts _ tw184) (fun _ h9 => h9) rfl dX7_sameAsData_14 ?_
        refine lv_aload_n hx hb dX7_sameAsData_17 rfl (lv_at hl 1 rfl) ?_
        refine va_get (D := g.1) (ci := 6) (v := .ref (a 9)) (C := RX7) (T := TX7) (N := 15) hx hb hts inX7 hown hK hP 0 rfl rfl 4 (by decide) (hts _ tw187) (fun _ h9 => h9) rfl dX7_sameAsData_18 ?_
        refine va_get (D := g.1) (ci := 0) (v := .long (x_cx σ)) (C := RX0) (T := TX0) (N := 7) hx hb hts inX0 hown hK hP 9 rfl rfl 6 (by decide) (hts _ tw151) (fun _ h9 => h9) rfl dX7_sameAsData_21 ?_
        refine lv_l2i hx hb dX7_sameAsData_24 rfl ?_
        refine fr_topi (y := nI (pN (x_cx σ))) ex ?_
        refine lv_iload_n hx hb dX7_sameAsData_25 rfl (lv_at hl 0 rfl) ?_
        refine lv_iadd hx hb dX7_sameAsData_26 ?_
        refine fr_topi (y := nI (pN (x_cx σ) + i)) (nI_add _ _) ?_
        refine lv_aload_n hx hb dX7_sameAsData_27 rfl (lv_at hl 1 rfl) ?_
        refine va_get (D := g.1) (ci := 6) (v := .ref (a 12)) (C := RX7) (T := TX7) (N := 15) hx hb hts inX7 hown hK hP 0 rfl rfl 6 (by decide) (hts _ tw189) (fun _ h9 => h9) rfl dX7_sameAsData_28 ?_
        refine fr_go (va_runV (As := [.int (nI (pN (x_cx σ) + i)), .ref (a 12)]) (rest := []) ⟨hx, hb, hml, hown, hts⟩ (kX3_load l g (a 3) (a 4) (a 5) (a 6) (x_med σ) (x_cb σ) (x_ca σ) (x_nc σ) (x_cg σ) (a 12) (rdRow (x_med σ) (x_cb σ) (x_ca σ) (x_nc σ) (pN (x_cx σ)) (x_rw σ) i) (pN (x_cx σ) + i) hn (by omega) H.size) (cwV 2 hts (gdV tw529 tw530 tw531 tw3 tw532) rfl rfl rfl (by decide +kernel) ⟨Nat.le_of_ble_eq_true rfl, Nat.le_of_ble_eq_true rfl⟩) ⟨Pst.blind, va_recv hK hP (ci := 3) (q0 := 3) rfl rfl, fr_pre hK hP hD [3, 4, 5, 6, 12] (by decide) rfl⟩ rfl rfl hl.1 rfl (lv_room (Nat.le_of_ble_eq_true rfl)) dX7_sameAsData_31 ⟨Nat.le_of_ble_eq_true rfl, Nat.le_of_ble_eq_true rfl⟩) hP hD hS hA [3, 4, 5, 6, 12] rfl (fun v w9 H locs hq hP hD hS => ?_)
        obtain ⟨rfl, rfl⟩ := hq
        have hP : va_P g.1 vwCl (dvW g a (x_mem σ) (x_med σ) (x_cb σ) (x_ca σ) (x_nc σ) (x_cg σ) (x_T σ) (x_op σ) (x_id σ) (x_fg σ) (x_n σ) (x_cp σ) (x_cq σ) (x_cx σ) (x_pg σ) (x_fi σ) (x_F σ) (ldR (x_med σ) (x_cb σ) (x_ca σ) (x_nc σ) (rdRow (x_med σ) (x_cb σ) (x_ca σ) (x_nc σ) (pN (x_cx σ)) (x_rw σ) i) (pN (x_cx σ) + i)) (x_on σ) (x_bi σ) (x_tu σ) (x_re σ) (x_dw σ) (x_dq σ) (x_br σ) (x_bs σ)) H := hP
        have hD : va_D A (dvW g a (x_mem σ) (x_med σ) (x_cb σ) (x_ca σ) (x_nc σ) (x_cg σ) (x_T σ) (x_op σ) (x_id σ) (x_fg σ) (x_n σ) (x_cp σ) (x_cq σ) (x_cx σ) (x_pg σ) (x_fi σ) (x_F σ) (ldR (x_med σ) (x_cb σ) (x_ca σ) (x_nc σ) (rdRow (x_med σ) (x_cb σ) (x_ca σ) (x_nc σ) (pN (x_cx σ)) (x_rw σ) i) (pN (x_cx σ) + i)) (x_on σ) (x_bi σ) (x_tu σ) (x_re σ) (x_dw σ) (x_dq σ) (x_br σ) (x_bs σ)) := hD
        show W p l e _ s m _ below meth c H locs _ _ _ (F0 m (31 + 3) ls ([]))
        refine lv_iconst (v := 0) hx hb dX7_sameAsData_34 (by decide) ?_
        refine fr_topi (y := nI 0) nI_0.symm ?_
        refine lv_istore_n (lv' := [(2, .int (nI 0)), (1, .int (nI i)), (0, .ref (a 0))]) hx hb dX7_sameAsData_35 rfl hl (by decide) rfl (fun ls hl => ?_)
        have lp36 : ∀ (n9 : Nat) (k : Nat) , 8 - k < n9 → (k ≤ 8) → (eqK (rdRow (x_med σ) (x_cb σ) (x_ca σ) (x_nc σ) (pN (x_cx σ)) (x_rw σ) (i + 1)) (x_mem σ) (x_fi σ) (x_F σ) (x_pg σ) i k = true) → ∀ (H : Heap) (locs : List Loc) (ls : Array Slot), va_P g.1 vwCl (dvW g a (x_mem σ) (x_med σ) (x_cb σ) (x_ca σ) (x_nc σ) (x_cg σ) (x_T σ) (x_op σ) (x_id σ) (x_fg σ) (x_n σ) (x_cp σ) (x_cq σ) (x_cx σ) (x_pg σ) (x_fi σ) (x_F σ) (rdRow (x_med σ) (x_cb σ) (x_ca σ) (x_nc σ) (pN (x_cx σ)) (x_rw σ) (i + 1)) (x_on σ) (x_bi σ) (x_tu σ) (x_re σ) (x_dw σ) (x_dq σ) (x_br σ) (x_bs σ)) H → va_D A (dvW g a (x_mem σ) (x_med σ) (x_cb σ) (x_ca σ) (x_nc σ) (x_cg σ) (x_T σ) (x_op σ) (x_id σ) (x_fg σ) (x_n σ) (x_cp σ) (x_cq σ) (x_cx σ) (x_pg σ) (x_fi σ) (x_F σ) (rdRow (x_med σ) (x_cb σ) (x_ca σ) (x_nc σ) (pN (x_cx σ)) (x_rw σ) (i + 1)) (x_on σ) (x_bi σ) (x_tu σ) (x_re σ) (x_dw σ) (x_dq σ) (x_br σ) (x_bs σ)) → va_S A s.heap H locs → lv_has ls 3 [(2, .int (nI k)), (1, .int (nI i)), (0, .ref (a 0))] → W p l e ({ frames := 2, cells := 0, slots := 0, locals := 63 } : Room) s m ([.ref (a 0)].toArray) below meth c H locs 0 0 (MQ below (Qst g (dvW g a (x_mem σ) (x_med σ) (x_cb σ) (x_ca σ) (x_nc σ) (x_cg σ) (x_T σ) (x_op σ) (x_id σ) (x_fg σ) (x_n σ) (x_cp σ) (x_cq σ) (x_cx σ) (x_pg σ) (x_fi σ) (x_F σ) (x_rw σ) (x_on σ) (x_bi σ) (x_tu σ) (x_re σ) (x_dw σ) (x_dq σ) (x_br σ) (x_bs σ)) (fun v w' => v = some (.int (bI (r_same σ))) ∧ w' = dvW g a (x_mem (g_same σ)) (x_med (g_same σ)) (x_cb (g_same σ)) (x_ca (g_same σ)) (x_nc (g_same σ)) (x_cg (g_same σ)) (x_T (g_same σ)) (x_op (g_same σ)) (x_id (g_same σ)) (x_fg (g_same σ)) (x_n (g_same σ)) (x_cp (g_same σ)) (x_cq (g_same σ)) (x_cx (g_same σ)) (x_pg (g_same σ)) (x_fi (g_same σ)) (x_F (g_same σ)) (x_rw (g_same σ)) (x_on (g_same σ)) (x_bi (g_same σ)) (x_tu (g_same σ)) (x_re (g_same σ)) (x_dw (g_same σ)) (x_dq (g_same σ)) (x_br (g_same σ)) (x_bs (g_same σ))) A) ([.ref (a 0)].toArray) s 0 0 A) (F0 m 36 ls []) := by
          intro n9
          induction n9 with
          | zero => intro k q9; exact absurd q9 (Nat.not_lt_zero _)
          | succ n9 ih36 =>
            intro k hn9 hk hq H locs ls hP hD hS hl
            refine lv_iload_n hx hb dX7_sameAsData_36 rfl (lv_at hl 0 rfl) ?_
            refine lv_bipush (v := 8) hx hb dX7_sameAsData_37 (by decide) ?_
            refine lv_icmp_ge (tgt := 80) hx hb dX7_sameAsData_39 (by decide) (fun c39 => ?_) (fun c39 => ?_)
            · have c39 := (nI_leI (a := 8) (b := k) (by omega) (by omega)).mp c39
              refine lv_iinc (v := nI (i + 1)) (lv' := [(1, .int (nI (i + 1))), (2, .int (nI k)), (0, .ref (a 0))]) hx hb dX7_sameAsData_80 hl (k := 1) rfl (nI_1 _) (by decide) rfl (fun ls hl => ?_)
              refine lv_goto (tgt := 2) hx hb dX7_sameAsData_83 (by decide) ?_
              exact ih2 (i + 1) (by omega) (by omega) (smC_go hc ((show k = 8 by omega) ▸ hq)) H locs ls hP hD hS (lv_sub hl [0, 2] rfl)
            · have c39 := (not_congr (nI_leI (a := 8) (b := k) (by omega) (by omega))).mp c39
              refine lv_aload_n hx hb dX7_sameAsData_42 rfl (lv_at hl 2 rfl) ?_
              refine va_get (D := g.1) (ci := 6) (v := .ref (a 12)) (C := RX7) (T := TX7) (N := 15) hx hb hts inX7 hown hK hP 0 rfl rfl 6 (by decide) (hts _ tw189) (fun _ h9 => h9) rfl dX7_sameAsData_43 ?_
              refine lv_iload_n hx hb dX7_sameAsData_46 rfl (lv_at hl 0 rfl) ?_
              refine fr_lald (k := k) hx hb hK hP 12 0 rfl rfl (by omega) (by decide) dX7_sameAsData_47 ?_
              refine lv_aload_n hx hb dX7_sameAsData_48 rfl (lv_at hl 2 rfl) ?_
              refine va_get (D := g.1) (ci := 6) (v := .ref (a 1)) (C := RX7) (T := TX7) (N := 15) hx hb hts inX7 hown hK hP 0 rfl rfl 0 (by decide) (hts _ tw183) (fun _ h9 => h9) rfl dX7_sameAsData_49 ?_
              refine lv_aload_n hx hb dX7_sameAsData_52 rfl (lv_at hl 2 rfl) ?_
              refine va_get (D := g.1) (ci := 6) (v := .ref (a 10)) (C := RX7) (T := TX7) (N := 15) hx hb hts inX7 hown hK hP 0 rfl rfl 5 (by decide) (hts _ tw188) (fun _ h9 => h9) rfl dX7_sameAsData_53 ?_
              refine lv_iload_n hx hb dX7_sameAsData_56 rfl (lv_at hl 1 rfl) ?_
              refine lv_bipush (v := 8) hx hb dX7_sameAsData_57 (by decide) ?_
              refine lv_imul hx hb dX7_sameAsData_59 ?_
              refine fr_topi (y := nI (i * 8)) (pk_mul _ 8) ?_
              refine lv_iload_n hx hb dX7_sameAsData_60 rfl (lv_at hl 0 rfl) ?_
              refine lv_iadd hx hb dX7_sameAsData_61 ?_
              refine fr_topi (y := nI (i * 8 + k)) (nI_add _ _) ?_
              refine fr_go (va_runV (As := [.int (nI (i * 8 + k))]) (rest := [.ref (a 1), .long ((rdRow (x_med σ) (x_cb σ) (x_ca σ) (x_nc σ) (pN (x_cx σ)) (x_rw σ) (i + 1)) k)]) ⟨hx, hb, hml, hown, hts⟩ (kX2_address l g (a 10) (a 11) (x_fi σ) (x_F σ) (x_pg σ) (i * 8 + k) (by omega) hF H.size) (cwV 1 hts (gdV tw480 tw481 tw482 tw8 tw483) rfl rfl rfl (by decide +kernel) ⟨Nat.le_of_ble_eq_true rfl, Nat.le_of_ble_eq_true rfl⟩) ⟨Pst.blind, va_recv hK hP (ci := 2) (q0 := 10) rfl rfl, fr_pre hK hP hD [10, 11] (by decide) rfl⟩ rfl rfl hl.1 rfl (lv_room (Nat.le_of_ble_eq_true rfl)) dX7_sameAsData_62 ⟨Nat.le_of_ble_eq_true rfl, Nat.le_of_ble_eq_true rfl⟩) hP hD hS hA [10, 11] rfl (fun v w9 H locs hq hP hD hS => ?_)
              obtain ⟨rfl, rfl⟩ := hq
              have hP : va_P g.1 vwCl (dvW g a (x_mem σ) (x_med σ) (x_cb σ) (x_ca σ) (x_nc σ) (x_cg σ) (x_T σ) (x_op σ) (x_id σ) (x_fg σ) (x_n σ) (x_cp σ) (x_cq σ) (x_cx σ) (x_pg σ) (x_fi σ) (x_F σ) (rdRow (x_med σ) (x_cb σ) (x_ca σ) (x_nc σ) (pN (x_cx σ)) (x_rw σ) (i + 1)) (x_on σ) (x_bi σ) (x_tu σ) (x_re σ) (x_dw σ) (x_dq σ) (x_br σ) (x_bs σ)) H := hP
              have hD : va_D A (dvW g a (x_mem σ) (x_med σ) (x_cb σ) (x_ca σ) (x_nc σ) (x_cg σ) (x_T σ) (x_op σ) (x_id σ) (x_fg σ) (x_n σ) (x_cp σ) (x_cq σ) (x_cx σ) (x_pg σ) (x_fi σ) (x_F σ) (rdRow (x_med σ) (x_cb σ) (x_ca σ) (x_nc σ) (pN (x_cx σ)) (x_rw σ) (i + 1)) (x_on σ) (x_bi σ) (x_tu σ) (x_re σ) (x_dw σ) (x_dq σ) (x_br σ) (x_bs σ)) := hD
              show W p l e _ s m _ below meth c H locs _ _ _ (F0 m (62 + 3) ls (.int (adr (x_fi σ) (x_F σ) (x_pg σ) (i * 8 + k)) :: .ref (a 1) :: .long ((rdRow (x_med σ) (x_cb σ) (x_ca σ) (x_nc σ) (pN (x_cx σ)) (x_rw σ) (i + 1)) k) :: []))
              refine fr_go (va_runV (As := [.int (adr (x_fi σ) (x_F σ) (x_pg σ) (i * 8 + k))]) (rest := [.long ((rdRow (x_med σ) (x_cb σ) (x_ca σ) (x_nc σ) (pN (x_cx σ)) (x_rw σ) (i + 1)) k)]) ⟨hx, hb, hml, hown, hts⟩ (kX4_at l g (a 1) (a 2) (x_mem σ) (adr (x_fi σ) (x_F σ) (x_pg σ) (i * 8 + k)) H.size) (cwV 1 hts (gdV tw233 tw234 tw235 tw2 tw236) rfl rfl rfl (by decide +kernel) ⟨Nat.le_of_ble_eq_true rfl, Nat.le_of_ble_eq_true rfl⟩) ⟨Pst.blind, va_recv hK hP (ci := 4) (q0 := 1) rfl rfl, fr_pre hK hP hD [1, 2] (by decide) rfl⟩ rfl rfl hl.1 rfl (lv_room (Nat.le_of_ble_eq_true rfl)) dX7_sameAsData_65 ⟨Nat.le_of_ble_eq_true rfl, Nat.le_of_ble_eq_true rfl⟩) hP hD hS hA [1, 2] rfl (fun v w9 H locs hq hP hD hS => ?_)
              obtain ⟨rfl, rfl⟩ := hq
              have hP : va_P g.1 vwCl (dvW g a (x_mem σ) (x_med σ) (x_cb σ) (x_ca σ) (x_nc σ) (x_cg σ) (x_T σ) (x_op σ) (x_id σ) (x_fg σ) (x_n σ) (x_cp σ) (x_cq σ) (x_cx σ) (x_pg σ) (x_fi σ) (x_F σ) (rdRow (x_med σ) (x_cb σ) (x_ca σ) (x_nc σ) (pN (x_cx σ)) (x_rw σ) (i + 1)) (x_on σ) (x_bi σ) (x_tu σ) (x_re σ) (x_dw σ) (x_dq σ) (x_br σ) (x_bs σ)) H := hP
              have hD : va_D A (dvW g a (x_mem σ) (x_med σ) (x_cb σ) (x_ca σ) (x_nc σ) (x_cg σ) (x_T σ) (x_op σ) (x_id σ) (x_fg σ) (x_n σ) (x_cp σ) (x_cq σ) (x_cx σ) (x_pg σ) (x_fi σ) (x_F σ) (rdRow (x_med σ) (x_cb σ) (x_ca σ) (x_nc σ) (pN (x_cx σ)) (x_rw σ) (i + 1)) (x_on σ) (x_bi σ) (x_tu σ) (x_re σ) (x_dw σ) (x_dq σ) (x_br σ) (x_bs σ)) := hD
              show W p l e _ s m _ below meth c H locs _ _ _ (F0 m (65 + 3) ls (.long (mAt (x_mem σ) (adr (x_fi σ) (x_F σ) (x_pg σ) (i * 8 + k))) :: .long ((rdRow (x_med σ) (x_cb σ) (x_ca σ) (x_nc σ) (pN (x_cx σ)) (x_rw σ) (i + 1)) k) :: []))
              refine W.lcmp hx hb dX7_sameAsData_68 ?_
              refine lv_if_eq (tgt := 74) hx hb dX7_sameAsData_69 (by decide) (fun c69 => ?_) (fun c69 => ?_)
              · have c69 := (lg_cmp_eq ((rdRow (x_med σ) (x_cb σ) (x_ca σ) (x_nc σ) (pN (x_cx σ)) (x_rw σ) (i + 1)) k) (mAt (x_mem σ) (adr (x_fi σ) (x_F σ) (x_pg σ) (i * 8 + k)))).mp c69
                refine lv_iinc (v := nI (k + 1)) (lv' := [(2, .int (nI (k + 1))), (1, .int (nI i)), (0, .ref (a 0))]) hx hb dX7_sameAsData_74 hl (k := 0) rfl (nI_1 _) (by decide) rfl (fun ls hl => ?_)
                refine lv_goto (tgt := 36) hx hb dX7_sameAsData_77 (by decide) ?_
                exact ih36 (k + 1) (by omega) (by omega) (eqK_go hq c69) H locs ls hP hD hS (lv_sub hl [0, 1, 2] rfl)
              · have c69 := (not_congr (lg_cmp_eq ((rdRow (x_med σ) (x_cb σ) (x_ca σ) (x_nc σ) (pN (x_cx σ)) (x_rw σ) (i + 1)) k) (mAt (x_mem σ) (adr (x_fi σ) (x_F σ) (x_pg σ) (i * 8 + k))))).mp c69
                refine lv_iconst (v := 0) hx hb dX7_sameAsData_72 (by decide) ?_
                exact W.zret (v := 0) hx hb hr (by first | rfl | exact bz_n (by first | assumption | exact bI_z | decide)) (fun t ht _ => ⟨⟨(some (.int 0)), dvW g a (x_mem σ) (x_med σ) (x_cb σ) (x_ca σ) (x_nc σ) (x_cg σ) (x_T σ) (x_op σ) (x_id σ) (x_fg σ) (x_n σ) (x_cp σ) (x_cq σ) (x_cx σ) (x_pg σ) (x_fi σ) (x_F σ) (rdRow (x_med σ) (x_cb σ) (x_ca σ) (x_nc σ) (pN (x_cx σ)) (x_rw σ) (i + 1)) (x_on σ) (x_bi σ) (x_tu σ) (x_re σ) (x_dw σ) (x_dq σ) (x_br σ) (x_bs σ), rfl, ⟨congrArg (fun z : Int32 => some (Value.int z)) (bI_0 (fun q => absurd ((smC_stop hc (eqK_no c69 (by omega)) (by omega)).symm.trans q) (by omega))), (fun (e9 : smC σ (x_n σ) = i) => by rw [g_same, if_neg (show ¬ r_same σ from fun q => absurd (e9.symm.trans q) (by omega)), e9]) (smC_stop hc (eqK_no c69 (by omega)) (by omega))⟩, rfl, by rw [ht]; exact hP⟩, hS.F ht⟩) hS.2.2 dX7_sameAsData_73
        exact lp36 _ 0 (Nat.lt_succ_self _) (by decide) rfl H locs ls hP hD hS (lv_sub hl [0, 1, 2] rfl)
  exact lp2 _ 0 (Nat.lt_succ_self _) (Nat.zero_le _) rfl H locs ls hP hD hS (lv_sub hl [0, 1] rfl)
