set_option maxHeartbeats 4000000 in
set_option maxRecDepth 100000 in
/-- rowToData -/
theorem kX7_rowToData (l : Launch) (g : GG) (a : Nat → Nat) (σ : CS) (i : Nat) (hi : i < 64) (hF : x_F σ < 2048) : Ct l yX7_rowToData cX7_rowToData 3 none ({ frames := 2, cells := 0, slots := 0, locals := 63 } : Room) g [.ref (a 0), .int (nI i)] (dvW g a (x_mem σ) (x_med σ) (x_cb σ) (x_ca σ) (x_nc σ) (x_cg σ) (x_T σ) (x_op σ) (x_id σ) (x_fg σ) (x_n σ) (x_cp σ) (x_cq σ) (x_cx σ) (x_pg σ) (x_fi σ) (x_F σ) (x_rw σ) (x_on σ) (x_bi σ) (x_tu σ) (x_re σ) (x_dw σ) (x_dq σ) (x_br σ) (x_bs σ)) (fun v w' => v = none ∧ w' = dvW g a (x_mem (g_row σ i)) (x_med (g_row σ i)) (x_cb (g_row σ i)) (x_ca (g_row σ i)) (x_nc (g_row σ i)) (x_cg (g_row σ i)) (x_T (g_row σ i)) (x_op (g_row σ i)) (x_id (g_row σ i)) (x_fg (g_row σ i)) (x_n (g_row σ i)) (x_cp (g_row σ i)) (x_cq (g_row σ i)) (x_cx (g_row σ i)) (x_pg (g_row σ i)) (x_fi (g_row σ i)) (x_F (g_row σ i)) (x_rw (g_row σ i)) (x_on (g_row σ i)) (x_bi (g_row σ i)) (x_tu (g_row σ i)) (x_re (g_row σ i)) (x_dw (g_row σ i)) (x_dq (g_row σ i)) (x_br (g_row σ i)) (x_bs (g_row σ i))) := by
  refine Ct.of (by decide) (Nat.le_of_ble_eq_true rfl) ?_
  intro p e s m below meth c A ls H locs hx hb hr hml hlocks hts hown hin hA hS hK hP hD hl
  have hown : s.vm.findClass RX7 = some m.cls := hown
  have hl : lv_has ls 3 [(0, .ref (a 0)), (1, .int (nI i))] := hl
  refine lv_iconst (v := 0) hx hb dX7_rowToData_0 (by decide) ?_
  refine fr_topi (y := nI 0) nI_0.symm ?_
  refine lv_istore_n (lv' := [(2, .int (nI 0)), (0, .ref (a 0)), (1, .int (nI i))]) hx hb dX7_rowToData_1 rfl hl (by decide) rfl (fun ls hl => ?_)
  have lp2 : ∀ (n9 : Nat) (k : Nat) , 8 - k < n9 → (k ≤ 8) → ∀ (H : Heap) (locs : List Loc) (ls : Array Slot), va_P g.1 vwCl (dvW g a (rtd (x_mem σ) (x_fi σ) (x_F σ) (x_pg σ) (x_rw σ) i k) (x_med σ) (x_cb σ) (x_ca σ) (x_nc σ) (x_cg σ) (x_T σ) (x_op σ) (x_id σ) (x_fg σ) (x_n σ) (x_cp σ) (x_cq σ) (x_cx σ) (x_pg σ) (x_fi σ) (x_F σ) (x_rw σ) (x_on σ) (x_bi σ) (x_tu σ) (x_re σ) (x_dw σ) (x_dq σ) (x_br σ) (x_bs σ)) H → va_D A (dvW g a (rtd (x_mem σ) (x_fi σ) (x_F σ) (x_pg σ) (x_rw σ) i k) (x_med σ) (x_cb σ) (x_ca σ) (x_nc σ) (x_cg σ) (x_T σ) (x_op σ) (x_id σ) (x_fg σ) (x_n σ) (x_cp σ) (x_cq σ) (x_cx σ) (x_pg σ) (x_fi σ) (x_F σ) (x_rw σ) (x_on σ) (x_bi σ) (x_tu σ) (x_re σ) (x_dw σ) (x_dq σ) (x_br σ) (x_bs σ)) → va_S A s.heap H locs → lv_has ls 3 [(2, .int (nI k)), (0, .ref (a 0)), (1, .int (nI i))] → W p l e ({ frames := 2, cells := 0, slots := 0, locals := 63 } : Room) s m ([.ref (a 0), .int (nI i)].toArray) below meth c H locs 0 0 (MQ below (Qst g (dvW g a (x_mem σ) (x_med σ) (x_cb σ) (x_ca σ) (x_nc σ) (x_cg σ) (x_T σ) (x_op σ) (x_id σ) (x_fg σ) (x_n σ) (x_cp σ) (x_cq σ) (x_cx σ) (x_pg σ) (x_fi σ) (x_F σ) (x_rw σ) (x_on σ) (x_bi σ) (x_tu σ) (x_re σ) (x_dw σ) (x_dq σ) (x_br σ) (x_bs σ)) (fun v w' => v = none ∧ w' = dvW g a (x_mem (g_row σ i)) (x_med (g_row σ i)) (x_cb (g_row σ i)) (x_ca (g_row σ i)) (x_nc (g_row σ i)) (x_cg (g_row σ i)) (x_T (g_row σ i)) (x_op (g_row σ i)) (x_id (g_row σ i)) (x_fg (g_row σ i)) (x_n (g_row σ i)) (x_cp (g_row σ i)) (x_cq (g_row σ i)) (x_cx (g_row σ i)) (x_pg (g_row σ i)) (x_fi (g_row σ i)) (x_F (g_row σ i)) (x_rw (g_row σ i)) (x_on (g_row σ i)) (x_bi (g_row σ i)) (x_tu (g_row σ i)) (x_re (g_row σ i)) (x_dw (g_row σ i)) (x_dq (g_row σ i)) (x_br (g_row σ i)) (x_bs (g_row σ i))) A) ([.ref (a 0), .int (nI i)].toArray) s 0 0 A) (F0 m 2 ls []) := by
    intro n9
    induction n9 with
    | zero => intro k q9; exact absurd q9 (Nat.not_lt_zero _)
    | succ n9 ih2 =>
      intro k hn9 hk H locs ls hP hD hS hl
      refine lv_iload_n hx hb dX7_rowToData_2 rfl (lv_at hl 0 rfl) ?_
      refine lv_bipush (v := 8) hx hb dX7_rowToData_3 (by decide) ?_
      refine lv_icmp_ge (tgt := 40) hx hb dX7_rowToData_5 (by decide) (fun c5 => ?_) (fun c5 => ?_)
      · have c5 := (nI_leI (a := 8) (b := k) (by omega) (by omega)).mp c5
        exact W.vret hx hb hr (fun t ht _ => ⟨⟨none, dvW g a (rtd (x_mem σ) (x_fi σ) (x_F σ) (x_pg σ) (x_rw σ) i k) (x_med σ) (x_cb σ) (x_ca σ) (x_nc σ) (x_cg σ) (x_T σ) (x_op σ) (x_id σ) (x_fg σ) (x_n σ) (x_cp σ) (x_cq σ) (x_cx σ) (x_pg σ) (x_fi σ) (x_F σ) (x_rw σ) (x_on σ) (x_bi σ) (x_tu σ) (x_re σ) (x_dw σ) (x_dq σ) (x_br σ) (x_bs σ), rfl, ⟨rfl, by rw [show k = 8 by omega]; rfl⟩, rfl, by rw [ht]; exact hP⟩, hS.F ht⟩) hS.2.2 dX7_rowToData_40
      · have c5 := (not_congr (nI_leI (a := 8) (b := k) (by omega) (by omega))).mp c5
        refine lv_aload_n hx hb dX7_rowToData_8 rfl (lv_at hl 1 rfl) ?_
        refine va_get (D := g.1) (ci := 6) (v := .ref (a 1)) (C := RX7) (T := TX7) (N := 15) hx hb hts inX7 hown hK hP 0 rfl rfl 0 (by decide) (hts _ tw183) (fun _ h9 => h9) rfl dX7_rowToData_9 ?_
        refine lv_aload_n hx hb dX7_rowToData_12 rfl (lv_at hl 1 rfl) ?_
        refine va_get (D := g.1) (ci := 6) (v := .ref (a 10)) (C := RX7) (T := TX7) (N := 15) hx hb hts inX7 hown hK hP 0 rfl rfl 5 (by decide) (hts _ tw188) (fun _ h9 => h9) rfl dX7_rowToData_13 ?_
        refine lv_iload_n hx hb dX7_rowToData_16 rfl (lv_at hl 2 rfl) ?_
        refine lv_bipush (v := 8) hx hb dX7_rowToData_17 (by decide) ?_
        refine lv_imul hx hb dX7_rowToData_19 ?_
        refine fr_topi (y := nI (i * 8)) (pk_mul _ 8) ?_
        refine lv_iload_n hx hb dX7_rowToData_20 rfl (lv_at hl 0 rfl) ?_
        refine lv_iadd hx hb dX7_rowToData_21 ?_
        refine fr_topi (y := nI (i * 8 + k)) (nI_add _ _) ?_
        refine fr_go (va_runV (As := [.int (nI (i * 8 + k))]) (rest := [.ref (a 1)]) ⟨hx, hb, hml, hown, hts⟩ (kX2_address l g (a 10) (a 11) (x_fi σ) (x_F σ) (x_pg σ) (i * 8 + k) (by omega) hF H.size) (cwV 1 hts (gdV tw480 tw481 tw482 tw8 tw483) rfl rfl rfl (by decide +kernel) ⟨Nat.le_of_ble_eq_true rfl, Nat.le_of_ble_eq_true rfl⟩) ⟨Pst.blind, va_recv hK hP (ci := 2) (q0 := 10) rfl rfl, fr_pre hK hP hD [10, 11] (by decide) rfl⟩ rfl rfl hl.1 rfl (lv_room (Nat.le_of_ble_eq_true rfl)) dX7_rowToData_22 ⟨Nat.le_of_ble_eq_true rfl, Nat.le_of_ble_eq_true rfl⟩) hP hD hS hA [10, 11] rfl (fun v w9 H locs hq hP hD hS => ?_)
        obtain ⟨rfl, rfl⟩ := hq
        have hP : va_P g.1 vwCl (dvW g a (rtd (x_mem σ) (x_fi σ) (x_F σ) (x_pg σ) (x_rw σ) i k) (x_med σ) (x_cb σ) (x_ca σ) (x_nc σ) (x_cg σ) (x_T σ) (x_op σ) (x_id σ) (x_fg σ) (x_n σ) (x_cp σ) (x_cq σ) (x_cx σ) (x_pg σ) (x_fi σ) (x_F σ) (x_rw σ) (x_on σ) (x_bi σ) (x_tu σ) (x_re σ) (x_dw σ) (x_dq σ) (x_br σ) (x_bs σ)) H := hP
        have hD : va_D A (dvW g a (rtd (x_mem σ) (x_fi σ) (x_F σ) (x_pg σ) (x_rw σ) i k) (x_med σ) (x_cb σ) (x_ca σ) (x_nc σ) (x_cg σ) (x_T σ) (x_op σ) (x_id σ) (x_fg σ) (x_n σ) (x_cp σ) (x_cq σ) (x_cx σ) (x_pg σ) (x_fi σ) (x_F σ) (x_rw σ) (x_on σ) (x_bi σ) (x_tu σ) (x_re σ) (x_dw σ) (x_dq σ) (x_br σ) (x_bs σ)) := hD
        show W p l e _ s m _ below meth c H locs _ _ _ (F0 m (22 + 3) ls (.int (adr (x_fi σ) (x_F σ) (x_pg σ) (i * 8 + k)) :: .ref (a 1) :: []))
        refine lv_aload_n hx hb dX7_rowToData_25 rfl (lv_at hl 1 rfl) ?_
        refine va_get (D := g.1) (ci := 6) (v := .ref (a 12)) (C := RX7) (T := TX7) (N := 15) hx hb hts inX7 hown hK hP 0 rfl rfl 6 (by decide) (hts _ tw189) (fun _ h9 => h9) rfl dX7_rowToData_26 ?_
        refine lv_iload_n hx hb dX7_rowToData_29 rfl (lv_at hl 0 rfl) ?_
        refine fr_lald (k := k) hx hb hK hP 12 0 rfl rfl (by omega) (by decide) dX7_rowToData_30 ?_
        refine fr_go (va_runV (As := [.int (adr (x_fi σ) (x_F σ) (x_pg σ) (i * 8 + k)), .long ((x_rw σ) k)]) (rest := []) ⟨hx, hb, hml, hown, hts⟩ (kX4_put l g (a 1) (a 2) (rtd (x_mem σ) (x_fi σ) (x_F σ) (x_pg σ) (x_rw σ) i k) (adr (x_fi σ) (x_F σ) (x_pg σ) (i * 8 + k)) ((x_rw σ) k) H.size) (cwV 2 hts (gdV tw246 tw247 tw248 tw2 tw249) rfl rfl rfl (by decide +kernel) ⟨Nat.le_of_ble_eq_true rfl, Nat.le_of_ble_eq_true rfl⟩) ⟨Pst.blind, va_recv hK hP (ci := 4) (q0 := 1) rfl rfl, fr_pre hK hP hD [1, 2] (by decide) rfl⟩ rfl rfl hl.1 rfl (lv_room (Nat.le_of_ble_eq_true rfl)) dX7_rowToData_31 ⟨Nat.le_of_ble_eq_true rfl, Nat.le_of_ble_eq_true rfl⟩) hP hD hS hA [1, 2] rfl (fun v w9 H locs hq hP hD hS => ?_)
        obtain ⟨rfl, rfl⟩ := hq
        have hP : va_P g.1 vwCl (dvW g a (mPut (rtd (x_mem σ) (x_fi σ) (x_F σ) (x_pg σ) (x_rw σ) i k) (adr (x_fi σ) (x_F σ) (x_pg σ) (i * 8 + k)) ((x_rw σ) k)) (x_med σ) (x_cb σ) (x_ca σ) (x_nc σ) (x_cg σ) (x_T σ) (x_op σ) (x_id σ) (x_fg σ) (x_n σ) (x_cp σ) (x_cq σ) (x_cx σ) (x_pg σ) (x_fi σ) (x_F σ) (x_rw σ) (x_on σ) (x_bi σ) (x_tu σ) (x_re σ) (x_dw σ) (x_dq σ) (x_br σ) (x_bs σ)) H := hP
        have hD : va_D A (dvW g a (mPut (rtd (x_mem σ) (x_fi σ) (x_F σ) (x_pg σ) (x_rw σ) i k) (adr (x_fi σ) (x_F σ) (x_pg σ) (i * 8 + k)) ((x_rw σ) k)) (x_med σ) (x_cb σ) (x_ca σ) (x_nc σ) (x_cg σ) (x_T σ) (x_op σ) (x_id σ) (x_fg σ) (x_n σ) (x_cp σ) (x_cq σ) (x_cx σ) (x_pg σ) (x_fi σ) (x_F σ) (x_rw σ) (x_on σ) (x_bi σ) (x_tu σ) (x_re σ) (x_dw σ) (x_dq σ) (x_br σ) (x_bs σ)) := hD
        show W p l e _ s m _ below meth c H locs _ _ _ (F0 m (31 + 3) ls ([]))
        refine lv_iinc (v := nI (k + 1)) (lv' := [(2, .int (nI (k + 1))), (0, .ref (a 0)), (1, .int (nI i))]) hx hb dX7_rowToData_34 hl (k := 0) rfl (nI_1 _) (by decide) rfl (fun ls hl => ?_)
        refine lv_goto (tgt := 2) hx hb dX7_rowToData_37 (by decide) ?_
        exact ih2 (k + 1) (by omega) (by omega) H locs ls hP hD hS (lv_sub hl [0, 1, 2] rfl)
  exact lp2 _ 0 (Nat.lt_succ_self _) (by decide) H locs ls hP hD hS (lv_sub hl [0, 1, 2] rfl)
