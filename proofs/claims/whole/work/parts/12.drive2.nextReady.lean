set_option maxHeartbeats 4000000 in
set_option maxRecDepth 100000 in
/-- nextReady -/
theorem kX7_nextReady (l : Launch) (g : GG) (a : Nat → Nat) (σ : CS) (ht : x_tu σ < 4) : Ct l yX7_nextReady cX7_nextReady 3 (some .int) ({ frames := 3, cells := 0, slots := 0, locals := 62 } : Room) g [.ref (a 0)] (dvW g a (x_mem σ) (x_med σ) (x_cb σ) (x_ca σ) (x_nc σ) (x_cg σ) (x_T σ) (x_op σ) (x_id σ) (x_fg σ) (x_n σ) (x_cp σ) (x_cq σ) (x_cx σ) (x_pg σ) (x_fi σ) (x_F σ) (x_rw σ) (x_on σ) (x_bi σ) (x_tu σ) (x_re σ) (x_dw σ) (x_dq σ) (x_br σ) (x_bs σ)) (fun v w' => v = some (.int (nxtR (x_T σ) (x_tu σ))) ∧ w' = dvW g a (x_mem σ) (x_med σ) (x_cb σ) (x_ca σ) (x_nc σ) (x_cg σ) (x_T σ) (x_op σ) (x_id σ) (x_fg σ) (x_n σ) (x_cp σ) (x_cq σ) (x_cx σ) (x_pg σ) (x_fi σ) (x_F σ) (x_rw σ) (x_on σ) (x_bi σ) (x_tu σ) (x_re σ) (x_dw σ) (x_dq σ) (x_br σ) (x_bs σ)) := by
  refine Ct.of (by decide) (Nat.le_of_ble_eq_true rfl) ?_
  intro p e s m below meth c A ls H locs hx hb hr hml hlocks hts hown hin hA hS hK hP hD hl
  have hown : s.vm.findClass RX7 = some m.cls := hown
  have hl : lv_has ls 3 [(0, .ref (a 0))] := hl
  refine lv_iconst (v := 0) hx hb dX7_nextReady_0 (by decide) ?_
  refine fr_topi (y := nI 0) nI_0.symm ?_
  refine lv_istore_n (lv' := [(1, .int (nI 0)), (0, .ref (a 0))]) hx hb dX7_nextReady_1 rfl hl (by decide) rfl (fun ls hl => ?_)
  have lp2 : ∀ (n9 : Nat) (i : Nat) , 4 - i < n9 → (i ≤ 4) → (nxr (x_T σ) (x_tu σ) i = none) → ∀ (H : Heap) (locs : List Loc) (ls : Array Slot), va_P g.1 vwCl (dvW g a (x_mem σ) (x_med σ) (x_cb σ) (x_ca σ) (x_nc σ) (x_cg σ) (x_T σ) (x_op σ) (x_id σ) (x_fg σ) (x_n σ) (x_cp σ) (x_cq σ) (x_cx σ) (x_pg σ) (x_fi σ) (x_F σ) (x_rw σ) (x_on σ) (x_bi σ) (x_tu σ) (x_re σ) (x_dw σ) (x_dq σ) (x_br σ) (x_bs σ)) H → va_D A (dvW g a (x_mem σ) (x_med σ) (x_cb σ) (x_ca σ) (x_nc σ) (x_cg σ) (x_T σ) (x_op σ) (x_id σ) (x_fg σ) (x_n σ) (x_cp σ) (x_cq σ) (x_cx σ) (x_pg σ) (x_fi σ) (x_F σ) (x_rw σ) (x_on σ) (x_bi σ) (x_tu σ) (x_re σ) (x_dw σ) (x_dq σ) (x_br σ) (x_bs σ)) → va_S A s.heap H locs → lv_has ls 3 [(1, .int (nI i)), (0, .ref (a 0))] → W p l e ({ frames := 3, cells := 0, slots := 0, locals := 62 } : Room) s m ([.ref (a 0)].toArray) below meth c H locs 0 0 (MQ below (Qst g (dvW g a (x_mem σ) (x_med σ) (x_cb σ) (x_ca σ) (x_nc σ) (x_cg σ) (x_T σ) (x_op σ) (x_id σ) (x_fg σ) (x_n σ) (x_cp σ) (x_cq σ) (x_cx σ) (x_pg σ) (x_fi σ) (x_F σ) (x_rw σ) (x_on σ) (x_bi σ) (x_tu σ) (x_re σ) (x_dw σ) (x_dq σ) (x_br σ) (x_bs σ)) (fun v w' => v = some (.int (nxtR (x_T σ) (x_tu σ))) ∧ w' = dvW g a (x_mem σ) (x_med σ) (x_cb σ) (x_ca σ) (x_nc σ) (x_cg σ) (x_T σ) (x_op σ) (x_id σ) (x_fg σ) (x_n σ) (x_cp σ) (x_cq σ) (x_cx σ) (x_pg σ) (x_fi σ) (x_F σ) (x_rw σ) (x_on σ) (x_bi σ) (x_tu σ) (x_re σ) (x_dw σ) (x_dq σ) (x_br σ) (x_bs σ)) A) ([.ref (a 0)].toArray) s 0 0 A) (F0 m 2 ls []) := by
    intro n9
    induction n9 with
    | zero => intro i q9; exact absurd q9 (Nat.not_lt_zero _)
    | succ n9 ih2 =>
      intro i hn9 hi hf H locs ls hP hD hS hl
      refine lv_iload_n hx hb dX7_nextReady_2 rfl (lv_at hl 0 rfl) ?_
      refine lv_iconst (v := 4) hx hb dX7_nextReady_3 (by decide) ?_
      refine lv_icmp_ge (tgt := 37) hx hb dX7_nextReady_4 (by decide) (fun c4 => ?_) (fun c4 => ?_)
      · have c4 := (nI_leI (a := 4) (b := i) (by omega) (by omega)).mp c4
        refine lv_bipush (v := -2) hx hb dX7_nextReady_37 (by decide) ?_
        exact W.iret (v := -2) hx hb hr (fun t ht _ => ⟨⟨(some (.int (-2))), dvW g a (x_mem σ) (x_med σ) (x_cb σ) (x_ca σ) (x_nc σ) (x_cg σ) (x_T σ) (x_op σ) (x_id σ) (x_fg σ) (x_n σ) (x_cp σ) (x_cq σ) (x_cx σ) (x_pg σ) (x_fi σ) (x_F σ) (x_rw σ) (x_on σ) (x_bi σ) (x_tu σ) (x_re σ) (x_dw σ) (x_dq σ) (x_br σ) (x_bs σ), rfl, ⟨congrArg (fun z : Int32 => some (Value.int z)) (by rw [nxtR, show 4 = i by omega, hf]), rfl⟩, rfl, by rw [ht]; exact hP⟩, hS.F ht⟩) hS.2.2 dX7_nextReady_39
      · have c4 := (not_congr (nI_leI (a := 4) (b := i) (by omega) (by omega))).mp c4
        refine lv_aload_n hx hb dX7_nextReady_7 rfl (lv_at hl 1 rfl) ?_
        refine va_get (D := g.1) (ci := 6) (v := .int (nI (x_tu σ))) (C := RX7) (T := TX7) (N := 15) hx hb hts inX7 hown hK hP 0 rfl rfl 9 (by decide) (hts _ tw192) (fun _ h9 => h9) rfl dX7_nextReady_8 ?_
        refine lv_iload_n hx hb dX7_nextReady_11 rfl (lv_at hl 0 rfl) ?_
        refine lv_iadd hx hb dX7_nextReady_12 ?_
        refine fr_topi (y := nI (x_tu σ + i)) (nI_add _ _) ?_
        refine lv_iconst (v := 4) hx hb dX7_nextReady_13 (by decide) ?_
        refine lv_irem hx hb dX7_nextReady_14 (by decide) ?_
        refine fr_topi (y := nI ((x_tu σ + i) % 4)) (rem4 (by omega)) ?_
        refine lv_istore_n (lv' := [(2, .int (nI ((x_tu σ + i) % 4))), (1, .int (nI i)), (0, .ref (a 0))]) hx hb dX7_nextReady_15 rfl hl (by decide) rfl (fun ls hl => ?_)
        refine lv_aload_n hx hb dX7_nextReady_16 rfl (lv_at hl 2 rfl) ?_
        refine lv_aload_n hx hb dX7_nextReady_17 rfl (lv_at hl 2 rfl) ?_
        refine va_get (D := g.1) (ci := 6) (v := .ref (a 7)) (C := RX7) (T := TX7) (N := 15) hx hb hts inX7 hown hK hP 0 rfl rfl 2 (by decide) (hts _ tw185) (fun _ h9 => h9) rfl dX7_nextReady_18 ?_
        refine lv_iload_n hx hb dX7_nextReady_21 rfl (lv_at hl 0 rfl) ?_
        refine fr_aald (k := ((x_tu σ + i) % 4)) (b := (a (13 + ((x_tu σ + i) % 4)))) hx hb hK hP 7 3 rfl rfl rfl (by omega) (by decide) (if_pos (by omega)) dX7_nextReady_22 ?_
        refine fr_goA (va_runV (As := [.ref (a (13 + ((x_tu σ + i) % 4)))]) (rest := []) ⟨hx, hb, hml, hown, hts⟩ (kX7_isReady l g a σ ((x_tu σ + i) % 4) (by omega) H.size) (cwV 1 hts (gdV tw372 tw374 tp3 tw1 tw375) rfl rfl rfl (by decide +kernel) ⟨Nat.le_of_ble_eq_true rfl, Nat.le_of_ble_eq_true rfl⟩) ⟨Pst.blind, va_recv hK hP (ci := 6) (q0 := 0) rfl rfl, fr_preA hK hP hD⟩ rfl rfl hl.1 rfl (lv_room (Nat.le_of_ble_eq_true rfl)) dX7_nextReady_23 ⟨Nat.le_of_ble_eq_true rfl, Nat.le_of_ble_eq_true rfl⟩) hD hS hA (fun v w9 H locs hq hP hD hS => ?_)
        obtain ⟨rfl, rfl⟩ := hq
        have hP : va_P g.1 vwCl (dvW g a (x_mem σ) (x_med σ) (x_cb σ) (x_ca σ) (x_nc σ) (x_cg σ) (x_T σ) (x_op σ) (x_id σ) (x_fg σ) (x_n σ) (x_cp σ) (x_cq σ) (x_cx σ) (x_pg σ) (x_fi σ) (x_F σ) (x_rw σ) (x_on σ) (x_bi σ) (x_tu σ) (x_re σ) (x_dw σ) (x_dq σ) (x_br σ) (x_bs σ)) H := hP
        have hD : va_D A (dvW g a (x_mem σ) (x_med σ) (x_cb σ) (x_ca σ) (x_nc σ) (x_cg σ) (x_T σ) (x_op σ) (x_id σ) (x_fg σ) (x_n σ) (x_cp σ) (x_cq σ) (x_cx σ) (x_pg σ) (x_fi σ) (x_F σ) (x_rw σ) (x_on σ) (x_bi σ) (x_tu σ) (x_re σ) (x_dw σ) (x_dq σ) (x_br σ) (x_bs σ)) := hD
        show W p l e _ s m _ below meth c H locs _ _ _ (F0 m (23 + 3) ls (.int (bI (rdy (x_T σ) ((x_tu σ + i) % 4))) :: []))
        refine lv_if_eq (tgt := 31) hx hb dX7_nextReady_26 (by decide) (fun c26 => ?_) (fun c26 => ?_)
        · have c26 := bI_f c26
          refine lv_iinc (v := nI (i + 1)) (lv' := [(1, .int (nI (i + 1))), (2, .int (nI ((x_tu σ + i) % 4))), (0, .ref (a 0))]) hx hb dX7_nextReady_31 hl (k := 1) rfl (nI_1 _) (by decide) rfl (fun ls hl => ?_)
          refine lv_goto (tgt := 2) hx hb dX7_nextReady_34 (by decide) ?_
          exact ih2 (i + 1) (by omega) (by omega) (nxr_no hf c26) H locs ls hP hD hS (lv_sub hl [0, 2] rfl)
        · have c26 := bI_t c26
          refine lv_iload_n hx hb dX7_nextReady_29 rfl (lv_at hl 0 rfl) ?_
          exact W.iret (v := nI ((x_tu σ + i) % 4)) hx hb hr (fun t ht _ => ⟨⟨(some (.int (nI ((x_tu σ + i) % 4)))), dvW g a (x_mem σ) (x_med σ) (x_cb σ) (x_ca σ) (x_nc σ) (x_cg σ) (x_T σ) (x_op σ) (x_id σ) (x_fg σ) (x_n σ) (x_cp σ) (x_cq σ) (x_cx σ) (x_pg σ) (x_fi σ) (x_F σ) (x_rw σ) (x_on σ) (x_bi σ) (x_tu σ) (x_re σ) (x_dw σ) (x_dq σ) (x_br σ) (x_bs σ), rfl, ⟨congrArg (fun z : Int32 => some (Value.int z)) (nxr_hit hf c26 (by omega)).symm, rfl⟩, rfl, by rw [ht]; exact hP⟩, hS.F ht⟩) hS.2.2 dX7_nextReady_30
  exact lp2 _ 0 (Nat.lt_succ_self _) (by decide) rfl H locs ls hP hD hS (lv_sub hl [0, 1] rfl)
