set_option maxHeartbeats 4000000 in
set_option maxRecDepth 100000 in
/-- isAnsweredTo -/
theorem kX7_isAnsweredTo (l : Launch) (g : GG) (a : Nat → Nat) (σ : CS) (x : Int64) : Ct l yX7_isAnsweredTo cX7_isAnsweredTo 4 (some .boolean) ({ frames := 0, cells := 0, slots := 0, locals := 0 } : Room) g [.ref (a 0), .long x] (dvW g a (x_mem σ) (x_med σ) (x_cb σ) (x_ca σ) (x_nc σ) (x_cg σ) (x_T σ) (x_op σ) (x_id σ) (x_fg σ) (x_n σ) (x_cp σ) (x_cq σ) (x_cx σ) (x_pg σ) (x_fi σ) (x_F σ) (x_rw σ) (x_on σ) (x_bi σ) (x_tu σ) (x_re σ) (x_dw σ) (x_dq σ) (x_br σ) (x_bs σ)) (fun v w' => v = some (.int (bI (ansB (x_T σ) x 4 = true))) ∧ w' = dvW g a (x_mem σ) (x_med σ) (x_cb σ) (x_ca σ) (x_nc σ) (x_cg σ) (x_T σ) (x_op σ) (x_id σ) (x_fg σ) (x_n σ) (x_cp σ) (x_cq σ) (x_cx σ) (x_pg σ) (x_fi σ) (x_F σ) (x_rw σ) (x_on σ) (x_bi σ) (x_tu σ) (x_re σ) (x_dw σ) (x_dq σ) (x_br σ) (x_bs σ)) := by
  refine Ct.of (by decide) (Nat.le_of_ble_eq_true rfl) ?_
  intro p e s m below meth c A ls H locs hx hb hr hml hlocks hts hown hin hA hS hK hP hD hl
  have hown : s.vm.findClass RX7 = some m.cls := hown
  have hl : lv_has ls 4 [(0, .ref (a 0)), (1, .long x)] := hl
  refine lv_iconst (v := 0) hx hb dX7_isAnsweredTo_0 (by decide) ?_
  refine fr_topi (y := nI 0) nI_0.symm ?_
  refine lv_istore_n (lv' := [(3, .int (nI 0)), (0, .ref (a 0)), (1, .long x)]) hx hb dX7_isAnsweredTo_1 rfl hl (by decide) rfl (fun ls hl => ?_)
  have lp2 : ∀ (n9 : Nat) (i : Nat) , 4 - i < n9 → (i ≤ 4) → (ansB (x_T σ) x i = false) → ∀ (H : Heap) (locs : List Loc) (ls : Array Slot), va_P g.1 vwCl (dvW g a (x_mem σ) (x_med σ) (x_cb σ) (x_ca σ) (x_nc σ) (x_cg σ) (x_T σ) (x_op σ) (x_id σ) (x_fg σ) (x_n σ) (x_cp σ) (x_cq σ) (x_cx σ) (x_pg σ) (x_fi σ) (x_F σ) (x_rw σ) (x_on σ) (x_bi σ) (x_tu σ) (x_re σ) (x_dw σ) (x_dq σ) (x_br σ) (x_bs σ)) H → va_D A (dvW g a (x_mem σ) (x_med σ) (x_cb σ) (x_ca σ) (x_nc σ) (x_cg σ) (x_T σ) (x_op σ) (x_id σ) (x_fg σ) (x_n σ) (x_cp σ) (x_cq σ) (x_cx σ) (x_pg σ) (x_fi σ) (x_F σ) (x_rw σ) (x_on σ) (x_bi σ) (x_tu σ) (x_re σ) (x_dw σ) (x_dq σ) (x_br σ) (x_bs σ)) → va_S A s.heap H locs → lv_has ls 4 [(3, .int (nI i)), (0, .ref (a 0)), (1, .long x)] → W p l e ({ frames := 0, cells := 0, slots := 0, locals := 0 } : Room) s m ([.ref (a 0), .long x].toArray) below meth c H locs 0 0 (MQ below (Qst g (dvW g a (x_mem σ) (x_med σ) (x_cb σ) (x_ca σ) (x_nc σ) (x_cg σ) (x_T σ) (x_op σ) (x_id σ) (x_fg σ) (x_n σ) (x_cp σ) (x_cq σ) (x_cx σ) (x_pg σ) (x_fi σ) (x_F σ) (x_rw σ) (x_on σ) (x_bi σ) (x_tu σ) (x_re σ) (x_dw σ) (x_dq σ) (x_br σ) (x_bs σ)) (fun v w' => v = some (.int (bI (ansB (x_T σ) x 4 = true))) ∧ w' = dvW g a (x_mem σ) (x_med σ) (x_cb σ) (x_ca σ) (x_nc σ) (x_cg σ) (x_T σ) (x_op σ) (x_id σ) (x_fg σ) (x_n σ) (x_cp σ) (x_cq σ) (x_cx σ) (x_pg σ) (x_fi σ) (x_F σ) (x_rw σ) (x_on σ) (x_bi σ) (x_tu σ) (x_re σ) (x_dw σ) (x_dq σ) (x_br σ) (x_bs σ)) A) ([.ref (a 0), .long x].toArray) s 0 0 A) (F0 m 2 ls []) := by
    intro n9
    induction n9 with
    | zero => intro i q9; exact absurd q9 (Nat.not_lt_zero _)
    | succ n9 ih2 =>
      intro i hn9 hi hf H locs ls hP hD hS hl
      refine lv_iload_n hx hb dX7_isAnsweredTo_2 rfl (lv_at hl 0 rfl) ?_
      refine lv_iconst (v := 4) hx hb dX7_isAnsweredTo_3 (by decide) ?_
      refine lv_icmp_ge (tgt := 42) hx hb dX7_isAnsweredTo_4 (by decide) (fun c4 => ?_) (fun c4 => ?_)
      · have c4 := (nI_leI (a := 4) (b := i) (by omega) (by omega)).mp c4
        refine lv_iconst (v := 0) hx hb dX7_isAnsweredTo_42 (by decide) ?_
        exact W.zret (v := 0) hx hb hr (by first | rfl | exact bz_n (by first | assumption | exact bI_z | decide)) (fun t ht _ => ⟨⟨(some (.int 0)), dvW g a (x_mem σ) (x_med σ) (x_cb σ) (x_ca σ) (x_nc σ) (x_cg σ) (x_T σ) (x_op σ) (x_id σ) (x_fg σ) (x_n σ) (x_cp σ) (x_cq σ) (x_cx σ) (x_pg σ) (x_fi σ) (x_F σ) (x_rw σ) (x_on σ) (x_bi σ) (x_tu σ) (x_re σ) (x_dw σ) (x_dq σ) (x_br σ) (x_bs σ), rfl, ⟨congrArg (fun z : Int32 => some (Value.int z)) (bI_0 (by rw [show 4 = i by omega, hf]; decide)), rfl⟩, rfl, by rw [ht]; exact hP⟩, hS.F ht⟩) hS.2.2 dX7_isAnsweredTo_43
      · have c4 := (not_congr (nI_leI (a := 4) (b := i) (by omega) (by omega))).mp c4
        refine lv_aload_n hx hb dX7_isAnsweredTo_7 rfl (lv_at hl 1 rfl) ?_
        refine va_get (D := g.1) (ci := 6) (v := .ref (a 7)) (C := RX7) (T := TX7) (N := 15) hx hb hts inX7 hown hK hP 0 rfl rfl 2 (by decide) (hts _ tw185) (fun _ h9 => h9) rfl dX7_isAnsweredTo_8 ?_
        refine lv_iload_n hx hb dX7_isAnsweredTo_11 rfl (lv_at hl 0 rfl) ?_
        refine fr_aald (k := i) (b := (a (13 + i))) hx hb hK hP 7 3 rfl rfl rfl (by omega) (by decide) (if_pos (by omega)) dX7_isAnsweredTo_12 ?_
        refine va_get (D := g.1) (ci := 5) (v := .int ((x_T σ) 0 i)) (C := RX6) (T := TX6) (N := 6) hx hb hts inX6 hown hK hP (13 + i) (dvS (j := i) (by omega)) rfl 0 (by decide) (hts _ tw70) (u_same (hts _ tw71)) rfl dX7_isAnsweredTo_13 ?_
        refine lv_if_eq (tgt := 36) hx hb dX7_isAnsweredTo_16 (by decide) (fun c16 => ?_) (fun c16 => ?_)
        · refine lv_iinc (v := nI (i + 1)) (lv' := [(3, .int (nI (i + 1))), (0, .ref (a 0)), (1, .long x)]) hx hb dX7_isAnsweredTo_36 hl (k := 0) rfl (nI_1 _) (by decide) rfl (fun ls hl => ?_)
          refine lv_goto (tgt := 2) hx hb dX7_isAnsweredTo_39 (by decide) ?_
          exact ih2 (i + 1) (by omega) (by omega) (ansB_no hf (fun q => q.1 c16)) H locs ls hP hD hS (lv_sub hl [0, 1, 2] rfl)
        · refine lv_aload_n hx hb dX7_isAnsweredTo_19 rfl (lv_at hl 1 rfl) ?_
          refine va_get (D := g.1) (ci := 6) (v := .ref (a 7)) (C := RX7) (T := TX7) (N := 15) hx hb hts inX7 hown hK hP 0 rfl rfl 2 (by decide) (hts _ tw185) (fun _ h9 => h9) rfl dX7_isAnsweredTo_20 ?_
          refine lv_iload_n hx hb dX7_isAnsweredTo_23 rfl (lv_at hl 0 rfl) ?_
          refine fr_aald (k := i) (b := (a (13 + i))) hx hb hK hP 7 3 rfl rfl rfl (by omega) (by decide) (if_pos (by omega)) dX7_isAnsweredTo_24 ?_
          refine va_get (D := g.1) (ci := 5) (v := .int ((x_T σ) 5 i)) (C := RX6) (T := TX6) (N := 6) hx hb hts inX6 hown hK hP (13 + i) (dvS (j := i) (by omega)) rfl 5 (by decide) (hts _ tw68) (fun _ h9 => h9) rfl dX7_isAnsweredTo_25 ?_
          refine lv_i2l hx hb dX7_isAnsweredTo_28 rfl ?_
          refine lv_lload_n hx hb dX7_isAnsweredTo_29 rfl (lv_at hl 2 rfl) ?_
          refine W.lcmp hx hb dX7_isAnsweredTo_30 ?_
          refine lv_if_ne (tgt := 36) hx hb dX7_isAnsweredTo_31 (by decide) (fun c31 => ?_) (fun c31 => ?_)
          · have c31 := (not_congr (lg_cmp_eq (((x_T σ) 5 i).toInt64) x)).mp c31
            refine lv_iinc (v := nI (i + 1)) (lv' := [(3, .int (nI (i + 1))), (0, .ref (a 0)), (1, .long x)]) hx hb dX7_isAnsweredTo_36 hl (k := 0) rfl (nI_1 _) (by decide) rfl (fun ls hl => ?_)
            refine lv_goto (tgt := 2) hx hb dX7_isAnsweredTo_39 (by decide) ?_
            exact ih2 (i + 1) (by omega) (by omega) (ansB_no hf (fun q => c31 q.2)) H locs ls hP hD hS (lv_sub hl [0, 1, 2] rfl)
          · have c31 := (lg_cmp_eq (((x_T σ) 5 i).toInt64) x).mp c31
            refine lv_iconst (v := 1) hx hb dX7_isAnsweredTo_34 (by decide) ?_
            exact W.zret (v := 1) hx hb hr (by first | rfl | exact bz_n (by first | assumption | exact bI_z | decide)) (fun t ht _ => ⟨⟨(some (.int 1)), dvW g a (x_mem σ) (x_med σ) (x_cb σ) (x_ca σ) (x_nc σ) (x_cg σ) (x_T σ) (x_op σ) (x_id σ) (x_fg σ) (x_n σ) (x_cp σ) (x_cq σ) (x_cx σ) (x_pg σ) (x_fi σ) (x_F σ) (x_rw σ) (x_on σ) (x_bi σ) (x_tu σ) (x_re σ) (x_dw σ) (x_dq σ) (x_br σ) (x_bs σ), rfl, ⟨congrArg (fun z : Int32 => some (Value.int z)) (bI_1 (ansB_hit ⟨c16, c31⟩ (by omega))), rfl⟩, rfl, by rw [ht]; exact hP⟩, hS.F ht⟩) hS.2.2 dX7_isAnsweredTo_35
  exact lp2 _ 0 (Nat.lt_succ_self _) (by decide) rfl H locs ls hP hD hS (lv_sub hl [0, 1, 2] rfl)
