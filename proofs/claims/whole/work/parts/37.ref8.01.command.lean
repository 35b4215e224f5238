set_option maxHeartbeats 4000000 in
set_option maxRecDepth 100000 in
/-- command -/
theorem kX8_command (l : Launch) (g : GG) (a : Nat → Nat) (ρ : RS) (j : Nat) (hn : z_nc ρ ≤ 6) (hR : RI (z_R ρ, z_cb ρ) (z_nc ρ)) (hT : TI (z_T ρ)) (hj : j < 4) (hr9 : ¬ z_T ρ 0 j = 0) : Ct l yX8_command cX8_command 8 none ({ frames := 4, cells := 1, slots := 8, locals := 108 } : Room) g [.ref (a 0), .int (nI j)] (rfW g a (z_mem ρ) (z_R ρ) (z_cb ρ) (z_nc ρ) (z_tu ρ) (z_bi ρ) (z_cg ρ) (z_on ρ) (z_T ρ) (z_dn ρ) (z_fa ρ) (z_br ρ) (z_bs ρ) (z_cp ρ) (z_cq ρ) (z_cx ρ) (z_re ρ) (z_n ρ) (z_op ρ) (z_fg ρ) (z_sp ρ) (z_one ρ)) (fun v w' => ∃ (sp1 : Nat → Int32), True ∧ v = none ∧ w' = rfW g a (z_mem (h_cmd ρ j)) (z_R (h_cmd ρ j)) (z_cb (h_cmd ρ j)) (z_nc (h_cmd ρ j)) (z_tu (h_cmd ρ j)) (z_bi (h_cmd ρ j)) (z_cg (h_cmd ρ j)) (z_on (h_cmd ρ j)) (z_T (h_cmd ρ j)) (z_dn (h_cmd ρ j)) (z_fa (h_cmd ρ j)) (z_br (h_cmd ρ j)) (z_bs (h_cmd ρ j)) (z_cp (h_cmd ρ j)) (z_cq (h_cmd ρ j)) (z_cx (h_cmd ρ j)) (z_re (h_cmd ρ j)) (z_n (h_cmd ρ j)) (z_op (h_cmd ρ j)) (z_fg (h_cmd ρ j)) sp1 (z_one (h_cmd ρ j))) := by
  refine Ct.of (by decide) (Nat.le_of_ble_eq_true rfl) ?_
  intro p e s m below meth c A ls H locs hx hb hr hml hlocks hts hown hin hA hS hK hP hD hl
  have hown : s.vm.findClass RX8 = some m.cls := hown
  have hl : lv_has ls 8 [(0, .ref (a 0)), (1, .int (nI j))] := hl
  have hQ := (hT.1 j hj hr9).1
  obtain ⟨ho0, ho1, ho2, ho3⟩ := QI_hol hQ
  have hn1 := cNn_b (mAt (z_mem ρ) (z_T ρ 1 j + z_T ρ 3 j * 4))
  refine lv_aload_n hx hb dX8_command_0 rfl (lv_at hl 0 rfl) ?_
  refine va_get (D := g.1) (ci := 7) (v := .ref (a 7)) (C := RX8) (T := TX8) (N := 30) hx hb hts inX8 hown hK hP 0 rfl rfl 11 (by decide) (hts _ tw614) (fun _ h9 => h9) rfl dX8_command_1 ?_
  refine lv_iload_n hx hb dX8_command_4 rfl (lv_at hl 1 rfl) ?_
  refine fr_iald (k := j) hx hb hK hP 7 1 rfl rfl (by omega) (by decide) dX8_command_5 ?_
  refine lv_iconst (v := 4) hx hb dX8_command_6 (by decide) ?_
  refine lv_aload_n hx hb dX8_command_7 rfl (lv_at hl 0 rfl) ?_
  refine va_get (D := g.1) (ci := 7) (v := .ref (a 9)) (C := RX8) (T := TX8) (N := 30) hx hb hts inX8 hown hK hP 0 rfl rfl 13 (by decide) (hts _ tw616) (fun _ h9 => h9) rfl dX8_command_8 ?_
  refine lv_iload_n hx hb dX8_command_11 rfl (lv_at hl 1 rfl) ?_
  refine fr_iald (k := j) hx hb hK hP 9 1 rfl rfl (by omega) (by decide) dX8_command_12 ?_
  refine lv_imul hx hb dX8_command_13 ?_
  refine lv_iadd hx hb dX8_command_14 ?_
  refine fr_topi (y := z_T ρ 1 j + z_T ρ 3 j * 4) (by rw [Int32.mul_comm]) ?_
  refine lv_istore_n (lv' := [(2, .int (z_T ρ 1 j + z_T ρ 3 j * 4)), (0, .ref (a 0)), (1, .int (nI j))]) hx hb dX8_command_15 rfl hl (by decide) rfl (fun ls hl => ?_)
  refine lv_aload_n hx hb dX8_command_16 rfl (lv_at hl 1 rfl) ?_
  refine va_get (D := g.1) (ci := 7) (v := .ref (a 1)) (C := RX8) (T := TX8) (N := 30) hx hb hts inX8 hown hK hP 0 rfl rfl 0 (by decide) (hts _ tw603) (fun _ h9 => h9) rfl dX8_command_17 ?_
  refine lv_iload_n hx hb dX8_command_20 rfl (lv_at hl 0 rfl) ?_
  refine va_lald hx hb hK hP 1 0 rfl rfl (hol_in ho0) dX8_command_21 ?_
  refine fr_topl (y := mAt (z_mem ρ) (z_T ρ 1 j + z_T ρ 3 j * 4)) (if_pos ho0).symm ?_
  refine lv_lstore_n (lv' := [(3, .long (mAt (z_mem ρ) (z_T ρ 1 j + z_T ρ 3 j * 4))), (2, .int (z_T ρ 1 j + z_T ρ 3 j * 4)), (0, .ref (a 0)), (1, .int (nI j))]) hx hb dX8_command_22 rfl hl (by decide) rfl (fun ls hl => ?_)
  refine lv_aload_n hx hb dX8_command_23 rfl (lv_at hl 2 rfl) ?_
  refine lv_aload_n hx hb dX8_command_24 rfl (lv_at hl 2 rfl) ?_
  refine va_get (D := g.1) (ci := 7) (v := .ref (a 1)) (C := RX8) (T := TX8) (N := 30) hx hb hts inX8 hown hK hP 0 rfl rfl 0 (by decide) (hts _ tw603) (fun _ h9 => h9) rfl dX8_command_25 ?_
  refine lv_iload_n hx hb dX8_command_28 rfl (lv_at hl 1 rfl) ?_
  refine lv_iconst (v := 1) hx hb dX8_command_29 (by decide) ?_
  refine lv_iadd hx hb dX8_command_30 ?_
  refine va_lald hx hb hK hP 1 0 rfl rfl (hol_in ho1) dX8_command_31 ?_
  refine fr_topl (y := mAt (z_mem ρ) (z_T ρ 1 j + z_T ρ 3 j * 4 + 1)) (if_pos ho1).symm ?_
  refine va_put (D := g.1) (ci := 7) (v := .long (mAt (z_mem ρ) (z_T ρ 1 j + z_T ρ 3 j * 4 + 1))) (ty := .long) (C := RX8) (T := TX8) (N := 30) hx hb hts inX8 tyX8 tyX8_ok nmX8 hown hK hP hD hS 0 rfl rfl 21 (by decide) (hts _ tw624) (fun _ h9 => h9) rfl (by decide +kernel) rfl rfl (Nat.le_of_ble_eq_true rfl) dX8_command_32 (fun H locs hP hD hS => ?_)
  have hP : va_P g.1 vwCl (rfW g a (z_mem ρ) (z_R ρ) (z_cb ρ) (z_nc ρ) (z_tu ρ) (z_bi ρ) (z_cg ρ) (z_on ρ) (z_T ρ) (z_dn ρ) (z_fa ρ) (z_br ρ) (z_bs ρ) (mAt (z_mem ρ) (z_T ρ 1 j + z_T ρ 3 j * 4 + 1)) (z_cq ρ) (z_cx ρ) (z_re ρ) (z_n ρ) (z_op ρ) (z_fg ρ) (z_sp ρ) (z_one ρ)) H := hP
  have hD : va_D A (rfW g a (z_mem ρ) (z_R ρ) (z_cb ρ) (z_nc ρ) (z_tu ρ) (z_bi ρ) (z_cg ρ) (z_on ρ) (z_T ρ) (z_dn ρ) (z_fa ρ) (z_br ρ) (z_bs ρ) (mAt (z_mem ρ) (z_T ρ 1 j + z_T ρ 3 j * 4 + 1)) (z_cq ρ) (z_cx ρ) (z_re ρ) (z_n ρ) (z_op ρ) (z_fg ρ) (z_sp ρ) (z_one ρ)) := hD
  refine lv_aload_n hx hb dX8_command_35 rfl (lv_at hl 2 rfl) ?_
  refine lv_aload_n hx hb dX8_command_36 rfl (lv_at hl 2 rfl) ?_
  refine va_get (D := g.1) (ci := 7) (v := .ref (a 1)) (C := RX8) (T := TX8) (N := 30) hx hb hts inX8 hown hK hP 0 rfl rfl 0 (by decide) (hts _ tw603) (fun _ h9 => h9) rfl dX8_command_37 ?_
  refine lv_iload_n hx hb dX8_command_40 rfl (lv_at hl 1 rfl) ?_
  refine lv_iconst (v := 2) hx hb dX8_command_41 (by decide) ?_
  refine lv_iadd hx hb dX8_command_42 ?_
  refine va_lald hx hb hK hP 1 0 rfl rfl (hol_in ho2) dX8_command_43 ?_
  refine fr_topl (y := mAt (z_mem ρ) (z_T ρ 1 j + z_T ρ 3 j * 4 + 2)) (if_pos ho2).symm ?_
  refine va_put (D := g.1) (ci := 7) (v := .long (mAt (z_mem ρ) (z_T ρ 1 j + z_T ρ 3 j * 4 + 2))) (ty := .long) (C := RX8) (T := TX8) (N := 30) hx hb hts inX8 tyX8 tyX8_ok nmX8 hown hK hP hD hS 0 rfl rfl 22 (by decide) (hts _ tw625) (fun _ h9 => h9) rfl (by decide +kernel) rfl rfl (Nat.le_of_ble_eq_true rfl) dX8_command_44 (fun H locs hP hD hS => ?_)
  have hP : va_P g.1 vwCl (rfW g a (z_mem ρ) (z_R ρ) (z_cb ρ) (z_nc ρ) (z_tu ρ) (z_bi ρ) (z_cg ρ) (z_on ρ) (z_T ρ) (z_dn ρ) (z_fa ρ) (z_br ρ) (z_bs ρ) (mAt (z_mem ρ) (z_T ρ 1 j + z_T ρ 3 j * 4 + 1)) (mAt (z_mem ρ) (z_T ρ 1 j + z_T ρ 3 j * 4 + 2)) (z_cx ρ) (z_re ρ) (z_n ρ) (z_op ρ) (z_fg ρ) (z_sp ρ) (z_one ρ)) H := hP
  have hD : va_D A (rfW g a (z_mem ρ) (z_R ρ) (z_cb ρ) (z_nc ρ) (z_tu ρ) (z_bi ρ) (z_cg ρ) (z_on ρ) (z_T ρ) (z_dn ρ) (z_fa ρ) (z_br ρ) (z_bs ρ) (mAt (z_mem ρ) (z_T ρ 1 j + z_T ρ 3 j * 4 + 1)) (mAt (z_mem ρ) (z_T ρ 1 j + z_T ρ 3 j * 4 + 2)) (z_cx ρ) (z_re ρ) (z_n ρ) (z_op ρ) (z_fg ρ) (z_sp ρ) (z_one ρ)) := hD
  refine lv_aload_n hx hb dX8_command_47 rfl (lv_at hl 2 rfl) ?_
  refine lv_aload_n hx hb dX8_command_48 rfl (lv_at hl 2 rfl) ?_
  refine va_get (D := g.1) (ci := 7) (v := .ref (a 1)) (C := RX8) (T := TX8) (N := 30) hx hb hts inX8 hown hK hP 0 rfl rfl 0 (by decide) (hts _ tw603) (fun _ h9 => h9) rfl dX8_command_49 ?_
  refine lv_iload_n hx hb dX8_command_52 rfl (lv_at hl 1 rfl) ?_
  refine lv_iconst (v := 3) hx hb dX8_command_53 (by decide) ?_
  refine lv_iadd hx hb dX8_command_54 ?_
  refine va_lald hx hb hK hP 1 0 rfl rfl (hol_in ho3) dX8_command_55 ?_
  refine fr_topl (y := mAt (z_mem ρ) (z_T ρ 1 j + z_T ρ 3 j * 4 + 3)) (if_pos ho3).symm ?_
  refine va_put (D := g.1) (ci := 7) (v := .long (mAt (z_mem ρ) (z_T ρ 1 j + z_T ρ 3 j * 4 + 3))) (ty := .long) (C := RX8) (T := TX8) (N := 30) hx hb hts inX8 tyX8 tyX8_ok nmX8 hown hK hP hD hS 0 rfl rfl 23 (by decide) (hts _ tw626) (fun _ h9 => h9) rfl (by decide +kernel) rfl rfl (Nat.le_of_ble_eq_true rfl) dX8_command_56 (fun H locs hP hD hS => ?_)
  have hP : va_P g.1 vwCl (rfW g a (z_mem ρ) (z_R ρ) (z_cb ρ) (z_nc ρ) (z_tu ρ) (z_bi ρ) (z_cg ρ) (z_on ρ) (z_T ρ) (z_dn ρ) (z_fa ρ) (z_br ρ) (z_bs ρ) (mAt (z_mem ρ) (z_T ρ 1 j + z_T ρ 3 j * 4 + 1)) (mAt (z_mem ρ) (z_T ρ 1 j + z_T ρ 3 j * 4 + 2)) (mAt (z_mem ρ) (z_T ρ 1 j + z_T ρ 3 j * 4 + 3)) (z_re ρ) (z_n ρ) (z_op ρ) (z_fg ρ) (z_sp ρ) (z_one ρ)) H := hP
  have hD : va_D A (rfW g a (z_mem ρ) (z_R ρ) (z_cb ρ) (z_nc ρ) (z_tu ρ) (z_bi ρ) (z_cg ρ) (z_on ρ) (z_T ρ) (z_dn ρ) (z_fa ρ) (z_br ρ) (z_bs ρ) (mAt (z_mem ρ) (z_T ρ 1 j + z_T ρ 3 j * 4 + 1)) (mAt (z_mem ρ) (z_T ρ 1 j + z_T ρ 3 j * 4 + 2)) (mAt (z_mem ρ) (z_T ρ 1 j + z_T ρ 3 j * 4 + 3)) (z_re ρ) (z_n ρ) (z_op ρ) (z_fg ρ) (z_sp ρ) (z_one ρ)) := hD
  refine lv_aload_n hx hb dX8_command_59 rfl (lv_at hl 2 rfl) ?_
  refine lv_lload_n hx hb dX8_command_60 rfl (lv_at hl 0 rfl) ?_
  refine lv_ldc2 hx hb hown (hts _ tw764) dX8_command_61 ?_
  refine lv_land hx hb dX8_command_64 ?_
  refine lv_l2i hx hb dX8_command_65 rfl ?_
  refine fr_topi (y := cOp (mAt (z_mem ρ) (z_T ρ 1 j + z_T ρ 3 j * 4))) rfl ?_
  refine va_put (D := g.1) (ci := 7) (v := .int (cOp (mAt (z_mem ρ) (z_T ρ 1 j + z_T ρ 3 j * 4)))) (ty := .int) (C := RX8) (T := TX8) (N := 30) hx hb hts inX8 tyX8 tyX8_ok nmX8 hown hK hP hD hS 0 rfl rfl 26 (by decide) (hts _ tw629) (fun _ h9 => h9) rfl (by decide +kernel) rfl rfl (Nat.le_of_ble_eq_true rfl) dX8_command_66 (fun H locs hP hD hS => ?_)
  have hP : va_P g.1 vwCl (rfW g a (z_mem ρ) (z_R ρ) (z_cb ρ) (z_nc ρ) (z_tu ρ) (z_bi ρ) (z_cg ρ) (z_on ρ) (z_T ρ) (z_dn ρ) (z_fa ρ) (z_br ρ) (z_bs ρ) (mAt (z_mem ρ) (z_T ρ 1 j + z_T ρ 3 j * 4 + 1)) (mAt (z_mem ρ) (z_T ρ 1 j + z_T ρ 3 j * 4 + 2)) (mAt (z_mem ρ) (z_T ρ 1 j + z_T ρ 3 j * 4 + 3)) (z_re ρ) (z_n ρ) (cOp (mAt (z_mem ρ) (z_T ρ 1 j + z_T ρ 3 j * 4))) (z_fg ρ) (z_sp ρ) (z_one ρ)) H := hP
  have hD : va_D A (rfW g a (z_mem ρ) (z_R ρ) (z_cb ρ) (z_nc ρ) (z_tu ρ) (z_bi ρ) (z_cg ρ) (z_on ρ) (z_T ρ) (z_dn ρ) (z_fa ρ) (z_br ρ) (z_bs ρ) (mAt (z_mem ρ) (z_T ρ 1 j + z_T ρ 3 j * 4 + 1)) (mAt (z_mem ρ) (z_T ρ 1 j + z_T ρ 3 j * 4 + 2)) (mAt (z_mem ρ) (z_T ρ 1 j + z_T ρ 3 j * 4 + 3)) (z_re ρ) (z_n ρ) (cOp (mAt (z_mem ρ) (z_T ρ 1 j + z_T ρ 3 j * 4))) (z_fg ρ) (z_sp ρ) (z_one ρ)) := hD
  have jn86 : ∀ (H : Heap) (locs : List Loc) (ls : Array Slot), va_P g.1 vwCl (rfW g a (z_mem ρ) (z_R ρ) (z_cb ρ) (z_nc ρ) (z_tu ρ) (z_bi ρ) (z_cg ρ) (z_on ρ) (z_T ρ) (z_dn ρ) (z_fa ρ) (z_br ρ) (z_bs ρ) (mAt (z_mem ρ) (z_T ρ 1 j + z_T ρ 3 j * 4 + 1)) (mAt (z_mem ρ) (z_T ρ 1 j + z_T ρ 3 j * 4 + 2)) (mAt (z_mem ρ) (z_T ρ 1 j + z_T ρ 3 j * 4 + 3)) (z_re ρ) (z_n ρ) (cOp (mAt (z_mem ρ) (z_T ρ 1 j + z_T ρ 3 j * 4))) (z_fg ρ) (z_sp ρ) (z_one ρ)) H → va_D A (rfW g a (z_mem ρ) (z_R ρ) (z_cb ρ) (z_nc ρ) (z_tu ρ) (z_bi ρ) (z_cg ρ) (z_on ρ) (z_T ρ) (z_dn ρ) (z_fa ρ) (z_br ρ) (z_bs ρ) (mAt (z_mem ρ) (z_T ρ 1 j + z_T ρ 3 j * 4 + 1)) (mAt (z_mem ρ) (z_T ρ 1 j + z_T ρ 3 j * 4 + 2)) (mAt (z_mem ρ) (z_T ρ 1 j + z_T ρ 3 j * 4 + 3)) (z_re ρ) (z_n ρ) (cOp (mAt (z_mem ρ) (z_T ρ 1 j + z_T ρ 3 j * 4))) (z_fg ρ) (z_sp ρ) (z_one ρ)) → va_S A s.heap H locs → lv_has ls 8 [(3, .long (mAt (z_mem ρ) (z_T ρ 1 j + z_T ρ 3 j * 4))), (2, .int (z_T ρ 1 j + z_T ρ 3 j * 4)), (0, .ref (a 0)), (1, .int (nI j))] → W p l e ({ frames := 4, cells := 1, slots := 8, locals := 108 } : Room) s m ([.ref (a 0), .int (nI j)].toArray) below meth c H locs 0 0 (MQ below (Qst g (rfW g a (z_mem ρ) (z_R ρ) (z_cb ρ) (z_nc ρ) (z_tu ρ) (z_bi ρ) (z_cg ρ) (z_on ρ) (z_T ρ) (z_dn ρ) (z_fa ρ) (z_br ρ) (z_bs ρ) (z_cp ρ) (z_cq ρ) (z_cx ρ) (z_re ρ) (z_n ρ) (z_op ρ) (z_fg ρ) (z_sp ρ) (z_one ρ)) (fun v w' => ∃ (sp1 : Nat → Int32), True ∧ v = none ∧ w' = rfW g a (z_mem (h_cmd ρ j)) (z_R (h_cmd ρ j)) (z_cb (h_cmd ρ j)) (z_nc (h_cmd ρ j)) (z_tu (h_cmd ρ j)) (z_bi (h_cmd ρ j)) (z_cg (h_cmd ρ j)) (z_on (h_cmd ρ j)) (z_T (h_cmd ρ j)) (z_dn (h_cmd ρ j)) (z_fa (h_cmd ρ j)) (z_br (h_cmd ρ j)) (z_bs (h_cmd ρ j)) (z_cp (h_cmd ρ j)) (z_cq (h_cmd ρ j)) (z_cx (h_cmd ρ j)) (z_re (h_cmd ρ j)) (z_n (h_cmd ρ j)) (z_op (h_cmd ρ j)) (z_fg (h_cmd ρ j)) sp1 (z_one (h_cmd ρ j))) A) ([.ref (a 0), .int (nI j)].toArray) s 1 8 A) (F0 m 86 ls [.int (bI (cFg (mAt (z_mem ρ) (z_T ρ 1 j + z_T ρ 3 j * 4)))), .ref (a 0)]) := by
    intro H locs ls hP hD hS hl
    refine va_put (D := g.1) (ci := 7) (v := .int (bI (cFg (mAt (z_mem ρ) (z_T ρ 1 j + z_T ρ 3 j * 4))))) (ty := .boolean) (C := RX8) (T := TX8) (N := 30) hx hb hts inX8 tyX8 tyX8_ok nmX8 hown hK hP hD hS 0 rfl rfl 27 (by decide) (hts _ tw630) (fun _ h9 => h9) rfl (by decide +kernel) (bz_n (by first | assumption | exact bI_z)) (bz_f (by first | assumption | exact bI_z)) (Nat.le_of_ble_eq_true rfl) dX8_command_86 (fun H locs hP hD hS => ?_)
    have hP : va_P g.1 vwCl (rfW g a (z_mem ρ) (z_R ρ) (z_cb ρ) (z_nc ρ) (z_tu ρ) (z_bi ρ) (z_cg ρ) (z_on ρ) (z_T ρ) (z_dn ρ) (z_fa ρ) (z_br ρ) (z_bs ρ) (mAt (z_mem ρ) (z_T ρ 1 j + z_T ρ 3 j * 4 + 1)) (mAt (z_mem ρ) (z_T ρ 1 j + z_T ρ 3 j * 4 + 2)) (mAt (z_mem ρ) (z_T ρ 1 j + z_T ρ 3 j * 4 + 3)) (z_re ρ) (z_n ρ) (cOp (mAt (z_mem ρ) (z_T ρ 1 j + z_T ρ 3 j * 4))) (bI (cFg (mAt (z_mem ρ) (z_T ρ 1 j + z_T ρ 3 j * 4)))) (z_sp ρ) (z_one ρ)) H := hP
    have hD : va_D A (rfW g a (z_mem ρ) (z_R ρ) (z_cb ρ) (z_nc ρ) (z_tu ρ) (z_bi ρ) (z_cg ρ) (z_on ρ) (z_T ρ) (z_dn ρ) (z_fa ρ) (z_br ρ) (z_bs ρ) (mAt (z_mem ρ) (z_T ρ 1 j + z_T ρ 3 j * 4 + 1)) (mAt (z_mem ρ) (z_T ρ 1 j + z_T ρ 3 j * 4 + 2)) (mAt (z_mem ρ) (z_T ρ 1 j + z_T ρ 3 j * 4 + 3)) (z_re ρ) (z_n ρ) (cOp (mAt (z_mem ρ) (z_T ρ 1 j + z_T ρ 3 j * 4))) (bI (cFg (mAt (z_mem ρ) (z_T ρ 1 j + z_T ρ 3 j * 4)))) (z_sp ρ) (z_one ρ)) := hD
    refine lv_aload_n hx hb dX8_command_89 rfl (lv_at hl 2 rfl) ?_
    refine lv_lload_n hx hb dX8_command_90 rfl (lv_at hl 0 rfl) ?_
    refine lv_bipush (v := 32) hx hb dX8_command_91 (by decide) ?_
    refine lv_lshr hx hb dX8_command_93 rfl ?_
    refine lv_ldc2 hx hb hown (hts _ tw764) dX8_command_94 ?_
    refine lv_land hx hb dX8_command_97 ?_
    refine lv_l2i hx hb dX8_command_98 rfl ?_
    refine lv_iconst (v := 1) hx hb dX8_command_99 (by decide) ?_
    refine lv_iadd hx hb dX8_command_100 ?_
    refine fr_topi (y := nI (cNn (mAt (z_mem ρ) (z_T ρ 1 j + z_T ρ 3 j * 4)))) (sh32 _) ?_
    refine va_put (D := g.1) (ci := 7) (v := .int (nI (cNn (mAt (z_mem ρ) (z_T ρ 1 j + z_T ρ 3 j * 4))))) (ty := .int) (C := RX8) (T := TX8) (N := 30) hx hb hts inX8 tyX8 tyX8_ok nmX8 hown hK hP hD hS 0 rfl rfl 25 (by decide) (hts _ tw628) (fun _ h9 => h9) rfl (by decide +kernel) rfl rfl (Nat.le_of_ble_eq_true rfl) dX8_command_101 (fun H locs hP hD hS => ?_)
    have hP : va_P g.1 vwCl (rfW g a (z_mem ρ) (z_R ρ) (z_cb ρ) (z_nc ρ) (z_tu ρ) (z_bi ρ) (z_cg ρ) (z_on ρ) (z_T ρ) (z_dn ρ) (z_fa ρ) (z_br ρ) (z_bs ρ) (mAt (z_mem ρ) (z_T ρ 1 j + z_T ρ 3 j * 4 + 1)) (mAt (z_mem ρ) (z_T ρ 1 j + z_T ρ 3 j * 4 + 2)) (mAt (z_mem ρ) (z_T ρ 1 j + z_T ρ 3 j * 4 + 3)) (z_re ρ) (cNn (mAt (z_mem ρ) (z_T ρ 1 j + z_T ρ 3 j * 4))) (cOp (mAt (z_mem ρ) (z_T ρ 1 j + z_T ρ 3 j * 4))) (bI (cFg (mAt (z_mem ρ) (z_T ρ 1 j + z_T ρ 3 j * 4)))) (z_sp ρ) (z_one ρ)) H := hP
    have hD : va_D A (rfW g a (z_mem ρ) (z_R ρ) (z_cb ρ) (z_nc ρ) (z_tu ρ) (z_bi ρ) (z_cg ρ) (z_on ρ) (z_T ρ) (z_dn ρ) (z_fa ρ) (z_br ρ) (z_bs ρ) (mAt (z_mem ρ) (z_T ρ 1 j + z_T ρ 3 j * 4 + 1)) (mAt (z_mem ρ) (z_T ρ 1 j + z_T ρ 3 j * 4 + 2)) (mAt (z_mem ρ) (z_T ρ 1 j + z_T ρ 3 j * 4 + 3)) (z_re ρ) (cNn (mAt (z_mem ρ) (z_T ρ 1 j + z_T ρ 3 j * 4))) (cOp (mAt (z_mem ρ) (z_T ρ 1 j + z_T ρ 3 j * 4))) (bI (cFg (mAt (z_mem ρ) (z_T ρ 1 j + z_T ρ 3 j * 4)))) (z_sp ρ) (z_one ρ)) := hD
    refine lv_aload_n hx hb dX8_command_104 rfl (lv_at hl 2 rfl) ?_
    refine lv_lconst (v := 0) hx hb dX8_command_105 (by decide) ?_
    refine va_put (D := g.1) (ci := 7) (v := .long 0) (ty := .long) (C := RX8) (T := TX8) (N := 30) hx hb hts inX8 tyX8 tyX8_ok nmX8 hown hK hP hD hS 0 rfl rfl 24 (by decide) (hts _ tw627) (fun _ h9 => h9) rfl (by decide +kernel) rfl rfl (Nat.le_of_ble_eq_true rfl) dX8_command_106 (fun H locs hP hD hS => ?_)
    have hP : va_P g.1 vwCl (rfW g a (z_mem ρ) (z_R ρ) (z_cb ρ) (z_nc ρ) (z_tu ρ) (z_bi ρ) (z_cg ρ) (z_on ρ) (z_T ρ) (z_dn ρ) (z_fa ρ) (z_br ρ) (z_bs ρ) (mAt (z_mem ρ) (z_T ρ 1 j + z_T ρ 3 j * 4 + 1)) (mAt (z_mem ρ) (z_T ρ 1 j + z_T ρ 3 j * 4 + 2)) (mAt (z_mem ρ) (z_T ρ 1 j + z_T ρ 3 j * 4 + 3)) 0 (cNn (mAt (z_mem ρ) (z_T ρ 1 j + z_T ρ 3 j * 4))) (cOp (mAt (z_mem ρ) (z_T ρ 1 j + z_T ρ 3 j * 4))) (bI (cFg (mAt (z_mem ρ) (z_T ρ 1 j + z_T ρ 3 j * 4)))) (z_sp ρ) (z_one ρ)) H := hP
    have hD : va_D A (rfW g a (z_mem ρ) (z_R ρ) (z_cb ρ) (z_nc ρ) (z_tu ρ) (z_bi ρ) (z_cg ρ) (z_on ρ) (z_T ρ) (z_dn ρ) (z_fa ρ) (z_br ρ) (z_bs ρ) (mAt (z_mem ρ) (z_T ρ 1 j + z_T ρ 3 j * 4 + 1)) (mAt (z_mem ρ) (z_T ρ 1 j + z_T ρ 3 j * 4 + 2)) (mAt (z_mem ρ) (z_T ρ 1 j + z_T ρ 3 j * 4 + 3)) 0 (cNn (mAt (z_mem ρ) (z_T ρ 1 j + z_T ρ 3 j * 4))) (cOp (mAt (z_mem ρ) (z_T ρ 1 j + z_T ρ 3 j * 4))) (bI (cFg (mAt (z_mem ρ) (z_T ρ 1 j + z_T ρ 3 j * 4)))) (z_sp ρ) (z_one ρ)) := hD
    refine lv_aload_n hx hb dX8_command_109 rfl (lv_at hl 2 rfl) ?_
    refine va_get (D := g.1) (ci := 7) (v := .ref (a 9)) (C := RX8) (T := TX8) (N := 30) hx hb hts inX8 hown hK hP 0 rfl rfl 13 (by decide) (hts _ tw616) (fun _ h9 => h9) rfl dX8_command_110 ?_
    refine lv_iload_n hx hb dX8_command_113 rfl (lv_at hl 3 rfl) ?_
    refine lv_aload_n hx hb dX8_command_114 rfl (lv_at hl 2 rfl) ?_
    refine va_get (D := g.1) (ci := 7) (v := .ref (a 9)) (C := RX8) (T := TX8) (N := 30) hx hb hts inX8 hown hK hP 0 rfl rfl 13 (by decide) (hts _ tw616) (fun _ h9 => h9) rfl dX8_command_115 ?_
    refine lv_iload_n hx hb dX8_command_118 rfl (lv_at hl 3 rfl) ?_
    refine fr_iald (k := j) hx hb hK hP 9 1 rfl rfl (by omega) (by decide) dX8_command_119 ?_
    refine lv_iconst (v := 1) hx hb dX8_command_120 (by decide) ?_
    refine lv_iadd hx hb dX8_command_121 ?_
    refine lv_aload_n hx hb dX8_command_122 rfl (lv_at hl 2 rfl) ?_
    refine va_get (D := g.1) (ci := 7) (v := .ref (a 8)) (C := RX8) (T := TX8) (N := 30) hx hb hts inX8 hown hK hP 0 rfl rfl 12 (by decide) (hts _ tw615) (fun _ h9 => h9) rfl dX8_command_123 ?_
    refine lv_iload_n hx hb dX8_command_126 rfl (lv_at hl 3 rfl) ?_
    refine fr_iald (k := j) hx hb hK hP 8 1 rfl rfl (by omega) (by decide) dX8_command_127 ?_
    refine lv_irem hx hb dX8_command_128 (QI_nz hQ) ?_
    refine fr_topi (y := bhd (z_T ρ 2 j) (z_T ρ 3 j)) (QI_bhd3 hQ) ?_
    refine fr_iast (k := j) hx hb hK hP hD hS 9 1 rfl rfl (by omega) (by decide) dX8_command_129 (fun H locs hP hD hS => ?_)
    have hP : va_P g.1 vwCl (rfW g a (z_mem ρ) (z_R ρ) (z_cb ρ) (z_nc ρ) (z_tu ρ) (z_bi ρ) (z_cg ρ) (z_on ρ) (up2 (z_T ρ) 3 j (bhd (z_T ρ 2 j) (z_T ρ 3 j))) (z_dn ρ) (z_fa ρ) (z_br ρ) (z_bs ρ) (mAt (z_mem ρ) (z_T ρ 1 j + z_T ρ 3 j * 4 + 1)) (mAt (z_mem ρ) (z_T ρ 1 j + z_T ρ 3 j * 4 + 2)) (mAt (z_mem ρ) (z_T ρ 1 j + z_T ρ 3 j * 4 + 3)) 0 (cNn (mAt (z_mem ρ) (z_T ρ 1 j + z_T ρ 3 j * 4))) (cOp (mAt (z_mem ρ) (z_T ρ 1 j + z_T ρ 3 j * 4))) (bI (cFg (mAt (z_mem ρ) (z_T ρ 1 j + z_T ρ 3 j * 4)))) (z_sp ρ) (z_one ρ)) H := fr_eqP rfT_3 hP
    have hD : va_D A (rfW g a (z_mem ρ) (z_R ρ) (z_cb ρ) (z_nc ρ) (z_tu ρ) (z_bi ρ) (z_cg ρ) (z_on ρ) (up2 (z_T ρ) 3 j (bhd (z_T ρ 2 j) (z_T ρ 3 j))) (z_dn ρ) (z_fa ρ) (z_br ρ) (z_bs ρ) (mAt (z_mem ρ) (z_T ρ 1 j + z_T ρ 3 j * 4 + 1)) (mAt (z_mem ρ) (z_T ρ 1 j + z_T ρ 3 j * 4 + 2)) (mAt (z_mem ρ) (z_T ρ 1 j + z_T ρ 3 j * 4 + 3)) 0 (cNn (mAt (z_mem ρ) (z_T ρ 1 j + z_T ρ 3 j * 4))) (cOp (mAt (z_mem ρ) (z_T ρ 1 j + z_T ρ 3 j * 4))) (bI (cFg (mAt (z_mem ρ) (z_T ρ 1 j + z_T ρ 3 j * 4)))) (z_sp ρ) (z_one ρ)) := fr_eqD rfT_3 hD
    refine lv_iload_n hx hb dX8_command_130 rfl (lv_at hl 3 rfl) ?_
    refine lv_if_ne (tgt := 141) hx hb dX8_command_131 (by decide) (fun c131 => ?_) (fun c131 => ?_)
    · have c131 := (not_congr (nI_eq (a := j) (b := 0) (by omega) (by omega))).mp c131
      refine lv_aload_n hx hb dX8_command_141 rfl (lv_at hl 2 rfl) ?_
      refine fr_goA (va_runV (As := []) (rest := []) ⟨hx, hb, hml, hown, hts⟩ (kX8_blocks l g a (w_fg (w_op (w_n (w_re (w_cx (w_cq (w_cp (w_T ρ (up2 (z_T ρ) 3 j (bhd (z_T ρ 2 j) (z_T ρ 3 j)))) (mAt (z_mem ρ) (z_T ρ 1 j + z_T ρ 3 j * 4 + 1))) (mAt (z_mem ρ) (z_T ρ 1 j + z_T ρ 3 j * 4 + 2))) (mAt (z_mem ρ) (z_T ρ 1 j + z_T ρ 3 j * 4 + 3))) 0) (cNn (mAt (z_mem ρ) (z_T ρ 1 j + z_T ρ 3 j * 4)))) (cOp (mAt (z_mem ρ) (z_T ρ 1 j + z_T ρ 3 j * 4)))) (bI (cFg (mAt (z_mem ρ) (z_T ρ 1 j + z_T ρ 3 j * 4))))) hn hR hn1.1 hn1.2 H.size) (cwV 0 hts (gdV tw777 tw779 tp36 tw9 tw780) rfl rfl rfl (by decide +kernel) ⟨Nat.le_of_ble_eq_true rfl, Nat.le_of_ble_eq_true rfl⟩) ⟨Pst.blind, va_recv hK hP (ci := 7) (q0 := 0) rfl rfl, fr_preA hK hP hD⟩ rfl rfl hl.1 rfl (lv_room (Nat.le_of_ble_eq_true rfl)) dX8_command_142 ⟨Nat.le_of_ble_eq_true rfl, Nat.le_of_ble_eq_true rfl⟩) hD hS hA (fun v w9 H locs hq hP hD hS => ?_)
      obtain ⟨sp1_142, hsp_142, rfl, rfl⟩ := hq
      obtain ⟨s1, hs1⟩ : ∃ z9 : RS, z9 = h_blk (w_fg (w_op (w_n (w_re (w_cx (w_cq (w_cp (w_T ρ (up2 (z_T ρ) 3 j (bhd (z_T ρ 2 j) (z_T ρ 3 j)))) (mAt (z_mem ρ) (z_T ρ 1 j + z_T ρ 3 j * 4 + 1))) (mAt (z_mem ρ) (z_T ρ 1 j + z_T ρ 3 j * 4 + 2))) (mAt (z_mem ρ) (z_T ρ 1 j + z_T ρ 3 j * 4 + 3))) 0) (cNn (mAt (z_mem ρ) (z_T ρ 1 j + z_T ρ 3 j * 4)))) (cOp (mAt (z_mem ρ) (z_T ρ 1 j + z_T ρ 3 j * 4)))) (bI (cFg (mAt (z_mem ρ) (z_T ρ 1 j + z_T ρ 3 j * 4))))) := ⟨_, rfl⟩
      rw [← hs1] at hP hD
      have hP : va_P g.1 vwCl (rfW g a (z_mem s1) (z_R s1) (z_cb s1) (z_nc s1) (z_tu s1) (z_bi s1) (z_cg s1) (z_on s1) (z_T s1) (z_dn s1) (z_fa s1) (z_br s1) (z_bs s1) (z_cp s1) (z_cq s1) (z_cx s1) (z_re s1) (z_n s1) (z_op s1) (z_fg s1) sp1_142 (z_one s1)) H := hP
      have hD : va_D A (rfW g a (z_mem s1) (z_R s1) (z_cb s1) (z_nc s1) (z_tu s1) (z_bi s1) (z_cg s1) (z_on s1) (z_T s1) (z_dn s1) (z_fa s1) (z_br s1) (z_bs s1) (z_cp s1) (z_cq s1) (z_cx s1) (z_re s1) (z_n s1) (z_op s1) (z_fg s1) sp1_142 (z_one s1)) := hD
      show W p l e _ s m _ below meth c H locs _ _ _ (F0 m (142 + 3) ls (.int (q_blk (w_fg (w_op (w_n (w_re (w_cx (w_cq (w_cp (w_T ρ (up2 (z_T ρ) 3 j (bhd (z_T ρ 2 j) (z_T ρ 3 j)))) (mAt (z_mem ρ) (z_T ρ 1 j + z_T ρ 3 j * 4 + 1))) (mAt (z_mem ρ) (z_T ρ 1 j + z_T ρ 3 j * 4 + 2))) (mAt (z_mem ρ) (z_T ρ 1 j + z_T ρ 3 j * 4 + 3))) 0) (cNn (mAt (z_mem ρ) (z_T ρ 1 j + z_T ρ 3 j * 4)))) (cOp (mAt (z_mem ρ) (z_T ρ 1 j + z_T ρ 3 j * 4)))) (bI (cFg (mAt (z_mem ρ) (z_T ρ 1 j + z_T ρ 3 j * 4)))))) :: []))
      refine fr_topi (y := q_op ρ j) (if_neg c131).symm ?_
      have hs2 : s1 = h_op ρ j := by rw [hs1]; exact (if_neg c131).symm
      obtain ⟨hT2, h02⟩ : TI (z_T s1) ∧ ¬ z_T s1 0 j = 0 := by rw [hs2]; exact hop_TI hT hr9
      obtain ⟨hQ2, k, hk, e5, h5⟩ := hT2.1 j hj h02
      obtain ⟨hQk, h6⟩ := hT2.2.1 k hk h5
      have hd2 := QI_hol4 hQk
      have e6 : (z_T s1 5 j).toNatClampNeg = k := by rw [e5]; exact nI_clamp (by omega)
      refine lv_istore (lv' := [(5, .int (q_op ρ j)), (3, .long (mAt (z_mem ρ) (z_T ρ 1 j + z_T ρ 3 j * 4))), (2, .int (z_T ρ 1 j + z_T ρ 3 j * 4)), (0, .ref (a 0)), (1, .int (nI j))]) hx hb dX8_command_145 hl (by decide) rfl (fun ls hl => ?_)
      refine lv_aload_n hx hb dX8_command_147 rfl (lv_at hl 3 rfl) ?_
      refine va_get (D := g.1) (ci := 7) (v := .ref (a 11)) (C := RX8) (T := TX8) (N := 30) hx hb hts inX8 hown hK hP 0 rfl rfl 15 (by decide) (hts _ tw618) (fun _ h9 => h9) rfl dX8_command_148 ?_
      refine lv_iload_n hx hb dX8_command_151 rfl (lv_at hl 4 rfl) ?_
      refine fr_iald (k := j) hx hb hK hP 11 1 rfl rfl (by omega) (by decide) dX8_command_152 ?_
      refine fr_topi (y := nI k) e5 ?_
      refine lv_istore (lv' := [(6, .int (nI k)), (5, .int (q_op ρ j)), (3, .long (mAt (z_mem ρ) (z_T ρ 1 j + z_T ρ 3 j * 4))), (2, .int (z_T ρ 1 j + z_T ρ 3 j * 4)), (0, .ref (a 0)), (1, .int (nI j))]) hx hb dX8_command_153 hl (by decide) rfl (fun ls hl => ?_)
      refine lv_iconst (v := 4) hx hb dX8_command_155 (by decide) ?_
      refine lv_iload hx hb dX8_command_156 (lv_at hl 0 rfl) ?_
      refine lv_iadd hx hb dX8_command_158 ?_
      refine fr_topi (y := nI (4 + k)) (nI_add 4 k) ?_
      refine lv_istore (lv' := [(7, .int (nI (4 + k))), (6, .int (nI k)), (5, .int (q_op ρ j)), (3, .long (mAt (z_mem ρ) (z_T ρ 1 j + z_T ρ 3 j * 4))), (2, .int (z_T ρ 1 j + z_T ρ 3 j * 4)), (0, .ref (a 0)), (1, .int (nI j))]) hx hb dX8_command_159 hl (by decide) rfl (fun ls hl => ?_)
      refine lv_iload hx hb dX8_command_161 (lv_at hl 2 rfl) ?_
      refine lv_if_ne (tgt := 179) hx hb dX8_command_163 (by decide) (fun c163 => ?_) (fun c163 => ?_)
      · refine lv_aload_n hx hb dX8_command_179 rfl (lv_at hl 5 rfl) ?_
        refine lv_dup hx hb dX8_command_180 rfl ?_
        refine va_get (D := g.1) (ci := 7) (v := .long (lN (z_fa s1))) (C := RX8) (T := TX8) (N := 30) hx hb hts inX8 hown hK hP 0 rfl rfl 18 (by decide) (hts _ tw621) (fun _ h9 => h9) rfl dX8_command_181 ?_
        refine lv_lconst (v := 1) hx hb dX8_command_184 (by decide) ?_
        refine lv_ladd hx hb dX8_command_185 ?_
        refine fr_topl (y := lN (z_fa s1 + 1)) (lN_1 _) ?_
        refine va_put (D := g.1) (ci := 7) (v := .long (lN (z_fa s1 + 1))) (ty := .long) (C := RX8) (T := TX8) (N := 30) hx hb hts inX8 tyX8 tyX8_ok nmX8 hown hK hP hD hS 0 rfl rfl 18 (by decide) (hts _ tw621) (fun _ h9 => h9) rfl (by decide +kernel) rfl rfl (Nat.le_of_ble_eq_true rfl) dX8_command_186 (fun H locs hP hD hS => ?_)
        have hP : va_P g.1 vwCl (rfW g a (z_mem s1) (z_R s1) (z_cb s1) (z_nc s1) (z_tu s1) (z_bi s1) (z_cg s1) (z_on s1) (z_T s1) (z_dn s1) (z_fa s1 + 1) (z_br s1) (z_bs s1) (z_cp s1) (z_cq s1) (z_cx s1) (z_re s1) (z_n s1) (z_op s1) (z_fg s1) sp1_142 (z_one s1)) H := hP
        have hD : va_D A (rfW g a (z_mem s1) (z_R s1) (z_cb s1) (z_nc s1) (z_tu s1) (z_bi s1) (z_cg s1) (z_on s1) (z_T s1) (z_dn s1) (z_fa s1 + 1) (z_br s1) (z_bs s1) (z_cp s1) (z_cq s1) (z_cx s1) (z_re s1) (z_n s1) (z_op s1) (z_fg s1) sp1_142 (z_one s1)) := hD
        refine lv_aload_n hx hb dX8_command_189 rfl (lv_at hl 5 rfl) ?_
        refine va_get (D := g.1) (ci := 7) (v := .ref (a 1)) (C := RX8) (T := TX8) (N := 30) hx hb hts inX8 hown hK hP 0 rfl rfl 0 (by decide) (hts _ tw603) (fun _ h9 => h9) rfl dX8_command_190 ?_
        refine lv_aload_n hx hb dX8_command_193 rfl (lv_at hl 5 rfl) ?_
        refine va_get (D := g.1) (ci := 7) (v := .ref (a 7)) (C := RX8) (T := TX8) (N := 30) hx hb hts inX8 hown hK hP 0 rfl rfl 11 (by decide) (hts _ tw614) (fun _ h9 => h9) rfl dX8_command_194 ?_
        refine lv_iload hx hb dX8_command_197 (lv_at hl 0 rfl) ?_
        refine fr_iald (k := (4 + k)) hx hb hK hP 7 1 rfl rfl (by omega) (by decide) dX8_command_199 ?_
        refine lv_aload_n hx hb dX8_command_200 rfl (lv_at hl 5 rfl) ?_
        refine va_get (D := g.1) (ci := 7) (v := .ref (a 10)) (C := RX8) (T := TX8) (N := 30) hx hb hts inX8 hown hK hP 0 rfl rfl 14 (by decide) (hts _ tw617) (fun _ h9 => h9) rfl dX8_command_201 ?_
        refine lv_iload hx hb dX8_command_204 (lv_at hl 0 rfl) ?_
        refine fr_iald (k := (4 + k)) hx hb hK hP 10 1 rfl rfl (by omega) (by decide) dX8_command_206 ?_
        refine lv_iadd hx hb dX8_command_207 ?_
        refine lv_lload_n hx hb dX8_command_208 rfl (lv_at hl 3 rfl) ?_
        refine lv_bipush (v := 8) hx hb dX8_command_209 (by decide) ?_
        refine lv_lshr hx hb dX8_command_211 rfl ?_
        refine lv_ldc2 hx hb hown (hts _ tw794) dX8_command_212 ?_
        refine lv_land hx hb dX8_command_215 ?_
        refine fr_topl (y := (cId (mAt (z_mem ρ) (z_T ρ 1 j + z_T ρ 3 j * 4))).toInt64) (sh8 _) ?_
        refine lv_iload_n hx hb dX8_command_216 rfl (lv_at hl 6 rfl) ?_
        refine lv_i2l hx hb dX8_command_217 rfl ?_
        refine lv_bipush (v := 16) hx hb dX8_command_218 (by decide) ?_
        refine lv_lshl hx hb dX8_command_220 rfl ?_
        refine lv_lor hx hb dX8_command_221 ?_
        refine lv_aload_n hx hb dX8_command_222 rfl (lv_at hl 5 rfl) ?_
        refine va_get (D := g.1) (ci := 7) (v := .ref (a 9)) (C := RX8) (T := TX8) (N := 30) hx hb hts inX8 hown hK hP 0 rfl rfl 13 (by decide) (hts _ tw616) (fun _ h9 => h9) rfl dX8_command_223 ?_
        refine lv_iload_n hx hb dX8_command_226 rfl (lv_at hl 6 rfl) ?_
        refine fr_iald (k := j) hx hb hK hP 9 1 rfl rfl (by omega) (by decide) dX8_command_227 ?_
        refine lv_i2l hx hb dX8_command_228 rfl ?_
        refine lv_bipush (v := 20) hx hb dX8_command_229 (by decide) ?_
        refine lv_lshl hx hb dX8_command_231 rfl ?_
        refine lv_lor hx hb dX8_command_232 ?_
        refine lv_iload hx hb dX8_command_233 (lv_at hl 2 rfl) ?_
        refine lv_i2l hx hb dX8_command_235 rfl ?_
        refine lv_bipush (v := 28) hx hb dX8_command_236 (by decide) ?_
        refine lv_lshl hx hb dX8_command_238 rfl ?_
        refine lv_lor hx hb dX8_command_239 ?_
        refine lv_aload_n hx hb dX8_command_240 rfl (lv_at hl 5 rfl) ?_
        refine va_get (D := g.1) (ci := 7) (v := .ref (a 12)) (C := RX8) (T := TX8) (N := 30) hx hb hts inX8 hown hK hP 0 rfl rfl 16 (by decide) (hts _ tw619) (fun _ h9 => h9) rfl dX8_command_241 ?_
        refine lv_iload hx hb dX8_command_244 (lv_at hl 1 rfl) ?_
        refine fr_iald (k := k) hx hb hK hP 12 1 rfl rfl (by omega) (by decide) dX8_command_246 ?_
        refine lv_i2l hx hb dX8_command_247 rfl ?_
        refine lv_bipush (v := 36) hx hb dX8_command_248 (by decide) ?_
        refine lv_lshl hx hb dX8_command_250 rfl ?_
        refine lv_lor hx hb dX8_command_251 ?_
        refine lv_aload_n hx hb dX8_command_252 rfl (lv_at hl 5 rfl) ?_
        refine va_get (D := g.1) (ci := 7) (v := .long (z_re s1)) (C := RX8) (T := TX8) (N := 30) hx hb hts inX8 hown hK hP 0 rfl rfl 24 (by decide) (hts _ tw627) (fun _ h9 => h9) rfl dX8_command_253 ?_
        refine lv_bipush (v := 40) hx hb dX8_command_256 (by decide) ?_
        refine lv_lshl hx hb dX8_command_258 rfl ?_
        refine lv_lor hx hb dX8_command_259 ?_
        refine va_last hx hb hK hP hD hS 1 0 rfl rfl (hol_in hd2) dX8_command_260 (fun H locs hP hD hS => ?_)
        have hP : va_P g.1 vwCl (rfW g a (vp_updL (z_mem s1) (((((z_T s1) 1) (4 + k)) + (((z_T s1) 4) (4 + k))).toNatClampNeg) (((((((cId (mAt (z_mem ρ) (z_T ρ 1 j + z_T ρ 3 j * 4))).toInt64) ||| (((nI j).toInt64) <<< ((16 : Int32).toInt64 &&& 63))) ||| (((((z_T s1) 3) j).toInt64) <<< ((20 : Int32).toInt64 &&& 63))) ||| (((q_op ρ j).toInt64) <<< ((28 : Int32).toInt64 &&& 63))) ||| (((((z_T s1) 6) k).toInt64) <<< ((36 : Int32).toInt64 &&& 63))) ||| ((z_re s1) <<< ((40 : Int32).toInt64 &&& 63)))) (z_R s1) (z_cb s1) (z_nc s1) (z_tu s1) (z_bi s1) (z_cg s1) (z_on s1) (z_T s1) (z_dn s1) (z_fa s1 + 1) (z_br s1) (z_bs s1) (z_cp s1) (z_cq s1) (z_cx s1) (z_re s1) (z_n s1) (z_op s1) (z_fg s1) sp1_142 (z_one s1)) H := hP
        have hD : va_D A (rfW g a (vp_updL (z_mem s1) (((((z_T s1) 1) (4 + k)) + (((z_T s1) 4) (4 + k))).toNatClampNeg) (((((((cId (mAt (z_mem ρ) (z_T ρ 1 j + z_T ρ 3 j * 4))).toInt64) ||| (((nI j).toInt64) <<< ((16 : Int32).toInt64 &&& 63))) ||| (((((z_T s1) 3) j).toInt64) <<< ((20 : Int32).toInt64 &&& 63))) ||| (((q_op ρ j).toInt64) <<< ((28 : Int32).toInt64 &&& 63))) ||| (((((z_T s1) 6) k).toInt64) <<< ((36 : Int32).toInt64 &&& 63))) ||| ((z_re s1) <<< ((40 : Int32).toInt64 &&& 63)))) (z_R s1) (z_cb s1) (z_nc s1) (z_tu s1) (z_bi s1) (z_cg s1) (z_on s1) (z_T s1) (z_dn s1) (z_fa s1 + 1) (z_br s1) (z_bs s1) (z_cp s1) (z_cq s1) (z_cx s1) (z_re s1) (z_n s1) (z_op s1) (z_fg s1) sp1_142 (z_one s1)) := hD
        rw [show vp_updL (z_mem s1) (((((z_T s1) 1) (4 + k)) + (((z_T s1) 4) (4 + k))).toNatClampNeg) (((((((cId (mAt (z_mem ρ) (z_T ρ 1 j + z_T ρ 3 j * 4))).toInt64) ||| (((nI j).toInt64) <<< ((16 : Int32).toInt64 &&& 63))) ||| (((((z_T s1) 3) j).toInt64) <<< ((20 : Int32).toInt64 &&& 63))) ||| (((q_op ρ j).toInt64) <<< ((28 : Int32).toInt64 &&& 63))) ||| (((((z_T s1) 6) k).toInt64) <<< ((36 : Int32).toInt64 &&& 63))) ||| ((z_re s1) <<< ((40 : Int32).toInt64 &&& 63))) = mPut (z_mem s1) (z_T s1 1 (4 + k) + z_T s1 4 (4 + k)) (((((((cId (mAt (z_mem ρ) (z_T ρ 1 j + z_T ρ 3 j * 4))).toInt64) ||| (((nI j).toInt64) <<< ((16 : Int32).toInt64 &&& 63))) ||| (((((z_T s1) 3) j).toInt64) <<< ((20 : Int32).toInt64 &&& 63))) ||| (((q_op ρ j).toInt64) <<< ((28 : Int32).toInt64 &&& 63))) ||| (((((z_T s1) 6) k).toInt64) <<< ((36 : Int32).toInt64 &&& 63))) ||| ((z_re s1) <<< ((40 : Int32).toInt64 &&& 63))) from (if_pos hd2).symm] at hP hD
        refine lv_aload_n hx hb dX8_command_261 rfl (lv_at hl 5 rfl) ?_
        refine va_get (D := g.1) (ci := 7) (v := .ref (a 10)) (C := RX8) (T := TX8) (N := 30) hx hb hts inX8 hown hK hP 0 rfl rfl 14 (by decide) (hts _ tw617) (fun _ h9 => h9) rfl dX8_command_262 ?_
        refine lv_iload hx hb dX8_command_265 (lv_at hl 0 rfl) ?_
        refine lv_dup2_11 hx hb dX8_command_267 rfl rfl ?_
        refine fr_iald (k := (4 + k)) hx hb hK hP 10 1 rfl rfl (by omega) (by decide) dX8_command_268 ?_
        refine lv_iconst (v := 1) hx hb dX8_command_269 (by decide) ?_
        refine lv_iadd hx hb dX8_command_270 ?_
        refine fr_iast (k := (4 + k)) hx hb hK hP hD hS 10 1 rfl rfl (by omega) (by decide) dX8_command_271 (fun H locs hP hD hS => ?_)
        have hP : va_P g.1 vwCl (rfW g a (mPut (z_mem s1) (z_T s1 1 (4 + k) + z_T s1 4 (4 + k)) (((((((cId (mAt (z_mem ρ) (z_T ρ 1 j + z_T ρ 3 j * 4))).toInt64) ||| (((nI j).toInt64) <<< ((16 : Int32).toInt64 &&& 63))) ||| (((((z_T s1) 3) j).toInt64) <<< ((20 : Int32).toInt64 &&& 63))) ||| (((q_op ρ j).toInt64) <<< ((28 : Int32).toInt64 &&& 63))) ||| (((((z_T s1) 6) k).toInt64) <<< ((36 : Int32).toInt64 &&& 63))) ||| ((z_re s1) <<< ((40 : Int32).toInt64 &&& 63)))) (z_R s1) (z_cb s1) (z_nc s1) (z_tu s1) (z_bi s1) (z_cg s1) (z_on s1) (up2 (z_T s1) 4 (4 + k) ((((z_T s1) 4) (4 + k)) + 1)) (z_dn s1) (z_fa s1 + 1) (z_br s1) (z_bs s1) (z_cp s1) (z_cq s1) (z_cx s1) (z_re s1) (z_n s1) (z_op s1) (z_fg s1) sp1_142 (z_one s1)) H := fr_eqP rfT_4 hP
        have hD : va_D A (rfW g a (mPut (z_mem s1) (z_T s1 1 (4 + k) + z_T s1 4 (4 + k)) (((((((cId (mAt (z_mem ρ) (z_T ρ 1 j + z_T ρ 3 j * 4))).toInt64) ||| (((nI j).toInt64) <<< ((16 : Int32).toInt64 &&& 63))) ||| (((((z_T s1) 3) j).toInt64) <<< ((20 : Int32).toInt64 &&& 63))) ||| (((q_op ρ j).toInt64) <<< ((28 : Int32).toInt64 &&& 63))) ||| (((((z_T s1) 6) k).toInt64) <<< ((36 : Int32).toInt64 &&& 63))) ||| ((z_re s1) <<< ((40 : Int32).toInt64 &&& 63)))) (z_R s1) (z_cb s1) (z_nc s1) (z_tu s1) (z_bi s1) (z_cg s1) (z_on s1) (up2 (z_T s1) 4 (4 + k) ((((z_T s1) 4) (4 + k)) + 1)) (z_dn s1) (z_fa s1 + 1) (z_br s1) (z_bs s1) (z_cp s1) (z_cq s1) (z_cx s1) (z_re s1) (z_n s1) (z_op s1) (z_fg s1) sp1_142 (z_one s1)) := fr_eqD rfT_4 hD
        refine lv_aload_n hx hb dX8_command_272 rfl (lv_at hl 5 rfl) ?_
        refine va_get (D := g.1) (ci := 7) (v := .ref (a 10)) (C := RX8) (T := TX8) (N := 30) hx hb hts inX8 hown hK hP 0 rfl rfl 14 (by decide) (hts _ tw617) (fun _ h9 => h9) rfl dX8_command_273 ?_
        refine lv_iload hx hb dX8_command_276 (lv_at hl 0 rfl) ?_
        refine fr_iald (k := (4 + k)) hx hb hK hP 10 1 rfl rfl (by omega) (by decide) dX8_command_278 ?_
        refine lv_aload_n hx hb dX8_command_279 rfl (lv_at hl 5 rfl) ?_
        refine va_get (D := g.1) (ci := 7) (v := .ref (a 8)) (C := RX8) (T := TX8) (N := 30) hx hb hts inX8 hown hK hP 0 rfl rfl 12 (by decide) (hts _ tw615) (fun _ h9 => h9) rfl dX8_command_280 ?_
        refine lv_iload hx hb dX8_command_283 (lv_at hl 0 rfl) ?_
        refine fr_iald (k := (4 + k)) hx hb hK hP 8 1 rfl rfl (by omega) (by decide) dX8_command_285 ?_
        refine lv_icmp_ne (tgt := 308) hx hb dX8_command_286 (by decide) (fun c286 => ?_) (fun c286 => ?_)
        · rw [show up2 (z_T s1) 4 (4 + k) ((((z_T s1) 4) (4 + k)) + 1) = advC (z_T s1) k from adv_f hQk (fun q => c286 (by rw [up2_eq, up2_ne (Or.inl (by decide))]; exact q))] at hP hD
          refine lv_aload_n hx hb dX8_command_308 rfl (lv_at hl 5 rfl) ?_
          refine va_get (D := g.1) (ci := 7) (v := .ref (a 6)) (C := RX8) (T := TX8) (N := 30) hx hb hts inX8 hown hK hP 0 rfl rfl 10 (by decide) (hts _ tw613) (fun _ h9 => h9) rfl dX8_command_309 ?_
          refine lv_iload hx hb dX8_command_312 (lv_at hl 1 rfl) ?_
          refine fr_zald (k := k) hx hb hK hP 6 2 rfl rfl (by omega) (by decide) dX8_command_314 ?_
          refine lv_if_eq (tgt := 331) hx hb dX8_command_315 (by decide) (fun c315 => ?_) (fun c315 => ?_)
          · refine W.widen (k := 1) (n := 8) (Nat.le_of_ble_eq_true rfl) (Nat.le_of_ble_eq_true rfl) ?_
            exact W.vret hx hb hr (fun t ht _ => ⟨⟨none, rfW g a (mPut (z_mem s1) (z_T s1 1 (4 + k) + z_T s1 4 (4 + k)) (((((((cId (mAt (z_mem ρ) (z_T ρ 1 j + z_T ρ 3 j * 4))).toInt64) ||| (((nI j).toInt64) <<< ((16 : Int32).toInt64 &&& 63))) ||| (((((z_T s1) 3) j).toInt64) <<< ((20 : Int32).toInt64 &&& 63))) ||| (((q_op ρ j).toInt64) <<< ((28 : Int32).toInt64 &&& 63))) ||| (((((z_T s1) 6) k).toInt64) <<< ((36 : Int32).toInt64 &&& 63))) ||| ((z_re s1) <<< ((40 : Int32).toInt64 &&& 63)))) (z_R s1) (z_cb s1) (z_nc s1) (z_tu s1) (z_bi s1) (z_cg s1) (z_on s1) (advC (z_T s1) k) (z_dn s1) (z_fa s1 + 1) (z_br s1) (z_bs s1) (z_cp s1) (z_cq s1) (z_cx s1) (z_re s1) (z_n s1) (z_op s1) (z_fg s1) sp1_142 (z_one s1), rfl, ⟨sp1_142, trivial, rfl, by rw [h_cmd, ← hs2, e6, h_cnt, if_neg c163, h_ans, if_pos (show advC (z_T s1) k 7 k = 0 from c315)] <;> rfl⟩, rfl, by rw [ht]; exact hP⟩, hS.F ht⟩) hS.2.2 dX8_command_331
          · refine lv_aload_n hx hb dX8_command_318 rfl (lv_at hl 5 rfl) ?_
            refine lv_dup hx hb dX8_command_319 rfl ?_
            refine va_get (D := g.1) (ci := 7) (v := .int (z_bi s1)) (C := RX8) (T := TX8) (N := 30) hx hb hts inX8 hown hK hP 0 rfl rfl 6 (by decide) (hts _ tw609) (fun _ h9 => h9) rfl dX8_command_320 ?_
            refine lv_iconst (v := 1) hx hb dX8_command_323 (by decide) ?_
            refine lv_iload hx hb dX8_command_324 (lv_at hl 1 rfl) ?_
            refine lv_ishl hx hb dX8_command_326 ?_
            refine lv_ior hx hb dX8_command_327 ?_
            refine va_put (D := g.1) (ci := 7) (v := .int ((z_bi s1) ||| (1 <<< ((nI k) &&& 31)))) (ty := .int) (C := RX8) (T := TX8) (N := 30) hx hb hts inX8 tyX8 tyX8_ok nmX8 hown hK hP hD hS 0 rfl rfl 6 (by decide) (hts _ tw609) (fun _ h9 => h9) rfl (by decide +kernel) rfl rfl (Nat.le_of_ble_eq_true rfl) dX8_command_328 (fun H locs hP hD hS => ?_)
            have hP : va_P g.1 vwCl (rfW g a (mPut (z_mem s1) (z_T s1 1 (4 + k) + z_T s1 4 (4 + k)) (((((((cId (mAt (z_mem ρ) (z_T ρ 1 j + z_T ρ 3 j * 4))).toInt64) ||| (((nI j).toInt64) <<< ((16 : Int32).toInt64 &&& 63))) ||| (((((z_T s1) 3) j).toInt64) <<< ((20 : Int32).toInt64 &&& 63))) ||| (((q_op ρ j).toInt64) <<< ((28 : Int32).toInt64 &&& 63))) ||| (((((z_T s1) 6) k).toInt64) <<< ((36 : Int32).toInt64 &&& 63))) ||| ((z_re s1) <<< ((40 : Int32).toInt64 &&& 63)))) (z_R s1) (z_cb s1) (z_nc s1) (z_tu s1) ((z_bi s1) ||| (1 <<< ((nI k) &&& 31))) (z_cg s1) (z_on s1) (advC (z_T s1) k) (z_dn s1) (z_fa s1 + 1) (z_br s1) (z_bs s1) (z_cp s1) (z_cq s1) (z_cx s1) (z_re s1) (z_n s1) (z_op s1) (z_fg s1) sp1_142 (z_one s1)) H := hP
            have hD : va_D A (rfW g a (mPut (z_mem s1) (z_T s1 1 (4 + k) + z_T s1 4 (4 + k)) (((((((cId (mAt (z_mem ρ) (z_T ρ 1 j + z_T ρ 3 j * 4))).toInt64) ||| (((nI j).toInt64) <<< ((16 : Int32).toInt64 &&& 63))) ||| (((((z_T s1) 3) j).toInt64) <<< ((20 : Int32).toInt64 &&& 63))) ||| (((q_op ρ j).toInt64) <<< ((28 : Int32).toInt64 &&& 63))) ||| (((((z_T s1) 6) k).toInt64) <<< ((36 : Int32).toInt64 &&& 63))) ||| ((z_re s1) <<< ((40 : Int32).toInt64 &&& 63)))) (z_R s1) (z_cb s1) (z_nc s1) (z_tu s1) ((z_bi s1) ||| (1 <<< ((nI k) &&& 31))) (z_cg s1) (z_on s1) (advC (z_T s1) k) (z_dn s1) (z_fa s1 + 1) (z_br s1) (z_bs s1) (z_cp s1) (z_cq s1) (z_cx s1) (z_re s1) (z_n s1) (z_op s1) (z_fg s1) sp1_142 (z_one s1)) := hD
            refine W.widen (k := 1) (n := 8) (Nat.le_of_ble_eq_true rfl) (Nat.le_of_ble_eq_true rfl) ?_
            exact W.vret hx hb hr (fun t ht _ => ⟨⟨none, rfW g a (mPut (z_mem s1) (z_T s1 1 (4 + k) + z_T s1 4 (4 + k)) (((((((cId (mAt (z_mem ρ) (z_T ρ 1 j + z_T ρ 3 j * 4))).toInt64) ||| (((nI j).toInt64) <<< ((16 : Int32).toInt64 &&& 63))) ||| (((((z_T s1) 3) j).toInt64) <<< ((20 : Int32).toInt64 &&& 63))) ||| (((q_op ρ j).toInt64) <<< ((28 : Int32).toInt64 &&& 63))) ||| (((((z_T s1) 6) k).toInt64) <<< ((36 : Int32).toInt64 &&& 63))) ||| ((z_re s1) <<< ((40 : Int32).toInt64 &&& 63)))) (z_R s1) (z_cb s1) (z_nc s1) (z_tu s1) ((z_bi s1) ||| (1 <<< ((nI k) &&& 31))) (z_cg s1) (z_on s1) (advC (z_T s1) k) (z_dn s1) (z_fa s1 + 1) (z_br s1) (z_bs s1) (z_cp s1) (z_cq s1) (z_cx s1) (z_re s1) (z_n s1) (z_op s1) (z_fg s1) sp1_142 (z_one s1), rfl, ⟨sp1_142, trivial, rfl, by rw [h_cmd, ← hs2, e6, h_cnt, if_neg c163, h_ans, if_neg (show ¬ advC (z_T s1) k 7 k = 0 from c315)] <;> rfl⟩, rfl, by rw [ht]; exact hP⟩, hS.F ht⟩) hS.2.2 dX8_command_331
        · refine lv_aload_n hx hb dX8_command_289 rfl (lv_at hl 5 rfl) ?_
          refine va_get (D := g.1) (ci := 7) (v := .ref (a 10)) (C := RX8) (T := TX8) (N := 30) hx hb hts inX8 hown hK hP 0 rfl rfl 14 (by decide) (hts _ tw617) (fun _ h9 => h9) rfl dX8_command_290 ?_
          refine lv_iload hx hb dX8_command_293 (lv_at hl 0 rfl) ?_
          refine lv_iconst (v := 0) hx hb dX8_command_295 (by decide) ?_
          refine fr_iast (k := (4 + k)) hx hb hK hP hD hS 10 1 rfl rfl (by omega) (by decide) dX8_command_296 (fun H locs hP hD hS => ?_)
          have hP : va_P g.1 vwCl (rfW g a (mPut (z_mem s1) (z_T s1 1 (4 + k) + z_T s1 4 (4 + k)) (((((((cId (mAt (z_mem ρ) (z_T ρ 1 j + z_T ρ 3 j * 4))).toInt64) ||| (((nI j).toInt64) <<< ((16 : Int32).toInt64 &&& 63))) ||| (((((z_T s1) 3) j).toInt64) <<< ((20 : Int32).toInt64 &&& 63))) ||| (((q_op ρ j).toInt64) <<< ((28 : Int32).toInt64 &&& 63))) ||| (((((z_T s1) 6) k).toInt64) <<< ((36 : Int32).toInt64 &&& 63))) ||| ((z_re s1) <<< ((40 : Int32).toInt64 &&& 63)))) (z_R s1) (z_cb s1) (z_nc s1) (z_tu s1) (z_bi s1) (z_cg s1) (z_on s1) (up2 (up2 (z_T s1) 4 (4 + k) ((((z_T s1) 4) (4 + k)) + 1)) 4 (4 + k) 0) (z_dn s1) (z_fa s1 + 1) (z_br s1) (z_bs s1) (z_cp s1) (z_cq s1) (z_cx s1) (z_re s1) (z_n s1) (z_op s1) (z_fg s1) sp1_142 (z_one s1)) H := fr_eqP rfT_4 hP
          have hD : va_D A (rfW g a (mPut (z_mem s1) (z_T s1 1 (4 + k) + z_T s1 4 (4 + k)) (((((((cId (mAt (z_mem ρ) (z_T ρ 1 j + z_T ρ 3 j * 4))).toInt64) ||| (((nI j).toInt64) <<< ((16 : Int32).toInt64 &&& 63))) ||| (((((z_T s1) 3) j).toInt64) <<< ((20 : Int32).toInt64 &&& 63))) ||| (((q_op ρ j).toInt64) <<< ((28 : Int32).toInt64 &&& 63))) ||| (((((z_T s1) 6) k).toInt64) <<< ((36 : Int32).toInt64 &&& 63))) ||| ((z_re s1) <<< ((40 : Int32).toInt64 &&& 63)))) (z_R s1) (z_cb s1) (z_nc s1) (z_tu s1) (z_bi s1) (z_cg s1) (z_on s1) (up2 (up2 (z_T s1) 4 (4 + k) ((((z_T s1) 4) (4 + k)) + 1)) 4 (4 + k) 0) (z_dn s1) (z_fa s1 + 1) (z_br s1) (z_bs s1) (z_cp s1) (z_cq s1) (z_cx s1) (z_re s1) (z_n s1) (z_op s1) (z_fg s1) sp1_142 (z_one s1)) := fr_eqD rfT_4 hD
          refine lv_aload_n hx hb dX8_command_297 rfl (lv_at hl 5 rfl) ?_
          refine va_get (D := g.1) (ci := 7) (v := .ref (a 12)) (C := RX8) (T := TX8) (N := 30) hx hb hts inX8 hown hK hP 0 rfl rfl 16 (by decide) (hts _ tw619) (fun _ h9 => h9) rfl dX8_command_298 ?_
          refine lv_iload hx hb dX8_command_301 (lv_at hl 1 rfl) ?_
          refine lv_dup2_11 hx hb dX8_command_303 rfl rfl ?_
          refine fr_iald (k := k) hx hb hK hP 12 1 rfl rfl (by omega) (by decide) dX8_command_304 ?_
          refine lv_iconst (v := 1) hx hb dX8_command_305 (by decide) ?_
          refine lv_ixor hx hb dX8_command_306 ?_
          refine fr_iast (k := k) hx hb hK hP hD hS 12 1 rfl rfl (by omega) (by decide) dX8_command_307 (fun H locs hP hD hS => ?_)
          have hP : va_P g.1 vwCl (rfW g a (mPut (z_mem s1) (z_T s1 1 (4 + k) + z_T s1 4 (4 + k)) (((((((cId (mAt (z_mem ρ) (z_T ρ 1 j + z_T ρ 3 j * 4))).toInt64) ||| (((nI j).toInt64) <<< ((16 : Int32).toInt64 &&& 63))) ||| (((((z_T s1) 3) j).toInt64) <<< ((20 : Int32).toInt64 &&& 63))) ||| (((q_op ρ j).toInt64) <<< ((28 : Int32).toInt64 &&& 63))) ||| (((((z_T s1) 6) k).toInt64) <<< ((36 : Int32).toInt64 &&& 63))) ||| ((z_re s1) <<< ((40 : Int32).toInt64 &&& 63)))) (z_R s1) (z_cb s1) (z_nc s1) (z_tu s1) (z_bi s1) (z_cg s1) (z_on s1) (up2 (up2 (up2 (z_T s1) 4 (4 + k) ((((z_T s1) 4) (4 + k)) + 1)) 4 (4 + k) 0) 6 k ((((up2 (up2 (z_T s1) 4 (4 + k) ((((z_T s1) 4) (4 + k)) + 1)) 4 (4 + k) 0) 6) k) ^^^ 1)) (z_dn s1) (z_fa s1 + 1) (z_br s1) (z_bs s1) (z_cp s1) (z_cq s1) (z_cx s1) (z_re s1) (z_n s1) (z_op s1) (z_fg s1) sp1_142 (z_one s1)) H := fr_eqP rfT_6 hP
          have hD : va_D A (rfW g a (mPut (z_mem s1) (z_T s1 1 (4 + k) + z_T s1 4 (4 + k)) (((((((cId (mAt (z_mem ρ) (z_T ρ 1 j + z_T ρ 3 j * 4))).toInt64) ||| (((nI j).toInt64) <<< ((16 : Int32).toInt64 &&& 63))) ||| (((((z_T s1) 3) j).toInt64) <<< ((20 : Int32).toInt64 &&& 63))) ||| (((q_op ρ j).toInt64) <<< ((28 : Int32).toInt64 &&& 63))) ||| (((((z_T s1) 6) k).toInt64) <<< ((36 : Int32).toInt64 &&& 63))) ||| ((z_re s1) <<< ((40 : Int32).toInt64 &&& 63)))) (z_R s1) (z_cb s1) (z_nc s1) (z_tu s1) (z_bi s1) (z_cg s1) (z_on s1) (up2 (up2 (up2 (z_T s1) 4 (4 + k) ((((z_T s1) 4) (4 + k)) + 1)) 4 (4 + k) 0) 6 k ((((up2 (up2 (z_T s1) 4 (4 + k) ((((z_T s1) 4) (4 + k)) + 1)) 4 (4 + k) 0) 6) k) ^^^ 1)) (z_dn s1) (z_fa s1 + 1) (z_br s1) (z_bs s1) (z_cp s1) (z_cq s1) (z_cx s1) (z_re s1) (z_n s1) (z_op s1) (z_fg s1) sp1_142 (z_one s1)) := fr_eqD rfT_6 hD
          rw [show up2 (up2 (up2 (z_T s1) 4 (4 + k) ((((z_T s1) 4) (4 + k)) + 1)) 4 (4 + k) 0) 6 k ((((up2 (up2 (z_T s1) 4 (4 + k) ((((z_T s1) 4) (4 + k)) + 1)) 4 (4 + k) 0) 6) k) ^^^ 1) = advC (z_T s1) k from adv_t' hQk h6 c286] at hP hD
          refine lv_aload_n hx hb dX8_command_308 rfl (lv_at hl 5 rfl) ?_
          refine va_get (D := g.1) (ci := 7) (v := .ref (a 6)) (C := RX8) (T := TX8) (N := 30) hx hb hts inX8 hown hK hP 0 rfl rfl 10 (by decide) (hts _ tw613) (fun _ h9 => h9) rfl dX8_command_309 ?_
          refine lv_iload hx hb dX8_command_312 (lv_at hl 1 rfl) ?_
          refine fr_zald (k := k) hx hb hK hP 6 2 rfl rfl (by omega) (by decide) dX8_command_314 ?_
          refine lv_if_eq (tgt := 331) hx hb dX8_command_315 (by decide) (fun c315 => ?_) (fun c315 => ?_)
          · refine W.widen (k := 1) (n := 8) (Nat.le_of_ble_eq_true rfl) (Nat.le_of_ble_eq_true rfl) ?_
            exact W.vret hx hb hr (fun t ht _ => ⟨⟨none, rfW g a (mPut (z_mem s1) (z_T s1 1 (4 + k) + z_T s1 4 (4 + k)) (((((((cId (mAt (z_mem ρ) (z_T ρ 1 j + z_T ρ 3 j * 4))).toInt64) ||| (((nI j).toInt64) <<< ((16 : Int32).toInt64 &&& 63))) ||| (((((z_T s1) 3) j).toInt64) <<< ((20 : Int32).toInt64 &&& 63))) ||| (((q_op ρ j).toInt64) <<< ((28 : Int32).toInt64 &&& 63))) ||| (((((z_T s1) 6) k).toInt64) <<< ((36 : Int32).toInt64 &&& 63))) ||| ((z_re s1) <<< ((40 : Int32).toInt64 &&& 63)))) (z_R s1) (z_cb s1) (z_nc s1) (z_tu s1) (z_bi s1) (z_cg s1) (z_on s1) (advC (z_T s1) k) (z_dn s1) (z_fa s1 + 1) (z_br s1) (z_bs s1) (z_cp s1) (z_cq s1) (z_cx s1) (z_re s1) (z_n s1) (z_op s1) (z_fg s1) sp1_142 (z_one s1), rfl, ⟨sp1_142, trivial, rfl, by rw [h_cmd, ← hs2, e6, h_cnt, if_neg c163, h_ans, if_pos (show advC (z_T s1) k 7 k = 0 from c315)] <;> rfl⟩, rfl, by rw [ht]; exact hP⟩, hS.F ht⟩) hS.2.2 dX8_command_331
          · refine lv_aload_n hx hb dX8_command_318 rfl (lv_at hl 5 rfl) ?_
            refine lv_dup hx hb dX8_command_319 rfl ?_
            refine va_get (D := g.1) (ci := 7) (v := .int (z_bi s1)) (C := RX8) (T := TX8) (N := 30) hx hb hts inX8 hown hK hP 0 rfl rfl 6 (by decide) (hts _ tw609) (fun _ h9 => h9) rfl dX8_command_320 ?_
            refine lv_iconst (v := 1) hx hb dX8_command_323 (by decide) ?_
            refine lv_iload hx hb dX8_command_324 (lv_at hl 1 rfl) ?_
            refine lv_ishl hx hb dX8_command_326 ?_
            refine lv_ior hx hb dX8_command_327 ?_
            refine va_put (D := g.1) (ci := 7) (v := .int ((z_bi s1) ||| (1 <<< ((nI k) &&& 31)))) (ty := .int) (C := RX8) (T := TX8) (N := 30) hx hb hts inX8 tyX8 tyX8_ok nmX8 hown hK hP hD hS 0 rfl rfl 6 (by decide) (hts _ tw609) (fun _ h9 => h9) rfl (by decide +kernel) rfl rfl (Nat.le_of_ble_eq_true rfl) dX8_command_328 (fun H locs hP hD hS => ?_)
            have hP : va_P g.1 vwCl (rfW g a (mPut (z_mem s1) (z_T s1 1 (4 + k) + z_T s1 4 (4 + k)) (((((((cId (mAt (z_mem ρ) (z_T ρ 1 j + z_T ρ 3 j * 4))).toInt64) ||| (((nI j).toInt64) <<< ((16 : Int32).toInt64 &&& 63))) ||| (((((z_T s1) 3) j).toInt64) <<< ((20 : Int32).toInt64 &&& 63))) ||| (((q_op ρ j).toInt64) <<< ((28 : Int32).toInt64 &&& 63))) ||| (((((z_T s1) 6) k).toInt64) <<< ((36 : Int32).toInt64 &&& 63))) ||| ((z_re s1) <<< ((40 : Int32).toInt64 &&& 63)))) (z_R s1) (z_cb s1) (z_nc s1) (z_tu s1) ((z_bi s1) ||| (1 <<< ((nI k) &&& 31))) (z_cg s1) (z_on s1) (advC (z_T s1) k) (z_dn s1) (z_fa s1 + 1) (z_br s1) (z_bs s1) (z_cp s1) (z_cq s1) (z_cx s1) (z_re s1) (z_n s1) (z_op s1) (z_fg s1) sp1_142 (z_one s1)) H := hP
            have hD : va_D A (rfW g a (mPut (z_mem s1) (z_T s1 1 (4 + k) + z_T s1 4 (4 + k)) (((((((cId (mAt (z_mem ρ) (z_T ρ 1 j + z_T ρ 3 j * 4))).toInt64) ||| (((nI j).toInt64) <<< ((16 : Int32).toInt64 &&& 63))) ||| (((((z_T s1) 3) j).toInt64) <<< ((20 : Int32).toInt64 &&& 63))) ||| (((q_op ρ j).toInt64) <<< ((28 : Int32).toInt64 &&& 63))) ||| (((((z_T s1) 6) k).toInt64) <<< ((36 : Int32).toInt64 &&& 63))) ||| ((z_re s1) <<< ((40 : Int32).toInt64 &&& 63)))) (z_R s1) (z_cb s1) (z_nc s1) (z_tu s1) ((z_bi s1) ||| (1 <<< ((nI k) &&& 31))) (z_cg s1) (z_on s1) (advC (z_T s1) k) (z_dn s1) (z_fa s1 + 1) (z_br s1) (z_bs s1) (z_cp s1) (z_cq s1) (z_cx s1) (z_re s1) (z_n s1) (z_op s1) (z_fg s1) sp1_142 (z_one s1)) := hD
            refine W.widen (k := 1) (n := 8) (Nat.le_of_ble_eq_true rfl) (Nat.le_of_ble_eq_true rfl) ?_
            exact W.vret hx hb hr (fun t ht _ => ⟨⟨none, rfW g a (mPut (z_mem s1) (z_T s1 1 (4 + k) + z_T s1 4 (4 + k)) (((((((cId (mAt (z_mem ρ) (z_T ρ 1 j + z_T ρ 3 j * 4))).toInt64) ||| (((nI j).toInt64) <<< ((16 : Int32).toInt64 &&& 63))) ||| (((((z_T s1) 3) j).toInt64) <<< ((20 : Int32).toInt64 &&& 63))) ||| (((q_op ρ j).toInt64) <<< ((28 : Int32).toInt64 &&& 63))) ||| (((((z_T s1) 6) k).toInt64) <<< ((36 : Int32).toInt64 &&& 63))) ||| ((z_re s1) <<< ((40 : Int32).toInt64 &&& 63)))) (z_R s1) (z_cb s1) (z_nc s1) (z_tu s1) ((z_bi s1) ||| (1 <<< ((nI k) &&& 31))) (z_cg s1) (z_on s1) (advC (z_T s1) k) (z_dn s1) (z_fa s1 + 1) (z_br s1) (z_bs s1) (z_cp s1) (z_cq s1) (z_cx s1) (z_re s1) (z_n s1) (z_op s1) (z_fg s1) sp1_142 (z_one s1), rfl, ⟨sp1_142, trivial, rfl, by rw [h_cmd, ← hs2, e6, h_cnt, if_neg c163, h_ans, if_neg (show ¬ advC (z_T s1) k 7 k = 0 from c315)] <;> rfl⟩, rfl, by rw [ht]; exact hP⟩, hS.F ht⟩) hS.2.2 dX8_command_331
      · refine lv_aload_n hx hb dX8_command_166 rfl (lv_at hl 5 rfl) ?_
        refine lv_dup hx hb dX8_command_167 rfl ?_
        refine va_get (D := g.1) (ci := 7) (v := .long (lN (z_dn s1))) (C := RX8) (T := TX8) (N := 30) hx hb hts inX8 hown hK hP 0 rfl rfl 17 (by decide) (hts _ tw620) (fun _ h9 => h9) rfl dX8_command_168 ?_
        refine lv_lconst (v := 1) hx hb dX8_command_171 (by decide) ?_
        refine lv_ladd hx hb dX8_command_172 ?_
        refine fr_topl (y := lN (z_dn s1 + 1)) (lN_1 _) ?_
        refine va_put (D := g.1) (ci := 7) (v := .long (lN (z_dn s1 + 1))) (ty := .long) (C := RX8) (T := TX8) (N := 30) hx hb hts inX8 tyX8 tyX8_ok nmX8 hown hK hP hD hS 0 rfl rfl 17 (by decide) (hts _ tw620) (fun _ h9 => h9) rfl (by decide +kernel) rfl rfl (Nat.le_of_ble_eq_true rfl) dX8_command_173 (fun H locs hP hD hS => ?_)
        have hP : va_P g.1 vwCl (rfW g a (z_mem s1) (z_R s1) (z_cb s1) (z_nc s1) (z_tu s1) (z_bi s1) (z_cg s1) (z_on s1) (z_T s1) (z_dn s1 + 1) (z_fa s1) (z_br s1) (z_bs s1) (z_cp s1) (z_cq s1) (z_cx s1) (z_re s1) (z_n s1) (z_op s1) (z_fg s1) sp1_142 (z_one s1)) H := hP
        have hD : va_D A (rfW g a (z_mem s1) (z_R s1) (z_cb s1) (z_nc s1) (z_tu s1) (z_bi s1) (z_cg s1) (z_on s1) (z_T s1) (z_dn s1 + 1) (z_fa s1) (z_br s1) (z_bs s1) (z_cp s1) (z_cq s1) (z_cx s1) (z_re s1) (z_n s1) (z_op s1) (z_fg s1) sp1_142 (z_one s1)) := hD
        refine lv_goto (tgt := 189) hx hb dX8_command_176 (by decide) ?_
        refine lv_aload_n hx hb dX8_command_189 rfl (lv_at hl 5 rfl) ?_
        refine va_get (D := g.1) (ci := 7) (v := .ref (a 1)) (C := RX8) (T := TX8) (N := 30) hx hb hts inX8 hown hK hP 0 rfl rfl 0 (by decide) (hts _ tw603) (fun _ h9 => h9) rfl dX8_command_190 ?_
        refine lv_aload_n hx hb dX8_command_193 rfl (lv_at hl 5 rfl) ?_
        refine va_get (D := g.1) (ci := 7) (v := .ref (a 7)) (C := RX8) (T := TX8) (N := 30) hx hb hts inX8 hown hK hP 0 rfl rfl 11 (by decide) (hts _ tw614) (fun _ h9 => h9) rfl dX8_command_194 ?_
        refine lv_iload hx hb dX8_command_197 (lv_at hl 0 rfl) ?_
        refine fr_iald (k := (4 + k)) hx hb hK hP 7 1 rfl rfl (by omega) (by decide) dX8_command_199 ?_
        refine lv_aload_n hx hb dX8_command_200 rfl (lv_at hl 5 rfl) ?_
        refine va_get (D := g.1) (ci := 7) (v := .ref (a 10)) (C := RX8) (T := TX8) (N := 30) hx hb hts inX8 hown hK hP 0 rfl rfl 14 (by decide) (hts _ tw617) (fun _ h9 => h9) rfl dX8_command_201 ?_
        refine lv_iload hx hb dX8_command_204 (lv_at hl 0 rfl) ?_
        refine fr_iald (k := (4 + k)) hx hb hK hP 10 1 rfl rfl (by omega) (by decide) dX8_command_206 ?_
        refine lv_iadd hx hb dX8_command_207 ?_
        refine lv_lload_n hx hb dX8_command_208 rfl (lv_at hl 3 rfl) ?_
        refine lv_bipush (v := 8) hx hb dX8_command_209 (by decide) ?_
        refine lv_lshr hx hb dX8_command_211 rfl ?_
        refine lv_ldc2 hx hb hown (hts _ tw794) dX8_command_212 ?_
        refine lv_land hx hb dX8_command_215 ?_
        refine fr_topl (y := (cId (mAt (z_mem ρ) (z_T ρ 1 j + z_T ρ 3 j * 4))).toInt64) (sh8 _) ?_
        refine lv_iload_n hx hb dX8_command_216 rfl (lv_at hl 6 rfl) ?_
        refine lv_i2l hx hb dX8_command_217 rfl ?_
        refine lv_bipush (v := 16) hx hb dX8_command_218 (by decide) ?_
        refine lv_lshl hx hb dX8_command_220 rfl ?_
        refine lv_lor hx hb dX8_command_221 ?_
        refine lv_aload_n hx hb dX8_command_222 rfl (lv_at hl 5 rfl) ?_
        refine va_get (D := g.1) (ci := 7) (v := .ref (a 9)) (C := RX8) (T := TX8) (N := 30) hx hb hts inX8 hown hK hP 0 rfl rfl 13 (by decide) (hts _ tw616) (fun _ h9 => h9) rfl dX8_command_223 ?_
        refine lv_iload_n hx hb dX8_command_226 rfl (lv_at hl 6 rfl) ?_
        refine fr_iald (k := j) hx hb hK hP 9 1 rfl rfl (by omega) (by decide) dX8_command_227 ?_
        refine lv_i2l hx hb dX8_command_228 rfl ?_
        refine lv_bipush (v := 20) hx hb dX8_command_229 (by decide) ?_
        refine lv_lshl hx hb dX8_command_231 rfl ?_
        refine lv_lor hx hb dX8_command_232 ?_
        refine lv_iload hx hb dX8_command_233 (lv_at hl 2 rfl) ?_
        refine lv_i2l hx hb dX8_command_235 rfl ?_
        refine lv_bipush (v := 28) hx hb dX8_command_236 (by decide) ?_
        refine lv_lshl hx hb dX8_command_238 rfl ?_
        refine lv_lor hx hb dX8_command_239 ?_
        refine lv_aload_n hx hb dX8_command_240 rfl (lv_at hl 5 rfl) ?_
        refine va_get (D := g.1) (ci := 7) (v := .ref (a 12)) (C := RX8) (T := TX8) (N := 30) hx hb hts inX8 hown hK hP 0 rfl rfl 16 (by decide) (hts _ tw619) (fun _ h9 => h9) rfl dX8_command_241 ?_
        refine lv_iload hx hb dX8_command_244 (lv_at hl 1 rfl) ?_
        refine fr_iald (k := k) hx hb hK hP 12 1 rfl rfl (by omega) (by decide) dX8_command_246 ?_
        refine lv_i2l hx hb dX8_command_247 rfl ?_
        refine lv_bipush (v := 36) hx hb dX8_command_248 (by decide) ?_
        refine lv_lshl hx hb dX8_command_250 rfl ?_
        refine lv_lor hx hb dX8_command_251 ?_
        refine lv_aload_n hx hb dX8_command_252 rfl (lv_at hl 5 rfl) ?_
        refine va_get (D := g.1) (ci := 7) (v := .long (z_re s1)) (C := RX8) (T := TX8) (N := 30) hx hb hts inX8 hown hK hP 0 rfl rfl 24 (by decide) (hts _ tw627) (fun _ h9 => h9) rfl dX8_command_253 ?_
        refine lv_bipush (v := 40) hx hb dX8_command_256 (by decide) ?_
        refine lv_lshl hx hb dX8_command_258 rfl ?_
        refine lv_lor hx hb dX8_command_259 ?_
        refine va_last hx hb hK hP hD hS 1 0 rfl rfl (hol_in hd2) dX8_command_260 (fun H locs hP hD hS => ?_)
        have hP : va_P g.1 vwCl (rfW g a (vp_updL (z_mem s1) (((((z_T s1) 1) (4 + k)) + (((z_T s1) 4) (4 + k))).toNatClampNeg) (((((((cId (mAt (z_mem ρ) (z_T ρ 1 j + z_T ρ 3 j * 4))).toInt64) ||| (((nI j).toInt64) <<< ((16 : Int32).toInt64 &&& 63))) ||| (((((z_T s1) 3) j).toInt64) <<< ((20 : Int32).toInt64 &&& 63))) ||| (((q_op ρ j).toInt64) <<< ((28 : Int32).toInt64 &&& 63))) ||| (((((z_T s1) 6) k).toInt64) <<< ((36 : Int32).toInt64 &&& 63))) ||| ((z_re s1) <<< ((40 : Int32).toInt64 &&& 63)))) (z_R s1) (z_cb s1) (z_nc s1) (z_tu s1) (z_bi s1) (z_cg s1) (z_on s1) (z_T s1) (z_dn s1 + 1) (z_fa s1) (z_br s1) (z_bs s1) (z_cp s1) (z_cq s1) (z_cx s1) (z_re s1) (z_n s1) (z_op s1) (z_fg s1) sp1_142 (z_one s1)) H := hP
        have hD : va_D A (rfW g a (vp_updL (z_mem s1) (((((z_T s1) 1) (4 + k)) + (((z_T s1) 4) (4 + k))).toNatClampNeg) (((((((cId (mAt (z_mem ρ) (z_T ρ 1 j + z_T ρ 3 j * 4))).toInt64) ||| (((nI j).toInt64) <<< ((16 : Int32).toInt64 &&& 63))) ||| (((((z_T s1) 3) j).toInt64) <<< ((20 : Int32).toInt64 &&& 63))) ||| (((q_op ρ j).toInt64) <<< ((28 : Int32).toInt64 &&& 63))) ||| (((((z_T s1) 6) k).toInt64) <<< ((36 : Int32).toInt64 &&& 63))) ||| ((z_re s1) <<< ((40 : Int32).toInt64 &&& 63)))) (z_R s1) (z_cb s1) (z_nc s1) (z_tu s1) (z_bi s1) (z_cg s1) (z_on s1) (z_T s1) (z_dn s1 + 1) (z_fa s1) (z_br s1) (z_bs s1) (z_cp s1) (z_cq s1) (z_cx s1) (z_re s1) (z_n s1) (z_op s1) (z_fg s1) sp1_142 (z_one s1)) := hD
        rw [show vp_updL (z_mem s1) (((((z_T s1) 1) (4 + k)) + (((z_T s1) 4) (4 + k))).toNatClampNeg) (((((((cId (mAt (z_mem ρ) (z_T ρ 1 j + z_T ρ 3 j * 4))).toInt64) ||| (((nI j).toInt64) <<< ((16 : Int32).toInt64 &&& 63))) ||| (((((z_T s1) 3) j).toInt64) <<< ((20 : Int32).toInt64 &&& 63))) ||| (((q_op ρ j).toInt64) <<< ((28 : Int32).toInt64 &&& 63))) ||| (((((z_T s1) 6) k).toInt64) <<< ((36 : Int32).toInt64 &&& 63))) ||| ((z_re s1) <<< ((40 : Int32).toInt64 &&& 63))) = mPut (z_mem s1) (z_T s1 1 (4 + k) + z_T s1 4 (4 + k)) (((((((cId (mAt (z_mem ρ) (z_T ρ 1 j + z_T ρ 3 j * 4))).toInt64) ||| (((nI j).toInt64) <<< ((16 : Int32).toInt64 &&& 63))) ||| (((((z_T s1) 3) j).toInt64) <<< ((20 : Int32).toInt64 &&& 63))) ||| (((q_op ρ j).toInt64) <<< ((28 : Int32).toInt64 &&& 63))) ||| (((((z_T s1) 6) k).toInt64) <<< ((36 : Int32).toInt64 &&& 63))) ||| ((z_re s1) <<< ((40 : Int32).toInt64 &&& 63))) from (if_pos hd2).symm] at hP hD
        refine lv_aload_n hx hb dX8_command_261 rfl (lv_at hl 5 rfl) ?_
        refine va_get (D := g.1) (ci := 7) (v := .ref (a 10)) (C := RX8) (T := TX8) (N := 30) hx hb hts inX8 hown hK hP 0 rfl rfl 14 (by decide) (hts _ tw617) (fun _ h9 => h9) rfl dX8_command_262 ?_
        refine lv_iload hx hb dX8_command_265 (lv_at hl 0 rfl) ?_
        refine lv_dup2_11 hx hb dX8_command_267 rfl rfl ?_
        refine fr_iald (k := (4 + k)) hx hb hK hP 10 1 rfl rfl (by omega) (by decide) dX8_command_268 ?_
        refine lv_iconst (v := 1) hx hb dX8_command_269 (by decide) ?_
        refine lv_iadd hx hb dX8_command_270 ?_
        refine fr_iast (k := (4 + k)) hx hb hK hP hD hS 10 1 rfl rfl (by omega) (by decide) dX8_command_271 (fun H locs hP hD hS => ?_)
        have hP : va_P g.1 vwCl (rfW g a (mPut (z_mem s1) (z_T s1 1 (4 + k) + z_T s1 4 (4 + k)) (((((((cId (mAt (z_mem ρ) (z_T ρ 1 j + z_T ρ 3 j * 4))).toInt64) ||| (((nI j).toInt64) <<< ((16 : Int32).toInt64 &&& 63))) ||| (((((z_T s1) 3) j).toInt64) <<< ((20 : Int32).toInt64 &&& 63))) ||| (((q_op ρ j).toInt64) <<< ((28 : Int32).toInt64 &&& 63))) ||| (((((z_T s1) 6) k).toInt64) <<< ((36 : Int32).toInt64 &&& 63))) ||| ((z_re s1) <<< ((40 : Int32).toInt64 &&& 63)))) (z_R s1) (z_cb s1) (z_nc s1) (z_tu s1) (z_bi s1) (z_cg s1) (z_on s1) (up2 (z_T s1) 4 (4 + k) ((((z_T s1) 4) (4 + k)) + 1)) (z_dn s1 + 1) (z_fa s1) (z_br s1) (z_bs s1) (z_cp s1) (z_cq s1) (z_cx s1) (z_re s1) (z_n s1) (z_op s1) (z_fg s1) sp1_142 (z_one s1)) H := fr_eqP rfT_4 hP
        have hD : va_D A (rfW g a (mPut (z_mem s1) (z_T s1 1 (4 + k) + z_T s1 4 (4 + k)) (((((((cId (mAt (z_mem ρ) (z_T ρ 1 j + z_T ρ 3 j * 4))).toInt64) ||| (((nI j).toInt64) <<< ((16 : Int32).toInt64 &&& 63))) ||| (((((z_T s1) 3) j).toInt64) <<< ((20 : Int32).toInt64 &&& 63))) ||| (((q_op ρ j).toInt64) <<< ((28 : Int32).toInt64 &&& 63))) ||| (((((z_T s1) 6) k).toInt64) <<< ((36 : Int32).toInt64 &&& 63))) ||| ((z_re s1) <<< ((40 : Int32).toInt64 &&& 63)))) (z_R s1) (z_cb s1) (z_nc s1) (z_tu s1) (z_bi s1) (z_cg s1) (z_on s1) (up2 (z_T s1) 4 (4 + k) ((((z_T s1) 4) (4 + k)) + 1)) (z_dn s1 + 1) (z_fa s1) (z_br s1) (z_bs s1) (z_cp s1) (z_cq s1) (z_cx s1) (z_re s1) (z_n s1) (z_op s1) (z_fg s1) sp1_142 (z_one s1)) := fr_eqD rfT_4 hD
        refine lv_aload_n hx hb dX8_command_272 rfl (lv_at hl 5 rfl) ?_
        refine va_get (D := g.1) (ci := 7) (v := .ref (a 10)) (C := RX8) (T := TX8) (N := 30) hx hb hts inX8 hown hK hP 0 rfl rfl 14 (by decide) (hts _ tw617) (fun _ h9 => h9) rfl dX8_command_273 ?_
        refine lv_iload hx hb dX8_command_276 (lv_at hl 0 rfl) ?_
        refine fr_iald (k := (4 + k)) hx hb hK hP 10 1 rfl rfl (by omega) (by decide) dX8_command_278 ?_
        refine lv_aload_n hx hb dX8_command_279 rfl (lv_at hl 5 rfl) ?_
        refine va_get (D := g.1) (ci := 7) (v := .ref (a 8)) (C := RX8) (T := TX8) (N := 30) hx hb hts inX8 hown hK hP 0 rfl rfl 12 (by decide) (hts _ tw615) (fun _ h9 => h9) rfl dX8_command_280 ?_
        refine lv_iload hx hb dX8_command_283 (lv_at hl 0 rfl) ?_
        refine fr_iald (k := (4 + k)) hx hb hK hP 8 1 rfl rfl (by omega) (by decide) dX8_command_285 ?_
        refine lv_icmp_ne (tgt := 308) hx hb dX8_command_286 (by decide) (fun c286 => ?_) (fun c286 => ?_)
        · rw [show up2 (z_T s1) 4 (4 + k) ((((z_T s1) 4) (4 + k)) + 1) = advC (z_T s1) k from adv_f hQk (fun q => c286 (by rw [up2_eq, up2_ne (Or.inl (by decide))]; exact q))] at hP hD
          refine lv_aload_n hx hb dX8_command_308 rfl (lv_at hl 5 rfl) ?_
          refine va_get (D := g.1) (ci := 7) (v := .ref (a 6)) (C := RX8) (T := TX8) (N := 30) hx hb hts inX8 hown hK hP 0 rfl rfl 10 (by decide) (hts _ tw613) (fun _ h9 => h9) rfl dX8_command_309 ?_
          refine lv_iload hx hb dX8_command_312 (lv_at hl 1 rfl) ?_
          refine fr_zald (k := k) hx hb hK hP 6 2 rfl rfl (by omega) (by decide) dX8_command_314 ?_
          refine lv_if_eq (tgt := 331) hx hb dX8_command_315 (by decide) (fun c315 => ?_) (fun c315 => ?_)
          · refine W.widen (k := 1) (n := 8) (Nat.le_of_ble_eq_true rfl) (Nat.le_of_ble_eq_true rfl) ?_
            exact W.vret hx hb hr (fun t ht _ => ⟨⟨none, rfW g a (mPut (z_mem s1) (z_T s1 1 (4 + k) + z_T s1 4 (4 + k)) (((((((cId (mAt (z_mem ρ) (z_T ρ 1 j + z_T ρ 3 j * 4))).toInt64) ||| (((nI j).toInt64) <<< ((16 : Int32).toInt64 &&& 63))) ||| (((((z_T s1) 3) j).toInt64) <<< ((20 : Int32).toInt64 &&& 63))) ||| (((q_op ρ j).toInt64) <<< ((28 : Int32).toInt64 &&& 63))) ||| (((((z_T s1) 6) k).toInt64) <<< ((36 : Int32).toInt64 &&& 63))) ||| ((z_re s1) <<< ((40 : Int32).toInt64 &&& 63)))) (z_R s1) (z_cb s1) (z_nc s1) (z_tu s1) (z_bi s1) (z_cg s1) (z_on s1) (advC (z_T s1) k) (z_dn s1 + 1) (z_fa s1) (z_br s1) (z_bs s1) (z_cp s1) (z_cq s1) (z_cx s1) (z_re s1) (z_n s1) (z_op s1) (z_fg s1) sp1_142 (z_one s1), rfl, ⟨sp1_142, trivial, rfl, by rw [h_cmd, ← hs2, e6, h_cnt, if_pos c163, h_ans, if_pos (show advC (z_T s1) k 7 k = 0 from c315)] <;> rfl⟩, rfl, by rw [ht]; exact hP⟩, hS.F ht⟩) hS.2.2 dX8_command_331
          · refine lv_aload_n hx hb dX8_command_318 rfl (lv_at hl 5 rfl) ?_
            refine lv_dup hx hb dX8_command_319 rfl ?_
            refine va_get (D := g.1) (ci := 7) (v := .int (z_bi s1)) (C := RX8) (T := TX8) (N := 30) hx hb hts inX8 hown hK hP 0 rfl rfl 6 (by decide) (hts _ tw609) (fun _ h9 => h9) rfl dX8_command_320 ?_
            refine lv_iconst (v := 1) hx hb dX8_command_323 (by decide) ?_
            refine lv_iload hx hb dX8_command_324 (lv_at hl 1 rfl) ?_
            refine lv_ishl hx hb dX8_command_326 ?_
            refine lv_ior hx hb dX8_command_327 ?_
            refine va_put (D := g.1) (ci := 7) (v := .int ((z_bi s1) ||| (1 <<< ((nI k) &&& 31)))) (ty := .int) (C := RX8) (T := TX8) (N := 30) hx hb hts inX8 tyX8 tyX8_ok nmX8 hown hK hP hD hS 0 rfl rfl 6 (by decide) (hts _ tw609) (fun _ h9 => h9) rfl (by decide +kernel) rfl rfl (Nat.le_of_ble_eq_true rfl) dX8_command_328 (fun H locs hP hD hS => ?_)
            have hP : va_P g.1 vwCl (rfW g a (mPut (z_mem s1) (z_T s1 1 (4 + k) + z_T s1 4 (4 + k)) (((((((cId (mAt (z_mem ρ) (z_T ρ 1 j + z_T ρ 3 j * 4))).toInt64) ||| (((nI j).toInt64) <<< ((16 : Int32).toInt64 &&& 63))) ||| (((((z_T s1) 3) j).toInt64) <<< ((20 : Int32).toInt64 &&& 63))) ||| (((q_op ρ j).toInt64) <<< ((28 : Int32).toInt64 &&& 63))) ||| (((((z_T s1) 6) k).toInt64) <<< ((36 : Int32).toInt64 &&& 63))) ||| ((z_re s1) <<< ((40 : Int32).toInt64 &&& 63)))) (z_R s1) (z_cb s1) (z_nc s1) (z_tu s1) ((z_bi s1) ||| (1 <<< ((nI k) &&& 31))) (z_cg s1) (z_on s1) (advC (z_T s1) k) (z_dn s1 + 1) (z_fa s1) (z_br s1) (z_bs s1) (z_cp s1) (z_cq s1) (z_cx s1) (z_re s1) (z_n s1) (z_op s1) (z_fg s1) sp1_142 (z_one s1)) H := hP
            have hD : va_D A (rfW g a (mPut (z_mem s1) (z_T s1 1 (4 + k) + z_T s1 4 (4 + k)) (((((((cId (mAt (z_mem ρ) (z_T ρ 1 j + z_T ρ 3 j * 4))).toInt64) ||| (((nI j).toInt64) <<< ((16 : Int32).toInt64 &&& 63))) ||| (((((z_T s1) 3) j).toInt64) <<< ((20 : Int32).toInt64 &&& 63))) ||| (((q_op ρ j).toInt64) <<< ((28 : Int32).toInt64 &&& 63))) ||| (((((z_T s1) 6) k).toInt64) <<< ((36 : Int32).toInt64 &&& 63))) ||| ((z_re s1) <<< ((40 : Int32).toInt64 &&& 63)))) (z_R s1) (z_cb s1) (z_nc s1) (z_tu s1) ((z_bi s1) ||| (1 <<< ((nI k) &&& 31))) (z_cg s1) (z_on s1) (advC (z_T s1) k) (z_dn s1 + 1) (z_fa s1) (z_br s1) (z_bs s1) (z_cp s1) (z_cq s1) (z_cx s1) (z_re s1) (z_n s1) (z_op s1) (z_fg s1) sp1_142 (z_one s1)) := hD
            refine W.widen (k := 1) (n := 8) (Nat.le_of_ble_eq_true rfl) (Nat.le_of_ble_eq_true rfl) ?_
            exact W.vret hx hb hr (fun t ht _ => ⟨⟨none, rfW g a (mPut (z_mem s1) (z_T s1 1 (4 + k) + z_T s1 4 (4 + k)) (((((((cId (mAt (z_mem ρ) (z_T ρ 1 j + z_T ρ 3 j * 4))).toInt64) ||| (((nI j).toInt64) <<< ((16 : Int32).toInt64 &&& 63))) ||| (((((z_T s1) 3) j).toInt64) <<< ((20 : Int32).toInt64 &&& 63))) ||| (((q_op ρ j).toInt64) <<< ((28 : Int32).toInt64 &&& 63))) ||| (((((z_T s1) 6) k).toInt64) <<< ((36 : Int32).toInt64 &&& 63))) ||| ((z_re s1) <<< ((40 : Int32).toInt64 &&& 63)))) (z_R s1) (z_cb s1) (z_nc s1) (z_tu s1) ((z_bi s1) ||| (1 <<< ((nI k) &&& 31))) (z_cg s1) (z_on s1) (advC (z_T s1) k) (z_dn s1 + 1) (z_fa s1) (z_br s1) (z_bs s1) (z_cp s1) (z_cq s1) (z_cx s1) (z_re s1) (z_n s1) (z_op s1) (z_fg s1) sp1_142 (z_one s1), rfl, ⟨sp1_142, trivial, rfl, by rw [h_cmd, ← hs2, e6, h_cnt, if_pos c163, h_ans, if_neg (show ¬ advC (z_T s1) k 7 k = 0 from c315)] <;> rfl⟩, rfl, by rw [ht]; exact hP⟩, hS.F ht⟩) hS.2.2 dX8_command_331
        · refine lv_aload_n hx hb dX8_command_289 rfl (lv_at hl 5 rfl) ?_
          refine va_get (D := g.1) (ci := 7) (v := .ref (a 10)) (C := RX8) (T := TX8) (N := 30) hx hb hts inX8 hown hK hP 0 rfl rfl 14 (by decide) (hts _ tw617) (fun _ h9 => h9) rfl dX8_command_290 ?_
          refine lv_iload hx hb dX8_command_293 (lv_at hl 0 rfl) ?_
          refine lv_iconst (v := 0) hx hb dX8_command_295 (by decide) ?_
          refine fr_iast (k := (4 + k)) hx hb hK hP hD hS 10 1 rfl rfl (by omega) (by decide) dX8_command_296 (fun H locs hP hD hS => ?_)
          have hP : va_P g.1 vwCl (rfW g a (mPut (z_mem s1) (z_T s1 1 (4 + k) + z_T s1 4 (4 + k)) (((((((cId (mAt (z_mem ρ) (z_T ρ 1 j + z_T ρ 3 j * 4))).toInt64) ||| (((nI j).toInt64) <<< ((16 : Int32).toInt64 &&& 63))) ||| (((((z_T s1) 3) j).toInt64) <<< ((20 : Int32).toInt64 &&& 63))) ||| (((q_op ρ j).toInt64) <<< ((28 : Int32).toInt64 &&& 63))) ||| (((((z_T s1) 6) k).toInt64) <<< ((36 : Int32).toInt64 &&& 63))) ||| ((z_re s1) <<< ((40 : Int32).toInt64 &&& 63)))) (z_R s1) (z_cb s1) (z_nc s1) (z_tu s1) (z_bi s1) (z_cg s1) (z_on s1) (up2 (up2 (z_T s1) 4 (4 + k) ((((z_T s1) 4) (4 + k)) + 1)) 4 (4 + k) 0) (z_dn s1 + 1) (z_fa s1) (z_br s1) (z_bs s1) (z_cp s1) (z_cq s1) (z_cx s1) (z_re s1) (z_n s1) (z_op s1) (z_fg s1) sp1_142 (z_one s1)) H := fr_eqP rfT_4 hP
          have hD : va_D A (rfW g a (mPut (z_mem s1) (z_T s1 1 (4 + k) + z_T s1 4 (4 + k)) (((((((cId (mAt (z_mem ρ) (z_T ρ 1 j + z_T ρ 3 j * 4))).toInt64) ||| (((nI j).toInt64) <<< ((16 : Int32).toInt64 &&& 63))) ||| (((((z_T s1) 3) j).toInt64) <<< ((20 : Int32).toInt64 &&& 63))) ||| (((q_op ρ j).toInt64) <<< ((28 : Int32).toInt64 &&& 63))) ||| (((((z_T s1) 6) k).toInt64) <<< ((36 : Int32).toInt64 &&& 63))) ||| ((z_re s1) <<< ((40 : Int32).toInt64 &&& 63)))) (z_R s1) (z_cb s1) (z_nc s1) (z_tu s1) (z_bi s1) (z_cg s1) (z_on s1) (up2 (up2 (z_T s1) 4 (4 + k) ((((z_T s1) 4) (4 + k)) + 1)) 4 (4 + k) 0) (z_dn s1 + 1) (z_fa s1) (z_br s1) (z_bs s1) (z_cp s1) (z_cq s1) (z_cx s1) (z_re s1) (z_n s1) (z_op s1) (z_fg s1) sp1_142 (z_one s1)) := fr_eqD rfT_4 hD
          refine lv_aload_n hx hb dX8_command_297 rfl (lv_at hl 5 rfl) ?_
          refine va_get (D := g.1) (ci := 7) (v := .ref (a 12)) (C := RX8) (T := TX8) (N := 30) hx hb hts inX8 hown hK hP 0 rfl rfl 16 (by decide) (hts _ tw619) (fun _ h9 => h9) rfl dX8_command_298 ?_
          refine lv_iload hx hb dX8_command_301 (lv_at hl 1 rfl) ?_
          refine lv_dup2_11 hx hb dX8_command_303 rfl rfl ?_
          refine fr_iald (k := k) hx hb hK hP 12 1 rfl rfl (by omega) (by decide) dX8_command_304 ?_
          refine lv_iconst (v := 1) hx hb dX8_command_305 (by decide) ?_
          refine lv_ixor hx hb dX8_command_306 ?_
          refine fr_iast (k := k) hx hb hK hP hD hS 12 1 rfl rfl (by omega) (by decide) dX8_command_307 (fun H locs hP hD hS => ?_)
          have hP : va_P g.1 vwCl (rfW g a (mPut (z_mem s1) (z_T s1 1 (4 + k) + z_T s1 4 (4 + k)) (((((((cId (mAt (z_mem ρ) (z_T ρ 1 j + z_T ρ 3 j * 4))).toInt64) ||| (((nI j).toInt64) <<< ((16 : Int32).toInt64 &&& 63))) ||| (((((z_T s1) 3) j).toInt64) <<< ((20 : Int32).toInt64 &&& 63))) ||| (((q_op ρ j).toInt64) <<< ((28 : Int32).toInt64 &&& 63))) ||| (((((z_T s1) 6) k).toInt64) <<< ((36 : Int32).toInt64 &&& 63))) ||| ((z_re s1) <<< ((40 : Int32).toInt64 &&& 63)))) (z_R s1) (z_cb s1) (z_nc s1) (z_tu s1) (z_bi s1) (z_cg s1) (z_on s1) (up2 (up2 (up2 (z_T s1) 4 (4 + k) ((((z_T s1) 4) (4 + k)) + 1)) 4 (4 + k) 0) 6 k ((((up2 (up2 (z_T s1) 4 (4 + k) ((((z_T s1) 4) (4 + k)) + 1)) 4 (4 + k) 0) 6) k) ^^^ 1)) (z_dn s1 + 1) (z_fa s1) (z_br s1) (z_bs s1) (z_cp s1) (z_cq s1) (z_cx s1) (z_re s1) (z_n s1) (z_op s1) (z_fg s1) sp1_142 (z_one s1)) H := fr_eqP rfT_6 hP
          have hD : va_D A (rfW g a (mPut (z_mem s1) (z_T s1 1 (4 + k) + z_T s1 4 (4 + k)) (((((((cId (mAt (z_mem ρ) (z_T ρ 1 j + z_T ρ 3 j * 4))).toInt64) ||| (((nI j).toInt64) <<< ((16 : Int32).toInt64 &&& 63))) ||| (((((z_T s1) 3) j).toInt64) <<< ((20 : Int32).toInt64 &&& 63))) ||| (((q_op ρ j).toInt64) <<< ((28 : Int32).toInt64 &&& 63))) ||| (((((z_T s1) 6) k).toInt64) <<< ((36 : Int32).toInt64 &&& 63))) ||| ((z_re s1) <<< ((40 : Int32).toInt64 &&& 63)))) (z_R s1) (z_cb s1) (z_nc s1) (z_tu s1) (z_bi s1) (z_cg s1) (z_on s1) (up2 (up2 (up2 (z_T s1) 4 (4 + k) ((((z_T s1) 4) (4 + k)) + 1)) 4 (4 + k) 0) 6 k ((((up2 (up2 (z_T s1) 4 (4 + k) ((((z_T s1) 4) (4 + k)) + 1)) 4 (4 + k) 0) 6) k) ^^^ 1)) (z_dn s1 + 1) (z_fa s1) (z_br s1) (z_bs s1) (z_cp s1) (z_cq s1) (z_cx s1) (z_re s1) (z_n s1) (z_op s1) (z_fg s1) sp1_142 (z_one s1)) := fr_eqD rfT_6 hD
          rw [show up2 (up2 (up2 (z_T s1) 4 (4 + k) ((((z_T s1) 4) (4 + k)) + 1)) 4 (4 + k) 0) 6 k ((((up2 (up2 (z_T s1) 4 (4 + k) ((((z_T s1) 4) (4 + k)) + 1)) 4 (4 + k) 0) 6) k) ^^^ 1) = advC (z_T s1) k from adv_t' hQk h6 c286] at hP hD
          refine lv_aload_n hx hb dX8_command_308 rfl (lv_at hl 5 rfl) ?_
          refine va_get (D := g.1) (ci := 7) (v := .ref (a 6)) (C := RX8) (T := TX8) (N := 30) hx hb hts inX8 hown hK hP 0 rfl rfl 10 (by decide) (hts _ tw613) (fun _ h9 => h9) rfl dX8_command_309 ?_
          refine lv_iload hx hb dX8_command_312 (lv_at hl 1 rfl) ?_
          refine fr_zald (k := k) hx hb hK hP 6 2 rfl rfl (by omega) (by decide) dX8_command_314 ?_
          refine lv_if_eq (tgt := 331) hx hb dX8_command_315 (by decide) (fun c315 => ?_) (fun c315 => ?_)
          · refine W.widen (k := 1) (n := 8) (Nat.le_of_ble_eq_true rfl) (Nat.le_of_ble_eq_true rfl) ?_
            exact W.vret hx hb hr (fun t ht _ => ⟨⟨none, rfW g a (mPut (z_mem s1) (z_T s1 1 (4 + k) + z_T s1 4 (4 + k)) (((((((cId (mAt (z_mem ρ) (z_T ρ 1 j + z_T ρ 3 j * 4))).toInt64) ||| (((nI j).toInt64) <<< ((16 : Int32).toInt64 &&& 63))) ||| (((((z_T s1) 3) j).toInt64) <<< ((20 : Int32).toInt64 &&& 63))) ||| (((q_op ρ j).toInt64) <<< ((28 : Int32).toInt64 &&& 63))) ||| (((((z_T s1) 6) k).toInt64) <<< ((36 : Int32).toInt64 &&& 63))) ||| ((z_re s1) <<< ((40 : Int32).toInt64 &&& 63)))) (z_R s1) (z_cb s1) (z_nc s1) (z_tu s1) (z_bi s1) (z_cg s1) (z_on s1) (advC (z_T s1) k) (z_dn s1 + 1) (z_fa s1) (z_br s1) (z_bs s1) (z_cp s1) (z_cq s1) (z_cx s1) (z_re s1) (z_n s1) (z_op s1) (z_fg s1) sp1_142 (z_one s1), rfl, ⟨sp1_142, trivial, rfl, by rw [h_cmd, ← hs2, e6, h_cnt, if_pos c163, h_ans, if_pos (show advC (z_T s1) k 7 k = 0 from c315)] <;> rfl⟩, rfl, by rw [ht]; exact hP⟩, hS.F ht⟩) hS.2.2 dX8_command_331
          · refine lv_aload_n hx hb dX8_command_318 rfl (lv_at hl 5 rfl) ?_
            refine lv_dup hx hb dX8_command_319 rfl ?_
            refine va_get (D := g.1) (ci := 7) (v := .int (z_bi s1)) (C := RX8) (T := TX8) (N := 30) hx hb hts inX8 hown hK hP 0 rfl rfl 6 (by decide) (hts _ tw609) (fun _ h9 => h9) rfl dX8_command_320 ?_
            refine lv_iconst (v := 1) hx hb dX8_command_323 (by decide) ?_
            refine lv_iload hx hb dX8_command_324 (lv_at hl 1 rfl) ?_
            refine lv_ishl hx hb dX8_command_326 ?_
            refine lv_ior hx hb dX8_command_327 ?_
            refine va_put (D := g.1) (ci := 7) (v := .int ((z_bi s1) ||| (1 <<< ((nI k) &&& 31)))) (ty := .int) (C := RX8) (T := TX8) (N := 30) hx hb hts inX8 tyX8 tyX8_ok nmX8 hown hK hP hD hS 0 rfl rfl 6 (by decide) (hts _ tw609) (fun _ h9 => h9) rfl (by decide +kernel) rfl rfl (Nat.le_of_ble_eq_true rfl) dX8_command_328 (fun H locs hP hD hS => ?_)
            have hP : va_P g.1 vwCl (rfW g a (mPut (z_mem s1) (z_T s1 1 (4 + k) + z_T s1 4 (4 + k)) (((((((cId (mAt (z_mem ρ) (z_T ρ 1 j + z_T ρ 3 j * 4))).toInt64) ||| (((nI j).toInt64) <<< ((16 : Int32).toInt64 &&& 63))) ||| (((((z_T s1) 3) j).toInt64) <<< ((20 : Int32).toInt64 &&& 63))) ||| (((q_op ρ j).toInt64) <<< ((28 : Int32).toInt64 &&& 63))) ||| (((((z_T s1) 6) k).toInt64) <<< ((36 : Int32).toInt64 &&& 63))) ||| ((z_re s1) <<< ((40 : Int32).toInt64 &&& 63)))) (z_R s1) (z_cb s1) (z_nc s1) (z_tu s1) ((z_bi s1) ||| (1 <<< ((nI k) &&& 31))) (z_cg s1) (z_on s1) (advC (z_T s1) k) (z_dn s1 + 1) (z_fa s1) (z_br s1) (z_bs s1) (z_cp s1) (z_cq s1) (z_cx s1) (z_re s1) (z_n s1) (z_op s1) (z_fg s1) sp1_142 (z_one s1)) H := hP
            have hD : va_D A (rfW g a (mPut (z_mem s1) (z_T s1 1 (4 + k) + z_T s1 4 (4 + k)) (((((((cId (mAt (z_mem ρ) (z_T ρ 1 j + z_T ρ 3 j * 4))).toInt64) ||| (((nI j).toInt64) <<< ((16 : Int32).toInt64 &&& 63))) ||| (((((z_T s1) 3) j).toInt64) <<< ((20 : Int32).toInt64 &&& 63))) ||| (((q_op ρ j).toInt64) <<< ((28 : Int32).toInt64 &&& 63))) ||| (((((z_T s1) 6) k).toInt64) <<< ((36 : Int32).toInt64 &&& 63))) ||| ((z_re s1) <<< ((40 : Int32).toInt64 &&& 63)))) (z_R s1) (z_cb s1) (z_nc s1) (z_tu s1) ((z_bi s1) ||| (1 <<< ((nI k) &&& 31))) (z_cg s1) (z_on s1) (advC (z_T s1) k) (z_dn s1 + 1) (z_fa s1) (z_br s1) (z_bs s1) (z_cp s1) (z_cq s1) (z_cx s1) (z_re s1) (z_n s1) (z_op s1) (z_fg s1) sp1_142 (z_one s1)) := hD
            refine W.widen (k := 1) (n := 8) (Nat.le_of_ble_eq_true rfl) (Nat.le_of_ble_eq_true rfl) ?_
            exact W.vret hx hb hr (fun t ht _ => ⟨⟨none, rfW g a (mPut (z_mem s1) (z_T s1 1 (4 + k) + z_T s1 4 (4 + k)) (((((((cId (mAt (z_mem ρ) (z_T ρ 1 j + z_T ρ 3 j * 4))).toInt64) ||| (((nI j).toInt64) <<< ((16 : Int32).toInt64 &&& 63))) ||| (((((z_T s1) 3) j).toInt64) <<< ((20 : Int32).toInt64 &&& 63))) ||| (((q_op ρ j).toInt64) <<< ((28 : Int32).toInt64 &&& 63))) ||| (((((z_T s1) 6) k).toInt64) <<< ((36 : Int32).toInt64 &&& 63))) ||| ((z_re s1) <<< ((40 : Int32).toInt64 &&& 63)))) (z_R s1) (z_cb s1) (z_nc s1) (z_tu s1) ((z_bi s1) ||| (1 <<< ((nI k) &&& 31))) (z_cg s1) (z_on s1) (advC (z_T s1) k) (z_dn s1 + 1) (z_fa s1) (z_br s1) (z_bs s1) (z_cp s1) (z_cq s1) (z_cx s1) (z_re s1) (z_n s1) (z_op s1) (z_fg s1) sp1_142 (z_one s1), rfl, ⟨sp1_142, trivial, rfl, by rw [h_cmd, ← hs2, e6, h_cnt, if_pos c163, h_ans, if_neg (show ¬ advC (z_T s1) k 7 k = 0 from c315)] <;> rfl⟩, rfl, by rw [ht]; exact hP⟩, hS.F ht⟩) hS.2.2 dX8_command_331
    · have c131 := (nI_eq (a := j) (b := 0) (by omega) (by omega)).mp c131
      refine lv_aload_n hx hb dX8_command_134 rfl (lv_at hl 2 rfl) ?_
      refine fr_goA (va_runV (As := []) (rest := []) ⟨hx, hb, hml, hown, hts⟩ (kX8_admin l g a (w_fg (w_op (w_n (w_re (w_cx (w_cq (w_cp (w_T ρ (up2 (z_T ρ) 3 j (bhd (z_T ρ 2 j) (z_T ρ 3 j)))) (mAt (z_mem ρ) (z_T ρ 1 j + z_T ρ 3 j * 4 + 1))) (mAt (z_mem ρ) (z_T ρ 1 j + z_T ρ 3 j * 4 + 2))) (mAt (z_mem ρ) (z_T ρ 1 j + z_T ρ 3 j * 4 + 3))) 0) (cNn (mAt (z_mem ρ) (z_T ρ 1 j + z_T ρ 3 j * 4)))) (cOp (mAt (z_mem ρ) (z_T ρ 1 j + z_T ρ 3 j * 4)))) (bI (cFg (mAt (z_mem ρ) (z_T ρ 1 j + z_T ρ 3 j * 4))))) (show z_nc ρ ≤ 7 by omega) hR hn1.1 hn1.2 bI_z H.size) (cwV 0 hts (gdV tw765 tw767 tp34 tw9 tw768) rfl rfl rfl (by decide +kernel) ⟨Nat.le_of_ble_eq_true rfl, Nat.le_of_ble_eq_true rfl⟩) ⟨Pst.blind, va_recv hK hP (ci := 7) (q0 := 0) rfl rfl, fr_preA hK hP hD⟩ rfl rfl hl.1 rfl (lv_room (Nat.le_of_ble_eq_true rfl)) dX8_command_135 ⟨Nat.le_of_ble_eq_true rfl, Nat.le_of_ble_eq_true rfl⟩) hD hS hA (fun v w9 H locs hq hP hD hS => ?_)
      obtain ⟨sp1_135, hsp_135, rfl, rfl⟩ := hq
      obtain ⟨s1, hs1⟩ : ∃ z9 : RS, z9 = h_adm (w_fg (w_op (w_n (w_re (w_cx (w_cq (w_cp (w_T ρ (up2 (z_T ρ) 3 j (bhd (z_T ρ 2 j) (z_T ρ 3 j)))) (mAt (z_mem ρ) (z_T ρ 1 j + z_T ρ 3 j * 4 + 1))) (mAt (z_mem ρ) (z_T ρ 1 j + z_T ρ 3 j * 4 + 2))) (mAt (z_mem ρ) (z_T ρ 1 j + z_T ρ 3 j * 4 + 3))) 0) (cNn (mAt (z_mem ρ) (z_T ρ 1 j + z_T ρ 3 j * 4)))) (cOp (mAt (z_mem ρ) (z_T ρ 1 j + z_T ρ 3 j * 4)))) (bI (cFg (mAt (z_mem ρ) (z_T ρ 1 j + z_T ρ 3 j * 4))))) := ⟨_, rfl⟩
      rw [← hs1] at hP hD
      have hP : va_P g.1 vwCl (rfW g a (z_mem s1) (z_R s1) (z_cb s1) (z_nc s1) (z_tu s1) (z_bi s1) (z_cg s1) (z_on s1) (z_T s1) (z_dn s1) (z_fa s1) (z_br s1) (z_bs s1) (z_cp s1) (z_cq s1) (z_cx s1) (z_re s1) (z_n s1) (z_op s1) (z_fg s1) sp1_135 (z_one s1)) H := hP
      have hD : va_D A (rfW g a (z_mem s1) (z_R s1) (z_cb s1) (z_nc s1) (z_tu s1) (z_bi s1) (z_cg s1) (z_on s1) (z_T s1) (z_dn s1) (z_fa s1) (z_br s1) (z_bs s1) (z_cp s1) (z_cq s1) (z_cx s1) (z_re s1) (z_n s1) (z_op s1) (z_fg s1) sp1_135 (z_one s1)) := hD
      show W p l e _ s m _ below meth c H locs _ _ _ (F0 m (135 + 3) ls (.int (q_adm (w_fg (w_op (w_n (w_re (w_cx (w_cq (w_cp (w_T ρ (up2 (z_T ρ) 3 j (bhd (z_T ρ 2 j) (z_T ρ 3 j)))) (mAt (z_mem ρ) (z_T ρ 1 j + z_T ρ 3 j * 4 + 1))) (mAt (z_mem ρ) (z_T ρ 1 j + z_T ρ 3 j * 4 + 2))) (mAt (z_mem ρ) (z_T ρ 1 j + z_T ρ 3 j * 4 + 3))) 0) (cNn (mAt (z_mem ρ) (z_T ρ 1 j + z_T ρ 3 j * 4)))) (cOp (mAt (z_mem ρ) (z_T ρ 1 j + z_T ρ 3 j * 4)))) (bI (cFg (mAt (z_mem ρ) (z_T ρ 1 j + z_T ρ 3 j * 4)))))) :: []))
      refine fr_topi (y := q_op ρ j) (if_pos c131).symm ?_
      refine lv_goto (tgt := 145) hx hb dX8_command_138 (by decide) ?_
      have hs2 : s1 = h_op ρ j := by rw [hs1]; exact (if_pos c131).symm
      obtain ⟨hT2, h02⟩ : TI (z_T s1) ∧ ¬ z_T s1 0 j = 0 := by rw [hs2]; exact hop_TI hT hr9
      obtain ⟨hQ2, k, hk, e5, h5⟩ := hT2.1 j hj h02
      obtain ⟨hQk, h6⟩ := hT2.2.1 k hk h5
      have hd2 := QI_hol4 hQk
      have e6 : (z_T s1 5 j).toNatClampNeg = k := by rw [e5]; exact nI_clamp (by omega)
      refine lv_istore (lv' := [(5, .int (q_op ρ j)), (3, .long (mAt (z_mem ρ) (z_T ρ 1 j + z_T ρ 3 j * 4))), (2, .int (z_T ρ 1 j + z_T ρ 3 j * 4)), (0, .ref (a 0)), (1, .int (nI j))]) hx hb dX8_command_145 hl (by decide) rfl (fun ls hl => ?_)
      refine lv_aload_n hx hb dX8_command_147 rfl (lv_at hl 3 rfl) ?_
      refine va_get (D := g.1) (ci := 7) (v := .ref (a 11)) (C := RX8) (T := TX8) (N := 30) hx hb hts inX8 hown hK hP 0 rfl rfl 15 (by decide) (hts _ tw618) (fun _ h9 => h9) rfl dX8_command_148 ?_
      refine lv_iload_n hx hb dX8_command_151 rfl (lv_at hl 4 rfl) ?_
      refine fr_iald (k := j) hx hb hK hP 11 1 rfl rfl (by omega) (by decide) dX8_command_152 ?_
      refine fr_topi (y := nI k) e5 ?_
      refine lv_istore (lv' := [(6, .int (nI k)), (5, .int (q_op ρ j)), (3, .long (mAt (z_mem ρ) (z_T ρ 1 j + z_T ρ 3 j * 4))), (2, .int (z_T ρ 1 j + z_T ρ 3 j * 4)), (0, .ref (a 0)), (1, .int (nI j))]) hx hb dX8_command_153 hl (by decide) rfl (fun ls hl => ?_)
      refine lv_iconst (v := 4) hx hb dX8_command_155 (by decide) ?_
      refine lv_iload hx hb dX8_command_156 (lv_at hl 0 rfl) ?_
      refine lv_iadd hx hb dX8_command_158 ?_
      refine fr_topi (y := nI (4 + k)) (nI_add 4 k) ?_
      refine lv_istore (lv' := [(7, .int (nI (4 + k))), (6, .int (nI k)), (5, .int (q_op ρ j)), (3, .long (mAt (z_mem ρ) (z_T ρ 1 j + z_T ρ 3 j * 4))), (2, .int (z_T ρ 1 j + z_T ρ 3 j * 4)), (0, .ref (a 0)), (1, .int (nI j))]) hx hb dX8_command_159 hl (by decide) rfl (fun ls hl => ?_)
      refine lv_iload hx hb dX8_command_161 (lv_at hl 2 rfl) ?_
      refine lv_if_ne (tgt := 179) hx hb dX8_command_163 (by decide) (fun c163 => ?_) (fun c163 => ?_)
      · refine lv_aload_n hx hb dX8_command_179 rfl (lv_at hl 5 rfl) ?_
        refine lv_dup hx hb dX8_command_180 rfl ?_
        refine va_get (D := g.1) (ci := 7) (v := .long (lN (z_fa s1))) (C := RX8) (T := TX8) (N := 30) hx hb hts inX8 hown hK hP 0 rfl rfl 18 (by decide) (hts _ tw621) (fun _ h9 => h9) rfl dX8_command_181 ?_
        refine lv_lconst (v := 1) hx hb dX8_command_184 (by decide) ?_
        refine lv_ladd hx hb dX8_command_185 ?_
        refine fr_topl (y := lN (z_fa s1 + 1)) (lN_1 _) ?_
        refine va_put (D := g.1) (ci := 7) (v := .long (lN (z_fa s1 + 1))) (ty := .long) (C := RX8) (T := TX8) (N := 30) hx hb hts inX8 tyX8 tyX8_ok nmX8 hown hK hP hD hS 0 rfl rfl 18 (by decide) (hts _ tw621) (fun _ h9 => h9) rfl (by decide +kernel) rfl rfl (Nat.le_of_ble_eq_true rfl) dX8_command_186 (fun H locs hP hD hS => ?_)
        have hP : va_P g.1 vwCl (rfW g a (z_mem s1) (z_R s1) (z_cb s1) (z_nc s1) (z_tu s1) (z_bi s1) (z_cg s1) (z_on s1) (z_T s1) (z_dn s1) (z_fa s1 + 1) (z_br s1) (z_bs s1) (z_cp s1) (z_cq s1) (z_cx s1) (z_re s1) (z_n s1) (z_op s1) (z_fg s1) sp1_135 (z_one s1)) H := hP
        have hD : va_D A (rfW g a (z_mem s1) (z_R s1) (z_cb s1) (z_nc s1) (z_tu s1) (z_bi s1) (z_cg s1) (z_on s1) (z_T s1) (z_dn s1) (z_fa s1 + 1) (z_br s1) (z_bs s1) (z_cp s1) (z_cq s1) (z_cx s1) (z_re s1) (z_n s1) (z_op s1) (z_fg s1) sp1_135 (z_one s1)) := hD
        refine lv_aload_n hx hb dX8_command_189 rfl (lv_at hl 5 rfl) ?_
        refine va_get (D := g.1) (ci := 7) (v := .ref (a 1)) (C := RX8) (T := TX8) (N := 30) hx hb hts inX8 hown hK hP 0 rfl rfl 0 (by decide) (hts _ tw603) (fun _ h9 => h9) rfl dX8_command_190 ?_
        refine lv_aload_n hx hb dX8_command_193 rfl (lv_at hl 5 rfl) ?_
        refine va_get (D := g.1) (ci := 7) (v := .ref (a 7)) (C := RX8) (T := TX8) (N := 30) hx hb hts inX8 hown hK hP 0 rfl rfl 11 (by decide) (hts _ tw614) (fun _ h9 => h9) rfl dX8_command_194 ?_
        refine lv_iload hx hb dX8_command_197 (lv_at hl 0 rfl) ?_
        refine fr_iald (k := (4 + k)) hx hb hK hP 7 1 rfl rfl (by omega) (by decide) dX8_command_199 ?_
        refine lv_aload_n hx hb dX8_command_200 rfl (lv_at hl 5 rfl) ?_
        refine va_get (D := g.1) (ci := 7) (v := .ref (a 10)) (C := RX8) (T := TX8) (N := 30) hx hb hts inX8 hown hK hP 0 rfl rfl 14 (by decide) (hts _ tw617) (fun _ h9 => h9) rfl dX8_command_201 ?_
        refine lv_iload hx hb dX8_command_204 (lv_at hl 0 rfl) ?_
        refine fr_iald (k := (4 + k)) hx hb hK hP 10 1 rfl rfl (by omega) (by decide) dX8_command_206 ?_
        refine lv_iadd hx hb dX8_command_207 ?_
        refine lv_lload_n hx hb dX8_command_208 rfl (lv_at hl 3 rfl) ?_
        refine lv_bipush (v := 8) hx hb dX8_command_209 (by decide) ?_
        refine lv_lshr hx hb dX8_command_211 rfl ?_
        refine lv_ldc2 hx hb hown (hts _ tw794) dX8_command_212 ?_
        refine lv_land hx hb dX8_command_215 ?_
        refine fr_topl (y := (cId (mAt (z_mem ρ) (z_T ρ 1 j + z_T ρ 3 j * 4))).toInt64) (sh8 _) ?_
        refine lv_iload_n hx hb dX8_command_216 rfl (lv_at hl 6 rfl) ?_
        refine lv_i2l hx hb dX8_command_217 rfl ?_
        refine lv_bipush (v := 16) hx hb dX8_command_218 (by decide) ?_
        refine lv_lshl hx hb dX8_command_220 rfl ?_
        refine lv_lor hx hb dX8_command_221 ?_
        refine lv_aload_n hx hb dX8_command_222 rfl (lv_at hl 5 rfl) ?_
        refine va_get (D := g.1) (ci := 7) (v := .ref (a 9)) (C := RX8) (T := TX8) (N := 30) hx hb hts inX8 hown hK hP 0 rfl rfl 13 (by decide) (hts _ tw616) (fun _ h9 => h9) rfl dX8_command_223 ?_
        refine lv_iload_n hx hb dX8_command_226 rfl (lv_at hl 6 rfl) ?_
        refine fr_iald (k := j) hx hb hK hP 9 1 rfl rfl (by omega) (by decide) dX8_command_227 ?_
        refine lv_i2l hx hb dX8_command_228 rfl ?_
        refine lv_bipush (v := 20) hx hb dX8_command_229 (by decide) ?_
        refine lv_lshl hx hb dX8_command_231 rfl ?_
        refine lv_lor hx hb dX8_command_232 ?_
        refine lv_iload hx hb dX8_command_233 (lv_at hl 2 rfl) ?_
        refine lv_i2l hx hb dX8_command_235 rfl ?_
        refine lv_bipush (v := 28) hx hb dX8_command_236 (by decide) ?_
        refine lv_lshl hx hb dX8_command_238 rfl ?_
        refine lv_lor hx hb dX8_command_239 ?_
        refine lv_aload_n hx hb dX8_command_240 rfl (lv_at hl 5 rfl) ?_
        refine va_get (D := g.1) (ci := 7) (v := .ref (a 12)) (C := RX8) (T := TX8) (N := 30) hx hb hts inX8 hown hK hP 0 rfl rfl 16 (by decide) (hts _ tw619) (fun _ h9 => h9) rfl dX8_command_241 ?_
        refine lv_iload hx hb dX8_command_244 (lv_at hl 1 rfl) ?_
        refine fr_iald (k := k) hx hb hK hP 12 1 rfl rfl (by omega) (by decide) dX8_command_246 ?_
        refine lv_i2l hx hb dX8_command_247 rfl ?_
        refine lv_bipush (v := 36) hx hb dX8_command_248 (by decide) ?_
        refine lv_lshl hx hb dX8_command_250 rfl ?_
        refine lv_lor hx hb dX8_command_251 ?_
        refine lv_aload_n hx hb dX8_command_252 rfl (lv_at hl 5 rfl) ?_
        refine va_get (D := g.1) (ci := 7) (v := .long (z_re s1)) (C := RX8) (T := TX8) (N := 30) hx hb hts inX8 hown hK hP 0 rfl rfl 24 (by decide) (hts _ tw627) (fun _ h9 => h9) rfl dX8_command_253 ?_
        refine lv_bipush (v := 40) hx hb dX8_command_256 (by decide) ?_
        refine lv_lshl hx hb dX8_command_258 rfl ?_
        refine lv_lor hx hb dX8_command_259 ?_
        refine va_last hx hb hK hP hD hS 1 0 rfl rfl (hol_in hd2) dX8_command_260 (fun H locs hP hD hS => ?_)
        have hP : va_P g.1 vwCl (rfW g a (vp_updL (z_mem s1) (((((z_T s1) 1) (4 + k)) + (((z_T s1) 4) (4 + k))).toNatClampNeg) (((((((cId (mAt (z_mem ρ) (z_T ρ 1 j + z_T ρ 3 j * 4))).toInt64) ||| (((nI j).toInt64) <<< ((16 : Int32).toInt64 &&& 63))) ||| (((((z_T s1) 3) j).toInt64) <<< ((20 : Int32).toInt64 &&& 63))) ||| (((q_op ρ j).toInt64) <<< ((28 : Int32).toInt64 &&& 63))) ||| (((((z_T s1) 6) k).toInt64) <<< ((36 : Int32).toInt64 &&& 63))) ||| ((z_re s1) <<< ((40 : Int32).toInt64 &&& 63)))) (z_R s1) (z_cb s1) (z_nc s1) (z_tu s1) (z_bi s1) (z_cg s1) (z_on s1) (z_T s1) (z_dn s1) (z_fa s1 + 1) (z_br s1) (z_bs s1) (z_cp s1) (z_cq s1) (z_cx s1) (z_re s1) (z_n s1) (z_op s1) (z_fg s1) sp1_135 (z_one s1)) H := hP
        have hD : va_D A (rfW g a (vp_updL (z_mem s1) (((((z_T s1) 1) (4 + k)) + (((z_T s1) 4) (4 + k))).toNatClampNeg) (((((((cId (mAt (z_mem ρ) (z_T ρ 1 j + z_T ρ 3 j * 4))).toInt64) ||| (((nI j).toInt64) <<< ((16 : Int32).toInt64 &&& 63))) ||| (((((z_T s1) 3) j).toInt64) <<< ((20 : Int32).toInt64 &&& 63))) ||| (((q_op ρ j).toInt64) <<< ((28 : Int32).toInt64 &&& 63))) ||| (((((z_T s1) 6) k).toInt64) <<< ((36 : Int32).toInt64 &&& 63))) ||| ((z_re s1) <<< ((40 : Int32).toInt64 &&& 63)))) (z_R s1) (z_cb s1) (z_nc s1) (z_tu s1) (z_bi s1) (z_cg s1) (z_on s1) (z_T s1) (z_dn s1) (z_fa s1 + 1) (z_br s1) (z_bs s1) (z_cp s1) (z_cq s1) (z_cx s1) (z_re s1) (z_n s1) (z_op s1) (z_fg s1) sp1_135 (z_one s1)) := hD
        rw [show vp_updL (z_mem s1) (((((z_T s1) 1) (4 + k)) + (((z_T s1) 4) (4 + k))).toNatClampNeg) (((((((cId (mAt (z_mem ρ) (z_T ρ 1 j + z_T ρ 3 j * 4))).toInt64) ||| (((nI j).toInt64) <<< ((16 : Int32).toInt64 &&& 63))) ||| (((((z_T s1) 3) j).toInt64) <<< ((20 : Int32).toInt64 &&& 63))) ||| (((q_op ρ j).toInt64) <<< ((28 : Int32).toInt64 &&& 63))) ||| (((((z_T s1) 6) k).toInt64) <<< ((36 : Int32).toInt64 &&& 63))) ||| ((z_re s1) <<< ((40 : Int32).toInt64 &&& 63))) = mPut (z_mem s1) (z_T s1 1 (4 + k) + z_T s1 4 (4 + k)) (((((((cId (mAt (z_mem ρ) (z_T ρ 1 j + z_T ρ 3 j * 4))).toInt64) ||| (((nI j).toInt64) <<< ((16 : Int32).toInt64 &&& 63))) ||| (((((z_T s1) 3) j).toInt64) <<< ((20 : Int32).toInt64 &&& 63))) ||| (((q_op ρ j).toInt64) <<< ((28 : Int32).toInt64 &&& 63))) ||| (((((z_T s1) 6) k).toInt64) <<< ((36 : Int32).toInt64 &&& 63))) ||| ((z_re s1) <<< ((40 : Int32).toInt64 &&& 63))) from (if_pos hd2).symm] at hP hD
        refine lv_aload_n hx hb dX8_command_261 rfl (lv_at hl 5 rfl) ?_
        refine va_get (D := g.1) (ci := 7) (v := .ref (a 10)) (C := RX8) (T := TX8) (N := 30) hx hb hts inX8 hown hK hP 0 rfl rfl 14 (by decide) (hts _ tw617) (fun _ h9 => h9) rfl dX8_command_262 ?_
        refine lv_iload hx hb dX8_command_265 (lv_at hl 0 rfl) ?_
        refine lv_dup2_11 hx hb dX8_command_267 rfl rfl ?_
        refine fr_iald (k := (4 + k)) hx hb hK hP 10 1 rfl rfl (by omega) (by decide) dX8_command_268 ?_
        refine lv_iconst (v := 1) hx hb dX8_command_269 (by decide) ?_
        refine lv_iadd hx hb dX8_command_270 ?_
        refine fr_iast (k := (4 + k)) hx hb hK hP hD hS 10 1 rfl rfl (by omega) (by decide) dX8_command_271 (fun H locs hP hD hS => ?_)
        have hP : va_P g.1 vwCl (rfW g a (mPut (z_mem s1) (z_T s1 1 (4 + k) + z_T s1 4 (4 + k)) (((((((cId (mAt (z_mem ρ) (z_T ρ 1 j + z_T ρ 3 j * 4))).toInt64) ||| (((nI j).toInt64) <<< ((16 : Int32).toInt64 &&& 63))) ||| (((((z_T s1) 3) j).toInt64) <<< ((20 : Int32).toInt64 &&& 63))) ||| (((q_op ρ j).toInt64) <<< ((28 : Int32).toInt64 &&& 63))) ||| (((((z_T s1) 6) k).toInt64) <<< ((36 : Int32).toInt64 &&& 63))) ||| ((z_re s1) <<< ((40 : Int32).toInt64 &&& 63)))) (z_R s1) (z_cb s1) (z_nc s1) (z_tu s1) (z_bi s1) (z_cg s1) (z_on s1) (up2 (z_T s1) 4 (4 + k) ((((z_T s1) 4) (4 + k)) + 1)) (z_dn s1) (z_fa s1 + 1) (z_br s1) (z_bs s1) (z_cp s1) (z_cq s1) (z_cx s1) (z_re s1) (z_n s1) (z_op s1) (z_fg s1) sp1_135 (z_one s1)) H := fr_eqP rfT_4 hP
        have hD : va_D A (rfW g a (mPut (z_mem s1) (z_T s1 1 (4 + k) + z_T s1 4 (4 + k)) (((((((cId (mAt (z_mem ρ) (z_T ρ 1 j + z_T ρ 3 j * 4))).toInt64) ||| (((nI j).toInt64) <<< ((16 : Int32).toInt64 &&& 63))) ||| (((((z_T s1) 3) j).toInt64) <<< ((20 : Int32).toInt64 &&& 63))) ||| (((q_op ρ j).toInt64) <<< ((28 : Int32).toInt64 &&& 63))) ||| (((((z_T s1) 6) k).toInt64) <<< ((36 : Int32).toInt64 &&& 63))) ||| ((z_re s1) <<< ((40 : Int32).toInt64 &&& 63)))) (z_R s1) (z_cb s1) (z_nc s1) (z_tu s1) (z_bi s1) (z_cg s1) (z_on s1) (up2 (z_T s1) 4 (4 + k) ((((z_T s1) 4) (4 + k)) + 1)) (z_dn s1) (z_fa s1 + 1) (z_br s1) (z_bs s1) (z_cp s1) (z_cq s1) (z_cx s1) (z_re s1) (z_n s1) (z_op s1) (z_fg s1) sp1_135 (z_one s1)) := fr_eqD rfT_4 hD
        refine lv_aload_n hx hb dX8_command_272 rfl (lv_at hl 5 rfl) ?_
        refine va_get (D := g.1) (ci := 7) (v := .ref (a 10)) (C := RX8) (T := TX8) (N := 30) hx hb hts inX8 hown hK hP 0 rfl rfl 14 (by decide) (hts _ tw617) (fun _ h9 => h9) rfl dX8_command_273 ?_
        refine lv_iload hx hb dX8_command_276 (lv_at hl 0 rfl) ?_
        refine fr_iald (k := (4 + k)) hx hb hK hP 10 1 rfl rfl (by omega) (by decide) dX8_command_278 ?_
        refine lv_aload_n hx hb dX8_command_279 rfl (lv_at hl 5 rfl) ?_
        refine va_get (D := g.1) (ci := 7) (v := .ref (a 8)) (C := RX8) (T := TX8) (N := 30) hx hb hts inX8 hown hK hP 0 rfl rfl 12 (by decide) (hts _ tw615) (fun _ h9 => h9) rfl dX8_command_280 ?_
        refine lv_iload hx hb dX8_command_283 (lv_at hl 0 rfl) ?_
        refine fr_iald (k := (4 + k)) hx hb hK hP 8 1 rfl rfl (by omega) (by decide) dX8_command_285 ?_
        refine lv_icmp_ne (tgt := 308) hx hb dX8_command_286 (by decide) (fun c286 => ?_) (fun c286 => ?_)
        · rw [show up2 (z_T s1) 4 (4 + k) ((((z_T s1) 4) (4 + k)) + 1) = advC (z_T s1) k from adv_f hQk (fun q => c286 (by rw [up2_eq, up2_ne (Or.inl (by decide))]; exact q))] at hP hD
          refine lv_aload_n hx hb dX8_command_308 rfl (lv_at hl 5 rfl) ?_
          refine va_get (D := g.1) (ci := 7) (v := .ref (a 6)) (C := RX8) (T := TX8) (N := 30) hx hb hts inX8 hown hK hP 0 rfl rfl 10 (by decide) (hts _ tw613) (fun _ h9 => h9) rfl dX8_command_309 ?_
          refine lv_iload hx hb dX8_command_312 (lv_at hl 1 rfl) ?_
          refine fr_zald (k := k) hx hb hK hP 6 2 rfl rfl (by omega) (by decide) dX8_command_314 ?_
          refine lv_if_eq (tgt := 331) hx hb dX8_command_315 (by decide) (fun c315 => ?_) (fun c315 => ?_)
          · refine W.widen (k := 1) (n := 8) (Nat.le_of_ble_eq_true rfl) (Nat.le_of_ble_eq_true rfl) ?_
            exact W.vret hx hb hr (fun t ht _ => ⟨⟨none, rfW g a (mPut (z_mem s1) (z_T s1 1 (4 + k) + z_T s1 4 (4 + k)) (((((((cId (mAt (z_mem ρ) (z_T ρ 1 j + z_T ρ 3 j * 4))).toInt64) ||| (((nI j).toInt64) <<< ((16 : Int32).toInt64 &&& 63))) ||| (((((z_T s1) 3) j).toInt64) <<< ((20 : Int32).toInt64 &&& 63))) ||| (((q_op ρ j).toInt64) <<< ((28 : Int32).toInt64 &&& 63))) ||| (((((z_T s1) 6) k).toInt64) <<< ((36 : Int32).toInt64 &&& 63))) ||| ((z_re s1) <<< ((40 : Int32).toInt64 &&& 63)))) (z_R s1) (z_cb s1) (z_nc s1) (z_tu s1) (z_bi s1) (z_cg s1) (z_on s1) (advC (z_T s1) k) (z_dn s1) (z_fa s1 + 1) (z_br s1) (z_bs s1) (z_cp s1) (z_cq s1) (z_cx s1) (z_re s1) (z_n s1) (z_op s1) (z_fg s1) sp1_135 (z_one s1), rfl, ⟨sp1_135, trivial, rfl, by rw [h_cmd, ← hs2, e6, h_cnt, if_neg c163, h_ans, if_pos (show advC (z_T s1) k 7 k = 0 from c315)] <;> rfl⟩, rfl, by rw [ht]; exact hP⟩, hS.F ht⟩) hS.2.2 dX8_command_331
          · refine lv_aload_n hx hb dX8_command_318 rfl (lv_at hl 5 rfl) ?_
            refine lv_dup hx hb dX8_command_319 rfl ?_
            refine va_get (D := g.1) (ci := 7) (v := .int (z_bi s1)) (C := RX8) (T := TX8) (N := 30) hx hb hts inX8 hown hK hP 0 rfl rfl 6 (by decide) (hts _ tw609) (fun _ h9 => h9) rfl dX8_command_320 ?_
            refine lv_iconst (v := 1) hx hb dX8_command_323 (by decide) ?_
            refine lv_iload hx hb dX8_command_324 (lv_at hl 1 rfl) ?_
            refine lv_ishl hx hb dX8_command_326 ?_
            refine lv_ior hx hb dX8_command_327 ?_
            refine va_put (D := g.1) (ci := 7) (v := .int ((z_bi s1) ||| (1 <<< ((nI k) &&& 31)))) (ty := .int) (C := RX8) (T := TX8) (N := 30) hx hb hts inX8 tyX8 tyX8_ok nmX8 hown hK hP hD hS 0 rfl rfl 6 (by decide) (hts _ tw609) (fun _ h9 => h9) rfl (by decide +kernel) rfl rfl (Nat.le_of_ble_eq_true rfl) dX8_command_328 (fun H locs hP hD hS => ?_)
            have hP : va_P g.1 vwCl (rfW g a (mPut (z_mem s1) (z_T s1 1 (4 + k) + z_T s1 4 (4 + k)) (((((((cId (mAt (z_mem ρ) (z_T ρ 1 j + z_T ρ 3 j * 4))).toInt64) ||| (((nI j).toInt64) <<< ((16 : Int32).toInt64 &&& 63))) ||| (((((z_T s1) 3) j).toInt64) <<< ((20 : Int32).toInt64 &&& 63))) ||| (((q_op ρ j).toInt64) <<< ((28 : Int32).toInt64 &&& 63))) ||| (((((z_T s1) 6) k).toInt64) <<< ((36 : Int32).toInt64 &&& 63))) ||| ((z_re s1) <<< ((40 : Int32).toInt64 &&& 63)))) (z_R s1) (z_cb s1) (z_nc s1) (z_tu s1) ((z_bi s1) ||| (1 <<< ((nI k) &&& 31))) (z_cg s1) (z_on s1) (advC (z_T s1) k) (z_dn s1) (z_fa s1 + 1) (z_br s1) (z_bs s1) (z_cp s1) (z_cq s1) (z_cx s1) (z_re s1) (z_n s1) (z_op s1) (z_fg s1) sp1_135 (z_one s1)) H := hP
            have hD : va_D A (rfW g a (mPut (z_mem s1) (z_T s1 1 (4 + k) + z_T s1 4 (4 + k)) (((((((cId (mAt (z_mem ρ) (z_T ρ 1 j + z_T ρ 3 j * 4))).toInt64) ||| (((nI j).toInt64) <<< ((16 : Int32).toInt64 &&& 63))) ||| (((((z_T s1) 3) j).toInt64) <<< ((20 : Int32).toInt64 &&& 63))) ||| (((q_op ρ j).toInt64) <<< ((28 : Int32).toInt64 &&& 63))) ||| (((((z_T s1) 6) k).toInt64) <<< ((36 : Int32).toInt64 &&& 63))) ||| ((z_re s1) <<< ((40 : Int32).toInt64 &&& 63)))) (z_R s1) (z_cb s1) (z_nc s1) (z_tu s1) ((z_bi s1) ||| (1 <<< ((nI k) &&& 31))) (z_cg s1) (z_on s1) (advC (z_T s1) k) (z_dn s1) (z_fa s1 + 1) (z_br s1) (z_bs s1) (z_cp s1) (z_cq s1) (z_cx s1) (z_re s1) (z_n s1) (z_op s1) (z_fg s1) sp1_135 (z_one s1)) := hD
            refine W.widen (k := 1) (n := 8) (Nat.le_of_ble_eq_true rfl) (Nat.le_of_ble_eq_true rfl) ?_
            exact W.vret hx hb hr (fun t ht _ => ⟨⟨none, rfW g a (mPut (z_mem s1) (z_T s1 1 (4 + k) + z_T s1 4 (4 + k)) (((((((cId (mAt (z_mem ρ) (z_T ρ 1 j + z_T ρ 3 j * 4))).toInt64) ||| (((nI j).toInt64) <<< ((16 : Int32).toInt64 &&& 63))) ||| (((((z_T s1) 3) j).toInt64) <<< ((20 : Int32).toInt64 &&& 63))) ||| (((q_op ρ j).toInt64) <<< ((28 : Int32).toInt64 &&& 63))) ||| (((((z_T s1) 6) k).toInt64) <<< ((36 : Int32).toInt64 &&& 63))) ||| ((z_re s1) <<< ((40 : Int32).toInt64 &&& 63)))) (z_R s1) (z_cb s1) (z_nc s1) (z_tu s1) ((z_bi s1) ||| (1 <<< ((nI k) &&& 31))) (z_cg s1) (z_on s1) (advC (z_T s1) k) (z_dn s1) (z_fa s1 + 1) (z_br s1) (z_bs s1) (z_cp s1) (z_cq s1) (z_cx s1) (z_re s1) (z_n s1) (z_op s1) (z_fg s1) sp1_135 (z_one s1), rfl, ⟨sp1_135, trivial, rfl, by rw [h_cmd, ← hs2, e6, h_cnt, if_neg c163, h_ans, if_neg (show ¬ advC (z_T s1) k 7 k = 0 from c315)] <;> rfl⟩, rfl, by rw [ht]; exact hP⟩, hS.F ht⟩) hS.2.2 dX8_command_331
        · refine lv_aload_n hx hb dX8_command_289 rfl (lv_at hl 5 rfl) ?_
          refine va_get (D := g.1) (ci := 7) (v := .ref (a 10)) (C := RX8) (T := TX8) (N := 30) hx hb hts inX8 hown hK hP 0 rfl rfl 14 (by decide) (hts _ tw617) (fun _ h9 => h9) rfl dX8_command_290 ?_
          refine lv_iload hx hb dX8_command_293 (lv_at hl 0 rfl) ?_
          refine lv_iconst (v := 0) hx hb dX8_command_295 (by decide) ?_
          refine fr_iast (k := (4 + k)) hx hb hK hP hD hS 10 1 rfl rfl (by omega) (by decide) dX8_command_296 (fun H locs hP hD hS => ?_)
          have hP : va_P g.1 vwCl (rfW g a (mPut (z_mem s1) (z_T s1 1 (4 + k) + z_T s1 4 (4 + k)) (((((((cId (mAt (z_mem ρ) (z_T ρ 1 j + z_T ρ 3 j * 4))).toInt64) ||| (((nI j).toInt64) <<< ((16 : Int32).toInt64 &&& 63))) ||| (((((z_T s1) 3) j).toInt64) <<< ((20 : Int32).toInt64 &&& 63))) ||| (((q_op ρ j).toInt64) <<< ((28 : Int32).toInt64 &&& 63))) ||| (((((z_T s1) 6) k).toInt64) <<< ((36 : Int32).toInt64 &&& 63))) ||| ((z_re s1) <<< ((40 : Int32).toInt64 &&& 63)))) (z_R s1) (z_cb s1) (z_nc s1) (z_tu s1) (z_bi s1) (z_cg s1) (z_on s1) (up2 (up2 (z_T s1) 4 (4 + k) ((((z_T s1) 4) (4 + k)) + 1)) 4 (4 + k) 0) (z_dn s1) (z_fa s1 + 1) (z_br s1) (z_bs s1) (z_cp s1) (z_cq s1) (z_cx s1) (z_re s1) (z_n s1) (z_op s1) (z_fg s1) sp1_135 (z_one s1)) H := fr_eqP rfT_4 hP
          have hD : va_D A (rfW g a (mPut (z_mem s1) (z_T s1 1 (4 + k) + z_T s1 4 (4 + k)) (((((((cId (mAt (z_mem ρ) (z_T ρ 1 j + z_T ρ 3 j * 4))).toInt64) ||| (((nI j).toInt64) <<< ((16 : Int32).toInt64 &&& 63))) ||| (((((z_T s1) 3) j).toInt64) <<< ((20 : Int32).toInt64 &&& 63))) ||| (((q_op ρ j).toInt64) <<< ((28 : Int32).toInt64 &&& 63))) ||| (((((z_T s1) 6) k).toInt64) <<< ((36 : Int32).toInt64 &&& 63))) ||| ((z_re s1) <<< ((40 : Int32).toInt64 &&& 63)))) (z_R s1) (z_cb s1) (z_nc s1) (z_tu s1) (z_bi s1) (z_cg s1) (z_on s1) (up2 (up2 (z_T s1) 4 (4 + k) ((((z_T s1) 4) (4 + k)) + 1)) 4 (4 + k) 0) (z_dn s1) (z_fa s1 + 1) (z_br s1) (z_bs s1) (z_cp s1) (z_cq s1) (z_cx s1) (z_re s1) (z_n s1) (z_op s1) (z_fg s1) sp1_135 (z_one s1)) := fr_eqD rfT_4 hD
          refine lv_aload_n hx hb dX8_command_297 rfl (lv_at hl 5 rfl) ?_
          refine va_get (D := g.1) (ci := 7) (v := .ref (a 12)) (C := RX8) (T := TX8) (N := 30) hx hb hts inX8 hown hK hP 0 rfl rfl 16 (by decide) (hts _ tw619) (fun _ h9 => h9) rfl dX8_command_298 ?_
          refine lv_iload hx hb dX8_command_301 (lv_at hl 1 rfl) ?_
          refine lv_dup2_11 hx hb dX8_command_303 rfl rfl ?_
          refine fr_iald (k := k) hx hb hK hP 12 1 rfl rfl (by omega) (by decide) dX8_command_304 ?_
          refine lv_iconst (v := 1) hx hb dX8_command_305 (by decide) ?_
          refine lv_ixor hx hb dX8_command_306 ?_
          refine fr_iast (k := k) hx hb hK hP hD hS 12 1 rfl rfl (by omega) (by decide) dX8_command_307 (fun H locs hP hD hS => ?_)
          have hP : va_P g.1 vwCl (rfW g a (mPut (z_mem s1) (z_T s1 1 (4 + k) + z_T s1 4 (4 + k)) (((((((cId (mAt (z_mem ρ) (z_T ρ 1 j + z_T ρ 3 j * 4))).toInt64) ||| (((nI j).toInt64) <<< ((16 : Int32).toInt64 &&& 63))) ||| (((((z_T s1) 3) j).toInt64) <<< ((20 : Int32).toInt64 &&& 63))) ||| (((q_op ρ j).toInt64) <<< ((28 : Int32).toInt64 &&& 63))) ||| (((((z_T s1) 6) k).toInt64) <<< ((36 : Int32).toInt64 &&& 63))) ||| ((z_re s1) <<< ((40 : Int32).toInt64 &&& 63)))) (z_R s1) (z_cb s1) (z_nc s1) (z_tu s1) (z_bi s1) (z_cg s1) (z_on s1) (up2 (up2 (up2 (z_T s1) 4 (4 + k) ((((z_T s1) 4) (4 + k)) + 1)) 4 (4 + k) 0) 6 k ((((up2 (up2 (z_T s1) 4 (4 + k) ((((z_T s1) 4) (4 + k)) + 1)) 4 (4 + k) 0) 6) k) ^^^ 1)) (z_dn s1) (z_fa s1 + 1) (z_br s1) (z_bs s1) (z_cp s1) (z_cq s1) (z_cx s1) (z_re s1) (z_n s1) (z_op s1) (z_fg s1) sp1_135 (z_one s1)) H := fr_eqP rfT_6 hP
          have hD : va_D A (rfW g a (mPut (z_mem s1) (z_T s1 1 (4 + k) + z_T s1 4 (4 + k)) (((((((cId (mAt (z_mem ρ) (z_T ρ 1 j + z_T ρ 3 j * 4))).toInt64) ||| (((nI j).toInt64) <<< ((16 : Int32).toInt64 &&& 63))) ||| (((((z_T s1) 3) j).toInt64) <<< ((20 : Int32).toInt64 &&& 63))) ||| (((q_op ρ j).toInt64) <<< ((28 : Int32).toInt64 &&& 63))) ||| (((((z_T s1) 6) k).toInt64) <<< ((36 : Int32).toInt64 &&& 63))) ||| ((z_re s1) <<< ((40 : Int32).toInt64 &&& 63)))) (z_R s1) (z_cb s1) (z_nc s1) (z_tu s1) (z_bi s1) (z_cg s1) (z_on s1) (up2 (up2 (up2 (z_T s1) 4 (4 + k) ((((z_T s1) 4) (4 + k)) + 1)) 4 (4 + k) 0) 6 k ((((up2 (up2 (z_T s1) 4 (4 + k) ((((z_T s1) 4) (4 + k)) + 1)) 4 (4 + k) 0) 6) k) ^^^ 1)) (z_dn s1) (z_fa s1 + 1) (z_br s1) (z_bs s1) (z_cp s1) (z_cq s1) (z_cx s1) (z_re s1) (z_n s1) (z_op s1) (z_fg s1) sp1_135 (z_one s1)) := fr_eqD rfT_6 hD
          rw [show up2 (up2 (up2 (z_T s1) 4 (4 + k) ((((z_T s1) 4) (4 + k)) + 1)) 4 (4 + k) 0) 6 k ((((up2 (up2 (z_T s1) 4 (4 + k) ((((z_T s1) 4) (4 + k)) + 1)) 4 (4 + k) 0) 6) k) ^^^ 1) = advC (z_T s1) k from adv_t' hQk h6 c286] at hP hD
          refine lv_aload_n hx hb dX8_command_308 rfl (lv_at hl 5 rfl) ?_
          refine va_get (D := g.1) (ci := 7) (v := .ref (a 6)) (C := RX8) (T := TX8) (N := 30) hx hb hts inX8 hown hK hP 0 rfl rfl 10 (by decide) (hts _ tw613) (fun _ h9 => h9) rfl dX8_command_309 ?_
          refine lv_iload hx hb dX8_command_312 (lv_at hl 1 rfl) ?_
          refine fr_zald (k := k) hx hb hK hP 6 2 rfl rfl (by omega) (by decide) dX8_command_314 ?_
          refine lv_if_eq (tgt := 331) hx hb dX8_command_315 (by decide) (fun c315 => ?_) (fun c315 => ?_)
          · refine W.widen (k := 1) (n := 8) (Nat.le_of_ble_eq_true rfl) (Nat.le_of_ble_eq_true rfl) ?_
            exact W.vret hx hb hr (fun t ht _ => ⟨⟨none, rfW g a (mPut (z_mem s1) (z_T s1 1 (4 + k) + z_T s1 4 (4 + k)) (((((((cId (mAt (z_mem ρ) (z_T ρ 1 j + z_T ρ 3 j * 4))).toInt64) ||| (((nI j).toInt64) <<< ((16 : Int32).toInt64 &&& 63))) ||| (((((z_T s1) 3) j).toInt64) <<< ((20 : Int32).toInt64 &&& 63))) ||| (((q_op ρ j).toInt64) <<< ((28 : Int32).toInt64 &&& 63))) ||| (((((z_T s1) 6) k).toInt64) <<< ((36 : Int32).toInt64 &&& 63))) ||| ((z_re s1) <<< ((40 : Int32).toInt64 &&& 63)))) (z_R s1) (z_cb s1) (z_nc s1) (z_tu s1) (z_bi s1) (z_cg s1) (z_on s1) (advC (z_T s1) k) (z_dn s1) (z_fa s1 + 1) (z_br s1) (z_bs s1) (z_cp s1) (z_cq s1) (z_cx s1) (z_re s1) (z_n s1) (z_op s1) (z_fg s1) sp1_135 (z_one s1), rfl, ⟨sp1_135, trivial, rfl, by rw [h_cmd, ← hs2, e6, h_cnt, if_neg c163, h_ans, if_pos (show advC (z_T s1) k 7 k = 0 from c315)] <;> rfl⟩, rfl, by rw [ht]; exact hP⟩, hS.F ht⟩) hS.2.2 dX8_command_331
          · refine lv_aload_n hx hb dX8_command_318 rfl (lv_at hl 5 rfl) ?_
            refine lv_dup hx hb dX8_command_319 rfl ?_
            refine va_get (D := g.1) (ci := 7) (v := .int (z_bi s1)) (C := RX8) (T := TX8) (N := 30) hx hb hts inX8 hown hK hP 0 rfl rfl 6 (by decide) (hts _ tw609) (fun _ h9 => h9) rfl dX8_command_320 ?_
            refine lv_iconst (v := 1) hx hb dX8_command_323 (by decide) ?_
            refine lv_iload hx hb dX8_command_324 (lv_at hl 1 rfl) ?_
            refine lv_ishl hx hb dX8_command_326 ?_
            refine lv_ior hx hb dX8_command_327 ?_
            refine va_put (D := g.1) (ci := 7) (v := .int ((z_bi s1) ||| (1 <<< ((nI k) &&& 31)))) (ty := .int) (C := RX8) (T := TX8) (N := 30) hx hb hts inX8 tyX8 tyX8_ok nmX8 hown hK hP hD hS 0 rfl rfl 6 (by decide) (hts _ tw609) (fun _ h9 => h9) rfl (by decide +kernel) rfl rfl (Nat.le_of_ble_eq_true rfl) dX8_command_328 (fun H locs hP hD hS => ?_)
            have hP : va_P g.1 vwCl (rfW g a (mPut (z_mem s1) (z_T s1 1 (4 + k) + z_T s1 4 (4 + k)) (((((((cId (mAt (z_mem ρ) (z_T ρ 1 j + z_T ρ 3 j * 4))).toInt64) ||| (((nI j).toInt64) <<< ((16 : Int32).toInt64 &&& 63))) ||| (((((z_T s1) 3) j).toInt64) <<< ((20 : Int32).toInt64 &&& 63))) ||| (((q_op ρ j).toInt64) <<< ((28 : Int32).toInt64 &&& 63))) ||| (((((z_T s1) 6) k).toInt64) <<< ((36 : Int32).toInt64 &&& 63))) ||| ((z_re s1) <<< ((40 : Int32).toInt64 &&& 63)))) (z_R s1) (z_cb s1) (z_nc s1) (z_tu s1) ((z_bi s1) ||| (1 <<< ((nI k) &&& 31))) (z_cg s1) (z_on s1) (advC (z_T s1) k) (z_dn s1) (z_fa s1 + 1) (z_br s1) (z_bs s1) (z_cp s1) (z_cq s1) (z_cx s1) (z_re s1) (z_n s1) (z_op s1) (z_fg s1) sp1_135 (z_one s1)) H := hP
            have hD : va_D A (rfW g a (mPut (z_mem s1) (z_T s1 1 (4 + k) + z_T s1 4 (4 + k)) (((((((cId (mAt (z_mem ρ) (z_T ρ 1 j + z_T ρ 3 j * 4))).toInt64) ||| (((nI j).toInt64) <<< ((16 : Int32).toInt64 &&& 63))) ||| (((((z_T s1) 3) j).toInt64) <<< ((20 : Int32).toInt64 &&& 63))) ||| (((q_op ρ j).toInt64) <<< ((28 : Int32).toInt64 &&& 63))) ||| (((((z_T s1) 6) k).toInt64) <<< ((36 : Int32).toInt64 &&& 63))) ||| ((z_re s1) <<< ((40 : Int32).toInt64 &&& 63)))) (z_R s1) (z_cb s1) (z_nc s1) (z_tu s1) ((z_bi s1) ||| (1 <<< ((nI k) &&& 31))) (z_cg s1) (z_on s1) (advC (z_T s1) k) (z_dn s1) (z_fa s1 + 1) (z_br s1) (z_bs s1) (z_cp s1) (z_cq s1) (z_cx s1) (z_re s1) (z_n s1) (z_op s1) (z_fg s1) sp1_135 (z_one s1)) := hD
            refine W.widen (k := 1) (n := 8) (Nat.le_of_ble_eq_true rfl) (Nat.le_of_ble_eq_true rfl) ?_
            exact W.vret hx hb hr (fun t ht _ => ⟨⟨none, rfW g a (mPut (z_mem s1) (z_T s1 1 (4 + k) + z_T s1 4 (4 + k)) (((((((cId (mAt (z_mem ρ) (z_T ρ 1 j + z_T ρ 3 j * 4))).toInt64) ||| (((nI j).toInt64) <<< ((16 : Int32).toInt64 &&& 63))) ||| (((((z_T s1) 3) j).toInt64) <<< ((20 : Int32).toInt64 &&& 63))) ||| (((q_op ρ j).toInt64) <<< ((28 : Int32).toInt64 &&& 63))) ||| (((((z_T s1) 6) k).toInt64) <<< ((36 : Int32).toInt64 &&& 63))) ||| ((z_re s1) <<< ((40 : Int32).toInt64 &&& 63)))) (z_R s1) (z_cb s1) (z_nc s1) (z_tu s1) ((z_bi s1) ||| (1 <<< ((nI k) &&& 31))) (z_cg s1) (z_on s1) (advC (z_T s1) k) (z_dn s1) (z_fa s1 + 1) (z_br s1) (z_bs s1) (z_cp s1) (z_cq s1) (z_cx s1) (z_re s1) (z_n s1) (z_op s1) (z_fg s1) sp1_135 (z_one s1), rfl, ⟨sp1_135, trivial, rfl, by rw [h_cmd, ← hs2, e6, h_cnt, if_neg c163, h_ans, if_neg (show ¬ advC (z_T s1) k 7 k = 0 from c315)] <;> rfl⟩, rfl, by rw [ht]; exact hP⟩, hS.F ht⟩) hS.2.2 dX8_command_331
      · refine lv_aload_n hx hb dX8_command_166 rfl (lv_at hl 5 rfl) ?_
        refine lv_dup hx hb dX8_command_167 rfl ?_
        refine va_get (D := g.1) (ci := 7) (v := .long (lN (z_dn s1))) (C := RX8) (T := TX8) (N := 30) hx hb hts inX8 hown hK hP 0 rfl rfl 17 (by decide) (hts _ tw620) (fun _ h9 => h9) rfl dX8_command_168 ?_
        refine lv_lconst (v := 1) hx hb dX8_command_171 (by decide) ?_
        refine lv_ladd hx hb dX8_command_172 ?_
        refine fr_topl (y := lN (z_dn s1 + 1)) (lN_1 _) ?_
        refine va_put (D := g.1) (ci := 7) (v := .long (lN (z_dn s1 + 1))) (ty := .long) (C := RX8) (T := TX8) (N := 30) hx hb hts inX8 tyX8 tyX8_ok nmX8 hown hK hP hD hS 0 rfl rfl 17 (by decide) (hts _ tw620) (fun _ h9 => h9) rfl (by decide +kernel) rfl rfl (Nat.le_of_ble_eq_true rfl) dX8_command_173 (fun H locs hP hD hS => ?_)
        have hP : va_P g.1 vwCl (rfW g a (z_mem s1) (z_R s1) (z_cb s1) (z_nc s1) (z_tu s1) (z_bi s1) (z_cg s1) (z_on s1) (z_T s1) (z_dn s1 + 1) (z_fa s1) (z_br s1) (z_bs s1) (z_cp s1) (z_cq s1) (z_cx s1) (z_re s1) (z_n s1) (z_op s1) (z_fg s1) sp1_135 (z_one s1)) H := hP
        have hD : va_D A (rfW g a (z_mem s1) (z_R s1) (z_cb s1) (z_nc s1) (z_tu s1) (z_bi s1) (z_cg s1) (z_on s1) (z_T s1) (z_dn s1 + 1) (z_fa s1) (z_br s1) (z_bs s1) (z_cp s1) (z_cq s1) (z_cx s1) (z_re s1) (z_n s1) (z_op s1) (z_fg s1) sp1_135 (z_one s1)) := hD
        refine lv_goto (tgt := 189) hx hb dX8_command_176 (by decide) ?_
        refine lv_aload_n hx hb dX8_command_189 rfl (lv_at hl 5 rfl) ?_
        refine va_get (D := g.1) (ci := 7) (v := .ref (a 1)) (C := RX8) (T := TX8) (N := 30) hx hb hts inX8 hown hK hP 0 rfl rfl 0 (by decide) (hts _ tw603) (fun _ h9 => h9) rfl dX8_command_190 ?_
        refine lv_aload_n hx hb dX8_command_193 rfl (lv_at hl 5 rfl) ?_
        refine va_get (D := g.1) (ci := 7) (v := .ref (a 7)) (C := RX8) (T := TX8) (N := 30) hx hb hts inX8 hown hK hP 0 rfl rfl 11 (by decide) (hts _ tw614) (fun _ h9 => h9) rfl dX8_command_194 ?_
        refine lv_iload hx hb dX8_command_197 (lv_at hl 0 rfl) ?_
        refine fr_iald (k := (4 + k)) hx hb hK hP 7 1 rfl rfl (by omega) (by decide) dX8_command_199 ?_
        refine lv_aload_n hx hb dX8_command_200 rfl (lv_at hl 5 rfl) ?_
        refine va_get (D := g.1) (ci := 7) (v := .ref (a 10)) (C := RX8) (T := TX8) (N := 30) hx hb hts inX8 hown hK hP 0 rfl rfl 14 (by decide) (hts _ tw617) (fun _ h9 => h9) rfl dX8_command_201 ?_
        refine lv_iload hx hb dX8_command_204 (lv_at hl 0 rfl) ?_
        refine fr_iald (k := (4 + k)) hx hb hK hP 10 1 rfl rfl (by omega) (by decide) dX8_command_206 ?_
        refine lv_iadd hx hb dX8_command_207 ?_
        refine lv_lload_n hx hb dX8_command_208 rfl (lv_at hl 3 rfl) ?_
        refine lv_bipush (v := 8) hx hb dX8_command_209 (by decide) ?_
        refine lv_lshr hx hb dX8_command_211 rfl ?_
        refine lv_ldc2 hx hb hown (hts _ tw794) dX8_command_212 ?_
        refine lv_land hx hb dX8_command_215 ?_
        refine fr_topl (y := (cId (mAt (z_mem ρ) (z_T ρ 1 j + z_T ρ 3 j * 4))).toInt64) (sh8 _) ?_
        refine lv_iload_n hx hb dX8_command_216 rfl (lv_at hl 6 rfl) ?_
        refine lv_i2l hx hb dX8_command_217 rfl ?_
        refine lv_bipush (v := 16) hx hb dX8_command_218 (by decide) ?_
        refine lv_lshl hx hb dX8_command_220 rfl ?_
        refine lv_lor hx hb dX8_command_221 ?_
        refine lv_aload_n hx hb dX8_command_222 rfl (lv_at hl 5 rfl) ?_
        refine va_get (D := g.1) (ci := 7) (v := .ref (a 9)) (C := RX8) (T := TX8) (N := 30) hx hb hts inX8 hown hK hP 0 rfl rfl 13 (by decide) (hts _ tw616) (fun _ h9 => h9) rfl dX8_command_223 ?_
        refine lv_iload_n hx hb dX8_command_226 rfl (lv_at hl 6 rfl) ?_
        refine fr_iald (k := j) hx hb hK hP 9 1 rfl rfl (by omega) (by decide) dX8_command_227 ?_
        refine lv_i2l hx hb dX8_command_228 rfl ?_
        refine lv_bipush (v := 20) hx hb dX8_command_229 (by decide) ?_
        refine lv_lshl hx hb dX8_command_231 rfl ?_
        refine lv_lor hx hb dX8_command_232 ?_
        refine lv_iload hx hb dX8_command_233 (lv_at hl 2 rfl) ?_
        refine lv_i2l hx hb dX8_command_235 rfl ?_
        refine lv_bipush (v := 28) hx hb dX8_command_236 (by decide) ?_
        refine lv_lshl hx hb dX8_command_238 rfl ?_
        refine lv_lor hx hb dX8_command_239 ?_
        refine lv_aload_n hx hb dX8_command_240 rfl (lv_at hl 5 rfl) ?_
        refine va_get (D := g.1) (ci := 7) (v := .ref (a 12)) (C := RX8) (T := TX8) (N := 30) hx hb hts inX8 hown hK hP 0 rfl rfl 16 (by decide) (hts _ tw619) (fun _ h9 => h9) rfl dX8_command_241 ?_
        refine lv_iload hx hb dX8_command_244 (lv_at hl 1 rfl) ?_
        refine fr_iald (k := k) hx hb hK hP 12 1 rfl rfl (by omega) (by decide) dX8_command_246 ?_
        refine lv_i2l hx hb dX8_command_247 rfl ?_
        refine lv_bipush (v := 36) hx hb dX8_command_248 (by decide) ?_
        refine lv_lshl hx hb dX8_command_250 rfl ?_
        refine lv_lor hx hb dX8_command_251 ?_
        refine lv_aload_n hx hb dX8_command_252 rfl (lv_at hl 5 rfl) ?_
        refine va_get (D := g.1) (ci := 7) (v := .long (z_re s1)) (C := RX8) (T := TX8) (N := 30) hx hb hts inX8 hown hK hP 0 rfl rfl 24 (by decide) (hts _ tw627) (fun _ h9 => h9) rfl dX8_command_253 ?_
        refine lv_bipush (v := 40) hx hb dX8_command_256 (by decide) ?_
        refine lv_lshl hx hb dX8_command_258 rfl ?_
        refine lv_lor hx hb dX8_command_259 ?_
        refine va_last hx hb hK hP hD hS 1 0 rfl rfl (hol_in hd2) dX8_command_260 (fun H locs hP hD hS => ?_)
        have hP : va_P g.1 vwCl (rfW g a (vp_updL (z_mem s1) (((((z_T s1) 1) (4 + k)) + (((z_T s1) 4) (4 + k))).toNatClampNeg) (((((((cId (mAt (z_mem ρ) (z_T ρ 1 j + z_T ρ 3 j * 4))).toInt64) ||| (((nI j).toInt64) <<< ((16 : Int32).toInt64 &&& 63))) ||| (((((z_T s1) 3) j).toInt64) <<< ((20 : Int32).toInt64 &&& 63))) ||| (((q_op ρ j).toInt64) <<< ((28 : Int32).toInt64 &&& 63))) ||| (((((z_T s1) 6) k).toInt64) <<< ((36 : Int32).toInt64 &&& 63))) ||| ((z_re s1) <<< ((40 : Int32).toInt64 &&& 63)))) (z_R s1) (z_cb s1) (z_nc s1) (z_tu s1) (z_bi s1) (z_cg s1) (z_on s1) (z_T s1) (z_dn s1 + 1) (z_fa s1) (z_br s1) (z_bs s1) (z_cp s1) (z_cq s1) (z_cx s1) (z_re s1) (z_n s1) (z_op s1) (z_fg s1) sp1_135 (z_one s1)) H := hP
        have hD : va_D A (rfW g a (vp_updL (z_mem s1) (((((z_T s1) 1) (4 + k)) + (((z_T s1) 4) (4 + k))).toNatClampNeg) (((((((cId (mAt (z_mem ρ) (z_T ρ 1 j + z_T ρ 3 j * 4))).toInt64) ||| (((nI j).toInt64) <<< ((16 : Int32).toInt64 &&& 63))) ||| (((((z_T s1) 3) j).toInt64) <<< ((20 : Int32).toInt64 &&& 63))) ||| (((q_op ρ j).toInt64) <<< ((28 : Int32).toInt64 &&& 63))) ||| (((((z_T s1) 6) k).toInt64) <<< ((36 : Int32).toInt64 &&& 63))) ||| ((z_re s1) <<< ((40 : Int32).toInt64 &&& 63)))) (z_R s1) (z_cb s1) (z_nc s1) (z_tu s1) (z_bi s1) (z_cg s1) (z_on s1) (z_T s1) (z_dn s1 + 1) (z_fa s1) (z_br s1) (z_bs s1) (z_cp s1) (z_cq s1) (z_cx s1) (z_re s1) (z_n s1) (z_op s1) (z_fg s1) sp1_135 (z_one s1)) := hD
        rw [show vp_updL (z_mem s1) (((((z_T s1) 1) (4 + k)) + (((z_T s1) 4) (4 + k))).toNatClampNeg) (((((((cId (mAt (z_mem ρ) (z_T ρ 1 j + z_T ρ 3 j * 4))).toInt64) ||| (((nI j).toInt64) <<< ((16 : Int32).toInt64 &&& 63))) ||| (((((z_T s1) 3) j).toInt64) <<< ((20 : Int32).toInt64 &&& 63))) ||| (((q_op ρ j).toInt64) <<< ((28 : Int32).toInt64 &&& 63))) ||| (((((z_T s1) 6) k).toInt64) <<< ((36 : Int32).toInt64 &&& 63))) ||| ((z_re s1) <<< ((40 : Int32).toInt64 &&& 63))) = mPut (z_mem s1) (z_T s1 1 (4 + k) + z_T s1 4 (4 + k)) (((((((cId (mAt (z_mem ρ) (z_T ρ 1 j + z_T ρ 3 j * 4))).toInt64) ||| (((nI j).toInt64) <<< ((16 : Int32).toInt64 &&& 63))) ||| (((((z_T s1) 3) j).toInt64) <<< ((20 : Int32).toInt64 &&& 63))) ||| (((q_op ρ j).toInt64) <<< ((28 : Int32).toInt64 &&& 63))) ||| (((((z_T s1) 6) k).toInt64) <<< ((36 : Int32).toInt64 &&& 63))) ||| ((z_re s1) <<< ((40 : Int32).toInt64 &&& 63))) from (if_pos hd2).symm] at hP hD
        refine lv_aload_n hx hb dX8_command_261 rfl (lv_at hl 5 rfl) ?_
        refine va_get (D := g.1) (ci := 7) (v := .ref (a 10)) (C := RX8) (T := TX8) (N := 30) hx hb hts inX8 hown hK hP 0 rfl rfl 14 (by decide) (hts _ tw617) (fun _ h9 => h9) rfl dX8_command_262 ?_
        refine lv_iload hx hb dX8_command_265 (lv_at hl 0 rfl) ?_
        refine lv_dup2_11 hx hb dX8_command_267 rfl rfl ?_
        refine fr_iald (k := (4 + k)) hx hb hK hP 10 1 rfl rfl (by omega) (by decide) dX8_command_268 ?_
        refine lv_iconst (v := 1) hx hb dX8_command_269 (by decide) ?_
        refine lv_iadd hx hb dX8_command_270 ?_
        refine fr_iast (k := (4 + k)) hx hb hK hP hD hS 10 1 rfl rfl (by omega) (by decide) dX8_command_271 (fun H locs hP hD hS => ?_)
        have hP : va_P g.1 vwCl (rfW g a (mPut (z_mem s1) (z_T s1 1 (4 + k) + z_T s1 4 (4 + k)) (((((((cId (mAt (z_mem ρ) (z_T ρ 1 j + z_T ρ 3 j * 4))).toInt64) ||| (((nI j).toInt64) <<< ((16 : Int32).toInt64 &&& 63))) ||| (((((z_T s1) 3) j).toInt64) <<< ((20 : Int32).toInt64 &&& 63))) ||| (((q_op ρ j).toInt64) <<< ((28 : Int32).toInt64 &&& 63))) ||| (((((z_T s1) 6) k).toInt64) <<< ((36 : Int32).toInt64 &&& 63))) ||| ((z_re s1) <<< ((40 : Int32).toInt64 &&& 63)))) (z_R s1) (z_cb s1) (z_nc s1) (z_tu s1) (z_bi s1) (z_cg s1) (z_on s1) (up2 (z_T s1) 4 (4 + k) ((((z_T s1) 4) (4 + k)) + 1)) (z_dn s1 + 1) (z_fa s1) (z_br s1) (z_bs s1) (z_cp s1) (z_cq s1) (z_cx s1) (z_re s1) (z_n s1) (z_op s1) (z_fg s1) sp1_135 (z_one s1)) H := fr_eqP rfT_4 hP
        have hD : va_D A (rfW g a (mPut (z_mem s1) (z_T s1 1 (4 + k) + z_T s1 4 (4 + k)) (((((((cId (mAt (z_mem ρ) (z_T ρ 1 j + z_T ρ 3 j * 4))).toInt64) ||| (((nI j).toInt64) <<< ((16 : Int32).toInt64 &&& 63))) ||| (((((z_T s1) 3) j).toInt64) <<< ((20 : Int32).toInt64 &&& 63))) ||| (((q_op ρ j).toInt64) <<< ((28 : Int32).toInt64 &&& 63))) ||| (((((z_T s1) 6) k).toInt64) <<< ((36 : Int32).toInt64 &&& 63))) ||| ((z_re s1) <<< ((40 : Int32).toInt64 &&& 63)))) (z_R s1) (z_cb s1) (z_nc s1) (z_tu s1) (z_bi s1) (z_cg s1) (z_on s1) (up2 (z_T s1) 4 (4 + k) ((((z_T s1) 4) (4 + k)) + 1)) (z_dn s1 + 1) (z_fa s1) (z_br s1) (z_bs s1) (z_cp s1) (z_cq s1) (z_cx s1) (z_re s1) (z_n s1) (z_op s1) (z_fg s1) sp1_135 (z_one s1)) := fr_eqD rfT_4 hD
        refine lv_aload_n hx hb dX8_command_272 rfl (lv_at hl 5 rfl) ?_
        refine va_get (D := g.1) (ci := 7) (v := .ref (a 10)) (C := RX8) (T := TX8) (N := 30) hx hb hts inX8 hown hK hP 0 rfl rfl 14 (by decide) (hts _ tw617) (fun _ h9 => h9) rfl dX8_command_273 ?_
        refine lv_iload hx hb dX8_command_276 (lv_at hl 0 rfl) ?_
        refine fr_iald (k := (4 + k)) hx hb hK hP 10 1 rfl rfl (by omega) (by decide) dX8_command_278 ?_
        refine lv_aload_n hx hb dX8_command_279 rfl (lv_at hl 5 rfl) ?_
        refine va_get (D := g.1) (ci := 7) (v := .ref (a 8)) (C := RX8) (T := TX8) (N := 30) hx hb hts inX8 hown hK hP 0 rfl rfl 12 (by decide) (hts _ tw615) (fun _ h9 => h9) rfl dX8_command_280 ?_
        refine lv_iload hx hb dX8_command_283 (lv_at hl 0 rfl) ?_
        refine fr_iald (k := (4 + k)) hx hb hK hP 8 1 rfl rfl (by omega) (by decide) dX8_command_285 ?_
        refine lv_icmp_ne (tgt := 308) hx hb dX8_command_286 (by decide) (fun c286 => ?_) (fun c286 => ?_)
        · rw [show up2 (z_T s1) 4 (4 + k) ((((z_T s1) 4) (4 + k)) + 1) = advC (z_T s1) k from adv_f hQk (fun q => c286 (by rw [up2_eq, up2_ne (Or.inl (by decide))]; exact q))] at hP hD
          refine lv_aload_n hx hb dX8_command_308 rfl (lv_at hl 5 rfl) ?_
          refine va_get (D := g.1) (ci := 7) (v := .ref (a 6)) (C := RX8) (T := TX8) (N := 30) hx hb hts inX8 hown hK hP 0 rfl rfl 10 (by decide) (hts _ tw613) (fun _ h9 => h9) rfl dX8_command_309 ?_
          refine lv_iload hx hb dX8_command_312 (lv_at hl 1 rfl) ?_
          refine fr_zald (k := k) hx hb hK hP 6 2 rfl rfl (by omega) (by decide) dX8_command_314 ?_
          refine lv_if_eq (tgt := 331) hx hb dX8_command_315 (by decide) (fun c315 => ?_) (fun c315 => ?_)
          · refine W.widen (k := 1) (n := 8) (Nat.le_of_ble_eq_true rfl) (Nat.le_of_ble_eq_true rfl) ?_
            exact W.vret hx hb hr (fun t ht _ => ⟨⟨none, rfW g a (mPut (z_mem s1) (z_T s1 1 (4 + k) + z_T s1 4 (4 + k)) (((((((cId (mAt (z_mem ρ) (z_T ρ 1 j + z_T ρ 3 j * 4))).toInt64) ||| (((nI j).toInt64) <<< ((16 : Int32).toInt64 &&& 63))) ||| (((((z_T s1) 3) j).toInt64) <<< ((20 : Int32).toInt64 &&& 63))) ||| (((q_op ρ j).toInt64) <<< ((28 : Int32).toInt64 &&& 63))) ||| (((((z_T s1) 6) k).toInt64) <<< ((36 : Int32).toInt64 &&& 63))) ||| ((z_re s1) <<< ((40 : Int32).toInt64 &&& 63)))) (z_R s1) (z_cb s1) (z_nc s1) (z_tu s1) (z_bi s1) (z_cg s1) (z_on s1) (advC (z_T s1) k) (z_dn s1 + 1) (z_fa s1) (z_br s1) (z_bs s1) (z_cp s1) (z_cq s1) (z_cx s1) (z_re s1) (z_n s1) (z_op s1) (z_fg s1) sp1_135 (z_one s1), rfl, ⟨sp1_135, trivial, rfl, by rw [h_cmd, ← hs2, e6, h_cnt, if_pos c163, h_ans, if_pos (show advC (z_T s1) k 7 k = 0 from c315)] <;> rfl⟩, rfl, by rw [ht]; exact hP⟩, hS.F ht⟩) hS.2.2 dX8_command_331
          · refine lv_aload_n hx hb dX8_command_318 rfl (lv_at hl 5 rfl) ?_
            refine lv_dup hx hb dX8_command_319 rfl ?_
            refine va_get (D := g.1) (ci := 7) (v := .int (z_bi s1)) (C := RX8) (T := TX8) (N := 30) hx hb hts inX8 hown hK hP 0 rfl rfl 6 (by decide) (hts _ tw609) (fun _ h9 => h9) rfl dX8_command_320 ?_
            refine lv_iconst (v := 1) hx hb dX8_command_323 (by decide) ?_
            refine lv_iload hx hb dX8_command_324 (lv_at hl 1 rfl) ?_
            refine lv_ishl hx hb dX8_command_326 ?_
            refine lv_ior hx hb dX8_command_327 ?_
            refine va_put (D := g.1) (ci := 7) (v := .int ((z_bi s1) ||| (1 <<< ((nI k) &&& 31)))) (ty := .int) (C := RX8) (T := TX8) (N := 30) hx hb hts inX8 tyX8 tyX8_ok nmX8 hown hK hP hD hS 0 rfl rfl 6 (by decide) (hts _ tw609) (fun _ h9 => h9) rfl (by decide +kernel) rfl rfl (Nat.le_of_ble_eq_true rfl) dX8_command_328 (fun H locs hP hD hS => ?_)
            have hP : va_P g.1 vwCl (rfW g a (mPut (z_mem s1) (z_T s1 1 (4 + k) + z_T s1 4 (4 + k)) (((((((cId (mAt (z_mem ρ) (z_T ρ 1 j + z_T ρ 3 j * 4))).toInt64) ||| (((nI j).toInt64) <<< ((16 : Int32).toInt64 &&& 63))) ||| (((((z_T s1) 3) j).toInt64) <<< ((20 : Int32).toInt64 &&& 63))) ||| (((q_op ρ j).toInt64) <<< ((28 : Int32).toInt64 &&& 63))) ||| (((((z_T s1) 6) k).toInt64) <<< ((36 : Int32).toInt64 &&& 63))) ||| ((z_re s1) <<< ((40 : Int32).toInt64 &&& 63)))) (z_R s1) (z_cb s1) (z_nc s1) (z_tu s1) ((z_bi s1) ||| (1 <<< ((nI k) &&& 31))) (z_cg s1) (z_on s1) (advC (z_T s1) k) (z_dn s1 + 1) (z_fa s1) (z_br s1) (z_bs s1) (z_cp s1) (z_cq s1) (z_cx s1) (z_re s1) (z_n s1) (z_op s1) (z_fg s1) sp1_135 (z_one s1)) H := hP
            have hD : va_D A (rfW g a (mPut (z_mem s1) (z_T s1 1 (4 + k) + z_T s1 4 (4 + k)) (((((((cId (mAt (z_mem ρ) (z_T ρ 1 j + z_T ρ 3 j * 4))).toInt64) ||| (((nI j).toInt64) <<< ((16 : Int32).toInt64 &&& 63))) ||| (((((z_T s1) 3) j).toInt64) <<< ((20 : Int32).toInt64 &&& 63))) ||| (((q_op ρ j).toInt64) <<< ((28 : Int32).toInt64 &&& 63))) ||| (((((z_T s1) 6) k).toInt64) <<< ((36 : Int32).toInt64 &&& 63))) ||| ((z_re s1) <<< ((40 : Int32).toInt64 &&& 63)))) (z_R s1) (z_cb s1) (z_nc s1) (z_tu s1) ((z_bi s1) ||| (1 <<< ((nI k) &&& 31))) (z_cg s1) (z_on s1) (advC (z_T s1) k) (z_dn s1 + 1) (z_fa s1) (z_br s1) (z_bs s1) (z_cp s1) (z_cq s1) (z_cx s1) (z_re s1) (z_n s1) (z_op s1) (z_fg s1) sp1_135 (z_one s1)) := hD
            refine W.widen (k := 1) (n := 8) (Nat.le_of_ble_eq_true rfl) (Nat.le_of_ble_eq_true rfl) ?_
            exact W.vret hx hb hr (fun t ht _ => ⟨⟨none, rfW g a (mPut (z_mem s1) (z_T s1 1 (4 + k) + z_T s1 4 (4 + k)) (((((((cId (mAt (z_mem ρ) (z_T ρ 1 j + z_T ρ 3 j * 4))).toInt64) ||| (((nI j).toInt64) <<< ((16 : Int32).toInt64 &&& 63))) ||| (((((z_T s1) 3) j).toInt64) <<< ((20 : Int32).toInt64 &&& 63))) ||| (((q_op ρ j).toInt64) <<< ((28 : Int32).toInt64 &&& 63))) ||| (((((z_T s1) 6) k).toInt64) <<< ((36 : Int32).toInt64 &&& 63))) ||| ((z_re s1) <<< ((40 : Int32).toInt64 &&& 63)))) (z_R s1) (z_cb s1) (z_nc s1) (z_tu s1) ((z_bi s1) ||| (1 <<< ((nI k) &&& 31))) (z_cg s1) (z_on s1) (advC (z_T s1) k) (z_dn s1 + 1) (z_fa s1) (z_br s1) (z_bs s1) (z_cp s1) (z_cq s1) (z_cx s1) (z_re s1) (z_n s1) (z_op s1) (z_fg s1) sp1_135 (z_one s1), rfl, ⟨sp1_135, trivial, rfl, by rw [h_cmd, ← hs2, e6, h_cnt, if_pos c163, h_ans, if_neg (show ¬ advC (z_T s1) k 7 k = 0 from c315)] <;> rfl⟩, rfl, by rw [ht]; exact hP⟩, hS.F ht⟩) hS.2.2 dX8_command_331
        · refine lv_aload_n hx hb dX8_command_289 rfl (lv_at hl 5 rfl) ?_
          refine va_get (D := g.1) (ci := 7) (v := .ref (a 10)) (C := RX8) (T := TX8) (N := 30) hx hb hts inX8 hown hK hP 0 rfl rfl 14 (by decide) (hts _ tw617) (fun _ h9 => h9) rfl dX8_command_290 ?_
          refine lv_iload hx hb dX8_command_293 (lv_at hl 0 rfl) ?_
          refine lv_iconst (v := 0) hx hb dX8_command_295 (by decide) ?_
          refine fr_iast (k := (4 + k)) hx hb hK hP hD hS 10 1 rfl rfl (by omega) (by decide) dX8_command_296 (fun H locs hP hD hS => ?_)
          have hP : va_P g.1 vwCl (rfW g a (mPut (z_mem s1) (z_T s1 1 (4 + k) + z_T s1 4 (4 + k)) (((((((cId (mAt (z_mem ρ) (z_T ρ 1 j + z_T ρ 3 j * 4))).toInt64) ||| (((nI j).toInt64) <<< ((16 : Int32).toInt64 &&& 63))) ||| (((((z_T s1) 3) j).toInt64) <<< ((20 : Int32).toInt64 &&& 63))) ||| (((q_op ρ j).toInt64) <<< ((28 : Int32).toInt64 &&& 63))) ||| (((((z_T s1) 6) k).toInt64) <<< ((36 : Int32).toInt64 &&& 63))) ||| ((z_re s1) <<< ((40 : Int32).toInt64 &&& 63)))) (z_R s1) (z_cb s1) (z_nc s1) (z_tu s1) (z_bi s1) (z_cg s1) (z_on s1) (up2 (up2 (z_T s1) 4 (4 + k) ((((z_T s1) 4) (4 + k)) + 1)) 4 (4 + k) 0) (z_dn s1 + 1) (z_fa s1) (z_br s1) (z_bs s1) (z_cp s1) (z_cq s1) (z_cx s1) (z_re s1) (z_n s1) (z_op s1) (z_fg s1) sp1_135 (z_one s1)) H := fr_eqP rfT_4 hP
          have hD : va_D A (rfW g a (mPut (z_mem s1) (z_T s1 1 (4 + k) + z_T s1 4 (4 + k)) (((((((cId (mAt (z_mem ρ) (z_T ρ 1 j + z_T ρ 3 j * 4))).toInt64) ||| (((nI j).toInt64) <<< ((16 : Int32).toInt64 &&& 63))) ||| (((((z_T s1) 3) j).toInt64) <<< ((20 : Int32).toInt64 &&& 63))) ||| (((q_op ρ j).toInt64) <<< ((28 : Int32).toInt64 &&& 63))) ||| (((((z_T s1) 6) k).toInt64) <<< ((36 : Int32).toInt64 &&& 63))) ||| ((z_re s1) <<< ((40 : Int32).toInt64 &&& 63)))) (z_R s1) (z_cb s1) (z_nc s1) (z_tu s1) (z_bi s1) (z_cg s1) (z_on s1) (up2 (up2 (z_T s1) 4 (4 + k) ((((z_T s1) 4) (4 + k)) + 1)) 4 (4 + k) 0) (z_dn s1 + 1) (z_fa s1) (z_br s1) (z_bs s1) (z_cp s1) (z_cq s1) (z_cx s1) (z_re s1) (z_n s1) (z_op s1) (z_fg s1) sp1_135 (z_one s1)) := fr_eqD rfT_4 hD
          refine lv_aload_n hx hb dX8_command_297 rfl (lv_at hl 5 rfl) ?_
          refine va_get (D := g.1) (ci := 7) (v := .ref (a 12)) (C := RX8) (T := TX8) (N := 30) hx hb hts inX8 hown hK hP 0 rfl rfl 16 (by decide) (hts _ tw619) (fun _ h9 => h9) rfl dX8_command_298 ?_
          refine lv_iload hx hb dX8_command_301 (lv_at hl 1 rfl) ?_
          refine lv_dup2_11 hx hb dX8_command_303 rfl rfl ?_
          refine fr_iald (k := k) hx hb hK hP 12 1 rfl rfl (by omega) (by decide) dX8_command_304 ?_
          refine lv_iconst (v := 1) hx hb dX8_command_305 (by decide) ?_
          refine lv_ixor hx hb dX8_command_306 ?_
          refine fr_iast (k := k) hx hb hK hP hD hS 12 1 rfl rfl (by omega) (by decide) dX8_command_307 (fun H locs hP hD hS => ?_)
          have hP : va_P g.1 vwCl (rfW g a (mPut (z_mem s1) (z_T s1 1 (4 + k) + z_T s1 4 (4 + k)) (((((((cId (mAt (z_mem ρ) (z_T ρ 1 j + z_T ρ 3 j * 4))).toInt64) ||| (((nI j).toInt64) <<< ((16 : Int32).toInt64 &&& 63))) ||| (((((z_T s1) 3) j).toInt64) <<< ((20 : Int32).toInt64 &&& 63))) ||| (((q_op ρ j).toInt64) <<< ((28 : Int32).toInt64 &&& 63))) ||| (((((z_T s1) 6) k).toInt64) <<< ((36 : Int32).toInt64 &&& 63))) ||| ((z_re s1) <<< ((40 : Int32).toInt64 &&& 63)))) (z_R s1) (z_cb s1) (z_nc s1) (z_tu s1) (z_bi s1) (z_cg s1) (z_on s1) (up2 (up2 (up2 (z_T s1) 4 (4 + k) ((((z_T s1) 4) (4 + k)) + 1)) 4 (4 + k) 0) 6 k ((((up2 (up2 (z_T s1) 4 (4 + k) ((((z_T s1) 4) (4 + k)) + 1)) 4 (4 + k) 0) 6) k) ^^^ 1)) (z_dn s1 + 1) (z_fa s1) (z_br s1) (z_bs s1) (z_cp s1) (z_cq s1) (z_cx s1) (z_re s1) (z_n s1) (z_op s1) (z_fg s1) sp1_135 (z_one s1)) H := fr_eqP rfT_6 hP
          have hD : va_D A (rfW g a (mPut (z_mem s1) (z_T s1 1 (4 + k) + z_T s1 4 (4 + k)) (((((((cId (mAt (z_mem ρ) (z_T ρ 1 j + z_T ρ 3 j * 4))).toInt64) ||| (((nI j).toInt64) <<< ((16 : Int32).toInt64 &&& 63))) ||| (((((z_T s1) 3) j).toInt64) <<< ((20 : Int32).toInt64 &&& 63))) ||| (((q_op ρ j).toInt64) <<< ((28 : Int32).toInt64 &&& 63))) ||| (((((z_T s1) 6) k).toInt64) <<< ((36 : Int32).toInt64 &&& 63))) ||| ((z_re s1) <<< ((40 : Int32).toInt64 &&& 63)))) (z_R s1) (z_cb s1) (z_nc s1) (z_tu s1) (z_bi s1) (z_cg s1) (z_on s1) (up2 (up2 (up2 (z_T s1) 4 (4 + k) ((((z_T s1) 4) (4 + k)) + 1)) 4 (4 + k) 0) 6 k ((((up2 (up2 (z_T s1) 4 (4 + k) ((((z_T s1) 4) (4 + k)) + 1)) 4 (4 + k) 0) 6) k) ^^^ 1)) (z_dn s1 + 1) (z_fa s1) (z_br s1) (z_bs s1) (z_cp s1) (z_cq s1) (z_cx s1) (z_re s1) (z_n s1) (z_op s1) (z_fg s1) sp1_135 (z_one s1)) := fr_eqD rfT_6 hD
          rw [show up2 (up2 (up2 (z_T s1) 4 (4 + k) ((((z_T s1) 4) (4 + k)) + 1)) 4 (4 + k) 0) 6 k ((((up2 (up2 (z_T s1) 4 (4 + k) ((((z_T s1) 4) (4 + k)) + 1)) 4 (4 + k) 0) 6) k) ^^^ 1) = advC (z_T s1) k from adv_t' hQk h6 c286] at hP hD
          refine lv_aload_n hx hb dX8_command_308 rfl (lv_at hl 5 rfl) ?_
          refine va_get (D := g.1) (ci := 7) (v := .ref (a 6)) (C := RX8) (T := TX8) (N := 30) hx hb hts inX8 hown hK hP 0 rfl rfl 10 (by decide) (hts _ tw613) (fun _ h9 => h9) rfl dX8_command_309 ?_
          refine lv_iload hx hb dX8_command_312 (lv_at hl 1 rfl) ?_
          refine fr_zald (k := k) hx hb hK hP 6 2 rfl rfl (by omega) (by decide) dX8_command_314 ?_
          refine lv_if_eq (tgt := 331) hx hb dX8_command_315 (by decide) (fun c315 => ?_) (fun c315 => ?_)
          · refine W.widen (k := 1) (n := 8) (Nat.le_of_ble_eq_true rfl) (Nat.le_of_ble_eq_true rfl) ?_
            exact W.vret hx hb hr (fun t ht _ => ⟨⟨none, rfW g a (mPut (z_mem s1) (z_T s1 1 (4 + k) + z_T s1 4 (4 + k)) (((((((cId (mAt (z_mem ρ) (z_T ρ 1 j + z_T ρ 3 j * 4))).toInt64) ||| (((nI j).toInt64) <<< ((16 : Int32).toInt64 &&& 63))) ||| (((((z_T s1) 3) j).toInt64) <<< ((20 : Int32).toInt64 &&& 63))) ||| (((q_op ρ j).toInt64) <<< ((28 : Int32).toInt64 &&& 63))) ||| (((((z_T s1) 6) k).toInt64) <<< ((36 : Int32).toInt64 &&& 63))) ||| ((z_re s1) <<< ((40 : Int32).toInt64 &&& 63)))) (z_R s1) (z_cb s1) (z_nc s1) (z_tu s1) (z_bi s1) (z_cg s1) (z_on s1) (advC (z_T s1) k) (z_dn s1 + 1) (z_fa s1) (z_br s1) (z_bs s1) (z_cp s1) (z_cq s1) (z_cx s1) (z_re s1) (z_n s1) (z_op s1) (z_fg s1) sp1_135 (z_one s1), rfl, ⟨sp1_135, trivial, rfl, by rw [h_cmd, ← hs2, e6, h_cnt, if_pos c163, h_ans, if_pos (show advC (z_T s1) k 7 k = 0 from c315)] <;> rfl⟩, rfl, by rw [ht]; exact hP⟩, hS.F ht⟩) hS.2.2 dX8_command_331
          · refine lv_aload_n hx hb dX8_command_318 rfl (lv_at hl 5 rfl) ?_
            refine lv_dup hx hb dX8_command_319 rfl ?_
            refine va_get (D := g.1) (ci := 7) (v := .int (z_bi s1)) (C := RX8) (T := TX8) (N := 30) hx hb hts inX8 hown hK hP 0 rfl rfl 6 (by decide) (hts _ tw609) (fun _ h9 => h9) rfl dX8_command_320 ?_
            refine lv_iconst (v := 1) hx hb dX8_command_323 (by decide) ?_
            refine lv_iload hx hb dX8_command_324 (lv_at hl 1 rfl) ?_
            refine lv_ishl hx hb dX8_command_326 ?_
            refine lv_ior hx hb dX8_command_327 ?_
            refine va_put (D := g.1) (ci := 7) (v := .int ((z_bi s1) ||| (1 <<< ((nI k) &&& 31)))) (ty := .int) (C := RX8) (T := TX8) (N := 30) hx hb hts inX8 tyX8 tyX8_ok nmX8 hown hK hP hD hS 0 rfl rfl 6 (by decide) (hts _ tw609) (fun _ h9 => h9) rfl (by decide +kernel) rfl rfl (Nat.le_of_ble_eq_true rfl) dX8_command_328 (fun H locs hP hD hS => ?_)
            have hP : va_P g.1 vwCl (rfW g a (mPut (z_mem s1) (z_T s1 1 (4 + k) + z_T s1 4 (4 + k)) (((((((cId (mAt (z_mem ρ) (z_T ρ 1 j + z_T ρ 3 j * 4))).toInt64) ||| (((nI j).toInt64) <<< ((16 : Int32).toInt64 &&& 63))) ||| (((((z_T s1) 3) j).toInt64) <<< ((20 : Int32).toInt64 &&& 63))) ||| (((q_op ρ j).toInt64) <<< ((28 : Int32).toInt64 &&& 63))) ||| (((((z_T s1) 6) k).toInt64) <<< ((36 : Int32).toInt64 &&& 63))) ||| ((z_re s1) <<< ((40 : Int32).toInt64 &&& 63)))) (z_R s1) (z_cb s1) (z_nc s1) (z_tu s1) ((z_bi s1) ||| (1 <<< ((nI k) &&& 31))) (z_cg s1) (z_on s1) (advC (z_T s1) k) (z_dn s1 + 1) (z_fa s1) (z_br s1) (z_bs s1) (z_cp s1) (z_cq s1) (z_cx s1) (z_re s1) (z_n s1) (z_op s1) (z_fg s1) sp1_135 (z_one s1)) H := hP
            have hD : va_D A (rfW g a (mPut (z_mem s1) (z_T s1 1 (4 + k) + z_T s1 4 (4 + k)) (((((((cId (mAt (z_mem ρ) (z_T ρ 1 j + z_T ρ 3 j * 4))).toInt64) ||| (((nI j).toInt64) <<< ((16 : Int32).toInt64 &&& 63))) ||| (((((z_T s1) 3) j).toInt64) <<< ((20 : Int32).toInt64 &&& 63))) ||| (((q_op ρ j).toInt64) <<< ((28 : Int32).toInt64 &&& 63))) ||| (((((z_T s1) 6) k).toInt64) <<< ((36 : Int32).toInt64 &&& 63))) ||| ((z_re s1) <<< ((40 : Int32).toInt64 &&& 63)))) (z_R s1) (z_cb s1) (z_nc s1) (z_tu s1) ((z_bi s1) ||| (1 <<< ((nI k) &&& 31))) (z_cg s1) (z_on s1) (advC (z_T s1) k) (z_dn s1 + 1) (z_fa s1) (z_br s1) (z_bs s1) (z_cp s1) (z_cq s1) (z_cx s1) (z_re s1) (z_n s1) (z_op s1) (z_fg s1) sp1_135 (z_one s1)) := hD
            refine W.widen (k := 1) (n := 8) (Nat.le_of_ble_eq_true rfl) (Nat.le_of_ble_eq_true rfl) ?_
            exact W.vret hx hb hr (fun t ht _ => ⟨⟨none, rfW g a (mPut (z_mem s1) (z_T s1 1 (4 + k) + z_T s1 4 (4 + k)) (((((((cId (mAt (z_mem ρ) (z_T ρ 1 j + z_T ρ 3 j * 4))).toInt64) ||| (((nI j).toInt64) <<< ((16 : Int32).toInt64 &&& 63))) ||| (((((z_T s1) 3) j).toInt64) <<< ((20 : Int32).toInt64 &&& 63))) ||| (((q_op ρ j).toInt64) <<< ((28 : Int32).toInt64 &&& 63))) ||| (((((z_T s1) 6) k).toInt64) <<< ((36 : Int32).toInt64 &&& 63))) ||| ((z_re s1) <<< ((40 : Int32).toInt64 &&& 63)))) (z_R s1) (z_cb s1) (z_nc s1) (z_tu s1) ((z_bi s1) ||| (1 <<< ((nI k) &&& 31))) (z_cg s1) (z_on s1) (advC (z_T s1) k) (z_dn s1 + 1) (z_fa s1) (z_br s1) (z_bs s1) (z_cp s1) (z_cq s1) (z_cx s1) (z_re s1) (z_n s1) (z_op s1) (z_fg s1) sp1_135 (z_one s1), rfl, ⟨sp1_135, trivial, rfl, by rw [h_cmd, ← hs2, e6, h_cnt, if_pos c163, h_ans, if_neg (show ¬ advC (z_T s1) k 7 k = 0 from c315)] <;> rfl⟩, rfl, by rw [ht]; exact hP⟩, hS.F ht⟩) hS.2.2 dX8_command_331
  refine lv_aload_n hx hb dX8_command_69 rfl (lv_at hl 2 rfl) ?_
  refine lv_lload_n hx hb dX8_command_70 rfl (lv_at hl 0 rfl) ?_
  refine lv_bipush (v := 24) hx hb dX8_command_71 (by decide) ?_
  refine lv_lshr hx hb dX8_command_73 rfl ?_
  refine lv_lconst (v := 1) hx hb dX8_command_74 (by decide) ?_
  refine lv_land hx hb dX8_command_75 ?_
  refine fr_topl (y := ((mAt (z_mem ρ) (z_T ρ 1 j + z_T ρ 3 j * 4)).toUInt64 >>> ((24 : Int32).toInt64.toUInt64 &&& Int64.toUInt64 63)).toInt64 &&& 1) (sh24 _) ?_
  refine lv_lconst (v := 1) hx hb dX8_command_76 (by decide) ?_
  refine W.lcmp hx hb dX8_command_77 ?_
  refine lv_if_ne (tgt := 85) hx hb dX8_command_78 (by decide) (fun c78 => ?_) (fun c78 => ?_)
  · have c78 := (not_congr (lg_cmp_eq (((mAt (z_mem ρ) (z_T ρ 1 j + z_T ρ 3 j * 4)).toUInt64 >>> ((24 : Int32).toInt64.toUInt64 &&& Int64.toUInt64 63)).toInt64 &&& 1) 1)).mp c78
    refine lv_iconst (v := 0) hx hb dX8_command_85 (by decide) ?_
    refine fr_topi (y := bI (cFg (mAt (z_mem ρ) (z_T ρ 1 j + z_T ρ 3 j * 4)))) (bI_0 (P := cFg _) c78) ?_
    exact jn86 H locs ls hP hD hS hl
  · have c78 := (lg_cmp_eq (((mAt (z_mem ρ) (z_T ρ 1 j + z_T ρ 3 j * 4)).toUInt64 >>> ((24 : Int32).toInt64.toUInt64 &&& Int64.toUInt64 63)).toInt64 &&& 1) 1).mp c78
    refine lv_iconst (v := 1) hx hb dX8_command_81 (by decide) ?_
    refine fr_topi (y := bI (cFg (mAt (z_mem ρ) (z_T ρ 1 j + z_T ρ 3 j * 4)))) (bI_1 (P := cFg _) c78) ?_
    refine lv_goto (tgt := 86) hx hb dX8_command_82 (by decide) ?_
    exact jn86 H locs ls hP hD hS hl
