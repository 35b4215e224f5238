set_option maxHeartbeats 4000000 in
set_option maxRecDepth 100000 in
/-- block -/
theorem kX8_block (l : Launch) (g : GG) (a : Nat → Nat) (ρ : RS) (p0 : Int32) (p1 : Int32) (p2 : Int32) (hn : z_nc ρ ≤ 6) : Ct l yX8_block cX8_block 4 (some .long) ({ frames := 2, cells := 0, slots := 0, locals := 44 } : Room) g [.ref (a 0), .int p0, .int p1, .int p2] (rfW g a (z_mem ρ) (z_R ρ) (z_cb ρ) (z_nc ρ) (z_tu ρ) (z_bi ρ) (z_cg ρ) (z_on ρ) (z_T ρ) (z_dn ρ) (z_fa ρ) (z_br ρ) (z_bs ρ) (z_cp ρ) (z_cq ρ) (z_cx ρ) (z_re ρ) (z_n ρ) (z_op ρ) (z_fg ρ) (z_sp ρ) (z_one ρ)) (fun v w' => v = some (.long (blkV (z_R ρ) (z_cb ρ) (z_nc ρ) p0 p1 p2)) ∧ w' = rfW g a (z_mem ρ) (z_R ρ) (z_cb ρ) (z_nc ρ) (z_tu ρ) (z_bi ρ) (z_cg ρ) (z_on ρ) (z_T ρ) (z_dn ρ) (z_fa ρ) (z_br ρ) (z_bs ρ) (z_cp ρ) (z_cq ρ) (z_cx ρ) (z_re ρ) (z_n ρ) (z_op ρ) (z_fg ρ) (z_sp ρ) (z_one ρ)) := by
  refine Ct.of (by decide) (Nat.le_of_ble_eq_true rfl) ?_
  intro p e s m below meth c A ls H locs hx hb hr hml hlocks hts hown hin hA hS hK hP hD hl
  have hown : s.vm.findClass RX8 = some m.cls := hown
  have hl : lv_has ls 4 [(0, .ref (a 0)), (1, .int p0), (2, .int p1), (3, .int p2)] := hl
  refine lv_iload_n hx hb dX8_block_0 rfl (lv_at hl 1 rfl) ?_
  refine lv_i2l hx hb dX8_block_1 rfl ?_
  refine lv_lconst (v := 0) hx hb dX8_block_2 (by decide) ?_
  refine lv_ldc2 hx hb hown (hts _ tw781) dX8_block_3 ?_
  refine fr_go (va_runS (As := [.long p0.toInt64, .long 0, .long 63]) (rest := []) ⟨hx, hb, hml, hown, hts⟩ (kX8_in l g p0.toInt64 0 63 H.size) (va_cwS 3 hts (gdS tw700 tw701 tw9 tw702) rfl rfl rfl (by decide +kernel) ⟨Nat.le_of_ble_eq_true rfl, Nat.le_of_ble_eq_true rfl⟩) ⟨Pst.blind, fr_pre hK hP hD [] rfl rfl⟩ rfl rfl hl.1 rfl (lv_room (Nat.le_of_ble_eq_true rfl)) dX8_block_6 ⟨Nat.le_of_ble_eq_true rfl, Nat.le_of_ble_eq_true rfl⟩) hP hD hS hA [] rfl (fun v w9 H locs hq hP hD hS => ?_)
  obtain ⟨rfl, rfl⟩ := hq
  have hP : va_P g.1 vwCl (rfW g a (z_mem ρ) (z_R ρ) (z_cb ρ) (z_nc ρ) (z_tu ρ) (z_bi ρ) (z_cg ρ) (z_on ρ) (z_T ρ) (z_dn ρ) (z_fa ρ) (z_br ρ) (z_bs ρ) (z_cp ρ) (z_cq ρ) (z_cx ρ) (z_re ρ) (z_n ρ) (z_op ρ) (z_fg ρ) (z_sp ρ) (z_one ρ)) H := hP
  have hD : va_D A (rfW g a (z_mem ρ) (z_R ρ) (z_cb ρ) (z_nc ρ) (z_tu ρ) (z_bi ρ) (z_cg ρ) (z_on ρ) (z_T ρ) (z_dn ρ) (z_fa ρ) (z_br ρ) (z_bs ρ) (z_cp ρ) (z_cq ρ) (z_cx ρ) (z_re ρ) (z_n ρ) (z_op ρ) (z_fg ρ) (z_sp ρ) (z_one ρ)) := hD
  show W p l e _ s m _ below meth c H locs _ _ _ (F0 m (6 + 3) ls (.int (bI (¬ p0.toInt64 < 0 ∧ ¬ 63 < p0.toInt64)) :: []))
  refine lv_if_eq (tgt := 24) hx hb dX8_block_9 (by decide) (fun c9 => ?_) (fun c9 => ?_)
  · have c9 := bI_f c9
    refine lv_lconst (v := 0) hx hb dX8_block_24 (by decide) ?_
    exact W.lret (v := 0) hx hb hr (fun t ht _ => ⟨⟨(some (.long 0)), rfW g a (z_mem ρ) (z_R ρ) (z_cb ρ) (z_nc ρ) (z_tu ρ) (z_bi ρ) (z_cg ρ) (z_on ρ) (z_T ρ) (z_dn ρ) (z_fa ρ) (z_br ρ) (z_bs ρ) (z_cp ρ) (z_cq ρ) (z_cx ρ) (z_re ρ) (z_n ρ) (z_op ρ) (z_fg ρ) (z_sp ρ) (z_one ρ), rfl, ⟨congrArg (fun z : Int64 => some (Value.long z)) (if_neg (fun q => c9 (isl_r.mp q).1)).symm, rfl⟩, rfl, by rw [ht]; exact hP⟩, hS.F ht⟩) hS.2.2 dX8_block_25
  · have c9 := bI_t c9
    refine lv_iload_n hx hb dX8_block_12 rfl (lv_at hl 2 rfl) ?_
    refine lv_i2l hx hb dX8_block_13 rfl ?_
    refine lv_lconst (v := 0) hx hb dX8_block_14 (by decide) ?_
    refine lv_ldc2 hx hb hown (hts _ tw803) dX8_block_15 ?_
    refine fr_go (va_runS (As := [.long p1.toInt64, .long 0, .long 7]) (rest := []) ⟨hx, hb, hml, hown, hts⟩ (kX8_in l g p1.toInt64 0 7 H.size) (va_cwS 3 hts (gdS tw700 tw701 tw9 tw702) rfl rfl rfl (by decide +kernel) ⟨Nat.le_of_ble_eq_true rfl, Nat.le_of_ble_eq_true rfl⟩) ⟨Pst.blind, fr_pre hK hP hD [] rfl rfl⟩ rfl rfl hl.1 rfl (lv_room (Nat.le_of_ble_eq_true rfl)) dX8_block_18 ⟨Nat.le_of_ble_eq_true rfl, Nat.le_of_ble_eq_true rfl⟩) hP hD hS hA [] rfl (fun v w9 H locs hq hP hD hS => ?_)
    obtain ⟨rfl, rfl⟩ := hq
    have hP : va_P g.1 vwCl (rfW g a (z_mem ρ) (z_R ρ) (z_cb ρ) (z_nc ρ) (z_tu ρ) (z_bi ρ) (z_cg ρ) (z_on ρ) (z_T ρ) (z_dn ρ) (z_fa ρ) (z_br ρ) (z_bs ρ) (z_cp ρ) (z_cq ρ) (z_cx ρ) (z_re ρ) (z_n ρ) (z_op ρ) (z_fg ρ) (z_sp ρ) (z_one ρ)) H := hP
    have hD : va_D A (rfW g a (z_mem ρ) (z_R ρ) (z_cb ρ) (z_nc ρ) (z_tu ρ) (z_bi ρ) (z_cg ρ) (z_on ρ) (z_T ρ) (z_dn ρ) (z_fa ρ) (z_br ρ) (z_bs ρ) (z_cp ρ) (z_cq ρ) (z_cx ρ) (z_re ρ) (z_n ρ) (z_op ρ) (z_fg ρ) (z_sp ρ) (z_one ρ)) := hD
    show W p l e _ s m _ below meth c H locs _ _ _ (F0 m (18 + 3) ls (.int (bI (¬ p1.toInt64 < 0 ∧ ¬ 7 < p1.toInt64)) :: []))
    refine lv_if_ne (tgt := 26) hx hb dX8_block_21 (by decide) (fun c21 => ?_) (fun c21 => ?_)
    · have c21 := bI_t c21
      have d21 := isl_r.mpr ⟨c9, c21⟩
      obtain ⟨⟨hv1, ev1⟩, hv2, ev2⟩ := isl_n d21
      have hbf := bof_lt (cb := z_cb ρ) (j := p0.toNatClampNeg) hn hv1
      refine lv_iload_n hx hb dX8_block_26 rfl (lv_at hl 3 rfl) ?_
      refine lv_if_eq (tgt := 41) hx hb dX8_block_27 (by decide) (fun c27 => ?_) (fun c27 => ?_)
      · refine lv_aload_n hx hb dX8_block_41 rfl (lv_at hl 0 rfl) ?_
        refine lv_iload_n hx hb dX8_block_42 rfl (lv_at hl 1 rfl) ?_
        refine fr_topi (y := nI p0.toNatClampNeg) ev1 ?_
        refine fr_goA (va_runV (As := [.int (nI p0.toNatClampNeg)]) (rest := []) ⟨hx, hb, hml, hown, hts⟩ (kX8_blockOf l g a ρ p0.toNatClampNeg hn hv1 H.size) (cwV 1 hts (gdV tw782 tw784 tp37 tw9 tw785) rfl rfl rfl (by decide +kernel) ⟨Nat.le_of_ble_eq_true rfl, Nat.le_of_ble_eq_true rfl⟩) ⟨Pst.blind, va_recv hK hP (ci := 7) (q0 := 0) rfl rfl, fr_preA hK hP hD⟩ rfl rfl hl.1 rfl (lv_room (Nat.le_of_ble_eq_true rfl)) dX8_block_43 ⟨Nat.le_of_ble_eq_true rfl, Nat.le_of_ble_eq_true rfl⟩) hD hS hA (fun v w9 H locs hq hP hD hS => ?_)
        obtain ⟨rfl, rfl⟩ := hq
        have hP : va_P g.1 vwCl (rfW g a (z_mem ρ) (z_R ρ) (z_cb ρ) (z_nc ρ) (z_tu ρ) (z_bi ρ) (z_cg ρ) (z_on ρ) (z_T ρ) (z_dn ρ) (z_fa ρ) (z_br ρ) (z_bs ρ) (z_cp ρ) (z_cq ρ) (z_cx ρ) (z_re ρ) (z_n ρ) (z_op ρ) (z_fg ρ) (z_sp ρ) (z_one ρ)) H := hP
        have hD : va_D A (rfW g a (z_mem ρ) (z_R ρ) (z_cb ρ) (z_nc ρ) (z_tu ρ) (z_bi ρ) (z_cg ρ) (z_on ρ) (z_T ρ) (z_dn ρ) (z_fa ρ) (z_br ρ) (z_bs ρ) (z_cp ρ) (z_cq ρ) (z_cx ρ) (z_re ρ) (z_n ρ) (z_op ρ) (z_fg ρ) (z_sp ρ) (z_one ρ)) := hD
        show W p l e _ s m _ below meth c H locs _ _ _ (F0 m (43 + 3) ls (.ref (a (15 + bof (z_cb ρ) (z_nc ρ) p0.toNatClampNeg)) :: []))
        refine lv_iload_n hx hb dX8_block_46 rfl (lv_at hl 2 rfl) ?_
        refine fr_topi (y := nI p1.toNatClampNeg) ev2 ?_
        refine fr_lald (k := p1.toNatClampNeg) hx hb hK hP (15 + (bof (z_cb ρ) (z_nc ρ) p0.toNatClampNeg)) 0 (rfR (i := bof (z_cb ρ) (z_nc ρ) p0.toNatClampNeg) hbf) rfl hv2 (by decide) dX8_block_47 ?_
        exact W.lret (v := ((z_R ρ) (bof (z_cb ρ) (z_nc ρ) p0.toNatClampNeg)) p1.toNatClampNeg) hx hb hr (fun t ht _ => ⟨⟨(some (.long (((z_R ρ) (bof (z_cb ρ) (z_nc ρ) p0.toNatClampNeg)) p1.toNatClampNeg))), rfW g a (z_mem ρ) (z_R ρ) (z_cb ρ) (z_nc ρ) (z_tu ρ) (z_bi ρ) (z_cg ρ) (z_on ρ) (z_T ρ) (z_dn ρ) (z_fa ρ) (z_br ρ) (z_bs ρ) (z_cp ρ) (z_cq ρ) (z_cx ρ) (z_re ρ) (z_n ρ) (z_op ρ) (z_fg ρ) (z_sp ρ) (z_one ρ), rfl, ⟨congrArg (fun z : Int64 => some (Value.long z)) (by rw [blkV, if_pos d21, if_pos c27]), rfl⟩, rfl, by rw [ht]; exact hP⟩, hS.F ht⟩) hS.2.2 dX8_block_48
      · refine lv_aload_n hx hb dX8_block_30 rfl (lv_at hl 0 rfl) ?_
        refine va_get (D := g.1) (ci := 7) (v := .ref (a 2)) (C := RX8) (T := TX8) (N := 30) hx hb hts inX8 hown hK hP 0 rfl rfl 1 (by decide) (hts _ tw604) (fun _ h9 => h9) rfl dX8_block_31 ?_
        refine lv_iload_n hx hb dX8_block_34 rfl (lv_at hl 1 rfl) ?_
        refine fr_topi (y := nI p0.toNatClampNeg) ev1 ?_
        refine fr_aaldA (k := p0.toNatClampNeg) (b := (a (15 + p0.toNatClampNeg))) hx hb hK hP 2 5 rfl rfl rfl hv1 (by decide) (if_pos hv1) dX8_block_35 ?_
        refine lv_iload_n hx hb dX8_block_36 rfl (lv_at hl 2 rfl) ?_
        refine fr_topi (y := nI p1.toNatClampNeg) ev2 ?_
        refine fr_lald (k := p1.toNatClampNeg) hx hb hK hP (15 + p0.toNatClampNeg) 0 (rfR (i := p0.toNatClampNeg) (by omega)) rfl hv2 (by decide) dX8_block_37 ?_
        refine lv_goto (tgt := 48) hx hb dX8_block_38 (by decide) ?_
        exact W.lret (v := ((z_R ρ) p0.toNatClampNeg) p1.toNatClampNeg) hx hb hr (fun t ht _ => ⟨⟨(some (.long (((z_R ρ) p0.toNatClampNeg) p1.toNatClampNeg))), rfW g a (z_mem ρ) (z_R ρ) (z_cb ρ) (z_nc ρ) (z_tu ρ) (z_bi ρ) (z_cg ρ) (z_on ρ) (z_T ρ) (z_dn ρ) (z_fa ρ) (z_br ρ) (z_bs ρ) (z_cp ρ) (z_cq ρ) (z_cx ρ) (z_re ρ) (z_n ρ) (z_op ρ) (z_fg ρ) (z_sp ρ) (z_one ρ), rfl, ⟨congrArg (fun z : Int64 => some (Value.long z)) (by rw [blkV, if_pos d21, if_neg c27]), rfl⟩, rfl, by rw [ht]; exact hP⟩, hS.F ht⟩) hS.2.2 dX8_block_48
    · have c21 := bI_f c21
      refine lv_lconst (v := 0) hx hb dX8_block_24 (by decide) ?_
      exact W.lret (v := 0) hx hb hr (fun t ht _ => ⟨⟨(some (.long 0)), rfW g a (z_mem ρ) (z_R ρ) (z_cb ρ) (z_nc ρ) (z_tu ρ) (z_bi ρ) (z_cg ρ) (z_on ρ) (z_T ρ) (z_dn ρ) (z_fa ρ) (z_br ρ) (z_bs ρ) (z_cp ρ) (z_cq ρ) (z_cx ρ) (z_re ρ) (z_n ρ) (z_op ρ) (z_fg ρ) (z_sp ρ) (z_one ρ), rfl, ⟨congrArg (fun z : Int64 => some (Value.long z)) (if_neg (fun q => c21 (isl_r.mp q).2)).symm, rfl⟩, rfl, by rw [ht]; exact hP⟩, hS.F ht⟩) hS.2.2 dX8_block_25
