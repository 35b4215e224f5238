set_option maxHeartbeats 4000000 in
set_option maxRecDepth 100000 in
/-- isReady -/
theorem kX8_isReady (l : Launch) (g : GG) (a : Nat → Nat) (ρ : RS) (j : Nat) (hT : TI (z_T ρ)) (hj : j < 4) : Ct l yX8_isReady cX8_isReady 3 (some .boolean) ({ frames := 1, cells := 0, slots := 0, locals := 21 } : Room) g [.ref (a 0), .int (nI j)] (rfW g a (z_mem ρ) (z_R ρ) (z_cb ρ) (z_nc ρ) (z_tu ρ) (z_bi ρ) (z_cg ρ) (z_on ρ) (z_T ρ) (z_dn ρ) (z_fa ρ) (z_br ρ) (z_bs ρ) (z_cp ρ) (z_cq ρ) (z_cx ρ) (z_re ρ) (z_n ρ) (z_op ρ) (z_fg ρ) (z_sp ρ) (z_one ρ)) (fun v w' => v = some (.int (bI (rdy (z_T ρ) j))) ∧ w' = rfW g a (z_mem ρ) (z_R ρ) (z_cb ρ) (z_nc ρ) (z_tu ρ) (z_bi ρ) (z_cg ρ) (z_on ρ) (z_T ρ) (z_dn ρ) (z_fa ρ) (z_br ρ) (z_bs ρ) (z_cp ρ) (z_cq ρ) (z_cx ρ) (z_re ρ) (z_n ρ) (z_op ρ) (z_fg ρ) (z_sp ρ) (z_one ρ)) := by
  refine Ct.of (by decide) (Nat.le_of_ble_eq_true rfl) ?_
  intro p e s m below meth c A ls H locs hx hb hr hml hlocks hts hown hin hA hS hK hP hD hl
  have hown : s.vm.findClass RX8 = some m.cls := hown
  have hl : lv_has ls 3 [(0, .ref (a 0)), (1, .int (nI j))] := hl
  refine lv_iconst (v := 4) hx hb dX8_isReady_0 (by decide) ?_
  refine lv_aload_n hx hb dX8_isReady_1 rfl (lv_at hl 0 rfl) ?_
  refine va_get (D := g.1) (ci := 7) (v := .ref (a 11)) (C := RX8) (T := TX8) (N := 30) hx hb hts inX8 hown hK hP 0 rfl rfl 15 (by decide) (hts _ tw618) (fun _ h9 => h9) rfl dX8_isReady_2 ?_
  refine lv_iload_n hx hb dX8_isReady_5 rfl (lv_at hl 1 rfl) ?_
  refine fr_iald (k := j) hx hb hK hP 11 1 rfl rfl (by omega) (by decide) dX8_isReady_6 ?_
  refine lv_iadd hx hb dX8_isReady_7 ?_
  refine lv_istore_n (lv' := [(2, .int (4 + (((z_T ρ) 5) j))), (0, .ref (a 0)), (1, .int (nI j))]) hx hb dX8_isReady_8 rfl hl (by decide) rfl (fun ls hl => ?_)
  refine lv_aload_n hx hb dX8_isReady_9 rfl (lv_at hl 1 rfl) ?_
  refine va_get (D := g.1) (ci := 7) (v := .ref (a 5)) (C := RX8) (T := TX8) (N := 30) hx hb hts inX8 hown hK hP 0 rfl rfl 9 (by decide) (hts _ tw612) (fun _ h9 => h9) rfl dX8_isReady_10 ?_
  refine lv_iload_n hx hb dX8_isReady_13 rfl (lv_at hl 2 rfl) ?_
  refine fr_zald (k := j) hx hb hK hP 5 2 rfl rfl (by omega) (by decide) dX8_isReady_14 ?_
  refine lv_if_eq (tgt := 54) hx hb dX8_isReady_15 (by decide) (fun c15 => ?_) (fun c15 => ?_)
  · refine lv_iconst (v := 0) hx hb dX8_isReady_54 (by decide) ?_
    exact W.zret (v := 0) hx hb hr (by first | rfl | exact bz_n (by first | assumption | exact bI_z | decide)) (fun t ht _ => ⟨⟨(some (.int 0)), rfW g a (z_mem ρ) (z_R ρ) (z_cb ρ) (z_nc ρ) (z_tu ρ) (z_bi ρ) (z_cg ρ) (z_on ρ) (z_T ρ) (z_dn ρ) (z_fa ρ) (z_br ρ) (z_bs ρ) (z_cp ρ) (z_cq ρ) (z_cx ρ) (z_re ρ) (z_n ρ) (z_op ρ) (z_fg ρ) (z_sp ρ) (z_one ρ), rfl, ⟨congrArg (fun z : Int32 => some (Value.int z)) (bI_0 (fun q => q.1 c15)), rfl⟩, rfl, by rw [ht]; exact hP⟩, hS.F ht⟩) hS.2.2 dX8_isReady_55
  · obtain ⟨hQ, k, hk, e5, h5⟩ := hT.1 j hj c15
    have hQk := (hT.2.1 k hk h5).1
    have e6 : (z_T ρ 5 j).toNatClampNeg = k := by rw [e5]; exact nI_clamp (by omega)
    have h6 : hasC (z_T ρ) (z_T ρ 5 j).toInt64 := has_of hk e5 h5
    refine lv_aload_n hx hb dX8_isReady_18 rfl (lv_at hl 1 rfl) ?_
    refine lv_iload_n hx hb dX8_isReady_19 rfl (lv_at hl 2 rfl) ?_
    refine fr_goA (va_runV (As := [.int (nI j)]) (rest := []) ⟨hx, hb, hml, hown, hts⟩ (kX8_many l g a ρ j 4 (by omega) hQ H.size) (cwV 1 hts (gdV tw743 tw745 tp31 tw9 tw746) rfl rfl rfl (by decide +kernel) ⟨Nat.le_of_ble_eq_true rfl, Nat.le_of_ble_eq_true rfl⟩) ⟨Pst.blind, va_recv hK hP (ci := 7) (q0 := 0) rfl rfl, fr_preA hK hP hD⟩ rfl rfl hl.1 rfl (lv_room (Nat.le_of_ble_eq_true rfl)) dX8_isReady_20 ⟨Nat.le_of_ble_eq_true rfl, Nat.le_of_ble_eq_true rfl⟩) hD hS hA (fun v w9 H locs hq hP hD hS => ?_)
    obtain ⟨rfl, rfl⟩ := hq
    have hP : va_P g.1 vwCl (rfW g a (z_mem ρ) (z_R ρ) (z_cb ρ) (z_nc ρ) (z_tu ρ) (z_bi ρ) (z_cg ρ) (z_on ρ) (z_T ρ) (z_dn ρ) (z_fa ρ) (z_br ρ) (z_bs ρ) (z_cp ρ) (z_cq ρ) (z_cx ρ) (z_re ρ) (z_n ρ) (z_op ρ) (z_fg ρ) (z_sp ρ) (z_one ρ)) H := hP
    have hD : va_D A (rfW g a (z_mem ρ) (z_R ρ) (z_cb ρ) (z_nc ρ) (z_tu ρ) (z_bi ρ) (z_cg ρ) (z_on ρ) (z_T ρ) (z_dn ρ) (z_fa ρ) (z_br ρ) (z_bs ρ) (z_cp ρ) (z_cq ρ) (z_cx ρ) (z_re ρ) (z_n ρ) (z_op ρ) (z_fg ρ) (z_sp ρ) (z_one ρ)) := hD
    show W p l e _ s m _ below meth c H locs _ _ _ (F0 m (20 + 3) ls (.int (fht (z_T ρ 3 j) (z_T ρ 2 j) (z_T ρ 4 j)) :: []))
    refine lv_if_le (tgt := 54) hx hb dX8_isReady_23 (by decide) (fun c23 => ?_) (fun c23 => ?_)
    · refine lv_iconst (v := 0) hx hb dX8_isReady_54 (by decide) ?_
      exact W.zret (v := 0) hx hb hr (by first | rfl | exact bz_n (by first | assumption | exact bI_z | decide)) (fun t ht _ => ⟨⟨(some (.int 0)), rfW g a (z_mem ρ) (z_R ρ) (z_cb ρ) (z_nc ρ) (z_tu ρ) (z_bi ρ) (z_cg ρ) (z_on ρ) (z_T ρ) (z_dn ρ) (z_fa ρ) (z_br ρ) (z_bs ρ) (z_cp ρ) (z_cq ρ) (z_cx ρ) (z_re ρ) (z_n ρ) (z_op ρ) (z_fg ρ) (z_sp ρ) (z_one ρ), rfl, ⟨congrArg (fun z : Int32 => some (Value.int z)) (bI_0 (fun q => q.2.1 c23)), rfl⟩, rfl, by rw [ht]; exact hP⟩, hS.F ht⟩) hS.2.2 dX8_isReady_55
    · refine lv_aload_n hx hb dX8_isReady_26 rfl (lv_at hl 1 rfl) ?_
      refine va_get (D := g.1) (ci := 7) (v := .ref (a 10)) (C := RX8) (T := TX8) (N := 30) hx hb hts inX8 hown hK hP 0 rfl rfl 14 (by decide) (hts _ tw617) (fun _ h9 => h9) rfl dX8_isReady_27 ?_
      refine lv_iload_n hx hb dX8_isReady_30 rfl (lv_at hl 0 rfl) ?_
      refine fr_topi (y := nI (4 + k)) (by rw [e5]; exact nI_add 4 k) ?_
      refine fr_iald (k := (4 + k)) hx hb hK hP 10 1 rfl rfl (by omega) (by decide) dX8_isReady_31 ?_
      refine lv_iconst (v := 1) hx hb dX8_isReady_32 (by decide) ?_
      refine lv_iadd hx hb dX8_isReady_33 ?_
      refine lv_aload_n hx hb dX8_isReady_34 rfl (lv_at hl 1 rfl) ?_
      refine va_get (D := g.1) (ci := 7) (v := .ref (a 8)) (C := RX8) (T := TX8) (N := 30) hx hb hts inX8 hown hK hP 0 rfl rfl 12 (by decide) (hts _ tw615) (fun _ h9 => h9) rfl dX8_isReady_35 ?_
      refine lv_iload_n hx hb dX8_isReady_38 rfl (lv_at hl 0 rfl) ?_
      refine fr_topi (y := nI (4 + k)) (by rw [e5]; exact nI_add 4 k) ?_
      refine fr_iald (k := (4 + k)) hx hb hK hP 8 1 rfl rfl (by omega) (by decide) dX8_isReady_39 ?_
      refine lv_irem hx hb dX8_isReady_40 (QI_nz hQk) ?_
      refine fr_topi (y := bhd (z_T ρ 2 (4 + k)) (z_T ρ 4 (4 + k))) (QI_bhd hQk) ?_
      refine lv_aload_n hx hb dX8_isReady_41 rfl (lv_at hl 1 rfl) ?_
      refine va_get (D := g.1) (ci := 7) (v := .ref (a 9)) (C := RX8) (T := TX8) (N := 30) hx hb hts inX8 hown hK hP 0 rfl rfl 13 (by decide) (hts _ tw616) (fun _ h9 => h9) rfl dX8_isReady_42 ?_
      refine lv_iload_n hx hb dX8_isReady_45 rfl (lv_at hl 0 rfl) ?_
      refine fr_topi (y := nI (4 + k)) (by rw [e5]; exact nI_add 4 k) ?_
      refine fr_iald (k := (4 + k)) hx hb hK hP 9 1 rfl rfl (by omega) (by decide) dX8_isReady_46 ?_
      refine lv_icmp_eq (tgt := 54) hx hb dX8_isReady_47 (by decide) (fun c47 => ?_) (fun c47 => ?_)
      · refine lv_iconst (v := 0) hx hb dX8_isReady_54 (by decide) ?_
        exact W.zret (v := 0) hx hb hr (by first | rfl | exact bz_n (by first | assumption | exact bI_z | decide)) (fun t ht _ => ⟨⟨(some (.int 0)), rfW g a (z_mem ρ) (z_R ρ) (z_cb ρ) (z_nc ρ) (z_tu ρ) (z_bi ρ) (z_cg ρ) (z_on ρ) (z_T ρ) (z_dn ρ) (z_fa ρ) (z_br ρ) (z_bs ρ) (z_cp ρ) (z_cq ρ) (z_cx ρ) (z_re ρ) (z_n ρ) (z_op ρ) (z_fg ρ) (z_sp ρ) (z_one ρ), rfl, ⟨congrArg (fun z : Int32 => some (Value.int z)) (bI_0 (fun q => q.2.2.2 (by rw [e6]; exact c47))), rfl⟩, rfl, by rw [ht]; exact hP⟩, hS.F ht⟩) hS.2.2 dX8_isReady_55
      · refine lv_iconst (v := 1) hx hb dX8_isReady_50 (by decide) ?_
        refine lv_goto (tgt := 55) hx hb dX8_isReady_51 (by decide) ?_
        exact W.zret (v := 1) hx hb hr (by first | rfl | exact bz_n (by first | assumption | exact bI_z | decide)) (fun t ht _ => ⟨⟨(some (.int 1)), rfW g a (z_mem ρ) (z_R ρ) (z_cb ρ) (z_nc ρ) (z_tu ρ) (z_bi ρ) (z_cg ρ) (z_on ρ) (z_T ρ) (z_dn ρ) (z_fa ρ) (z_br ρ) (z_bs ρ) (z_cp ρ) (z_cq ρ) (z_cx ρ) (z_re ρ) (z_n ρ) (z_op ρ) (z_fg ρ) (z_sp ρ) (z_one ρ), rfl, ⟨congrArg (fun z : Int32 => some (Value.int z)) (bI_1 ⟨c15, c23, h6, by rw [e6]; exact c47⟩), rfl⟩, rfl, by rw [ht]; exact hP⟩, hS.F ht⟩) hS.2.2 dX8_isReady_55
