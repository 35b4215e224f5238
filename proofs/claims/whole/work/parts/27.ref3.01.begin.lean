set_option maxHeartbeats 4000000 in
set_option maxRecDepth 100000 in
/-- begin -/
theorem kX8_begin (l : Launch) (g : GG) (a : Nat → Nat) (ρ : RS) (p0 : Int32) (p1 : Int32) (p2 : Int32) (p3 : Int32) : Ct l yX8_begin cX8_begin 5 (some .int) ({ frames := 2, cells := 0, slots := 0, locals := 49 } : Room) g [.ref (a 0), .int p0, .int p1, .int p2, .int p3] (rfW g a (z_mem ρ) (z_R ρ) (z_cb ρ) (z_nc ρ) (z_tu ρ) (z_bi ρ) (z_cg ρ) (z_on ρ) (z_T ρ) (z_dn ρ) (z_fa ρ) (z_br ρ) (z_bs ρ) (z_cp ρ) (z_cq ρ) (z_cx ρ) (z_re ρ) (z_n ρ) (z_op ρ) (z_fg ρ) (z_sp ρ) (z_one ρ)) (fun v w' => v = some (.int (if ¬ bgF p0 p1 p2 p3 then -1 else if ¬ z_on ρ = 0 then -2 else 0)) ∧ w' = rfW g a (z_mem ρ) (z_R ρ) (z_cb ρ) (z_nc ρ) (if bgF p0 p1 p2 p3 ∧ z_on ρ = 0 then 0 else z_tu ρ) (if bgF p0 p1 p2 p3 ∧ z_on ρ = 0 then 0 else z_bi ρ) (z_cg ρ) (if bgF p0 p1 p2 p3 ∧ z_on ρ = 0 then 1 else z_on ρ) (if bgF p0 p1 p2 p3 ∧ z_on ρ = 0 then rbT (z_T ρ) p0 p1 p2 p3 else z_T ρ) (z_dn ρ) (z_fa ρ) (z_br ρ) (z_bs ρ) (z_cp ρ) (z_cq ρ) (z_cx ρ) (z_re ρ) (z_n ρ) (z_op ρ) (z_fg ρ) (z_sp ρ) (z_one ρ)) := by
  refine Ct.of (by decide) (Nat.le_of_ble_eq_true rfl) ?_
  intro p e s m below meth c A ls H locs hx hb hr hml hlocks hts hown hin hA hS hK hP hD hl
  have hown : s.vm.findClass RX8 = some m.cls := hown
  have hl : lv_has ls 5 [(0, .ref (a 0)), (1, .int p0), (2, .int p1), (3, .int p2), (4, .int p3)] := hl
  refine lv_iload_n hx hb dX8_begin_0 rfl (lv_at hl 1 rfl) ?_
  refine lv_i2l hx hb dX8_begin_1 rfl ?_
  refine lv_iload_n hx hb dX8_begin_2 rfl (lv_at hl 2 rfl) ?_
  refine lv_i2l hx hb dX8_begin_3 rfl ?_
  refine lv_iconst (v := 4) hx hb dX8_begin_4 (by decide) ?_
  refine fr_go (va_runS (As := [.long p0.toInt64, .long p1.toInt64, .int 4]) (rest := []) ⟨hx, hb, hml, hown, hts⟩ (kX8_fits l g p0.toInt64 p1.toInt64 4 H.size) (va_cwS 3 hts (gdS tw711 tw712 tw9 tw713) rfl rfl rfl (by decide +kernel) ⟨Nat.le_of_ble_eq_true rfl, Nat.le_of_ble_eq_true rfl⟩) ⟨Pst.blind, fr_pre hK hP hD [] rfl rfl⟩ rfl rfl hl.1 rfl (lv_room (Nat.le_of_ble_eq_true rfl)) dX8_begin_5 ⟨Nat.le_of_ble_eq_true rfl, Nat.le_of_ble_eq_true rfl⟩) hP hD hS hA [] rfl (fun v w9 H locs hq hP hD hS => ?_)
  obtain ⟨rfl, rfl⟩ := hq
  have hP : va_P g.1 vwCl (rfW g a (z_mem ρ) (z_R ρ) (z_cb ρ) (z_nc ρ) (z_tu ρ) (z_bi ρ) (z_cg ρ) (z_on ρ) (z_T ρ) (z_dn ρ) (z_fa ρ) (z_br ρ) (z_bs ρ) (z_cp ρ) (z_cq ρ) (z_cx ρ) (z_re ρ) (z_n ρ) (z_op ρ) (z_fg ρ) (z_sp ρ) (z_one ρ)) H := hP
  have hD : va_D A (rfW g a (z_mem ρ) (z_R ρ) (z_cb ρ) (z_nc ρ) (z_tu ρ) (z_bi ρ) (z_cg ρ) (z_on ρ) (z_T ρ) (z_dn ρ) (z_fa ρ) (z_br ρ) (z_bs ρ) (z_cp ρ) (z_cq ρ) (z_cx ρ) (z_re ρ) (z_n ρ) (z_op ρ) (z_fg ρ) (z_sp ρ) (z_one ρ)) := hD
  show W p l e _ s m _ below meth c H locs _ _ _ (F0 m (5 + 3) ls (.int (bI (fitR p0.toInt64 p1.toInt64 4)) :: []))
  refine lv_if_eq (tgt := 23) hx hb dX8_begin_8 (by decide) (fun c8 => ?_) (fun c8 => ?_)
  · have c8 := bI_f c8
    refine lv_iconst (v := -1) hx hb dX8_begin_23 (by decide) ?_
    exact W.iret (v := -1) hx hb hr (fun t ht _ => ⟨⟨(some (.int (-1))), rfW g a (z_mem ρ) (z_R ρ) (z_cb ρ) (z_nc ρ) (z_tu ρ) (z_bi ρ) (z_cg ρ) (z_on ρ) (z_T ρ) (z_dn ρ) (z_fa ρ) (z_br ρ) (z_bs ρ) (z_cp ρ) (z_cq ρ) (z_cx ρ) (z_re ρ) (z_n ρ) (z_op ρ) (z_fg ρ) (z_sp ρ) (z_one ρ), rfl, ⟨congrArg (fun z : Int32 => some (Value.int z)) (if_pos (fun q => c8 q.1)).symm, by rw [if_neg (fun q => (fun q => c8 q.1) q.1), if_neg (fun q => (fun q => c8 q.1) q.1), if_neg (fun q => (fun q => c8 q.1) q.1), if_neg (fun q => (fun q => c8 q.1) q.1)]⟩, rfl, by rw [ht]; exact hP⟩, hS.F ht⟩) hS.2.2 dX8_begin_24
  · have c8 := bI_t c8
    refine lv_iload_n hx hb dX8_begin_11 rfl (lv_at hl 3 rfl) ?_
    refine lv_i2l hx hb dX8_begin_12 rfl ?_
    refine lv_iload hx hb dX8_begin_13 (lv_at hl 4 rfl) ?_
    refine lv_i2l hx hb dX8_begin_15 rfl ?_
    refine lv_iconst (v := 1) hx hb dX8_begin_16 (by decide) ?_
    refine fr_go (va_runS (As := [.long p2.toInt64, .long p3.toInt64, .int 1]) (rest := []) ⟨hx, hb, hml, hown, hts⟩ (kX8_fits l g p2.toInt64 p3.toInt64 1 H.size) (va_cwS 3 hts (gdS tw711 tw712 tw9 tw713) rfl rfl rfl (by decide +kernel) ⟨Nat.le_of_ble_eq_true rfl, Nat.le_of_ble_eq_true rfl⟩) ⟨Pst.blind, fr_pre hK hP hD [] rfl rfl⟩ rfl rfl hl.1 rfl (lv_room (Nat.le_of_ble_eq_true rfl)) dX8_begin_17 ⟨Nat.le_of_ble_eq_true rfl, Nat.le_of_ble_eq_true rfl⟩) hP hD hS hA [] rfl (fun v w9 H locs hq hP hD hS => ?_)
    obtain ⟨rfl, rfl⟩ := hq
    have hP : va_P g.1 vwCl (rfW g a (z_mem ρ) (z_R ρ) (z_cb ρ) (z_nc ρ) (z_tu ρ) (z_bi ρ) (z_cg ρ) (z_on ρ) (z_T ρ) (z_dn ρ) (z_fa ρ) (z_br ρ) (z_bs ρ) (z_cp ρ) (z_cq ρ) (z_cx ρ) (z_re ρ) (z_n ρ) (z_op ρ) (z_fg ρ) (z_sp ρ) (z_one ρ)) H := hP
    have hD : va_D A (rfW g a (z_mem ρ) (z_R ρ) (z_cb ρ) (z_nc ρ) (z_tu ρ) (z_bi ρ) (z_cg ρ) (z_on ρ) (z_T ρ) (z_dn ρ) (z_fa ρ) (z_br ρ) (z_bs ρ) (z_cp ρ) (z_cq ρ) (z_cx ρ) (z_re ρ) (z_n ρ) (z_op ρ) (z_fg ρ) (z_sp ρ) (z_one ρ)) := hD
    show W p l e _ s m _ below meth c H locs _ _ _ (F0 m (17 + 3) ls (.int (bI (fitR p2.toInt64 p3.toInt64 1)) :: []))
    refine lv_if_ne (tgt := 25) hx hb dX8_begin_20 (by decide) (fun c20 => ?_) (fun c20 => ?_)
    · have c20 := bI_t c20
      refine lv_aload_n hx hb dX8_begin_25 rfl (lv_at hl 0 rfl) ?_
      refine va_get (D := g.1) (ci := 7) (v := .int (z_on ρ)) (C := RX8) (T := TX8) (N := 30) hx hb hts inX8 hown hK hP 0 rfl rfl 8 (by decide) (hts _ tw611) (fun _ h9 => h9) rfl dX8_begin_26 ?_
      refine lv_if_eq (tgt := 35) hx hb dX8_begin_29 (by decide) (fun c29 => ?_) (fun c29 => ?_)
      · refine lv_aload_n hx hb dX8_begin_35 rfl (lv_at hl 0 rfl) ?_
        refine lv_iconst (v := 1) hx hb dX8_begin_36 (by decide) ?_
        refine va_put (D := g.1) (ci := 7) (v := .int 1) (ty := .boolean) (C := RX8) (T := TX8) (N := 30) hx hb hts inX8 tyX8 tyX8_ok nmX8 hown hK hP hD hS 0 rfl rfl 8 (by decide) (hts _ tw611) (fun _ h9 => h9) rfl (by decide +kernel) rfl rfl (Nat.le_of_ble_eq_true rfl) dX8_begin_37 (fun H locs hP hD hS => ?_)
        have hP : va_P g.1 vwCl (rfW g a (z_mem ρ) (z_R ρ) (z_cb ρ) (z_nc ρ) (z_tu ρ) (z_bi ρ) (z_cg ρ) 1 (z_T ρ) (z_dn ρ) (z_fa ρ) (z_br ρ) (z_bs ρ) (z_cp ρ) (z_cq ρ) (z_cx ρ) (z_re ρ) (z_n ρ) (z_op ρ) (z_fg ρ) (z_sp ρ) (z_one ρ)) H := hP
        have hD : va_D A (rfW g a (z_mem ρ) (z_R ρ) (z_cb ρ) (z_nc ρ) (z_tu ρ) (z_bi ρ) (z_cg ρ) 1 (z_T ρ) (z_dn ρ) (z_fa ρ) (z_br ρ) (z_bs ρ) (z_cp ρ) (z_cq ρ) (z_cx ρ) (z_re ρ) (z_n ρ) (z_op ρ) (z_fg ρ) (z_sp ρ) (z_one ρ)) := hD
        refine lv_aload_n hx hb dX8_begin_40 rfl (lv_at hl 0 rfl) ?_
        refine va_get (D := g.1) (ci := 7) (v := .ref (a 5)) (C := RX8) (T := TX8) (N := 30) hx hb hts inX8 hown hK hP 0 rfl rfl 9 (by decide) (hts _ tw612) (fun _ h9 => h9) rfl dX8_begin_41 ?_
        refine lv_iconst (v := 0) hx hb dX8_begin_44 (by decide) ?_
        refine fr_go (va_runS (As := [.ref (a 5), .int 0]) (rest := []) ⟨hx, hb, hml, hown, hts⟩ (kJ7_fill_Z l g (a 5) ((z_T ρ) 0) 0 (Or.inl rfl) H.size) (va_cwS 2 hts (gdS tw718 tw719 tw10 tw720) rfl rfl rfl (by decide +kernel) ⟨Nat.le_of_ble_eq_true rfl, Nat.le_of_ble_eq_true rfl⟩) ⟨Pst.blind, fr_pre hK hP hD [5] rfl rfl⟩ rfl rfl hl.1 rfl (lv_room (Nat.le_of_ble_eq_true rfl)) dX8_begin_45 ⟨Nat.le_of_ble_eq_true rfl, Nat.le_of_ble_eq_true rfl⟩) hP hD hS hA [5] rfl (fun v w9 H locs hq hP hD hS => ?_)
        obtain ⟨rfl, rfl⟩ := hq
        have hP : va_P g.1 vwCl (rfW g a (z_mem ρ) (z_R ρ) (z_cb ρ) (z_nc ρ) (z_tu ρ) (z_bi ρ) (z_cg ρ) 1 (upr (z_T ρ) 0 (flI ((z_T ρ) 0) 0 8)) (z_dn ρ) (z_fa ρ) (z_br ρ) (z_bs ρ) (z_cp ρ) (z_cq ρ) (z_cx ρ) (z_re ρ) (z_n ρ) (z_op ρ) (z_fg ρ) (z_sp ρ) (z_one ρ)) H := fr_eqP rfU_0 hP
        have hD : va_D A (rfW g a (z_mem ρ) (z_R ρ) (z_cb ρ) (z_nc ρ) (z_tu ρ) (z_bi ρ) (z_cg ρ) 1 (upr (z_T ρ) 0 (flI ((z_T ρ) 0) 0 8)) (z_dn ρ) (z_fa ρ) (z_br ρ) (z_bs ρ) (z_cp ρ) (z_cq ρ) (z_cx ρ) (z_re ρ) (z_n ρ) (z_op ρ) (z_fg ρ) (z_sp ρ) (z_one ρ)) := fr_eqD rfU_0 hD
        show W p l e _ s m _ below meth c H locs _ _ _ (F0 m (45 + 3) ls ([]))
        refine lv_aload_n hx hb dX8_begin_48 rfl (lv_at hl 0 rfl) ?_
        refine lv_iconst (v := 0) hx hb dX8_begin_49 (by decide) ?_
        refine fr_topi (y := nI 0) nI_0.symm ?_
        refine lv_iload_n hx hb dX8_begin_50 rfl (lv_at hl 1 rfl) ?_
        refine lv_i2l hx hb dX8_begin_51 rfl ?_
        refine lv_iload_n hx hb dX8_begin_52 rfl (lv_at hl 2 rfl) ?_
        refine lv_i2l hx hb dX8_begin_53 rfl ?_
        refine fr_goA (va_runV (As := [.int (nI 0), .long p0.toInt64, .long p1.toInt64]) (rest := []) ⟨hx, hb, hml, hown, hts⟩ (kX8_make l g a (w_T (w_on ρ 1) (upr (z_T ρ) 0 (flI ((z_T ρ) 0) 0 8))) 0 p0.toInt64 p1.toInt64 (by decide) H.size) (cwV 3 hts (gdV tw721 tw723 tp28 tw9 tw724) rfl rfl rfl (by decide +kernel) ⟨Nat.le_of_ble_eq_true rfl, Nat.le_of_ble_eq_true rfl⟩) ⟨Pst.blind, va_recv hK hP (ci := 7) (q0 := 0) rfl rfl, fr_preA hK hP hD⟩ rfl rfl hl.1 rfl (lv_room (Nat.le_of_ble_eq_true rfl)) dX8_begin_54 ⟨Nat.le_of_ble_eq_true rfl, Nat.le_of_ble_eq_true rfl⟩) hD hS hA (fun v w9 H locs hq hP hD hS => ?_)
        obtain ⟨rfl, rfl⟩ := hq
        have hP : va_P g.1 vwCl (rfW g a (z_mem ρ) (z_R ρ) (z_cb ρ) (z_nc ρ) (z_tu ρ) (z_bi ρ) (z_cg ρ) 1 (mkQ (z_T (w_T (w_on ρ 1) (upr (z_T ρ) 0 (flI ((z_T ρ) 0) 0 8)))) 0 p0.toInt64.toInt32 p1.toInt64.toInt32) (z_dn ρ) (z_fa ρ) (z_br ρ) (z_bs ρ) (z_cp ρ) (z_cq ρ) (z_cx ρ) (z_re ρ) (z_n ρ) (z_op ρ) (z_fg ρ) (z_sp ρ) (z_one ρ)) H := hP
        have hD : va_D A (rfW g a (z_mem ρ) (z_R ρ) (z_cb ρ) (z_nc ρ) (z_tu ρ) (z_bi ρ) (z_cg ρ) 1 (mkQ (z_T (w_T (w_on ρ 1) (upr (z_T ρ) 0 (flI ((z_T ρ) 0) 0 8)))) 0 p0.toInt64.toInt32 p1.toInt64.toInt32) (z_dn ρ) (z_fa ρ) (z_br ρ) (z_bs ρ) (z_cp ρ) (z_cq ρ) (z_cx ρ) (z_re ρ) (z_n ρ) (z_op ρ) (z_fg ρ) (z_sp ρ) (z_one ρ)) := hD
        show W p l e _ s m _ below meth c H locs _ _ _ (F0 m (54 + 3) ls ([]))
        refine lv_aload_n hx hb dX8_begin_57 rfl (lv_at hl 0 rfl) ?_
        refine lv_iconst (v := 4) hx hb dX8_begin_58 (by decide) ?_
        refine fr_topi (y := nI 4) rfl ?_
        refine lv_iload_n hx hb dX8_begin_59 rfl (lv_at hl 3 rfl) ?_
        refine lv_i2l hx hb dX8_begin_60 rfl ?_
        refine lv_iload hx hb dX8_begin_61 (lv_at hl 4 rfl) ?_
        refine lv_i2l hx hb dX8_begin_63 rfl ?_
        refine fr_goA (va_runV (As := [.int (nI 4), .long p2.toInt64, .long p3.toInt64]) (rest := []) ⟨hx, hb, hml, hown, hts⟩ (kX8_make l g a (w_T (w_on ρ 1) (mkQ (z_T (w_T (w_on ρ 1) (upr (z_T ρ) 0 (flI ((z_T ρ) 0) 0 8)))) 0 p0.toInt64.toInt32 p1.toInt64.toInt32)) 4 p2.toInt64 p3.toInt64 (by decide) H.size) (cwV 3 hts (gdV tw721 tw723 tp28 tw9 tw724) rfl rfl rfl (by decide +kernel) ⟨Nat.le_of_ble_eq_true rfl, Nat.le_of_ble_eq_true rfl⟩) ⟨Pst.blind, va_recv hK hP (ci := 7) (q0 := 0) rfl rfl, fr_preA hK hP hD⟩ rfl rfl hl.1 rfl (lv_room (Nat.le_of_ble_eq_true rfl)) dX8_begin_64 ⟨Nat.le_of_ble_eq_true rfl, Nat.le_of_ble_eq_true rfl⟩) hD hS hA (fun v w9 H locs hq hP hD hS => ?_)
        obtain ⟨rfl, rfl⟩ := hq
        have hP : va_P g.1 vwCl (rfW g a (z_mem ρ) (z_R ρ) (z_cb ρ) (z_nc ρ) (z_tu ρ) (z_bi ρ) (z_cg ρ) 1 (mkQ (z_T (w_T (w_on ρ 1) (mkQ (z_T (w_T (w_on ρ 1) (upr (z_T ρ) 0 (flI ((z_T ρ) 0) 0 8)))) 0 p0.toInt64.toInt32 p1.toInt64.toInt32))) 4 p2.toInt64.toInt32 p3.toInt64.toInt32) (z_dn ρ) (z_fa ρ) (z_br ρ) (z_bs ρ) (z_cp ρ) (z_cq ρ) (z_cx ρ) (z_re ρ) (z_n ρ) (z_op ρ) (z_fg ρ) (z_sp ρ) (z_one ρ)) H := hP
        have hD : va_D A (rfW g a (z_mem ρ) (z_R ρ) (z_cb ρ) (z_nc ρ) (z_tu ρ) (z_bi ρ) (z_cg ρ) 1 (mkQ (z_T (w_T (w_on ρ 1) (mkQ (z_T (w_T (w_on ρ 1) (upr (z_T ρ) 0 (flI ((z_T ρ) 0) 0 8)))) 0 p0.toInt64.toInt32 p1.toInt64.toInt32))) 4 p2.toInt64.toInt32 p3.toInt64.toInt32) (z_dn ρ) (z_fa ρ) (z_br ρ) (z_bs ρ) (z_cp ρ) (z_cq ρ) (z_cx ρ) (z_re ρ) (z_n ρ) (z_op ρ) (z_fg ρ) (z_sp ρ) (z_one ρ)) := hD
        show W p l e _ s m _ below meth c H locs _ _ _ (F0 m (64 + 3) ls ([]))
        refine lv_aload_n hx hb dX8_begin_67 rfl (lv_at hl 0 rfl) ?_
        refine va_get (D := g.1) (ci := 7) (v := .ref (a 11)) (C := RX8) (T := TX8) (N := 30) hx hb hts inX8 hown hK hP 0 rfl rfl 15 (by decide) (hts _ tw618) (fun _ h9 => h9) rfl dX8_begin_68 ?_
        refine lv_iconst (v := 0) hx hb dX8_begin_71 (by decide) ?_
        refine lv_iconst (v := 0) hx hb dX8_begin_72 (by decide) ?_
        refine fr_iast (k := 0) hx hb hK hP hD hS 11 1 rfl rfl (by decide) (by decide) dX8_begin_73 (fun H locs hP hD hS => ?_)
        have hP : va_P g.1 vwCl (rfW g a (z_mem ρ) (z_R ρ) (z_cb ρ) (z_nc ρ) (z_tu ρ) (z_bi ρ) (z_cg ρ) 1 (up2 (mkQ (z_T (w_T (w_on ρ 1) (mkQ (z_T (w_T (w_on ρ 1) (upr (z_T ρ) 0 (flI ((z_T ρ) 0) 0 8)))) 0 p0.toInt64.toInt32 p1.toInt64.toInt32))) 4 p2.toInt64.toInt32 p3.toInt64.toInt32) 5 0 0) (z_dn ρ) (z_fa ρ) (z_br ρ) (z_bs ρ) (z_cp ρ) (z_cq ρ) (z_cx ρ) (z_re ρ) (z_n ρ) (z_op ρ) (z_fg ρ) (z_sp ρ) (z_one ρ)) H := fr_eqP rfT_5 hP
        have hD : va_D A (rfW g a (z_mem ρ) (z_R ρ) (z_cb ρ) (z_nc ρ) (z_tu ρ) (z_bi ρ) (z_cg ρ) 1 (up2 (mkQ (z_T (w_T (w_on ρ 1) (mkQ (z_T (w_T (w_on ρ 1) (upr (z_T ρ) 0 (flI ((z_T ρ) 0) 0 8)))) 0 p0.toInt64.toInt32 p1.toInt64.toInt32))) 4 p2.toInt64.toInt32 p3.toInt64.toInt32) 5 0 0) (z_dn ρ) (z_fa ρ) (z_br ρ) (z_bs ρ) (z_cp ρ) (z_cq ρ) (z_cx ρ) (z_re ρ) (z_n ρ) (z_op ρ) (z_fg ρ) (z_sp ρ) (z_one ρ)) := fr_eqD rfT_5 hD
        refine lv_aload_n hx hb dX8_begin_74 rfl (lv_at hl 0 rfl) ?_
        refine va_get (D := g.1) (ci := 7) (v := .ref (a 6)) (C := RX8) (T := TX8) (N := 30) hx hb hts inX8 hown hK hP 0 rfl rfl 10 (by decide) (hts _ tw613) (fun _ h9 => h9) rfl dX8_begin_75 ?_
        refine lv_iconst (v := 0) hx hb dX8_begin_78 (by decide) ?_
        refine lv_iconst (v := 1) hx hb dX8_begin_79 (by decide) ?_
        refine fr_zast (k := 0) hx hb hK hP hD hS 6 2 rfl rfl (by decide) (by decide) rfl dX8_begin_80 (fun H locs hP hD hS => ?_)
        have hP : va_P g.1 vwCl (rfW g a (z_mem ρ) (z_R ρ) (z_cb ρ) (z_nc ρ) (z_tu ρ) (z_bi ρ) (z_cg ρ) 1 (up2 (up2 (mkQ (z_T (w_T (w_on ρ 1) (mkQ (z_T (w_T (w_on ρ 1) (upr (z_T ρ) 0 (flI ((z_T ρ) 0) 0 8)))) 0 p0.toInt64.toInt32 p1.toInt64.toInt32))) 4 p2.toInt64.toInt32 p3.toInt64.toInt32) 5 0 0) 7 0 1) (z_dn ρ) (z_fa ρ) (z_br ρ) (z_bs ρ) (z_cp ρ) (z_cq ρ) (z_cx ρ) (z_re ρ) (z_n ρ) (z_op ρ) (z_fg ρ) (z_sp ρ) (z_one ρ)) H := fr_eqP rfT_7 hP
        have hD : va_D A (rfW g a (z_mem ρ) (z_R ρ) (z_cb ρ) (z_nc ρ) (z_tu ρ) (z_bi ρ) (z_cg ρ) 1 (up2 (up2 (mkQ (z_T (w_T (w_on ρ 1) (mkQ (z_T (w_T (w_on ρ 1) (upr (z_T ρ) 0 (flI ((z_T ρ) 0) 0 8)))) 0 p0.toInt64.toInt32 p1.toInt64.toInt32))) 4 p2.toInt64.toInt32 p3.toInt64.toInt32) 5 0 0) 7 0 1) (z_dn ρ) (z_fa ρ) (z_br ρ) (z_bs ρ) (z_cp ρ) (z_cq ρ) (z_cx ρ) (z_re ρ) (z_n ρ) (z_op ρ) (z_fg ρ) (z_sp ρ) (z_one ρ)) := fr_eqD rfT_7 hD
        refine lv_aload_n hx hb dX8_begin_81 rfl (lv_at hl 0 rfl) ?_
        refine lv_iconst (v := 0) hx hb dX8_begin_82 (by decide) ?_
        refine va_put (D := g.1) (ci := 7) (v := .int 0) (ty := .int) (C := RX8) (T := TX8) (N := 30) hx hb hts inX8 tyX8 tyX8_ok nmX8 hown hK hP hD hS 0 rfl rfl 6 (by decide) (hts _ tw609) (fun _ h9 => h9) rfl (by decide +kernel) rfl rfl (Nat.le_of_ble_eq_true rfl) dX8_begin_83 (fun H locs hP hD hS => ?_)
        have hP : va_P g.1 vwCl (rfW g a (z_mem ρ) (z_R ρ) (z_cb ρ) (z_nc ρ) (z_tu ρ) 0 (z_cg ρ) 1 (up2 (up2 (mkQ (z_T (w_T (w_on ρ 1) (mkQ (z_T (w_T (w_on ρ 1) (upr (z_T ρ) 0 (flI ((z_T ρ) 0) 0 8)))) 0 p0.toInt64.toInt32 p1.toInt64.toInt32))) 4 p2.toInt64.toInt32 p3.toInt64.toInt32) 5 0 0) 7 0 1) (z_dn ρ) (z_fa ρ) (z_br ρ) (z_bs ρ) (z_cp ρ) (z_cq ρ) (z_cx ρ) (z_re ρ) (z_n ρ) (z_op ρ) (z_fg ρ) (z_sp ρ) (z_one ρ)) H := hP
        have hD : va_D A (rfW g a (z_mem ρ) (z_R ρ) (z_cb ρ) (z_nc ρ) (z_tu ρ) 0 (z_cg ρ) 1 (up2 (up2 (mkQ (z_T (w_T (w_on ρ 1) (mkQ (z_T (w_T (w_on ρ 1) (upr (z_T ρ) 0 (flI ((z_T ρ) 0) 0 8)))) 0 p0.toInt64.toInt32 p1.toInt64.toInt32))) 4 p2.toInt64.toInt32 p3.toInt64.toInt32) 5 0 0) 7 0 1) (z_dn ρ) (z_fa ρ) (z_br ρ) (z_bs ρ) (z_cp ρ) (z_cq ρ) (z_cx ρ) (z_re ρ) (z_n ρ) (z_op ρ) (z_fg ρ) (z_sp ρ) (z_one ρ)) := hD
        refine lv_aload_n hx hb dX8_begin_86 rfl (lv_at hl 0 rfl) ?_
        refine lv_iconst (v := 0) hx hb dX8_begin_87 (by decide) ?_
        refine fr_topi (y := nI 0) nI_0.symm ?_
        refine va_put (D := g.1) (ci := 7) (v := .int (nI 0)) (ty := .int) (C := RX8) (T := TX8) (N := 30) hx hb hts inX8 tyX8 tyX8_ok nmX8 hown hK hP hD hS 0 rfl rfl 5 (by decide) (hts _ tw608) (fun _ h9 => h9) rfl (by decide +kernel) rfl rfl (Nat.le_of_ble_eq_true rfl) dX8_begin_88 (fun H locs hP hD hS => ?_)
        have hP : va_P g.1 vwCl (rfW g a (z_mem ρ) (z_R ρ) (z_cb ρ) (z_nc ρ) 0 0 (z_cg ρ) 1 (up2 (up2 (mkQ (z_T (w_T (w_on ρ 1) (mkQ (z_T (w_T (w_on ρ 1) (upr (z_T ρ) 0 (flI ((z_T ρ) 0) 0 8)))) 0 p0.toInt64.toInt32 p1.toInt64.toInt32))) 4 p2.toInt64.toInt32 p3.toInt64.toInt32) 5 0 0) 7 0 1) (z_dn ρ) (z_fa ρ) (z_br ρ) (z_bs ρ) (z_cp ρ) (z_cq ρ) (z_cx ρ) (z_re ρ) (z_n ρ) (z_op ρ) (z_fg ρ) (z_sp ρ) (z_one ρ)) H := hP
        have hD : va_D A (rfW g a (z_mem ρ) (z_R ρ) (z_cb ρ) (z_nc ρ) 0 0 (z_cg ρ) 1 (up2 (up2 (mkQ (z_T (w_T (w_on ρ 1) (mkQ (z_T (w_T (w_on ρ 1) (upr (z_T ρ) 0 (flI ((z_T ρ) 0) 0 8)))) 0 p0.toInt64.toInt32 p1.toInt64.toInt32))) 4 p2.toInt64.toInt32 p3.toInt64.toInt32) 5 0 0) 7 0 1) (z_dn ρ) (z_fa ρ) (z_br ρ) (z_bs ρ) (z_cp ρ) (z_cq ρ) (z_cx ρ) (z_re ρ) (z_n ρ) (z_op ρ) (z_fg ρ) (z_sp ρ) (z_one ρ)) := hD
        refine lv_iconst (v := 0) hx hb dX8_begin_91 (by decide) ?_
        exact W.iret (v := 0) hx hb hr (fun t ht _ => ⟨⟨(some (.int 0)), rfW g a (z_mem ρ) (z_R ρ) (z_cb ρ) (z_nc ρ) 0 0 (z_cg ρ) 1 (up2 (up2 (mkQ (z_T (w_T (w_on ρ 1) (mkQ (z_T (w_T (w_on ρ 1) (upr (z_T ρ) 0 (flI ((z_T ρ) 0) 0 8)))) 0 p0.toInt64.toInt32 p1.toInt64.toInt32))) 4 p2.toInt64.toInt32 p3.toInt64.toInt32) 5 0 0) 7 0 1) (z_dn ρ) (z_fa ρ) (z_br ρ) (z_bs ρ) (z_cp ρ) (z_cq ρ) (z_cx ρ) (z_re ρ) (z_n ρ) (z_op ρ) (z_fg ρ) (z_sp ρ) (z_one ρ), rfl, ⟨congrArg (fun z : Int32 => some (Value.int z)) (by rw [if_neg (fun q => q ⟨c8, c20⟩), if_neg (fun q => q c29)]), by rw [if_pos ⟨⟨c8, c20⟩, c29⟩, if_pos ⟨⟨c8, c20⟩, c29⟩, if_pos ⟨⟨c8, c20⟩, c29⟩, if_pos ⟨⟨c8, c20⟩, c29⟩]; rfl⟩, rfl, by rw [ht]; exact hP⟩, hS.F ht⟩) hS.2.2 dX8_begin_92
      · refine lv_bipush (v := -2) hx hb dX8_begin_32 (by decide) ?_
        exact W.iret (v := -2) hx hb hr (fun t ht _ => ⟨⟨(some (.int (-2))), rfW g a (z_mem ρ) (z_R ρ) (z_cb ρ) (z_nc ρ) (z_tu ρ) (z_bi ρ) (z_cg ρ) (z_on ρ) (z_T ρ) (z_dn ρ) (z_fa ρ) (z_br ρ) (z_bs ρ) (z_cp ρ) (z_cq ρ) (z_cx ρ) (z_re ρ) (z_n ρ) (z_op ρ) (z_fg ρ) (z_sp ρ) (z_one ρ), rfl, ⟨congrArg (fun z : Int32 => some (Value.int z)) (by rw [if_neg (fun q => q ⟨c8, c20⟩), if_pos c29]), by rw [if_neg (fun q => c29 q.2), if_neg (fun q => c29 q.2), if_neg (fun q => c29 q.2), if_neg (fun q => c29 q.2)]⟩, rfl, by rw [ht]; exact hP⟩, hS.F ht⟩) hS.2.2 dX8_begin_34
    · have c20 := bI_f c20
      refine lv_iconst (v := -1) hx hb dX8_begin_23 (by decide) ?_
      exact W.iret (v := -1) hx hb hr (fun t ht _ => ⟨⟨(some (.int (-1))), rfW g a (z_mem ρ) (z_R ρ) (z_cb ρ) (z_nc ρ) (z_tu ρ) (z_bi ρ) (z_cg ρ) (z_on ρ) (z_T ρ) (z_dn ρ) (z_fa ρ) (z_br ρ) (z_bs ρ) (z_cp ρ) (z_cq ρ) (z_cx ρ) (z_re ρ) (z_n ρ) (z_op ρ) (z_fg ρ) (z_sp ρ) (z_one ρ), rfl, ⟨congrArg (fun z : Int32 => some (Value.int z)) (if_pos (fun q => c20 q.2)).symm, by rw [if_neg (fun q => (fun q => c20 q.2) q.1), if_neg (fun q => (fun q => c20 q.2) q.1), if_neg (fun q => (fun q => c20 q.2) q.1), if_neg (fun q => (fun q => c20 q.2) q.1)]⟩, rfl, by rw [ht]; exact hP⟩, hS.F ht⟩) hS.2.2 dX8_begin_24
