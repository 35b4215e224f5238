set_option maxHeartbeats 4000000 in
set_option maxRecDepth 100000 in
/-- make -/
theorem kX8_make (l : Launch) (g : GG) (a : Nat → Nat) (ρ : RS) (q : Nat) (x : Int64) (y : Int64) (hq : q < 8) : Ct l yX8_make cX8_make 6 none ({ frames := 0, cells := 0, slots := 0, locals := 0 } : Room) g [.ref (a 0), .int (nI q), .long x, .long y] (rfW g a (z_mem ρ) (z_R ρ) (z_cb ρ) (z_nc ρ) (z_tu ρ) (z_bi ρ) (z_cg ρ) (z_on ρ) (z_T ρ) (z_dn ρ) (z_fa ρ) (z_br ρ) (z_bs ρ) (z_cp ρ) (z_cq ρ) (z_cx ρ) (z_re ρ) (z_n ρ) (z_op ρ) (z_fg ρ) (z_sp ρ) (z_one ρ)) (fun v w' => v = none ∧ w' = rfW g a (z_mem ρ) (z_R ρ) (z_cb ρ) (z_nc ρ) (z_tu ρ) (z_bi ρ) (z_cg ρ) (z_on ρ) (mkQ (z_T ρ) q x.toInt32 y.toInt32) (z_dn ρ) (z_fa ρ) (z_br ρ) (z_bs ρ) (z_cp ρ) (z_cq ρ) (z_cx ρ) (z_re ρ) (z_n ρ) (z_op ρ) (z_fg ρ) (z_sp ρ) (z_one ρ)) := by
  refine Ct.of (by decide) (Nat.le_of_ble_eq_true rfl) ?_
  intro p e s m below meth c A ls H locs hx hb hr hml hlocks hts hown hin hA hS hK hP hD hl
  have hown : s.vm.findClass RX8 = some m.cls := hown
  have hl : lv_has ls 6 [(0, .ref (a 0)), (1, .int (nI q)), (2, .long x), (4, .long y)] := hl
  refine lv_aload_n hx hb dX8_make_0 rfl (lv_at hl 0 rfl) ?_
  refine va_get (D := g.1) (ci := 7) (v := .ref (a 5)) (C := RX8) (T := TX8) (N := 30) hx hb hts inX8 hown hK hP 0 rfl rfl 9 (by decide) (hts _ tw612) (fun _ h9 => h9) rfl dX8_make_1 ?_
  refine lv_iload_n hx hb dX8_make_4 rfl (lv_at hl 1 rfl) ?_
  refine lv_iconst (v := 1) hx hb dX8_make_5 (by decide) ?_
  refine fr_zast (k := q) hx hb hK hP hD hS 5 2 rfl rfl (by omega) (by decide) rfl dX8_make_6 (fun H locs hP hD hS => ?_)
  have hP : va_P g.1 vwCl (rfW g a (z_mem ρ) (z_R ρ) (z_cb ρ) (z_nc ρ) (z_tu ρ) (z_bi ρ) (z_cg ρ) (z_on ρ) (up2 (z_T ρ) 0 q 1) (z_dn ρ) (z_fa ρ) (z_br ρ) (z_bs ρ) (z_cp ρ) (z_cq ρ) (z_cx ρ) (z_re ρ) (z_n ρ) (z_op ρ) (z_fg ρ) (z_sp ρ) (z_one ρ)) H := fr_eqP rfT_0 hP
  have hD : va_D A (rfW g a (z_mem ρ) (z_R ρ) (z_cb ρ) (z_nc ρ) (z_tu ρ) (z_bi ρ) (z_cg ρ) (z_on ρ) (up2 (z_T ρ) 0 q 1) (z_dn ρ) (z_fa ρ) (z_br ρ) (z_bs ρ) (z_cp ρ) (z_cq ρ) (z_cx ρ) (z_re ρ) (z_n ρ) (z_op ρ) (z_fg ρ) (z_sp ρ) (z_one ρ)) := fr_eqD rfT_0 hD
  refine lv_aload_n hx hb dX8_make_7 rfl (lv_at hl 0 rfl) ?_
  refine va_get (D := g.1) (ci := 7) (v := .ref (a 7)) (C := RX8) (T := TX8) (N := 30) hx hb hts inX8 hown hK hP 0 rfl rfl 11 (by decide) (hts _ tw614) (fun _ h9 => h9) rfl dX8_make_8 ?_
  refine lv_iload_n hx hb dX8_make_11 rfl (lv_at hl 1 rfl) ?_
  refine lv_lload_n hx hb dX8_make_12 rfl (lv_at hl 2 rfl) ?_
  refine lv_l2i hx hb dX8_make_13 rfl ?_
  refine fr_iast (k := q) hx hb hK hP hD hS 7 1 rfl rfl (by omega) (by decide) dX8_make_14 (fun H locs hP hD hS => ?_)
  have hP : va_P g.1 vwCl (rfW g a (z_mem ρ) (z_R ρ) (z_cb ρ) (z_nc ρ) (z_tu ρ) (z_bi ρ) (z_cg ρ) (z_on ρ) (up2 (up2 (z_T ρ) 0 q 1) 1 q x.toInt32) (z_dn ρ) (z_fa ρ) (z_br ρ) (z_bs ρ) (z_cp ρ) (z_cq ρ) (z_cx ρ) (z_re ρ) (z_n ρ) (z_op ρ) (z_fg ρ) (z_sp ρ) (z_one ρ)) H := fr_eqP rfT_1 hP
  have hD : va_D A (rfW g a (z_mem ρ) (z_R ρ) (z_cb ρ) (z_nc ρ) (z_tu ρ) (z_bi ρ) (z_cg ρ) (z_on ρ) (up2 (up2 (z_T ρ) 0 q 1) 1 q x.toInt32) (z_dn ρ) (z_fa ρ) (z_br ρ) (z_bs ρ) (z_cp ρ) (z_cq ρ) (z_cx ρ) (z_re ρ) (z_n ρ) (z_op ρ) (z_fg ρ) (z_sp ρ) (z_one ρ)) := fr_eqD rfT_1 hD
  refine lv_aload_n hx hb dX8_make_15 rfl (lv_at hl 0 rfl) ?_
  refine va_get (D := g.1) (ci := 7) (v := .ref (a 8)) (C := RX8) (T := TX8) (N := 30) hx hb hts inX8 hown hK hP 0 rfl rfl 12 (by decide) (hts _ tw615) (fun _ h9 => h9) rfl dX8_make_16 ?_
  refine lv_iload_n hx hb dX8_make_19 rfl (lv_at hl 1 rfl) ?_
  refine lv_lload hx hb dX8_make_20 (lv_at hl 3 rfl) ?_
  refine lv_l2i hx hb dX8_make_22 rfl ?_
  refine fr_iast (k := q) hx hb hK hP hD hS 8 1 rfl rfl (by omega) (by decide) dX8_make_23 (fun H locs hP hD hS => ?_)
  have hP : va_P g.1 vwCl (rfW g a (z_mem ρ) (z_R ρ) (z_cb ρ) (z_nc ρ) (z_tu ρ) (z_bi ρ) (z_cg ρ) (z_on ρ) (up2 (up2 (up2 (z_T ρ) 0 q 1) 1 q x.toInt32) 2 q y.toInt32) (z_dn ρ) (z_fa ρ) (z_br ρ) (z_bs ρ) (z_cp ρ) (z_cq ρ) (z_cx ρ) (z_re ρ) (z_n ρ) (z_op ρ) (z_fg ρ) (z_sp ρ) (z_one ρ)) H := fr_eqP rfT_2 hP
  have hD : va_D A (rfW g a (z_mem ρ) (z_R ρ) (z_cb ρ) (z_nc ρ) (z_tu ρ) (z_bi ρ) (z_cg ρ) (z_on ρ) (up2 (up2 (up2 (z_T ρ) 0 q 1) 1 q x.toInt32) 2 q y.toInt32) (z_dn ρ) (z_fa ρ) (z_br ρ) (z_bs ρ) (z_cp ρ) (z_cq ρ) (z_cx ρ) (z_re ρ) (z_n ρ) (z_op ρ) (z_fg ρ) (z_sp ρ) (z_one ρ)) := fr_eqD rfT_2 hD
  refine lv_aload_n hx hb dX8_make_24 rfl (lv_at hl 0 rfl) ?_
  refine va_get (D := g.1) (ci := 7) (v := .ref (a 9)) (C := RX8) (T := TX8) (N := 30) hx hb hts inX8 hown hK hP 0 rfl rfl 13 (by decide) (hts _ tw616) (fun _ h9 => h9) rfl dX8_make_25 ?_
  refine lv_iload_n hx hb dX8_make_28 rfl (lv_at hl 1 rfl) ?_
  refine lv_iconst (v := 0) hx hb dX8_make_29 (by decide) ?_
  refine fr_iast (k := q) hx hb hK hP hD hS 9 1 rfl rfl (by omega) (by decide) dX8_make_30 (fun H locs hP hD hS => ?_)
  have hP : va_P g.1 vwCl (rfW g a (z_mem ρ) (z_R ρ) (z_cb ρ) (z_nc ρ) (z_tu ρ) (z_bi ρ) (z_cg ρ) (z_on ρ) (up2 (up2 (up2 (up2 (z_T ρ) 0 q 1) 1 q x.toInt32) 2 q y.toInt32) 3 q 0) (z_dn ρ) (z_fa ρ) (z_br ρ) (z_bs ρ) (z_cp ρ) (z_cq ρ) (z_cx ρ) (z_re ρ) (z_n ρ) (z_op ρ) (z_fg ρ) (z_sp ρ) (z_one ρ)) H := fr_eqP rfT_3 hP
  have hD : va_D A (rfW g a (z_mem ρ) (z_R ρ) (z_cb ρ) (z_nc ρ) (z_tu ρ) (z_bi ρ) (z_cg ρ) (z_on ρ) (up2 (up2 (up2 (up2 (z_T ρ) 0 q 1) 1 q x.toInt32) 2 q y.toInt32) 3 q 0) (z_dn ρ) (z_fa ρ) (z_br ρ) (z_bs ρ) (z_cp ρ) (z_cq ρ) (z_cx ρ) (z_re ρ) (z_n ρ) (z_op ρ) (z_fg ρ) (z_sp ρ) (z_one ρ)) := fr_eqD rfT_3 hD
  refine lv_aload_n hx hb dX8_make_31 rfl (lv_at hl 0 rfl) ?_
  refine va_get (D := g.1) (ci := 7) (v := .ref (a 10)) (C := RX8) (T := TX8) (N := 30) hx hb hts inX8 hown hK hP 0 rfl rfl 14 (by decide) (hts _ tw617) (fun _ h9 => h9) rfl dX8_make_32 ?_
  refine lv_iload_n hx hb dX8_make_35 rfl (lv_at hl 1 rfl) ?_
  refine lv_iconst (v := 0) hx hb dX8_make_36 (by decide) ?_
  refine fr_iast (k := q) hx hb hK hP hD hS 10 1 rfl rfl (by omega) (by decide) dX8_make_37 (fun H locs hP hD hS => ?_)
  have hP : va_P g.1 vwCl (rfW g a (z_mem ρ) (z_R ρ) (z_cb ρ) (z_nc ρ) (z_tu ρ) (z_bi ρ) (z_cg ρ) (z_on ρ) (up2 (up2 (up2 (up2 (up2 (z_T ρ) 0 q 1) 1 q x.toInt32) 2 q y.toInt32) 3 q 0) 4 q 0) (z_dn ρ) (z_fa ρ) (z_br ρ) (z_bs ρ) (z_cp ρ) (z_cq ρ) (z_cx ρ) (z_re ρ) (z_n ρ) (z_op ρ) (z_fg ρ) (z_sp ρ) (z_one ρ)) H := fr_eqP rfT_4 hP
  have hD : va_D A (rfW g a (z_mem ρ) (z_R ρ) (z_cb ρ) (z_nc ρ) (z_tu ρ) (z_bi ρ) (z_cg ρ) (z_on ρ) (up2 (up2 (up2 (up2 (up2 (z_T ρ) 0 q 1) 1 q x.toInt32) 2 q y.toInt32) 3 q 0) 4 q 0) (z_dn ρ) (z_fa ρ) (z_br ρ) (z_bs ρ) (z_cp ρ) (z_cq ρ) (z_cx ρ) (z_re ρ) (z_n ρ) (z_op ρ) (z_fg ρ) (z_sp ρ) (z_one ρ)) := fr_eqD rfT_4 hD
  refine lv_iload_n hx hb dX8_make_38 rfl (lv_at hl 1 rfl) ?_
  refine lv_iconst (v := 4) hx hb dX8_make_39 (by decide) ?_
  refine lv_icmp_lt (tgt := 52) hx hb dX8_make_40 (by decide) (fun c40 => ?_) (fun c40 => ?_)
  · have c40 := (nI_ltI (a := q) (b := 4) (by omega) (by omega)).mp c40
    exact W.vret hx hb hr (fun t ht _ => ⟨⟨none, rfW g a (z_mem ρ) (z_R ρ) (z_cb ρ) (z_nc ρ) (z_tu ρ) (z_bi ρ) (z_cg ρ) (z_on ρ) (up2 (up2 (up2 (up2 (up2 (z_T ρ) 0 q 1) 1 q x.toInt32) 2 q y.toInt32) 3 q 0) 4 q 0) (z_dn ρ) (z_fa ρ) (z_br ρ) (z_bs ρ) (z_cp ρ) (z_cq ρ) (z_cx ρ) (z_re ρ) (z_n ρ) (z_op ρ) (z_fg ρ) (z_sp ρ) (z_one ρ), rfl, ⟨rfl, by rw [mkQ, if_pos c40] <;> rfl⟩, rfl, by rw [ht]; exact hP⟩, hS.F ht⟩) hS.2.2 dX8_make_52
  · have c40 := (not_congr (nI_ltI (a := q) (b := 4) (by omega) (by omega))).mp c40
    refine lv_aload_n hx hb dX8_make_43 rfl (lv_at hl 0 rfl) ?_
    refine va_get (D := g.1) (ci := 7) (v := .ref (a 12)) (C := RX8) (T := TX8) (N := 30) hx hb hts inX8 hown hK hP 0 rfl rfl 16 (by decide) (hts _ tw619) (fun _ h9 => h9) rfl dX8_make_44 ?_
    refine lv_iload_n hx hb dX8_make_47 rfl (lv_at hl 1 rfl) ?_
    refine lv_iconst (v := 4) hx hb dX8_make_48 (by decide) ?_
    refine lv_isub hx hb dX8_make_49 ?_
    refine fr_topi (y := nI (q - 4)) (pk_sub (b := 4) (by omega)) ?_
    refine lv_iconst (v := 1) hx hb dX8_make_50 (by decide) ?_
    refine fr_iast (k := (q - 4)) hx hb hK hP hD hS 12 1 rfl rfl (by omega) (by decide) dX8_make_51 (fun H locs hP hD hS => ?_)
    have hP : va_P g.1 vwCl (rfW g a (z_mem ρ) (z_R ρ) (z_cb ρ) (z_nc ρ) (z_tu ρ) (z_bi ρ) (z_cg ρ) (z_on ρ) (up2 (up2 (up2 (up2 (up2 (up2 (z_T ρ) 0 q 1) 1 q x.toInt32) 2 q y.toInt32) 3 q 0) 4 q 0) 6 (q - 4) 1) (z_dn ρ) (z_fa ρ) (z_br ρ) (z_bs ρ) (z_cp ρ) (z_cq ρ) (z_cx ρ) (z_re ρ) (z_n ρ) (z_op ρ) (z_fg ρ) (z_sp ρ) (z_one ρ)) H := fr_eqP rfT_6 hP
    have hD : va_D A (rfW g a (z_mem ρ) (z_R ρ) (z_cb ρ) (z_nc ρ) (z_tu ρ) (z_bi ρ) (z_cg ρ) (z_on ρ) (up2 (up2 (up2 (up2 (up2 (up2 (z_T ρ) 0 q 1) 1 q x.toInt32) 2 q y.toInt32) 3 q 0) 4 q 0) 6 (q - 4) 1) (z_dn ρ) (z_fa ρ) (z_br ρ) (z_bs ρ) (z_cp ρ) (z_cq ρ) (z_cx ρ) (z_re ρ) (z_n ρ) (z_op ρ) (z_fg ρ) (z_sp ρ) (z_one ρ)) := fr_eqD rfT_6 hD
    exact W.vret hx hb hr (fun t ht _ => ⟨⟨none, rfW g a (z_mem ρ) (z_R ρ) (z_cb ρ) (z_nc ρ) (z_tu ρ) (z_bi ρ) (z_cg ρ) (z_on ρ) (up2 (up2 (up2 (up2 (up2 (up2 (z_T ρ) 0 q 1) 1 q x.toInt32) 2 q y.toInt32) 3 q 0) 4 q 0) 6 (q - 4) 1) (z_dn ρ) (z_fa ρ) (z_br ρ) (z_bs ρ) (z_cp ρ) (z_cq ρ) (z_cx ρ) (z_re ρ) (z_n ρ) (z_op ρ) (z_fg ρ) (z_sp ρ) (z_one ρ), rfl, ⟨rfl, by rw [mkQ, if_neg c40] <;> rfl⟩, rfl, by rw [ht]; exact hP⟩, hS.F ht⟩) hS.2.2 dX8_make_52
