set_option maxHeartbeats 4000000 in
set_option maxRecDepth 100000 in
/-- ring -/
theorem kX8_ring (l : Launch) (g : GG) (a : Nat → Nat) (ρ : RS) (p0 : Int32) (p1 : Int32) (hT : TI (z_T ρ)) : Ct l yX8_ring cX8_ring 3 (some .int) ({ frames := 1, cells := 0, slots := 0, locals := 25 } : Room) g [.ref (a 0), .int p0, .int p1] (rfW g a (z_mem ρ) (z_R ρ) (z_cb ρ) (z_nc ρ) (z_tu ρ) (z_bi ρ) (z_cg ρ) (z_on ρ) (z_T ρ) (z_dn ρ) (z_fa ρ) (z_br ρ) (z_bs ρ) (z_cp ρ) (z_cq ρ) (z_cx ρ) (z_re ρ) (z_n ρ) (z_op ρ) (z_fg ρ) (z_sp ρ) (z_one ρ)) (fun v w' => v = some (.int (ringR (z_T ρ) (z_on ρ) p0 p1)) ∧ w' = rfW g a (z_mem ρ) (z_R ρ) (z_cb ρ) (z_nc ρ) (z_tu ρ) (z_bi ρ) (z_cg ρ) (z_on ρ) (ringT (z_T ρ) (z_on ρ) p0 p1) (z_dn ρ) (z_fa ρ) (z_br ρ) (z_bs ρ) (z_cp ρ) (z_cq ρ) (z_cx ρ) (z_re ρ) (z_n ρ) (z_op ρ) (z_fg ρ) (z_sp ρ) (z_one ρ)) := by
  refine Ct.of (by decide) (Nat.le_of_ble_eq_true rfl) ?_
  intro p e s m below meth c A ls H locs hx hb hr hml hlocks hts hown hin hA hS hK hP hD hl
  have hown : s.vm.findClass RX8 = some m.cls := hown
  have hl : lv_has ls 3 [(0, .ref (a 0)), (1, .int p0), (2, .int p1)] := hl
  refine lv_aload_n hx hb dX8_ring_0 rfl (lv_at hl 0 rfl) ?_
  refine va_get (D := g.1) (ci := 7) (v := .int (z_on ρ)) (C := RX8) (T := TX8) (N := 30) hx hb hts inX8 hown hK hP 0 rfl rfl 8 (by decide) (hts _ tw611) (fun _ h9 => h9) rfl dX8_ring_1 ?_
  refine lv_if_ne (tgt := 10) hx hb dX8_ring_4 (by decide) (fun c4 => ?_) (fun c4 => ?_)
  · refine lv_iload_n hx hb dX8_ring_10 rfl (lv_at hl 1 rfl) ?_
    refine lv_i2l hx hb dX8_ring_11 rfl ?_
    refine lv_lconst (v := 0) hx hb dX8_ring_12 (by decide) ?_
    refine lv_ldc2 hx hb hown (hts _ tw742) dX8_ring_13 ?_
    refine fr_go (va_runS (As := [.long p0.toInt64, .long 0, .long 3]) (rest := []) ⟨hx, hb, hml, hown, hts⟩ (kX8_in l g p0.toInt64 0 3 H.size) (va_cwS 3 hts (gdS tw700 tw701 tw9 tw702) rfl rfl rfl (by decide +kernel) ⟨Nat.le_of_ble_eq_true rfl, Nat.le_of_ble_eq_true rfl⟩) ⟨Pst.blind, fr_pre hK hP hD [] rfl rfl⟩ rfl rfl hl.1 rfl (lv_room (Nat.le_of_ble_eq_true rfl)) dX8_ring_16 ⟨Nat.le_of_ble_eq_true rfl, Nat.le_of_ble_eq_true rfl⟩) hP hD hS hA [] rfl (fun v w9 H locs hq hP hD hS => ?_)
    obtain ⟨rfl, rfl⟩ := hq
    have hP : va_P g.1 vwCl (rfW g a (z_mem ρ) (z_R ρ) (z_cb ρ) (z_nc ρ) (z_tu ρ) (z_bi ρ) (z_cg ρ) (z_on ρ) (z_T ρ) (z_dn ρ) (z_fa ρ) (z_br ρ) (z_bs ρ) (z_cp ρ) (z_cq ρ) (z_cx ρ) (z_re ρ) (z_n ρ) (z_op ρ) (z_fg ρ) (z_sp ρ) (z_one ρ)) H := hP
    have hD : va_D A (rfW g a (z_mem ρ) (z_R ρ) (z_cb ρ) (z_nc ρ) (z_tu ρ) (z_bi ρ) (z_cg ρ) (z_on ρ) (z_T ρ) (z_dn ρ) (z_fa ρ) (z_br ρ) (z_bs ρ) (z_cp ρ) (z_cq ρ) (z_cx ρ) (z_re ρ) (z_n ρ) (z_op ρ) (z_fg ρ) (z_sp ρ) (z_one ρ)) := hD
    show W p l e _ s m _ below meth c H locs _ _ _ (F0 m (16 + 3) ls (.int (bI (¬ p0.toInt64 < 0 ∧ ¬ 3 < p0.toInt64)) :: []))
    refine lv_if_eq (tgt := 49) hx hb dX8_ring_19 (by decide) (fun c19 => ?_) (fun c19 => ?_)
    · have c19 := bI_f c19
      refine lv_iconst (v := -1) hx hb dX8_ring_49 (by decide) ?_
      exact W.iret (v := -1) hx hb hr (fun t ht _ => ⟨⟨(some (.int (-1))), rfW g a (z_mem ρ) (z_R ρ) (z_cb ρ) (z_nc ρ) (z_tu ρ) (z_bi ρ) (z_cg ρ) (z_on ρ) (z_T ρ) (z_dn ρ) (z_fa ρ) (z_br ρ) (z_bs ρ) (z_cp ρ) (z_cq ρ) (z_cx ρ) (z_re ρ) (z_n ρ) (z_op ρ) (z_fg ρ) (z_sp ρ) (z_one ρ), rfl, ⟨congrArg (fun z : Int32 => some (Value.int z)) (by rw [ringR, if_neg c4, if_neg (fun q => c19 ⟨q.1.1, fun z => q.1.2.1 (l4 z)⟩)]), by rw [ringT, if_neg c4, if_neg (fun q => c19 ⟨q.1.1, fun z => q.1.2.1 (l4 z)⟩)]⟩, rfl, by rw [ht]; exact hP⟩, hS.F ht⟩) hS.2.2 dX8_ring_50
    · have c19 := bI_t c19
      have d19 : ¬ 4 ≤ p0.toInt64 := fun q => c19.2 (l3 q)
      obtain ⟨h4, e4, n4⟩ := i64_n c19.1 d19
      refine lv_aload_n hx hb dX8_ring_22 rfl (lv_at hl 0 rfl) ?_
      refine va_get (D := g.1) (ci := 7) (v := .ref (a 5)) (C := RX8) (T := TX8) (N := 30) hx hb hts inX8 hown hK hP 0 rfl rfl 9 (by decide) (hts _ tw612) (fun _ h9 => h9) rfl dX8_ring_23 ?_
      refine lv_iload_n hx hb dX8_ring_26 rfl (lv_at hl 1 rfl) ?_
      refine fr_topi (y := nI p0.toNatClampNeg) e4 ?_
      refine fr_zald (k := p0.toNatClampNeg) hx hb hK hP 5 2 rfl rfl (by omega) (by decide) dX8_ring_27 ?_
      refine lv_if_eq (tgt := 49) hx hb dX8_ring_28 (by decide) (fun c28 => ?_) (fun c28 => ?_)
      · refine lv_iconst (v := -1) hx hb dX8_ring_49 (by decide) ?_
        exact W.iret (v := -1) hx hb hr (fun t ht _ => ⟨⟨(some (.int (-1))), rfW g a (z_mem ρ) (z_R ρ) (z_cb ρ) (z_nc ρ) (z_tu ρ) (z_bi ρ) (z_cg ρ) (z_on ρ) (z_T ρ) (z_dn ρ) (z_fa ρ) (z_br ρ) (z_bs ρ) (z_cp ρ) (z_cq ρ) (z_cx ρ) (z_re ρ) (z_n ρ) (z_op ρ) (z_fg ρ) (z_sp ρ) (z_one ρ), rfl, ⟨congrArg (fun z : Int32 => some (Value.int z)) (by rw [ringR, if_neg c4, if_neg (fun q => q.1.2.2 (by rw [n4]; exact c28))]), by rw [ringT, if_neg c4, if_neg (fun q => q.1.2.2 (by rw [n4]; exact c28))]⟩, rfl, by rw [ht]; exact hP⟩, hS.F ht⟩) hS.2.2 dX8_ring_50
      · have hQ := (hT.1 _ h4 c28).1
        obtain ⟨s9, e9, g2, g16⟩ := QI_sz hQ
        have hS9 : hasS (z_T ρ) p0.toInt64 := ⟨c19.1, d19, by rw [n4]; exact c28⟩
        refine lv_iload_n hx hb dX8_ring_31 rfl (lv_at hl 2 rfl) ?_
        refine lv_i2l hx hb dX8_ring_32 rfl ?_
        refine lv_lconst (v := 0) hx hb dX8_ring_33 (by decide) ?_
        refine lv_aload_n hx hb dX8_ring_34 rfl (lv_at hl 0 rfl) ?_
        refine va_get (D := g.1) (ci := 7) (v := .ref (a 8)) (C := RX8) (T := TX8) (N := 30) hx hb hts inX8 hown hK hP 0 rfl rfl 12 (by decide) (hts _ tw615) (fun _ h9 => h9) rfl dX8_ring_35 ?_
        refine lv_iload_n hx hb dX8_ring_38 rfl (lv_at hl 1 rfl) ?_
        refine fr_topi (y := nI p0.toNatClampNeg) e4 ?_
        refine fr_iald (k := p0.toNatClampNeg) hx hb hK hP 8 1 rfl rfl (by omega) (by decide) dX8_ring_39 ?_
        refine lv_iconst (v := 1) hx hb dX8_ring_40 (by decide) ?_
        refine lv_isub hx hb dX8_ring_41 ?_
        refine lv_i2l hx hb dX8_ring_42 rfl ?_
        refine fr_go (va_runS (As := [.long p1.toInt64, .long 0, .long (((((z_T ρ) 2) p0.toNatClampNeg) - 1).toInt64)]) (rest := []) ⟨hx, hb, hml, hown, hts⟩ (kX8_in l g p1.toInt64 0 (((((z_T ρ) 2) p0.toNatClampNeg) - 1).toInt64) H.size) (va_cwS 3 hts (gdS tw700 tw701 tw9 tw702) rfl rfl rfl (by decide +kernel) ⟨Nat.le_of_ble_eq_true rfl, Nat.le_of_ble_eq_true rfl⟩) ⟨Pst.blind, fr_pre hK hP hD [] rfl rfl⟩ rfl rfl hl.1 rfl (lv_room (Nat.le_of_ble_eq_true rfl)) dX8_ring_43 ⟨Nat.le_of_ble_eq_true rfl, Nat.le_of_ble_eq_true rfl⟩) hP hD hS hA [] rfl (fun v w9 H locs hq hP hD hS => ?_)
        obtain ⟨rfl, rfl⟩ := hq
        have hP : va_P g.1 vwCl (rfW g a (z_mem ρ) (z_R ρ) (z_cb ρ) (z_nc ρ) (z_tu ρ) (z_bi ρ) (z_cg ρ) (z_on ρ) (z_T ρ) (z_dn ρ) (z_fa ρ) (z_br ρ) (z_bs ρ) (z_cp ρ) (z_cq ρ) (z_cx ρ) (z_re ρ) (z_n ρ) (z_op ρ) (z_fg ρ) (z_sp ρ) (z_one ρ)) H := hP
        have hD : va_D A (rfW g a (z_mem ρ) (z_R ρ) (z_cb ρ) (z_nc ρ) (z_tu ρ) (z_bi ρ) (z_cg ρ) (z_on ρ) (z_T ρ) (z_dn ρ) (z_fa ρ) (z_br ρ) (z_bs ρ) (z_cp ρ) (z_cq ρ) (z_cx ρ) (z_re ρ) (z_n ρ) (z_op ρ) (z_fg ρ) (z_sp ρ) (z_one ρ)) := hD
        show W p l e _ s m _ below meth c H locs _ _ _ (F0 m (43 + 3) ls (.int (bI (¬ p1.toInt64 < 0 ∧ ¬ (((((z_T ρ) 2) p0.toNatClampNeg) - 1).toInt64) < p1.toInt64)) :: []))
        refine lv_if_ne (tgt := 51) hx hb dX8_ring_46 (by decide) (fun c46 => ?_) (fun c46 => ?_)
        · have c46 := bI_t c46
          have d46 := (hpl_in e9 g2 g16).mp c46
          refine lv_aload_n hx hb dX8_ring_51 rfl (lv_at hl 0 rfl) ?_
          refine va_get (D := g.1) (ci := 7) (v := .ref (a 10)) (C := RX8) (T := TX8) (N := 30) hx hb hts inX8 hown hK hP 0 rfl rfl 14 (by decide) (hts _ tw617) (fun _ h9 => h9) rfl dX8_ring_52 ?_
          refine lv_iload_n hx hb dX8_ring_55 rfl (lv_at hl 1 rfl) ?_
          refine fr_topi (y := nI p0.toNatClampNeg) e4 ?_
          refine lv_iload_n hx hb dX8_ring_56 rfl (lv_at hl 2 rfl) ?_
          refine fr_iast (k := p0.toNatClampNeg) hx hb hK hP hD hS 10 1 rfl rfl (by omega) (by decide) dX8_ring_57 (fun H locs hP hD hS => ?_)
          have hP : va_P g.1 vwCl (rfW g a (z_mem ρ) (z_R ρ) (z_cb ρ) (z_nc ρ) (z_tu ρ) (z_bi ρ) (z_cg ρ) (z_on ρ) (up2 (z_T ρ) 4 p0.toNatClampNeg p1) (z_dn ρ) (z_fa ρ) (z_br ρ) (z_bs ρ) (z_cp ρ) (z_cq ρ) (z_cx ρ) (z_re ρ) (z_n ρ) (z_op ρ) (z_fg ρ) (z_sp ρ) (z_one ρ)) H := fr_eqP rfT_4 hP
          have hD : va_D A (rfW g a (z_mem ρ) (z_R ρ) (z_cb ρ) (z_nc ρ) (z_tu ρ) (z_bi ρ) (z_cg ρ) (z_on ρ) (up2 (z_T ρ) 4 p0.toNatClampNeg p1) (z_dn ρ) (z_fa ρ) (z_br ρ) (z_bs ρ) (z_cp ρ) (z_cq ρ) (z_cx ρ) (z_re ρ) (z_n ρ) (z_op ρ) (z_fg ρ) (z_sp ρ) (z_one ρ)) := fr_eqD rfT_4 hD
          refine lv_aload_n hx hb dX8_ring_58 rfl (lv_at hl 0 rfl) ?_
          refine lv_iload_n hx hb dX8_ring_59 rfl (lv_at hl 1 rfl) ?_
          refine fr_topi (y := nI p0.toNatClampNeg) e4 ?_
          refine fr_goA (va_runV (As := [.int (nI p0.toNatClampNeg)]) (rest := []) ⟨hx, hb, hml, hown, hts⟩ (kX8_many l g a (w_T ρ (up2 (z_T ρ) 4 p0.toNatClampNeg p1)) p0.toNatClampNeg 4 (by omega) (QI_t4 hQ d46) H.size) (cwV 1 hts (gdV tw743 tw745 tp31 tw9 tw746) rfl rfl rfl (by decide +kernel) ⟨Nat.le_of_ble_eq_true rfl, Nat.le_of_ble_eq_true rfl⟩) ⟨Pst.blind, va_recv hK hP (ci := 7) (q0 := 0) rfl rfl, fr_preA hK hP hD⟩ rfl rfl hl.1 rfl (lv_room (Nat.le_of_ble_eq_true rfl)) dX8_ring_60 ⟨Nat.le_of_ble_eq_true rfl, Nat.le_of_ble_eq_true rfl⟩) hD hS hA (fun v w9 H locs hq hP hD hS => ?_)
          obtain ⟨rfl, rfl⟩ := hq
          have hP : va_P g.1 vwCl (rfW g a (z_mem ρ) (z_R ρ) (z_cb ρ) (z_nc ρ) (z_tu ρ) (z_bi ρ) (z_cg ρ) (z_on ρ) (up2 (z_T ρ) 4 p0.toNatClampNeg p1) (z_dn ρ) (z_fa ρ) (z_br ρ) (z_bs ρ) (z_cp ρ) (z_cq ρ) (z_cx ρ) (z_re ρ) (z_n ρ) (z_op ρ) (z_fg ρ) (z_sp ρ) (z_one ρ)) H := hP
          have hD : va_D A (rfW g a (z_mem ρ) (z_R ρ) (z_cb ρ) (z_nc ρ) (z_tu ρ) (z_bi ρ) (z_cg ρ) (z_on ρ) (up2 (z_T ρ) 4 p0.toNatClampNeg p1) (z_dn ρ) (z_fa ρ) (z_br ρ) (z_bs ρ) (z_cp ρ) (z_cq ρ) (z_cx ρ) (z_re ρ) (z_n ρ) (z_op ρ) (z_fg ρ) (z_sp ρ) (z_one ρ)) := hD
          show W p l e _ s m _ below meth c H locs _ _ _ (F0 m (60 + 3) ls (.int (fht (z_T (w_T ρ (up2 (z_T ρ) 4 p0.toNatClampNeg p1)) 3 p0.toNatClampNeg) (z_T (w_T ρ (up2 (z_T ρ) 4 p0.toNatClampNeg p1)) 2 p0.toNatClampNeg) (z_T (w_T ρ (up2 (z_T ρ) 4 p0.toNatClampNeg p1)) 4 p0.toNatClampNeg)) :: []))
          exact W.iret (v := fht (z_T (w_T ρ (up2 (z_T ρ) 4 p0.toNatClampNeg p1)) 3 p0.toNatClampNeg) (z_T (w_T ρ (up2 (z_T ρ) 4 p0.toNatClampNeg p1)) 2 p0.toNatClampNeg) (z_T (w_T ρ (up2 (z_T ρ) 4 p0.toNatClampNeg p1)) 4 p0.toNatClampNeg)) hx hb hr (fun t ht _ => ⟨⟨(some (.int (fht (z_T (w_T ρ (up2 (z_T ρ) 4 p0.toNatClampNeg p1)) 3 p0.toNatClampNeg) (z_T (w_T ρ (up2 (z_T ρ) 4 p0.toNatClampNeg p1)) 2 p0.toNatClampNeg) (z_T (w_T ρ (up2 (z_T ρ) 4 p0.toNatClampNeg p1)) 4 p0.toNatClampNeg)))), rfW g a (z_mem ρ) (z_R ρ) (z_cb ρ) (z_nc ρ) (z_tu ρ) (z_bi ρ) (z_cg ρ) (z_on ρ) (up2 (z_T ρ) 4 p0.toNatClampNeg p1) (z_dn ρ) (z_fa ρ) (z_br ρ) (z_bs ρ) (z_cp ρ) (z_cq ρ) (z_cx ρ) (z_re ρ) (z_n ρ) (z_op ρ) (z_fg ρ) (z_sp ρ) (z_one ρ), rfl, ⟨congrArg (fun z : Int32 => some (Value.int z)) (by rw [ringR, if_neg c4, if_pos ⟨hS9, d46⟩]), by rw [ringT, if_neg c4, if_pos ⟨hS9, d46⟩]⟩, rfl, by rw [ht]; exact hP⟩, hS.F ht⟩) hS.2.2 dX8_ring_63
        · have c46 := bI_f c46
          refine lv_iconst (v := -1) hx hb dX8_ring_49 (by decide) ?_
          exact W.iret (v := -1) hx hb hr (fun t ht _ => ⟨⟨(some (.int (-1))), rfW g a (z_mem ρ) (z_R ρ) (z_cb ρ) (z_nc ρ) (z_tu ρ) (z_bi ρ) (z_cg ρ) (z_on ρ) (z_T ρ) (z_dn ρ) (z_fa ρ) (z_br ρ) (z_bs ρ) (z_cp ρ) (z_cq ρ) (z_cx ρ) (z_re ρ) (z_n ρ) (z_op ρ) (z_fg ρ) (z_sp ρ) (z_one ρ), rfl, ⟨congrArg (fun z : Int32 => some (Value.int z)) (by rw [ringR, if_neg c4, if_neg (fun q => c46 ((hpl_in e9 g2 g16).mpr q.2))]), by rw [ringT, if_neg c4, if_neg (fun q => c46 ((hpl_in e9 g2 g16).mpr q.2))]⟩, rfl, by rw [ht]; exact hP⟩, hS.F ht⟩) hS.2.2 dX8_ring_50
  · refine lv_bipush (v := -3) hx hb dX8_ring_7 (by decide) ?_
    exact W.iret (v := -3) hx hb hr (fun t ht _ => ⟨⟨(some (.int (-3))), rfW g a (z_mem ρ) (z_R ρ) (z_cb ρ) (z_nc ρ) (z_tu ρ) (z_bi ρ) (z_cg ρ) (z_on ρ) (z_T ρ) (z_dn ρ) (z_fa ρ) (z_br ρ) (z_bs ρ) (z_cp ρ) (z_cq ρ) (z_cx ρ) (z_re ρ) (z_n ρ) (z_op ρ) (z_fg ρ) (z_sp ρ) (z_one ρ), rfl, ⟨congrArg (fun z : Int32 => some (Value.int z)) (if_pos c4).symm, by rw [ringT, if_pos c4]⟩, rfl, by rw [ht]; exact hP⟩, hS.F ht⟩) hS.2.2 dX8_ring_9
