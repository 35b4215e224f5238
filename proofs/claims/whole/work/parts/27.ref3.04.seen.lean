set_option maxHeartbeats 4000000 in
set_option maxRecDepth 100000 in
/-- seen -/
theorem kX8_seen (l : Launch) (g : GG) (a : Nat → Nat) (ρ : RS) (p0 : Int32) (p1 : Int32) (hT : TI (z_T ρ)) : Ct l yX8_seen cX8_seen 4 (some .int) ({ frames := 1, cells := 0, slots := 0, locals := 25 } : Room) g [.ref (a 0), .int p0, .int p1] (rfW g a (z_mem ρ) (z_R ρ) (z_cb ρ) (z_nc ρ) (z_tu ρ) (z_bi ρ) (z_cg ρ) (z_on ρ) (z_T ρ) (z_dn ρ) (z_fa ρ) (z_br ρ) (z_bs ρ) (z_cp ρ) (z_cq ρ) (z_cx ρ) (z_re ρ) (z_n ρ) (z_op ρ) (z_fg ρ) (z_sp ρ) (z_one ρ)) (fun v w' => v = some (.int (seenR (z_T ρ) (z_on ρ) p0 p1)) ∧ w' = rfW g a (z_mem ρ) (z_R ρ) (z_cb ρ) (z_nc ρ) (z_tu ρ) (z_bi ρ) (z_cg ρ) (z_on ρ) (seenT (z_T ρ) (z_on ρ) p0 p1) (z_dn ρ) (z_fa ρ) (z_br ρ) (z_bs ρ) (z_cp ρ) (z_cq ρ) (z_cx ρ) (z_re ρ) (z_n ρ) (z_op ρ) (z_fg ρ) (z_sp ρ) (z_one ρ)) := by
  refine Ct.of (by decide) (Nat.le_of_ble_eq_true rfl) ?_
  intro p e s m below meth c A ls H locs hx hb hr hml hlocks hts hown hin hA hS hK hP hD hl
  have hown : s.vm.findClass RX8 = some m.cls := hown
  have hl : lv_has ls 4 [(0, .ref (a 0)), (1, .int p0), (2, .int p1)] := hl
  refine lv_aload_n hx hb dX8_seen_0 rfl (lv_at hl 0 rfl) ?_
  refine va_get (D := g.1) (ci := 7) (v := .int (z_on ρ)) (C := RX8) (T := TX8) (N := 30) hx hb hts inX8 hown hK hP 0 rfl rfl 8 (by decide) (hts _ tw611) (fun _ h9 => h9) rfl dX8_seen_1 ?_
  refine lv_if_ne (tgt := 10) hx hb dX8_seen_4 (by decide) (fun c4 => ?_) (fun c4 => ?_)
  · refine lv_iconst (v := 4) hx hb dX8_seen_10 (by decide) ?_
    refine lv_iload_n hx hb dX8_seen_11 rfl (lv_at hl 1 rfl) ?_
    refine lv_iadd hx hb dX8_seen_12 ?_
    refine lv_istore_n (lv' := [(3, .int (4 + p0)), (0, .ref (a 0)), (1, .int p0), (2, .int p1)]) hx hb dX8_seen_13 rfl hl (by decide) rfl (fun ls hl => ?_)
    refine lv_iload_n hx hb dX8_seen_14 rfl (lv_at hl 2 rfl) ?_
    refine lv_i2l hx hb dX8_seen_15 rfl ?_
    refine lv_lconst (v := 0) hx hb dX8_seen_16 (by decide) ?_
    refine lv_ldc2 hx hb hown (hts _ tw742) dX8_seen_17 ?_
    refine fr_go (va_runS (As := [.long p0.toInt64, .long 0, .long 3]) (rest := []) ⟨hx, hb, hml, hown, hts⟩ (kX8_in l g p0.toInt64 0 3 H.size) (va_cwS 3 hts (gdS tw700 tw701 tw9 tw702) rfl rfl rfl (by decide +kernel) ⟨Nat.le_of_ble_eq_true rfl, Nat.le_of_ble_eq_true rfl⟩) ⟨Pst.blind, fr_pre hK hP hD [] rfl rfl⟩ rfl rfl hl.1 rfl (lv_room (Nat.le_of_ble_eq_true rfl)) dX8_seen_20 ⟨Nat.le_of_ble_eq_true rfl, Nat.le_of_ble_eq_true rfl⟩) hP hD hS hA [] rfl (fun v w9 H locs hq hP hD hS => ?_)
    obtain ⟨rfl, rfl⟩ := hq
    have hP : va_P g.1 vwCl (rfW g a (z_mem ρ) (z_R ρ) (z_cb ρ) (z_nc ρ) (z_tu ρ) (z_bi ρ) (z_cg ρ) (z_on ρ) (z_T ρ) (z_dn ρ) (z_fa ρ) (z_br ρ) (z_bs ρ) (z_cp ρ) (z_cq ρ) (z_cx ρ) (z_re ρ) (z_n ρ) (z_op ρ) (z_fg ρ) (z_sp ρ) (z_one ρ)) H := hP
    have hD : va_D A (rfW g a (z_mem ρ) (z_R ρ) (z_cb ρ) (z_nc ρ) (z_tu ρ) (z_bi ρ) (z_cg ρ) (z_on ρ) (z_T ρ) (z_dn ρ) (z_fa ρ) (z_br ρ) (z_bs ρ) (z_cp ρ) (z_cq ρ) (z_cx ρ) (z_re ρ) (z_n ρ) (z_op ρ) (z_fg ρ) (z_sp ρ) (z_one ρ)) := hD
    show W p l e _ s m _ below meth c H locs _ _ _ (F0 m (20 + 3) ls (.int (bI (¬ p0.toInt64 < 0 ∧ ¬ 3 < p0.toInt64)) :: []))
    refine lv_if_eq (tgt := 83) hx hb dX8_seen_23 (by decide) (fun c23 => ?_) (fun c23 => ?_)
    · have c23 := bI_f c23
      refine lv_iconst (v := -1) hx hb dX8_seen_83 (by decide) ?_
      exact W.iret (v := -1) hx hb hr (fun t ht _ => ⟨⟨(some (.int (-1))), rfW g a (z_mem ρ) (z_R ρ) (z_cb ρ) (z_nc ρ) (z_tu ρ) (z_bi ρ) (z_cg ρ) (z_on ρ) (z_T ρ) (z_dn ρ) (z_fa ρ) (z_br ρ) (z_bs ρ) (z_cp ρ) (z_cq ρ) (z_cx ρ) (z_re ρ) (z_n ρ) (z_op ρ) (z_fg ρ) (z_sp ρ) (z_one ρ), rfl, ⟨congrArg (fun z : Int32 => some (Value.int z)) (by rw [seenR, if_neg c4, if_neg (fun q => c23 ⟨q.1.1, fun z => q.1.2.1 (l4 z)⟩)]), by rw [seenT, if_neg c4, if_neg (fun q => c23 ⟨q.1.1, fun z => q.1.2.1 (l4 z)⟩)]⟩, rfl, by rw [ht]; exact hP⟩, hS.F ht⟩) hS.2.2 dX8_seen_84
    · have c23 := bI_t c23
      have d19 : ¬ 4 ≤ p0.toInt64 := fun q => c23.2 (l3 q)
      obtain ⟨h4, e4, n4⟩ := i64_n c23.1 d19
      refine lv_aload_n hx hb dX8_seen_26 rfl (lv_at hl 1 rfl) ?_
      refine va_get (D := g.1) (ci := 7) (v := .ref (a 5)) (C := RX8) (T := TX8) (N := 30) hx hb hts inX8 hown hK hP 0 rfl rfl 9 (by decide) (hts _ tw612) (fun _ h9 => h9) rfl dX8_seen_27 ?_
      refine lv_iload_n hx hb dX8_seen_30 rfl (lv_at hl 0 rfl) ?_
      refine fr_topi (y := nI (4 + p0.toNatClampNeg)) (e4c h4 e4) ?_
      refine fr_zald (k := (4 + p0.toNatClampNeg)) hx hb hK hP 5 2 rfl rfl (by omega) (by decide) dX8_seen_31 ?_
      refine lv_if_eq (tgt := 83) hx hb dX8_seen_32 (by decide) (fun c32 => ?_) (fun c32 => ?_)
      · refine lv_iconst (v := -1) hx hb dX8_seen_83 (by decide) ?_
        exact W.iret (v := -1) hx hb hr (fun t ht _ => ⟨⟨(some (.int (-1))), rfW g a (z_mem ρ) (z_R ρ) (z_cb ρ) (z_nc ρ) (z_tu ρ) (z_bi ρ) (z_cg ρ) (z_on ρ) (z_T ρ) (z_dn ρ) (z_fa ρ) (z_br ρ) (z_bs ρ) (z_cp ρ) (z_cq ρ) (z_cx ρ) (z_re ρ) (z_n ρ) (z_op ρ) (z_fg ρ) (z_sp ρ) (z_one ρ), rfl, ⟨congrArg (fun z : Int32 => some (Value.int z)) (by rw [seenR, if_neg c4, if_neg (fun q => q.1.2.2 (by rw [n4]; exact c32))]), by rw [seenT, if_neg c4, if_neg (fun q => q.1.2.2 (by rw [n4]; exact c32))]⟩, rfl, by rw [ht]; exact hP⟩, hS.F ht⟩) hS.2.2 dX8_seen_84
      · have hQ := (hT.2.1 _ h4 c32).1
        obtain ⟨s9, e9, g2, g16⟩ := QI_sz hQ
        have hS9 : hasC (z_T ρ) p0.toInt64 := ⟨c23.1, d19, by rw [n4]; exact c32⟩
        refine lv_iload_n hx hb dX8_seen_35 rfl (lv_at hl 3 rfl) ?_
        refine lv_i2l hx hb dX8_seen_36 rfl ?_
        refine lv_lconst (v := 0) hx hb dX8_seen_37 (by decide) ?_
        refine lv_aload_n hx hb dX8_seen_38 rfl (lv_at hl 1 rfl) ?_
        refine va_get (D := g.1) (ci := 7) (v := .ref (a 8)) (C := RX8) (T := TX8) (N := 30) hx hb hts inX8 hown hK hP 0 rfl rfl 12 (by decide) (hts _ tw615) (fun _ h9 => h9) rfl dX8_seen_39 ?_
        refine lv_iload_n hx hb dX8_seen_42 rfl (lv_at hl 0 rfl) ?_
        refine fr_topi (y := nI (4 + p0.toNatClampNeg)) (e4c h4 e4) ?_
        refine fr_iald (k := (4 + p0.toNatClampNeg)) hx hb hK hP 8 1 rfl rfl (by omega) (by decide) dX8_seen_43 ?_
        refine lv_iconst (v := 1) hx hb dX8_seen_44 (by decide) ?_
        refine lv_isub hx hb dX8_seen_45 ?_
        refine lv_i2l hx hb dX8_seen_46 rfl ?_
        refine fr_go (va_runS (As := [.long p1.toInt64, .long 0, .long (((((z_T ρ) 2) (4 + p0.toNatClampNeg)) - 1).toInt64)]) (rest := []) ⟨hx, hb, hml, hown, hts⟩ (kX8_in l g p1.toInt64 0 (((((z_T ρ) 2) (4 + p0.toNatClampNeg)) - 1).toInt64) H.size) (va_cwS 3 hts (gdS tw700 tw701 tw9 tw702) rfl rfl rfl (by decide +kernel) ⟨Nat.le_of_ble_eq_true rfl, Nat.le_of_ble_eq_true rfl⟩) ⟨Pst.blind, fr_pre hK hP hD [] rfl rfl⟩ rfl rfl hl.1 rfl (lv_room (Nat.le_of_ble_eq_true rfl)) dX8_seen_47 ⟨Nat.le_of_ble_eq_true rfl, Nat.le_of_ble_eq_true rfl⟩) hP hD hS hA [] rfl (fun v w9 H locs hq hP hD hS => ?_)
        obtain ⟨rfl, rfl⟩ := hq
        have hP : va_P g.1 vwCl (rfW g a (z_mem ρ) (z_R ρ) (z_cb ρ) (z_nc ρ) (z_tu ρ) (z_bi ρ) (z_cg ρ) (z_on ρ) (z_T ρ) (z_dn ρ) (z_fa ρ) (z_br ρ) (z_bs ρ) (z_cp ρ) (z_cq ρ) (z_cx ρ) (z_re ρ) (z_n ρ) (z_op ρ) (z_fg ρ) (z_sp ρ) (z_one ρ)) H := hP
        have hD : va_D A (rfW g a (z_mem ρ) (z_R ρ) (z_cb ρ) (z_nc ρ) (z_tu ρ) (z_bi ρ) (z_cg ρ) (z_on ρ) (z_T ρ) (z_dn ρ) (z_fa ρ) (z_br ρ) (z_bs ρ) (z_cp ρ) (z_cq ρ) (z_cx ρ) (z_re ρ) (z_n ρ) (z_op ρ) (z_fg ρ) (z_sp ρ) (z_one ρ)) := hD
        show W p l e _ s m _ below meth c H locs _ _ _ (F0 m (47 + 3) ls (.int (bI (¬ p1.toInt64 < 0 ∧ ¬ (((((z_T ρ) 2) (4 + p0.toNatClampNeg)) - 1).toInt64) < p1.toInt64)) :: []))
        refine lv_if_eq (tgt := 83) hx hb dX8_seen_50 (by decide) (fun c50 => ?_) (fun c50 => ?_)
        · have c50 := bI_f c50
          refine lv_iconst (v := -1) hx hb dX8_seen_83 (by decide) ?_
          exact W.iret (v := -1) hx hb hr (fun t ht _ => ⟨⟨(some (.int (-1))), rfW g a (z_mem ρ) (z_R ρ) (z_cb ρ) (z_nc ρ) (z_tu ρ) (z_bi ρ) (z_cg ρ) (z_on ρ) (z_T ρ) (z_dn ρ) (z_fa ρ) (z_br ρ) (z_bs ρ) (z_cp ρ) (z_cq ρ) (z_cx ρ) (z_re ρ) (z_n ρ) (z_op ρ) (z_fg ρ) (z_sp ρ) (z_one ρ), rfl, ⟨congrArg (fun z : Int32 => some (Value.int z)) (by rw [seenR, if_neg c4, if_neg (fun q => c50 ((hpl_in e9 g2 g16).mpr q.2.1))]), by rw [seenT, if_neg c4, if_neg (fun q => c50 ((hpl_in e9 g2 g16).mpr q.2.1))]⟩, rfl, by rw [ht]; exact hP⟩, hS.F ht⟩) hS.2.2 dX8_seen_84
        · have c50 := bI_t c50
          have d46 := (hpl_in e9 g2 g16).mp c50
          refine lv_iload_n hx hb dX8_seen_53 rfl (lv_at hl 3 rfl) ?_
          refine lv_aload_n hx hb dX8_seen_54 rfl (lv_at hl 1 rfl) ?_
          refine va_get (D := g.1) (ci := 7) (v := .ref (a 9)) (C := RX8) (T := TX8) (N := 30) hx hb hts inX8 hown hK hP 0 rfl rfl 13 (by decide) (hts _ tw616) (fun _ h9 => h9) rfl dX8_seen_55 ?_
          refine lv_iload_n hx hb dX8_seen_58 rfl (lv_at hl 0 rfl) ?_
          refine fr_topi (y := nI (4 + p0.toNatClampNeg)) (e4c h4 e4) ?_
          refine fr_iald (k := (4 + p0.toNatClampNeg)) hx hb hK hP 9 1 rfl rfl (by omega) (by decide) dX8_seen_59 ?_
          refine lv_isub hx hb dX8_seen_60 ?_
          refine lv_aload_n hx hb dX8_seen_61 rfl (lv_at hl 1 rfl) ?_
          refine va_get (D := g.1) (ci := 7) (v := .ref (a 8)) (C := RX8) (T := TX8) (N := 30) hx hb hts inX8 hown hK hP 0 rfl rfl 12 (by decide) (hts _ tw615) (fun _ h9 => h9) rfl dX8_seen_62 ?_
          refine lv_iload_n hx hb dX8_seen_65 rfl (lv_at hl 0 rfl) ?_
          refine fr_topi (y := nI (4 + p0.toNatClampNeg)) (e4c h4 e4) ?_
          refine fr_iald (k := (4 + p0.toNatClampNeg)) hx hb hK hP 8 1 rfl rfl (by omega) (by decide) dX8_seen_66 ?_
          refine lv_iadd hx hb dX8_seen_67 ?_
          refine lv_aload_n hx hb dX8_seen_68 rfl (lv_at hl 1 rfl) ?_
          refine va_get (D := g.1) (ci := 7) (v := .ref (a 8)) (C := RX8) (T := TX8) (N := 30) hx hb hts inX8 hown hK hP 0 rfl rfl 12 (by decide) (hts _ tw615) (fun _ h9 => h9) rfl dX8_seen_69 ?_
          refine lv_iload_n hx hb dX8_seen_72 rfl (lv_at hl 0 rfl) ?_
          refine fr_topi (y := nI (4 + p0.toNatClampNeg)) (e4c h4 e4) ?_
          refine fr_iald (k := (4 + p0.toNatClampNeg)) hx hb hK hP 8 1 rfl rfl (by omega) (by decide) dX8_seen_73 ?_
          refine lv_irem hx hb dX8_seen_74 (QI_nz hQ) ?_
          refine fr_topi (y := fht (z_T ρ 3 (4 + p0.toNatClampNeg)) (z_T ρ 2 (4 + p0.toNatClampNeg)) p1) (QI_rem hQ d46) ?_
          refine lv_aload_n hx hb dX8_seen_75 rfl (lv_at hl 1 rfl) ?_
          refine lv_iload_n hx hb dX8_seen_76 rfl (lv_at hl 0 rfl) ?_
          refine fr_topi (y := nI (4 + p0.toNatClampNeg)) (e4c h4 e4) ?_
          refine fr_goA (va_runV (As := [.int (nI (4 + p0.toNatClampNeg))]) (rest := [.int (fht (z_T ρ 3 (4 + p0.toNatClampNeg)) (z_T ρ 2 (4 + p0.toNatClampNeg)) p1)]) ⟨hx, hb, hml, hown, hts⟩ (kX8_many l g a ρ (4 + p0.toNatClampNeg) 1 (by omega) hQ H.size) (cwV 1 hts (gdV tw743 tw745 tp31 tw9 tw746) rfl rfl rfl (by decide +kernel) ⟨Nat.le_of_ble_eq_true rfl, Nat.le_of_ble_eq_true rfl⟩) ⟨Pst.blind, va_recv hK hP (ci := 7) (q0 := 0) rfl rfl, fr_preA hK hP hD⟩ rfl rfl hl.1 rfl (lv_room (Nat.le_of_ble_eq_true rfl)) dX8_seen_77 ⟨Nat.le_of_ble_eq_true rfl, Nat.le_of_ble_eq_true rfl⟩) hD hS hA (fun v w9 H locs hq hP hD hS => ?_)
          obtain ⟨rfl, rfl⟩ := hq
          have hP : va_P g.1 vwCl (rfW g a (z_mem ρ) (z_R ρ) (z_cb ρ) (z_nc ρ) (z_tu ρ) (z_bi ρ) (z_cg ρ) (z_on ρ) (z_T ρ) (z_dn ρ) (z_fa ρ) (z_br ρ) (z_bs ρ) (z_cp ρ) (z_cq ρ) (z_cx ρ) (z_re ρ) (z_n ρ) (z_op ρ) (z_fg ρ) (z_sp ρ) (z_one ρ)) H := hP
          have hD : va_D A (rfW g a (z_mem ρ) (z_R ρ) (z_cb ρ) (z_nc ρ) (z_tu ρ) (z_bi ρ) (z_cg ρ) (z_on ρ) (z_T ρ) (z_dn ρ) (z_fa ρ) (z_br ρ) (z_bs ρ) (z_cp ρ) (z_cq ρ) (z_cx ρ) (z_re ρ) (z_n ρ) (z_op ρ) (z_fg ρ) (z_sp ρ) (z_one ρ)) := hD
          show W p l e _ s m _ below meth c H locs _ _ _ (F0 m (77 + 3) ls (.int (fht (z_T ρ 3 (4 + p0.toNatClampNeg)) (z_T ρ 2 (4 + p0.toNatClampNeg)) (z_T ρ 4 (4 + p0.toNatClampNeg))) :: .int (fht (z_T ρ 3 (4 + p0.toNatClampNeg)) (z_T ρ 2 (4 + p0.toNatClampNeg)) p1) :: []))
          refine lv_icmp_le (tgt := 85) hx hb dX8_seen_80 (by decide) (fun c80 => ?_) (fun c80 => ?_)
          · refine lv_aload_n hx hb dX8_seen_85 rfl (lv_at hl 1 rfl) ?_
            refine va_get (D := g.1) (ci := 7) (v := .ref (a 9)) (C := RX8) (T := TX8) (N := 30) hx hb hts inX8 hown hK hP 0 rfl rfl 13 (by decide) (hts _ tw616) (fun _ h9 => h9) rfl dX8_seen_86 ?_
            refine lv_iload_n hx hb dX8_seen_89 rfl (lv_at hl 0 rfl) ?_
            refine fr_topi (y := nI (4 + p0.toNatClampNeg)) (e4c h4 e4) ?_
            refine lv_iload_n hx hb dX8_seen_90 rfl (lv_at hl 3 rfl) ?_
            refine fr_iast (k := (4 + p0.toNatClampNeg)) hx hb hK hP hD hS 9 1 rfl rfl (by omega) (by decide) dX8_seen_91 (fun H locs hP hD hS => ?_)
            have hP : va_P g.1 vwCl (rfW g a (z_mem ρ) (z_R ρ) (z_cb ρ) (z_nc ρ) (z_tu ρ) (z_bi ρ) (z_cg ρ) (z_on ρ) (up2 (z_T ρ) 3 (4 + p0.toNatClampNeg) p1) (z_dn ρ) (z_fa ρ) (z_br ρ) (z_bs ρ) (z_cp ρ) (z_cq ρ) (z_cx ρ) (z_re ρ) (z_n ρ) (z_op ρ) (z_fg ρ) (z_sp ρ) (z_one ρ)) H := fr_eqP rfT_3 hP
            have hD : va_D A (rfW g a (z_mem ρ) (z_R ρ) (z_cb ρ) (z_nc ρ) (z_tu ρ) (z_bi ρ) (z_cg ρ) (z_on ρ) (up2 (z_T ρ) 3 (4 + p0.toNatClampNeg) p1) (z_dn ρ) (z_fa ρ) (z_br ρ) (z_bs ρ) (z_cp ρ) (z_cq ρ) (z_cx ρ) (z_re ρ) (z_n ρ) (z_op ρ) (z_fg ρ) (z_sp ρ) (z_one ρ)) := fr_eqD rfT_3 hD
            refine lv_aload_n hx hb dX8_seen_92 rfl (lv_at hl 1 rfl) ?_
            refine lv_iload_n hx hb dX8_seen_93 rfl (lv_at hl 0 rfl) ?_
            refine fr_topi (y := nI (4 + p0.toNatClampNeg)) (e4c h4 e4) ?_
            refine fr_goA (va_runV (As := [.int (nI (4 + p0.toNatClampNeg))]) (rest := []) ⟨hx, hb, hml, hown, hts⟩ (kX8_many l g a (w_T ρ (up2 (z_T ρ) 3 (4 + p0.toNatClampNeg) p1)) (4 + p0.toNatClampNeg) 1 (by omega) (QI_t3 hQ d46) H.size) (cwV 1 hts (gdV tw743 tw745 tp31 tw9 tw746) rfl rfl rfl (by decide +kernel) ⟨Nat.le_of_ble_eq_true rfl, Nat.le_of_ble_eq_true rfl⟩) ⟨Pst.blind, va_recv hK hP (ci := 7) (q0 := 0) rfl rfl, fr_preA hK hP hD⟩ rfl rfl hl.1 rfl (lv_room (Nat.le_of_ble_eq_true rfl)) dX8_seen_94 ⟨Nat.le_of_ble_eq_true rfl, Nat.le_of_ble_eq_true rfl⟩) hD hS hA (fun v w9 H locs hq hP hD hS => ?_)
            obtain ⟨rfl, rfl⟩ := hq
            have hP : va_P g.1 vwCl (rfW g a (z_mem ρ) (z_R ρ) (z_cb ρ) (z_nc ρ) (z_tu ρ) (z_bi ρ) (z_cg ρ) (z_on ρ) (up2 (z_T ρ) 3 (4 + p0.toNatClampNeg) p1) (z_dn ρ) (z_fa ρ) (z_br ρ) (z_bs ρ) (z_cp ρ) (z_cq ρ) (z_cx ρ) (z_re ρ) (z_n ρ) (z_op ρ) (z_fg ρ) (z_sp ρ) (z_one ρ)) H := hP
            have hD : va_D A (rfW g a (z_mem ρ) (z_R ρ) (z_cb ρ) (z_nc ρ) (z_tu ρ) (z_bi ρ) (z_cg ρ) (z_on ρ) (up2 (z_T ρ) 3 (4 + p0.toNatClampNeg) p1) (z_dn ρ) (z_fa ρ) (z_br ρ) (z_bs ρ) (z_cp ρ) (z_cq ρ) (z_cx ρ) (z_re ρ) (z_n ρ) (z_op ρ) (z_fg ρ) (z_sp ρ) (z_one ρ)) := hD
            show W p l e _ s m _ below meth c H locs _ _ _ (F0 m (94 + 3) ls (.int (fht (z_T (w_T ρ (up2 (z_T ρ) 3 (4 + p0.toNatClampNeg) p1)) 3 (4 + p0.toNatClampNeg)) (z_T (w_T ρ (up2 (z_T ρ) 3 (4 + p0.toNatClampNeg) p1)) 2 (4 + p0.toNatClampNeg)) (z_T (w_T ρ (up2 (z_T ρ) 3 (4 + p0.toNatClampNeg) p1)) 4 (4 + p0.toNatClampNeg))) :: []))
            exact W.iret (v := fht (z_T (w_T ρ (up2 (z_T ρ) 3 (4 + p0.toNatClampNeg) p1)) 3 (4 + p0.toNatClampNeg)) (z_T (w_T ρ (up2 (z_T ρ) 3 (4 + p0.toNatClampNeg) p1)) 2 (4 + p0.toNatClampNeg)) (z_T (w_T ρ (up2 (z_T ρ) 3 (4 + p0.toNatClampNeg) p1)) 4 (4 + p0.toNatClampNeg))) hx hb hr (fun t ht _ => ⟨⟨(some (.int (fht (z_T (w_T ρ (up2 (z_T ρ) 3 (4 + p0.toNatClampNeg) p1)) 3 (4 + p0.toNatClampNeg)) (z_T (w_T ρ (up2 (z_T ρ) 3 (4 + p0.toNatClampNeg) p1)) 2 (4 + p0.toNatClampNeg)) (z_T (w_T ρ (up2 (z_T ρ) 3 (4 + p0.toNatClampNeg) p1)) 4 (4 + p0.toNatClampNeg))))), rfW g a (z_mem ρ) (z_R ρ) (z_cb ρ) (z_nc ρ) (z_tu ρ) (z_bi ρ) (z_cg ρ) (z_on ρ) (up2 (z_T ρ) 3 (4 + p0.toNatClampNeg) p1) (z_dn ρ) (z_fa ρ) (z_br ρ) (z_bs ρ) (z_cp ρ) (z_cq ρ) (z_cx ρ) (z_re ρ) (z_n ρ) (z_op ρ) (z_fg ρ) (z_sp ρ) (z_one ρ), rfl, ⟨congrArg (fun z : Int32 => some (Value.int z)) (by rw [seenR, if_neg c4, if_pos ⟨hS9, d46, Int32.not_lt.mpr c80⟩]), by rw [seenT, if_neg c4, if_pos ⟨hS9, d46, Int32.not_lt.mpr c80⟩]⟩, rfl, by rw [ht]; exact hP⟩, hS.F ht⟩) hS.2.2 dX8_seen_97
          · refine lv_iconst (v := -1) hx hb dX8_seen_83 (by decide) ?_
            exact W.iret (v := -1) hx hb hr (fun t ht _ => ⟨⟨(some (.int (-1))), rfW g a (z_mem ρ) (z_R ρ) (z_cb ρ) (z_nc ρ) (z_tu ρ) (z_bi ρ) (z_cg ρ) (z_on ρ) (z_T ρ) (z_dn ρ) (z_fa ρ) (z_br ρ) (z_bs ρ) (z_cp ρ) (z_cq ρ) (z_cx ρ) (z_re ρ) (z_n ρ) (z_op ρ) (z_fg ρ) (z_sp ρ) (z_one ρ), rfl, ⟨congrArg (fun z : Int32 => some (Value.int z)) (by rw [seenR, if_neg c4, if_neg (fun q => q.2.2 (Int32.not_le.mp c80))]), by rw [seenT, if_neg c4, if_neg (fun q => q.2.2 (Int32.not_le.mp c80))]⟩, rfl, by rw [ht]; exact hP⟩, hS.F ht⟩) hS.2.2 dX8_seen_84
  · refine lv_bipush (v := -3) hx hb dX8_seen_7 (by decide) ?_
    exact W.iret (v := -3) hx hb hr (fun t ht _ => ⟨⟨(some (.int (-3))), rfW g a (z_mem ρ) (z_R ρ) (z_cb ρ) (z_nc ρ) (z_tu ρ) (z_bi ρ) (z_cg ρ) (z_on ρ) (z_T ρ) (z_dn ρ) (z_fa ρ) (z_br ρ) (z_bs ρ) (z_cp ρ) (z_cq ρ) (z_cx ρ) (z_re ρ) (z_n ρ) (z_op ρ) (z_fg ρ) (z_sp ρ) (z_one ρ), rfl, ⟨congrArg (fun z : Int32 => some (Value.int z)) (if_pos c4).symm, by rw [seenT, if_pos c4]⟩, rfl, by rw [ht]; exact hP⟩, hS.F ht⟩) hS.2.2 dX8_seen_9
