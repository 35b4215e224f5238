set_option maxHeartbeats 4000000 in
set_option maxRecDepth 100000 in
/-- queue -/
theorem kX8_queue (l : Launch) (g : GG) (a : Nat → Nat) (ρ : RS) (p0 : Int32) (p1 : Int32) (hT : TI (z_T ρ)) : Ct l yX8_queue cX8_queue 4 (some .int) ({ frames := 1, cells := 0, slots := 0, locals := 25 } : Room) g [.ref (a 0), .int p0, .int p1] (rfW g a (z_mem ρ) (z_R ρ) (z_cb ρ) (z_nc ρ) (z_tu ρ) (z_bi ρ) (z_cg ρ) (z_on ρ) (z_T ρ) (z_dn ρ) (z_fa ρ) (z_br ρ) (z_bs ρ) (z_cp ρ) (z_cq ρ) (z_cx ρ) (z_re ρ) (z_n ρ) (z_op ρ) (z_fg ρ) (z_sp ρ) (z_one ρ)) (fun v w' => v = some (.int (queueR (z_T ρ) p0 p1)) ∧ w' = rfW g a (z_mem ρ) (z_R ρ) (z_cb ρ) (z_nc ρ) (z_tu ρ) (z_bi ρ) (z_cg ρ) (z_on ρ) (z_T ρ) (z_dn ρ) (z_fa ρ) (z_br ρ) (z_bs ρ) (z_cp ρ) (z_cq ρ) (z_cx ρ) (z_re ρ) (z_n ρ) (z_op ρ) (z_fg ρ) (z_sp ρ) (z_one ρ)) := by
  refine Ct.of (by decide) (Nat.le_of_ble_eq_true rfl) ?_
  intro p e s m below meth c A ls H locs hx hb hr hml hlocks hts hown hin hA hS hK hP hD hl
  have hown : s.vm.findClass RX8 = some m.cls := hown
  have hl : lv_has ls 4 [(0, .ref (a 0)), (1, .int p0), (2, .int p1)] := hl
  refine lv_iload_n hx hb dX8_queue_0 rfl (lv_at hl 2 rfl) ?_
  refine lv_i2l hx hb dX8_queue_1 rfl ?_
  refine lv_lconst (v := 0) hx hb dX8_queue_2 (by decide) ?_
  refine lv_ldc2 hx hb hown (hts _ tw808) dX8_queue_3 ?_
  refine fr_go (va_runS (As := [.long p1.toInt64, .long 0, .long 8]) (rest := []) ⟨hx, hb, hml, hown, hts⟩ (kX8_in l g p1.toInt64 0 8 H.size) (va_cwS 3 hts (gdS tw700 tw701 tw9 tw702) rfl rfl rfl (by decide +kernel) ⟨Nat.le_of_ble_eq_true rfl, Nat.le_of_ble_eq_true rfl⟩) ⟨Pst.blind, fr_pre hK hP hD [] rfl rfl⟩ rfl rfl hl.1 rfl (lv_room (Nat.le_of_ble_eq_true rfl)) dX8_queue_6 ⟨Nat.le_of_ble_eq_true rfl, Nat.le_of_ble_eq_true rfl⟩) hP hD hS hA [] rfl (fun v w9 H locs hq hP hD hS => ?_)
  obtain ⟨rfl, rfl⟩ := hq
  have hP : va_P g.1 vwCl (rfW g a (z_mem ρ) (z_R ρ) (z_cb ρ) (z_nc ρ) (z_tu ρ) (z_bi ρ) (z_cg ρ) (z_on ρ) (z_T ρ) (z_dn ρ) (z_fa ρ) (z_br ρ) (z_bs ρ) (z_cp ρ) (z_cq ρ) (z_cx ρ) (z_re ρ) (z_n ρ) (z_op ρ) (z_fg ρ) (z_sp ρ) (z_one ρ)) H := hP
  have hD : va_D A (rfW g a (z_mem ρ) (z_R ρ) (z_cb ρ) (z_nc ρ) (z_tu ρ) (z_bi ρ) (z_cg ρ) (z_on ρ) (z_T ρ) (z_dn ρ) (z_fa ρ) (z_br ρ) (z_bs ρ) (z_cp ρ) (z_cq ρ) (z_cx ρ) (z_re ρ) (z_n ρ) (z_op ρ) (z_fg ρ) (z_sp ρ) (z_one ρ)) := hD
  show W p l e _ s m _ below meth c H locs _ _ _ (F0 m (6 + 3) ls (.int (bI (¬ p1.toInt64 < 0 ∧ ¬ 8 < p1.toInt64)) :: []))
  refine lv_if_ne (tgt := 14) hx hb dX8_queue_9 (by decide) (fun c9 => ?_) (fun c9 => ?_)
  · have c9 := bI_t c9
    refine lv_iload_n hx hb dX8_queue_14 rfl (lv_at hl 2 rfl) ?_
    refine lv_iconst (v := 5) hx hb dX8_queue_15 (by decide) ?_
    refine lv_icmp_ge (tgt := 23) hx hb dX8_queue_16 (by decide) (fun c16 => ?_) (fun c16 => ?_)
    · refine lv_iconst (v := 4) hx hb dX8_queue_23 (by decide) ?_
      refine lv_iload_n hx hb dX8_queue_24 rfl (lv_at hl 1 rfl) ?_
      refine lv_iadd hx hb dX8_queue_25 ?_
      refine lv_istore_n (lv' := [(3, .int (4 + p0)), (0, .ref (a 0)), (1, .int p0), (2, .int p1)]) hx hb dX8_queue_26 rfl hl (by decide) rfl (fun ls hl => ?_)
      refine lv_iload_n hx hb dX8_queue_27 rfl (lv_at hl 2 rfl) ?_
      refine lv_i2l hx hb dX8_queue_28 rfl ?_
      refine lv_lconst (v := 0) hx hb dX8_queue_29 (by decide) ?_
      refine lv_ldc2 hx hb hown (hts _ tw742) dX8_queue_30 ?_
      refine fr_go (va_runS (As := [.long p0.toInt64, .long 0, .long 3]) (rest := []) ⟨hx, hb, hml, hown, hts⟩ (kX8_in l g p0.toInt64 0 3 H.size) (va_cwS 3 hts (gdS tw700 tw701 tw9 tw702) rfl rfl rfl (by decide +kernel) ⟨Nat.le_of_ble_eq_true rfl, Nat.le_of_ble_eq_true rfl⟩) ⟨Pst.blind, fr_pre hK hP hD [] rfl rfl⟩ rfl rfl hl.1 rfl (lv_room (Nat.le_of_ble_eq_true rfl)) dX8_queue_33 ⟨Nat.le_of_ble_eq_true rfl, Nat.le_of_ble_eq_true rfl⟩) hP hD hS hA [] rfl (fun v w9 H locs hq hP hD hS => ?_)
      obtain ⟨rfl, rfl⟩ := hq
      have hP : va_P g.1 vwCl (rfW g a (z_mem ρ) (z_R ρ) (z_cb ρ) (z_nc ρ) (z_tu ρ) (z_bi ρ) (z_cg ρ) (z_on ρ) (z_T ρ) (z_dn ρ) (z_fa ρ) (z_br ρ) (z_bs ρ) (z_cp ρ) (z_cq ρ) (z_cx ρ) (z_re ρ) (z_n ρ) (z_op ρ) (z_fg ρ) (z_sp ρ) (z_one ρ)) H := hP
      have hD : va_D A (rfW g a (z_mem ρ) (z_R ρ) (z_cb ρ) (z_nc ρ) (z_tu ρ) (z_bi ρ) (z_cg ρ) (z_on ρ) (z_T ρ) (z_dn ρ) (z_fa ρ) (z_br ρ) (z_bs ρ) (z_cp ρ) (z_cq ρ) (z_cx ρ) (z_re ρ) (z_n ρ) (z_op ρ) (z_fg ρ) (z_sp ρ) (z_one ρ)) := hD
      show W p l e _ s m _ below meth c H locs _ _ _ (F0 m (33 + 3) ls (.int (bI (¬ p0.toInt64 < 0 ∧ ¬ 3 < p0.toInt64)) :: []))
      refine lv_if_eq (tgt := 48) hx hb dX8_queue_36 (by decide) (fun c36 => ?_) (fun c36 => ?_)
      · have c36 := bI_f c36
        refine lv_bipush (v := -2) hx hb dX8_queue_48 (by decide) ?_
        exact W.iret (v := -2) hx hb hr (fun t ht _ => ⟨⟨(some (.int (-2))), rfW g a (z_mem ρ) (z_R ρ) (z_cb ρ) (z_nc ρ) (z_tu ρ) (z_bi ρ) (z_cg ρ) (z_on ρ) (z_T ρ) (z_dn ρ) (z_fa ρ) (z_br ρ) (z_bs ρ) (z_cp ρ) (z_cq ρ) (z_cx ρ) (z_re ρ) (z_n ρ) (z_op ρ) (z_fg ρ) (z_sp ρ) (z_one ρ), rfl, ⟨congrArg (fun z : Int32 => some (Value.int z)) (by rw [queueR, if_neg (w08.mp c9), if_neg (Int32.not_lt.mpr c16), if_neg (fun q => c36 ⟨q.1, fun z => q.2.1 (l4 z)⟩)]), rfl⟩, rfl, by rw [ht]; exact hP⟩, hS.F ht⟩) hS.2.2 dX8_queue_50
      · have c36 := bI_t c36
        have d19 : ¬ 4 ≤ p0.toInt64 := fun q => c36.2 (l3 q)
        obtain ⟨h4, e4, n4⟩ := i64_n c36.1 d19
        refine lv_aload_n hx hb dX8_queue_39 rfl (lv_at hl 1 rfl) ?_
        refine va_get (D := g.1) (ci := 7) (v := .ref (a 5)) (C := RX8) (T := TX8) (N := 30) hx hb hts inX8 hown hK hP 0 rfl rfl 9 (by decide) (hts _ tw612) (fun _ h9 => h9) rfl dX8_queue_40 ?_
        refine lv_iload_n hx hb dX8_queue_43 rfl (lv_at hl 0 rfl) ?_
        refine fr_topi (y := nI (4 + p0.toNatClampNeg)) (e4c h4 e4) ?_
        refine fr_zald (k := (4 + p0.toNatClampNeg)) hx hb hK hP 5 2 rfl rfl (by omega) (by decide) dX8_queue_44 ?_
        refine lv_if_ne (tgt := 51) hx hb dX8_queue_45 (by decide) (fun c45 => ?_) (fun c45 => ?_)
        · have hS9 : hasC (z_T ρ) p0.toInt64 := ⟨c36.1, d19, by rw [n4]; exact c45⟩
          refine lv_iload_n hx hb dX8_queue_51 rfl (lv_at hl 3 rfl) ?_
          by_cases w0 : p1 = 0
          · exact False.elim (absurd c16 (by rw [w0]; decide))
          · have z0 := lv_neT (a := 0) w0 (by decide)
            by_cases w1 : p1 = 1
            · exact False.elim (absurd c16 (by rw [w1]; decide))
            · have z1 := lv_neT (a := 1) w1 (by decide)
              by_cases w2 : p1 = 2
              · exact False.elim (absurd c16 (by rw [w2]; decide))
              · have z2 := lv_neT (a := 2) w2 (by decide)
                by_cases w3 : p1 = 3
                · exact False.elim (absurd c16 (by rw [w3]; decide))
                · have z3 := lv_neT (a := 3) w3 (by decide)
                  by_cases w4 : p1 = 4
                  · exact False.elim (absurd c16 (by rw [w4]; decide))
                  · have z4 := lv_neT (a := 4) w4 (by decide)
                    by_cases w5 : p1 = 5
                    · refine lv_tableIn (off := 52) (tgt := 104) hx hb dX8_queue_52 (by rw [w5]; decide) (by rw [w5]; decide) (by rw [w5]; decide) (by decide) ?_
                      refine lv_aload_n hx hb dX8_queue_104 rfl (lv_at hl 1 rfl) ?_
                      refine va_get (D := g.1) (ci := 7) (v := .ref (a 9)) (C := RX8) (T := TX8) (N := 30) hx hb hts inX8 hown hK hP 0 rfl rfl 13 (by decide) (hts _ tw616) (fun _ h9 => h9) rfl dX8_queue_105 ?_
                      refine lv_iload_n hx hb dX8_queue_108 rfl (lv_at hl 0 rfl) ?_
                      refine fr_topi (y := nI (4 + p0.toNatClampNeg)) (e4c h4 e4) ?_
                      refine fr_iald (k := (4 + p0.toNatClampNeg)) hx hb hK hP 9 1 rfl rfl (by omega) (by decide) dX8_queue_109 ?_
                      exact W.iret (v := ((z_T ρ) 3) (4 + p0.toNatClampNeg)) hx hb hr (fun t ht _ => ⟨⟨(some (.int (((z_T ρ) 3) (4 + p0.toNatClampNeg)))), rfW g a (z_mem ρ) (z_R ρ) (z_cb ρ) (z_nc ρ) (z_tu ρ) (z_bi ρ) (z_cg ρ) (z_on ρ) (z_T ρ) (z_dn ρ) (z_fa ρ) (z_br ρ) (z_bs ρ) (z_cp ρ) (z_cq ρ) (z_cx ρ) (z_re ρ) (z_n ρ) (z_op ρ) (z_fg ρ) (z_sp ρ) (z_one ρ), rfl, ⟨congrArg (fun z : Int32 => some (Value.int z)) (by rw [queueR, if_neg (w08.mp c9), if_neg (Int32.not_lt.mpr c16), if_pos hS9, telC, if_pos w5]), rfl⟩, rfl, by rw [ht]; exact hP⟩, hS.F ht⟩) hS.2.2 dX8_queue_110
                    · have z5 := lv_neT (a := 5) w5 (by decide)
                      by_cases w6 : p1 = 6
                      · refine lv_tableIn (off := 59) (tgt := 111) hx hb dX8_queue_52 (by rw [w6]; decide) (by rw [w6]; decide) (by rw [w6]; decide) (by decide) ?_
                        refine lv_aload_n hx hb dX8_queue_111 rfl (lv_at hl 1 rfl) ?_
                        refine va_get (D := g.1) (ci := 7) (v := .ref (a 10)) (C := RX8) (T := TX8) (N := 30) hx hb hts inX8 hown hK hP 0 rfl rfl 14 (by decide) (hts _ tw617) (fun _ h9 => h9) rfl dX8_queue_112 ?_
                        refine lv_iload_n hx hb dX8_queue_115 rfl (lv_at hl 0 rfl) ?_
                        refine fr_topi (y := nI (4 + p0.toNatClampNeg)) (e4c h4 e4) ?_
                        refine fr_iald (k := (4 + p0.toNatClampNeg)) hx hb hK hP 10 1 rfl rfl (by omega) (by decide) dX8_queue_116 ?_
                        exact W.iret (v := ((z_T ρ) 4) (4 + p0.toNatClampNeg)) hx hb hr (fun t ht _ => ⟨⟨(some (.int (((z_T ρ) 4) (4 + p0.toNatClampNeg)))), rfW g a (z_mem ρ) (z_R ρ) (z_cb ρ) (z_nc ρ) (z_tu ρ) (z_bi ρ) (z_cg ρ) (z_on ρ) (z_T ρ) (z_dn ρ) (z_fa ρ) (z_br ρ) (z_bs ρ) (z_cp ρ) (z_cq ρ) (z_cx ρ) (z_re ρ) (z_n ρ) (z_op ρ) (z_fg ρ) (z_sp ρ) (z_one ρ), rfl, ⟨congrArg (fun z : Int32 => some (Value.int z)) (by rw [queueR, if_neg (w08.mp c9), if_neg (Int32.not_lt.mpr c16), if_pos hS9, telC, if_neg w5, if_pos w6]), rfl⟩, rfl, by rw [ht]; exact hP⟩, hS.F ht⟩) hS.2.2 dX8_queue_117
                      · have z6 := lv_neT (a := 6) w6 (by decide)
                        by_cases w7 : p1 = 7
                        · refine lv_tableIn (off := 86) (tgt := 138) hx hb dX8_queue_52 (by rw [w7]; decide) (by rw [w7]; decide) (by rw [w7]; decide) (by decide) ?_
                          refine lv_aload_n hx hb dX8_queue_138 rfl (lv_at hl 1 rfl) ?_
                          refine va_get (D := g.1) (ci := 7) (v := .ref (a 12)) (C := RX8) (T := TX8) (N := 30) hx hb hts inX8 hown hK hP 0 rfl rfl 16 (by decide) (hts _ tw619) (fun _ h9 => h9) rfl dX8_queue_139 ?_
                          refine lv_iload_n hx hb dX8_queue_142 rfl (lv_at hl 2 rfl) ?_
                          refine fr_topi (y := nI p0.toNatClampNeg) e4 ?_
                          refine fr_iald (k := p0.toNatClampNeg) hx hb hK hP 12 1 rfl rfl (by omega) (by decide) dX8_queue_143 ?_
                          exact W.iret (v := ((z_T ρ) 6) p0.toNatClampNeg) hx hb hr (fun t ht _ => ⟨⟨(some (.int (((z_T ρ) 6) p0.toNatClampNeg))), rfW g a (z_mem ρ) (z_R ρ) (z_cb ρ) (z_nc ρ) (z_tu ρ) (z_bi ρ) (z_cg ρ) (z_on ρ) (z_T ρ) (z_dn ρ) (z_fa ρ) (z_br ρ) (z_bs ρ) (z_cp ρ) (z_cq ρ) (z_cx ρ) (z_re ρ) (z_n ρ) (z_op ρ) (z_fg ρ) (z_sp ρ) (z_one ρ), rfl, ⟨congrArg (fun z : Int32 => some (Value.int z)) (by rw [queueR, if_neg (w08.mp c9), if_neg (Int32.not_lt.mpr c16), if_pos hS9, telC, if_neg w5, if_neg w6, if_pos w7]), rfl⟩, rfl, by rw [ht]; exact hP⟩, hS.F ht⟩) hS.2.2 dX8_queue_144
                        · have z7 := lv_neT (a := 7) w7 (by decide)
                          by_cases w8 : p1 = 8
                          · refine lv_tableIn (off := 72) (tgt := 124) hx hb dX8_queue_52 (by rw [w8]; decide) (by rw [w8]; decide) (by rw [w8]; decide) (by decide) ?_
                            refine lv_aload_n hx hb dX8_queue_124 rfl (lv_at hl 1 rfl) ?_
                            refine va_get (D := g.1) (ci := 7) (v := .ref (a 8)) (C := RX8) (T := TX8) (N := 30) hx hb hts inX8 hown hK hP 0 rfl rfl 12 (by decide) (hts _ tw615) (fun _ h9 => h9) rfl dX8_queue_125 ?_
                            refine lv_iload_n hx hb dX8_queue_128 rfl (lv_at hl 0 rfl) ?_
                            refine fr_topi (y := nI (4 + p0.toNatClampNeg)) (e4c h4 e4) ?_
                            refine fr_iald (k := (4 + p0.toNatClampNeg)) hx hb hK hP 8 1 rfl rfl (by omega) (by decide) dX8_queue_129 ?_
                            exact W.iret (v := ((z_T ρ) 2) (4 + p0.toNatClampNeg)) hx hb hr (fun t ht _ => ⟨⟨(some (.int (((z_T ρ) 2) (4 + p0.toNatClampNeg)))), rfW g a (z_mem ρ) (z_R ρ) (z_cb ρ) (z_nc ρ) (z_tu ρ) (z_bi ρ) (z_cg ρ) (z_on ρ) (z_T ρ) (z_dn ρ) (z_fa ρ) (z_br ρ) (z_bs ρ) (z_cp ρ) (z_cq ρ) (z_cx ρ) (z_re ρ) (z_n ρ) (z_op ρ) (z_fg ρ) (z_sp ρ) (z_one ρ), rfl, ⟨congrArg (fun z : Int32 => some (Value.int z)) (by rw [queueR, if_neg (w08.mp c9), if_neg (Int32.not_lt.mpr c16), if_pos hS9, telC, if_neg w5, if_neg w6, if_neg w7]), rfl⟩, rfl, by rw [ht]; exact hP⟩, hS.F ht⟩) hS.2.2 dX8_queue_130
                          · have z8 := lv_neT (a := 8) w8 (by decide)
                            exact False.elim (absurd (q_7 z0 z1 z2 z3 z4 z5 z6 z8 (w08.mp c9)) w7)
        · refine lv_bipush (v := -2) hx hb dX8_queue_48 (by decide) ?_
          exact W.iret (v := -2) hx hb hr (fun t ht _ => ⟨⟨(some (.int (-2))), rfW g a (z_mem ρ) (z_R ρ) (z_cb ρ) (z_nc ρ) (z_tu ρ) (z_bi ρ) (z_cg ρ) (z_on ρ) (z_T ρ) (z_dn ρ) (z_fa ρ) (z_br ρ) (z_bs ρ) (z_cp ρ) (z_cq ρ) (z_cx ρ) (z_re ρ) (z_n ρ) (z_op ρ) (z_fg ρ) (z_sp ρ) (z_one ρ), rfl, ⟨congrArg (fun z : Int32 => some (Value.int z)) (by rw [queueR, if_neg (w08.mp c9), if_neg (Int32.not_lt.mpr c16), if_neg (fun q => q.2.2 (by rw [n4]; exact c45))]), rfl⟩, rfl, by rw [ht]; exact hP⟩, hS.F ht⟩) hS.2.2 dX8_queue_50
    · refine lv_iload_n hx hb dX8_queue_19 rfl (lv_at hl 1 rfl) ?_
      refine lv_goto (tgt := 26) hx hb dX8_queue_20 (by decide) ?_
      refine lv_istore_n (lv' := [(3, .int p0), (0, .ref (a 0)), (1, .int p0), (2, .int p1)]) hx hb dX8_queue_26 rfl hl (by decide) rfl (fun ls hl => ?_)
      refine lv_iload_n hx hb dX8_queue_27 rfl (lv_at hl 2 rfl) ?_
      refine lv_i2l hx hb dX8_queue_28 rfl ?_
      refine lv_lconst (v := 0) hx hb dX8_queue_29 (by decide) ?_
      refine lv_ldc2 hx hb hown (hts _ tw742) dX8_queue_30 ?_
      refine fr_go (va_runS (As := [.long p0.toInt64, .long 0, .long 3]) (rest := []) ⟨hx, hb, hml, hown, hts⟩ (kX8_in l g p0.toInt64 0 3 H.size) (va_cwS 3 hts (gdS tw700 tw701 tw9 tw702) rfl rfl rfl (by decide +kernel) ⟨Nat.le_of_ble_eq_true rfl, Nat.le_of_ble_eq_true rfl⟩) ⟨Pst.blind, fr_pre hK hP hD [] rfl rfl⟩ rfl rfl hl.1 rfl (lv_room (Nat.le_of_ble_eq_true rfl)) dX8_queue_33 ⟨Nat.le_of_ble_eq_true rfl, Nat.le_of_ble_eq_true rfl⟩) hP hD hS hA [] rfl (fun v w9 H locs hq hP hD hS => ?_)
      obtain ⟨rfl, rfl⟩ := hq
      have hP : va_P g.1 vwCl (rfW g a (z_mem ρ) (z_R ρ) (z_cb ρ) (z_nc ρ) (z_tu ρ) (z_bi ρ) (z_cg ρ) (z_on ρ) (z_T ρ) (z_dn ρ) (z_fa ρ) (z_br ρ) (z_bs ρ) (z_cp ρ) (z_cq ρ) (z_cx ρ) (z_re ρ) (z_n ρ) (z_op ρ) (z_fg ρ) (z_sp ρ) (z_one ρ)) H := hP
      have hD : va_D A (rfW g a (z_mem ρ) (z_R ρ) (z_cb ρ) (z_nc ρ) (z_tu ρ) (z_bi ρ) (z_cg ρ) (z_on ρ) (z_T ρ) (z_dn ρ) (z_fa ρ) (z_br ρ) (z_bs ρ) (z_cp ρ) (z_cq ρ) (z_cx ρ) (z_re ρ) (z_n ρ) (z_op ρ) (z_fg ρ) (z_sp ρ) (z_one ρ)) := hD
      show W p l e _ s m _ below meth c H locs _ _ _ (F0 m (33 + 3) ls (.int (bI (¬ p0.toInt64 < 0 ∧ ¬ 3 < p0.toInt64)) :: []))
      refine lv_if_eq (tgt := 48) hx hb dX8_queue_36 (by decide) (fun c36 => ?_) (fun c36 => ?_)
      · have c36 := bI_f c36
        refine lv_bipush (v := -2) hx hb dX8_queue_48 (by decide) ?_
        exact W.iret (v := -2) hx hb hr (fun t ht _ => ⟨⟨(some (.int (-2))), rfW g a (z_mem ρ) (z_R ρ) (z_cb ρ) (z_nc ρ) (z_tu ρ) (z_bi ρ) (z_cg ρ) (z_on ρ) (z_T ρ) (z_dn ρ) (z_fa ρ) (z_br ρ) (z_bs ρ) (z_cp ρ) (z_cq ρ) (z_cx ρ) (z_re ρ) (z_n ρ) (z_op ρ) (z_fg ρ) (z_sp ρ) (z_one ρ), rfl, ⟨congrArg (fun z : Int32 => some (Value.int z)) (by rw [queueR, if_neg (w08.mp c9), if_pos (Int32.not_le.mp c16), if_neg (fun q => c36 ⟨q.1, fun z => q.2.1 (l4 z)⟩)]), rfl⟩, rfl, by rw [ht]; exact hP⟩, hS.F ht⟩) hS.2.2 dX8_queue_50
      · have c36 := bI_t c36
        have d19 : ¬ 4 ≤ p0.toInt64 := fun q => c36.2 (l3 q)
        obtain ⟨h4, e4, n4⟩ := i64_n c36.1 d19
        refine lv_aload_n hx hb dX8_queue_39 rfl (lv_at hl 1 rfl) ?_
        refine va_get (D := g.1) (ci := 7) (v := .ref (a 5)) (C := RX8) (T := TX8) (N := 30) hx hb hts inX8 hown hK hP 0 rfl rfl 9 (by decide) (hts _ tw612) (fun _ h9 => h9) rfl dX8_queue_40 ?_
        refine lv_iload_n hx hb dX8_queue_43 rfl (lv_at hl 0 rfl) ?_
        refine fr_topi (y := nI p0.toNatClampNeg) e4 ?_
        refine fr_zald (k := p0.toNatClampNeg) hx hb hK hP 5 2 rfl rfl (by omega) (by decide) dX8_queue_44 ?_
        refine lv_if_ne (tgt := 51) hx hb dX8_queue_45 (by decide) (fun c45 => ?_) (fun c45 => ?_)
        · have hS9 : hasS (z_T ρ) p0.toInt64 := ⟨c36.1, d19, by rw [n4]; exact c45⟩
          have hQ := (hT.1 _ h4 c45).1
          refine lv_iload_n hx hb dX8_queue_51 rfl (lv_at hl 3 rfl) ?_
          by_cases w0 : p1 = 0
          · refine lv_tableIn (off := 52) (tgt := 104) hx hb dX8_queue_52 (by rw [w0]; decide) (by rw [w0]; decide) (by rw [w0]; decide) (by decide) ?_
            refine lv_aload_n hx hb dX8_queue_104 rfl (lv_at hl 1 rfl) ?_
            refine va_get (D := g.1) (ci := 7) (v := .ref (a 9)) (C := RX8) (T := TX8) (N := 30) hx hb hts inX8 hown hK hP 0 rfl rfl 13 (by decide) (hts _ tw616) (fun _ h9 => h9) rfl dX8_queue_105 ?_
            refine lv_iload_n hx hb dX8_queue_108 rfl (lv_at hl 0 rfl) ?_
            refine fr_topi (y := nI p0.toNatClampNeg) e4 ?_
            refine fr_iald (k := p0.toNatClampNeg) hx hb hK hP 9 1 rfl rfl (by omega) (by decide) dX8_queue_109 ?_
            exact W.iret (v := ((z_T ρ) 3) p0.toNatClampNeg) hx hb hr (fun t ht _ => ⟨⟨(some (.int (((z_T ρ) 3) p0.toNatClampNeg))), rfW g a (z_mem ρ) (z_R ρ) (z_cb ρ) (z_nc ρ) (z_tu ρ) (z_bi ρ) (z_cg ρ) (z_on ρ) (z_T ρ) (z_dn ρ) (z_fa ρ) (z_br ρ) (z_bs ρ) (z_cp ρ) (z_cq ρ) (z_cx ρ) (z_re ρ) (z_n ρ) (z_op ρ) (z_fg ρ) (z_sp ρ) (z_one ρ), rfl, ⟨congrArg (fun z : Int32 => some (Value.int z)) (by rw [queueR, if_neg (w08.mp c9), if_pos (Int32.not_le.mp c16), if_pos hS9, telS, if_pos w0]), rfl⟩, rfl, by rw [ht]; exact hP⟩, hS.F ht⟩) hS.2.2 dX8_queue_110
          · have z0 := lv_neT (a := 0) w0 (by decide)
            by_cases w1 : p1 = 1
            · refine lv_tableIn (off := 59) (tgt := 111) hx hb dX8_queue_52 (by rw [w1]; decide) (by rw [w1]; decide) (by rw [w1]; decide) (by decide) ?_
              refine lv_aload_n hx hb dX8_queue_111 rfl (lv_at hl 1 rfl) ?_
              refine va_get (D := g.1) (ci := 7) (v := .ref (a 10)) (C := RX8) (T := TX8) (N := 30) hx hb hts inX8 hown hK hP 0 rfl rfl 14 (by decide) (hts _ tw617) (fun _ h9 => h9) rfl dX8_queue_112 ?_
              refine lv_iload_n hx hb dX8_queue_115 rfl (lv_at hl 0 rfl) ?_
              refine fr_topi (y := nI p0.toNatClampNeg) e4 ?_
              refine fr_iald (k := p0.toNatClampNeg) hx hb hK hP 10 1 rfl rfl (by omega) (by decide) dX8_queue_116 ?_
              exact W.iret (v := ((z_T ρ) 4) p0.toNatClampNeg) hx hb hr (fun t ht _ => ⟨⟨(some (.int (((z_T ρ) 4) p0.toNatClampNeg))), rfW g a (z_mem ρ) (z_R ρ) (z_cb ρ) (z_nc ρ) (z_tu ρ) (z_bi ρ) (z_cg ρ) (z_on ρ) (z_T ρ) (z_dn ρ) (z_fa ρ) (z_br ρ) (z_bs ρ) (z_cp ρ) (z_cq ρ) (z_cx ρ) (z_re ρ) (z_n ρ) (z_op ρ) (z_fg ρ) (z_sp ρ) (z_one ρ), rfl, ⟨congrArg (fun z : Int32 => some (Value.int z)) (by rw [queueR, if_neg (w08.mp c9), if_pos (Int32.not_le.mp c16), if_pos hS9, telS, if_neg w0, if_pos w1]), rfl⟩, rfl, by rw [ht]; exact hP⟩, hS.F ht⟩) hS.2.2 dX8_queue_117
            · have z1 := lv_neT (a := 1) w1 (by decide)
              by_cases w2 : p1 = 2
              · refine lv_tableIn (off := 66) (tgt := 118) hx hb dX8_queue_52 (by rw [w2]; decide) (by rw [w2]; decide) (by rw [w2]; decide) (by decide) ?_
                refine lv_aload_n hx hb dX8_queue_118 rfl (lv_at hl 1 rfl) ?_
                refine lv_iload_n hx hb dX8_queue_119 rfl (lv_at hl 0 rfl) ?_
                refine fr_topi (y := nI p0.toNatClampNeg) e4 ?_
                refine fr_goA (va_runV (As := [.int (nI p0.toNatClampNeg)]) (rest := []) ⟨hx, hb, hml, hown, hts⟩ (kX8_many l g a ρ p0.toNatClampNeg 4 (by omega) hQ H.size) (cwV 1 hts (gdV tw743 tw745 tp31 tw9 tw746) rfl rfl rfl (by decide +kernel) ⟨Nat.le_of_ble_eq_true rfl, Nat.le_of_ble_eq_true rfl⟩) ⟨Pst.blind, va_recv hK hP (ci := 7) (q0 := 0) rfl rfl, fr_preA hK hP hD⟩ rfl rfl hl.1 rfl (lv_room (Nat.le_of_ble_eq_true rfl)) dX8_queue_120 ⟨Nat.le_of_ble_eq_true rfl, Nat.le_of_ble_eq_true rfl⟩) hD hS hA (fun v w9 H locs hq hP hD hS => ?_)
                obtain ⟨rfl, rfl⟩ := hq
                have hP : va_P g.1 vwCl (rfW g a (z_mem ρ) (z_R ρ) (z_cb ρ) (z_nc ρ) (z_tu ρ) (z_bi ρ) (z_cg ρ) (z_on ρ) (z_T ρ) (z_dn ρ) (z_fa ρ) (z_br ρ) (z_bs ρ) (z_cp ρ) (z_cq ρ) (z_cx ρ) (z_re ρ) (z_n ρ) (z_op ρ) (z_fg ρ) (z_sp ρ) (z_one ρ)) H := hP
                have hD : va_D A (rfW g a (z_mem ρ) (z_R ρ) (z_cb ρ) (z_nc ρ) (z_tu ρ) (z_bi ρ) (z_cg ρ) (z_on ρ) (z_T ρ) (z_dn ρ) (z_fa ρ) (z_br ρ) (z_bs ρ) (z_cp ρ) (z_cq ρ) (z_cx ρ) (z_re ρ) (z_n ρ) (z_op ρ) (z_fg ρ) (z_sp ρ) (z_one ρ)) := hD
                show W p l e _ s m _ below meth c H locs _ _ _ (F0 m (120 + 3) ls (.int (fht (z_T ρ 3 p0.toNatClampNeg) (z_T ρ 2 p0.toNatClampNeg) (z_T ρ 4 p0.toNatClampNeg)) :: []))
                exact W.iret (v := fht (z_T ρ 3 p0.toNatClampNeg) (z_T ρ 2 p0.toNatClampNeg) (z_T ρ 4 p0.toNatClampNeg)) hx hb hr (fun t ht _ => ⟨⟨(some (.int (fht (z_T ρ 3 p0.toNatClampNeg) (z_T ρ 2 p0.toNatClampNeg) (z_T ρ 4 p0.toNatClampNeg)))), rfW g a (z_mem ρ) (z_R ρ) (z_cb ρ) (z_nc ρ) (z_tu ρ) (z_bi ρ) (z_cg ρ) (z_on ρ) (z_T ρ) (z_dn ρ) (z_fa ρ) (z_br ρ) (z_bs ρ) (z_cp ρ) (z_cq ρ) (z_cx ρ) (z_re ρ) (z_n ρ) (z_op ρ) (z_fg ρ) (z_sp ρ) (z_one ρ), rfl, ⟨congrArg (fun z : Int32 => some (Value.int z)) (by rw [queueR, if_neg (w08.mp c9), if_pos (Int32.not_le.mp c16), if_pos hS9, telS, if_neg w0, if_neg w1, if_pos w2]), rfl⟩, rfl, by rw [ht]; exact hP⟩, hS.F ht⟩) hS.2.2 dX8_queue_123
              · have z2 := lv_neT (a := 2) w2 (by decide)
                by_cases w3 : p1 = 3
                · refine lv_tableIn (off := 72) (tgt := 124) hx hb dX8_queue_52 (by rw [w3]; decide) (by rw [w3]; decide) (by rw [w3]; decide) (by decide) ?_
                  refine lv_aload_n hx hb dX8_queue_124 rfl (lv_at hl 1 rfl) ?_
                  refine va_get (D := g.1) (ci := 7) (v := .ref (a 8)) (C := RX8) (T := TX8) (N := 30) hx hb hts inX8 hown hK hP 0 rfl rfl 12 (by decide) (hts _ tw615) (fun _ h9 => h9) rfl dX8_queue_125 ?_
                  refine lv_iload_n hx hb dX8_queue_128 rfl (lv_at hl 0 rfl) ?_
                  refine fr_topi (y := nI p0.toNatClampNeg) e4 ?_
                  refine fr_iald (k := p0.toNatClampNeg) hx hb hK hP 8 1 rfl rfl (by omega) (by decide) dX8_queue_129 ?_
                  exact W.iret (v := ((z_T ρ) 2) p0.toNatClampNeg) hx hb hr (fun t ht _ => ⟨⟨(some (.int (((z_T ρ) 2) p0.toNatClampNeg))), rfW g a (z_mem ρ) (z_R ρ) (z_cb ρ) (z_nc ρ) (z_tu ρ) (z_bi ρ) (z_cg ρ) (z_on ρ) (z_T ρ) (z_dn ρ) (z_fa ρ) (z_br ρ) (z_bs ρ) (z_cp ρ) (z_cq ρ) (z_cx ρ) (z_re ρ) (z_n ρ) (z_op ρ) (z_fg ρ) (z_sp ρ) (z_one ρ), rfl, ⟨congrArg (fun z : Int32 => some (Value.int z)) (by rw [queueR, if_neg (w08.mp c9), if_pos (Int32.not_le.mp c16), if_pos hS9, telS, if_neg w0, if_neg w1, if_neg w2, if_pos w3]), rfl⟩, rfl, by rw [ht]; exact hP⟩, hS.F ht⟩) hS.2.2 dX8_queue_130
                · have z3 := lv_neT (a := 3) w3 (by decide)
                  by_cases w4 : p1 = 4
                  · refine lv_tableIn (off := 79) (tgt := 131) hx hb dX8_queue_52 (by rw [w4]; decide) (by rw [w4]; decide) (by rw [w4]; decide) (by decide) ?_
                    refine lv_aload_n hx hb dX8_queue_131 rfl (lv_at hl 1 rfl) ?_
                    refine va_get (D := g.1) (ci := 7) (v := .ref (a 11)) (C := RX8) (T := TX8) (N := 30) hx hb hts inX8 hown hK hP 0 rfl rfl 15 (by decide) (hts _ tw618) (fun _ h9 => h9) rfl dX8_queue_132 ?_
                    refine lv_iload_n hx hb dX8_queue_135 rfl (lv_at hl 2 rfl) ?_
                    refine fr_topi (y := nI p0.toNatClampNeg) e4 ?_
                    refine fr_iald (k := p0.toNatClampNeg) hx hb hK hP 11 1 rfl rfl (by omega) (by decide) dX8_queue_136 ?_
                    exact W.iret (v := ((z_T ρ) 5) p0.toNatClampNeg) hx hb hr (fun t ht _ => ⟨⟨(some (.int (((z_T ρ) 5) p0.toNatClampNeg))), rfW g a (z_mem ρ) (z_R ρ) (z_cb ρ) (z_nc ρ) (z_tu ρ) (z_bi ρ) (z_cg ρ) (z_on ρ) (z_T ρ) (z_dn ρ) (z_fa ρ) (z_br ρ) (z_bs ρ) (z_cp ρ) (z_cq ρ) (z_cx ρ) (z_re ρ) (z_n ρ) (z_op ρ) (z_fg ρ) (z_sp ρ) (z_one ρ), rfl, ⟨congrArg (fun z : Int32 => some (Value.int z)) (by rw [queueR, if_neg (w08.mp c9), if_pos (Int32.not_le.mp c16), if_pos hS9, telS, if_neg w0, if_neg w1, if_neg w2, if_neg w3]), rfl⟩, rfl, by rw [ht]; exact hP⟩, hS.F ht⟩) hS.2.2 dX8_queue_137
                  · have z4 := lv_neT (a := 4) w4 (by decide)
                    by_cases w5 : p1 = 5
                    · exact False.elim (absurd c16 (by rw [w5]; decide))
                    · have z5 := lv_neT (a := 5) w5 (by decide)
                      by_cases w6 : p1 = 6
                      · exact False.elim (absurd c16 (by rw [w6]; decide))
                      · have z6 := lv_neT (a := 6) w6 (by decide)
                        by_cases w7 : p1 = 7
                        · exact False.elim (absurd c16 (by rw [w7]; decide))
                        · have z7 := lv_neT (a := 7) w7 (by decide)
                          by_cases w8 : p1 = 8
                          · exact False.elim (absurd c16 (by rw [w8]; decide))
                          · have z8 := lv_neT (a := 8) w8 (by decide)
                            exact False.elim (absurd (Int32.not_le.mp c16) (q_lt z0 z1 z2 z3 z4 (w08.mp c9)))
        · refine lv_bipush (v := -2) hx hb dX8_queue_48 (by decide) ?_
          exact W.iret (v := -2) hx hb hr (fun t ht _ => ⟨⟨(some (.int (-2))), rfW g a (z_mem ρ) (z_R ρ) (z_cb ρ) (z_nc ρ) (z_tu ρ) (z_bi ρ) (z_cg ρ) (z_on ρ) (z_T ρ) (z_dn ρ) (z_fa ρ) (z_br ρ) (z_bs ρ) (z_cp ρ) (z_cq ρ) (z_cx ρ) (z_re ρ) (z_n ρ) (z_op ρ) (z_fg ρ) (z_sp ρ) (z_one ρ), rfl, ⟨congrArg (fun z : Int32 => some (Value.int z)) (by rw [queueR, if_neg (w08.mp c9), if_pos (Int32.not_le.mp c16), if_neg (fun q => q.2.2 (by rw [n4]; exact c45))]), rfl⟩, rfl, by rw [ht]; exact hP⟩, hS.F ht⟩) hS.2.2 dX8_queue_50
  · have c9 := bI_f c9
    refine lv_iconst (v := -1) hx hb dX8_queue_12 (by decide) ?_
    exact W.iret (v := -1) hx hb hr (fun t ht _ => ⟨⟨(some (.int (-1))), rfW g a (z_mem ρ) (z_R ρ) (z_cb ρ) (z_nc ρ) (z_tu ρ) (z_bi ρ) (z_cg ρ) (z_on ρ) (z_T ρ) (z_dn ρ) (z_fa ρ) (z_br ρ) (z_bs ρ) (z_cp ρ) (z_cq ρ) (z_cx ρ) (z_re ρ) (z_n ρ) (z_op ρ) (z_fg ρ) (z_sp ρ) (z_one ρ), rfl, ⟨congrArg (fun z : Int32 => some (Value.int z)) (if_pos (Classical.not_not.mp (fun q => c9 (w08.mpr q)))).symm, rfl⟩, rfl, by rw [ht]; exact hP⟩, hS.F ht⟩) hS.2.2 dX8_queue_13
