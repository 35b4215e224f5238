set_option maxHeartbeats 4000000 in
set_option maxRecDepth 100000 in
/-- Data.addPage -/
theorem kX2_addPage (l : Launch) (g : GG) (ay : Nat) (ap : Nat) (fi : Int32) (fs : Int32) (pg : Nat → Int32) (k : Nat) (x : Int64) (hk : k < 16) : Ct l yX2_addPage cX2_addPage 4 (some .boolean) ({ frames := 1, cells := 0, slots := 0, locals := 21 } : Room) g [.ref ay, .int (nI k), .long x] [(ay, .inr (2, [.ref ap, .int fi, .int fs])), (ap, .inl (g.2 1, 16, .inl pg))] (fun v w' => v = some (.int (bI (hpg x))) ∧ w' = [(ay, .inr (2, [.ref ap, .int fi, .int fs])), (ap, .inl (g.2 1, 16, .inl (if hpg x then upd pg k x.toInt32 else pg)))]) := by
  refine Ct.of (by decide) (Nat.le_of_ble_eq_true rfl) ?_
  intro p e s m below meth c A ls H locs hx hb hr hml hlocks hts hown hin hA hS hK hP hD hl
  have hown : s.vm.findClass RX2 = some m.cls := hown
  have hl : lv_has ls 4 [(0, .ref ay), (1, .int (nI k)), (2, .long x)] := hl
  refine lv_iload_n hx hb dX2_addPage_0 rfl (lv_at hl 1 rfl) ?_
  refine lv_bipush (v := 16) hx hb dX2_addPage_1 (by decide) ?_
  refine lv_icmp_ge (tgt := 13) hx hb dX2_addPage_3 (by decide) (fun q9 => absurd q9 (nI_ge (a := k) (b := 16) hk (by decide))) (fun _ => ?_)
  refine lv_lload_n hx hb dX2_addPage_6 rfl (lv_at hl 2 rfl) ?_
  refine fr_go (va_runS (As := [.long x]) (rest := []) ⟨hx, hb, hml, hown, hts⟩ (kX4_holdsPage l g x H.size) (va_cwS 1 hts (gdS tw463 tw464 tw2 tw465) rfl rfl rfl (by decide +kernel) ⟨Nat.le_of_ble_eq_true rfl, Nat.le_of_ble_eq_true rfl⟩) ⟨Pst.blind, fr_pre hK hP hD [] rfl rfl⟩ rfl rfl hl.1 rfl (lv_room (Nat.le_of_ble_eq_true rfl)) dX2_addPage_7 ⟨Nat.le_of_ble_eq_true rfl, Nat.le_of_ble_eq_true rfl⟩) hP hD hS hA [] rfl (fun v w9 H locs hq hP hD hS => ?_)
  obtain ⟨rfl, rfl⟩ := hq
  have hP : va_P g.1 vwCl [(ay, .inr (2, [.ref ap, .int fi, .int fs])), (ap, .inl (g.2 1, 16, .inl pg))] H := hP
  have hD : va_D A [(ay, .inr (2, [.ref ap, .int fi, .int fs])), (ap, .inl (g.2 1, 16, .inl pg))] := hD
  show W p l e _ s m _ below meth c H locs _ _ _ (F0 m (7 + 3) ls (.int (bI (hpg x)) :: []))
  refine lv_if_ne (tgt := 15) hx hb dX2_addPage_10 (by decide) (fun c10 => ?_) (fun c10 => ?_)
  · have c10 := bI_t c10
    refine lv_aload_n hx hb dX2_addPage_15 rfl (lv_at hl 0 rfl) ?_
    refine va_get (D := g.1) (ci := 2) (v := .ref ap) (C := RX2) (T := TX2) (N := 3) hx hb hts inX2 hown hK hP 0 rfl rfl 0 (by decide) (hts _ tw173) (fun _ h9 => h9) rfl dX2_addPage_16 ?_
    refine lv_iload_n hx hb dX2_addPage_19 rfl (lv_at hl 1 rfl) ?_
    refine lv_lload_n hx hb dX2_addPage_20 rfl (lv_at hl 2 rfl) ?_
    refine lv_l2i hx hb dX2_addPage_21 rfl ?_
    refine fr_iast (k := k) hx hb hK hP hD hS 1 1 rfl rfl (by omega) (by decide) dX2_addPage_22 (fun H locs hP hD hS => ?_)
    have hP : va_P g.1 vwCl [(ay, .inr (2, [.ref ap, .int fi, .int fs])), (ap, .inl (g.2 1, 16, .inl (upd pg k x.toInt32)))] H := hP
    have hD : va_D A [(ay, .inr (2, [.ref ap, .int fi, .int fs])), (ap, .inl (g.2 1, 16, .inl (upd pg k x.toInt32)))] := hD
    refine lv_iconst (v := 1) hx hb dX2_addPage_23 (by decide) ?_
    exact W.zret (v := 1) hx hb hr (by first | rfl | exact bz_n (by first | assumption | exact bI_z | decide)) (fun t ht _ => ⟨⟨(some (.int 1)), [(ay, .inr (2, [.ref ap, .int fi, .int fs])), (ap, .inl (g.2 1, 16, .inl (upd pg k x.toInt32)))], rfl, ⟨congrArg (fun z : Int32 => some (Value.int z)) (bI_1 c10), by rw [if_pos c10]⟩, rfl, by rw [ht]; exact hP⟩, hS.F ht⟩) hS.2.2 dX2_addPage_24
  · have c10 := bI_f c10
    refine lv_iconst (v := 0) hx hb dX2_addPage_13 (by decide) ?_
    exact W.zret (v := 0) hx hb hr (by first | rfl | exact bz_n (by first | assumption | exact bI_z | decide)) (fun t ht _ => ⟨⟨(some (.int 0)), [(ay, .inr (2, [.ref ap, .int fi, .int fs])), (ap, .inl (g.2 1, 16, .inl pg))], rfl, ⟨congrArg (fun z : Int32 => some (Value.int z)) (bI_0 c10), by rw [if_neg c10]⟩, rfl, by rw [ht]; exact hP⟩, hS.F ht⟩) hS.2.2 dX2_addPage_14
set_option maxHeartbeats 4000000 in
set_option maxRecDepth 100000 in
/-- Data.fitsStraight -/
theorem kX2_fitsStraight (l : Launch) (g : GG) (x : Int64) (n : Nat) : Ct l yX2_fitsStraight cX2_fitsStraight 3 (some .boolean) ({ frames := 1, cells := 0, slots := 0, locals := 21 } : Room) g [.long x, .int (nI n)] [] (fun v w' => v = some (.int (bI (hpg x ∧ ¬ 1024 < x + (nI (n * 8)).toInt64))) ∧ w' = []) := by
  refine Ct.of (by decide) (Nat.le_of_ble_eq_true rfl) ?_
  intro p e s m below meth c A ls H locs hx hb hr hml hlocks hts hown hin hA hS hK hP hD hl
  have hown : s.vm.findClass RX2 = some m.cls := hown
  have hl : lv_has ls 3 [(0, .long x), (2, .int (nI n))] := hl
  refine lv_lload_n hx hb dX2_fitsStraight_0 rfl (lv_at hl 0 rfl) ?_
  refine fr_go (va_runS (As := [.long x]) (rest := []) ⟨hx, hb, hml, hown, hts⟩ (kX4_holdsPage l g x H.size) (va_cwS 1 hts (gdS tw463 tw464 tw2 tw465) rfl rfl rfl (by decide +kernel) ⟨Nat.le_of_ble_eq_true rfl, Nat.le_of_ble_eq_true rfl⟩) ⟨Pst.blind, fr_pre hK hP hD [] rfl rfl⟩ rfl rfl hl.1 rfl (lv_room (Nat.le_of_ble_eq_true rfl)) dX2_fitsStraight_1 ⟨Nat.le_of_ble_eq_true rfl, Nat.le_of_ble_eq_true rfl⟩) hP hD hS hA [] rfl (fun v w9 H locs hq hP hD hS => ?_)
  obtain ⟨rfl, rfl⟩ := hq
  have hP : va_P g.1 vwCl [] H := hP
  have hD : va_D A [] := hD
  show W p l e _ s m _ below meth c H locs _ _ _ (F0 m (1 + 3) ls (.int (bI (hpg x)) :: []))
  refine lv_if_eq (tgt := 25) hx hb dX2_fitsStraight_4 (by decide) (fun c4 => ?_) (fun c4 => ?_)
  · have c4 := bI_f c4
    refine lv_iconst (v := 0) hx hb dX2_fitsStraight_25 (by decide) ?_
    exact W.zret (v := 0) hx hb hr (by first | rfl | exact bz_n (by first | assumption | exact bI_z | decide)) (fun t ht _ => ⟨⟨(some (.int 0)), [], rfl, ⟨congrArg (fun z : Int32 => some (Value.int z)) (by first | exact bI_1 ⟨‹_›, ‹_›⟩ | exact bI_0 (fun q => q.1 ‹_›) | exact bI_0 (fun q => absurd q.1 ‹_›) | exact bI_0 (fun q => q.2 ‹_›) | exact bI_0 (fun q => absurd q.2 ‹_›)), rfl⟩, rfl, by rw [ht]; exact hP⟩, hS.F ht⟩) hS.2.2 dX2_fitsStraight_26
  · have c4 := bI_t c4
    refine lv_lload_n hx hb dX2_fitsStraight_7 rfl (lv_at hl 0 rfl) ?_
    refine lv_iload_n hx hb dX2_fitsStraight_8 rfl (lv_at hl 1 rfl) ?_
    refine lv_bipush (v := 8) hx hb dX2_fitsStraight_9 (by decide) ?_
    refine lv_imul hx hb dX2_fitsStraight_11 ?_
    refine fr_topi (y := nI (n * 8)) (pk_mul _ 8) ?_
    refine lv_i2l hx hb dX2_fitsStraight_12 rfl ?_
    refine lv_ladd hx hb dX2_fitsStraight_13 ?_
    refine lv_ldc2 hx hb hown (hts _ tw503) dX2_fitsStraight_14 ?_
    refine W.lcmp hx hb dX2_fitsStraight_17 ?_
    refine lv_if_gt (tgt := 25) hx hb dX2_fitsStraight_18 (by decide) (fun c18 => ?_) (fun c18 => ?_)
    · have c18 := (lg_cmp_gt (x + ((nI (n * 8)).toInt64)) 1024).mp c18
      refine lv_iconst (v := 0) hx hb dX2_fitsStraight_25 (by decide) ?_
      exact W.zret (v := 0) hx hb hr (by first | rfl | exact bz_n (by first | assumption | exact bI_z | decide)) (fun t ht _ => ⟨⟨(some (.int 0)), [], rfl, ⟨congrArg (fun z : Int32 => some (Value.int z)) (by first | exact bI_1 ⟨‹_›, ‹_›⟩ | exact bI_0 (fun q => q.1 ‹_›) | exact bI_0 (fun q => absurd q.1 ‹_›) | exact bI_0 (fun q => q.2 ‹_›) | exact bI_0 (fun q => absurd q.2 ‹_›)), rfl⟩, rfl, by rw [ht]; exact hP⟩, hS.F ht⟩) hS.2.2 dX2_fitsStraight_26
    · have c18 := (not_congr (lg_cmp_gt (x + ((nI (n * 8)).toInt64)) 1024)).mp c18
      refine lv_iconst (v := 1) hx hb dX2_fitsStraight_21 (by decide) ?_
      refine lv_goto (tgt := 26) hx hb dX2_fitsStraight_22 (by decide) ?_
      exact W.zret (v := 1) hx hb hr (by first | rfl | exact bz_n (by first | assumption | exact bI_z | decide)) (fun t ht _ => ⟨⟨(some (.int 1)), [], rfl, ⟨congrArg (fun z : Int32 => some (Value.int z)) (by first | exact bI_1 ⟨‹_›, ‹_›⟩ | exact bI_0 (fun q => q.1 ‹_›) | exact bI_0 (fun q => absurd q.1 ‹_›) | exact bI_0 (fun q => q.2 ‹_›) | exact bI_0 (fun q => absurd q.2 ‹_›)), rfl⟩, rfl, by rw [ht]; exact hP⟩, hS.F ht⟩) hS.2.2 dX2_fitsStraight_26
set_option maxHeartbeats 4000000 in
set_option maxRecDepth 100000 in
/-- Data.layStraight -/
theorem kX2_layStraight (l : Launch) (g : GG) (ay : Nat) (ap : Nat) (fi : Int32) (fs : Int32) (pg : Nat → Int32) (p0 : Int32) (n : Nat) : Ct l yX2_layStraight cX2_layStraight 3 none ({ frames := 0, cells := 0, slots := 0, locals := 0 } : Room) g [.ref ay, .int p0, .int (nI n)] [(ay, .inr (2, [.ref ap, .int fi, .int fs])), (ap, .inl (g.2 1, 16, .inl pg))] (fun v w' => v = none ∧ w' = [(ay, .inr (2, [.ref ap, .int p0, .int (nI (n * 8))])), (ap, .inl (g.2 1, 16, .inl pg))]) := by
  refine Ct.of (by decide) (Nat.le_of_ble_eq_true rfl) ?_
  intro p e s m below meth c A ls H locs hx hb hr hml hlocks hts hown hin hA hS hK hP hD hl
  have hown : s.vm.findClass RX2 = some m.cls := hown
  have hl : lv_has ls 3 [(0, .ref ay), (1, .int p0), (2, .int (nI n))] := hl
  refine lv_aload_n hx hb dX2_layStraight_0 rfl (lv_at hl 0 rfl) ?_
  refine lv_iload_n hx hb dX2_layStraight_1 rfl (lv_at hl 1 rfl) ?_
  refine va_put (D := g.1) (ci := 2) (v := .int p0) (ty := .int) (C := RX2) (T := TX2) (N := 3) hx hb hts inX2 tyX2 tyX2_ok nmX2 hown hK hP hD hS 0 rfl rfl 1 (by decide) (hts _ tw174) (fun _ h9 => h9) rfl (by decide +kernel) rfl rfl (Nat.le_of_ble_eq_true rfl) dX2_layStraight_2 (fun H locs hP hD hS => ?_)
  have hP : va_P g.1 vwCl [(ay, .inr (2, [.ref ap, .int p0, .int fs])), (ap, .inl (g.2 1, 16, .inl pg))] H := hP
  have hD : va_D A [(ay, .inr (2, [.ref ap, .int p0, .int fs])), (ap, .inl (g.2 1, 16, .inl pg))] := hD
  refine lv_aload_n hx hb dX2_layStraight_5 rfl (lv_at hl 0 rfl) ?_
  refine lv_iload_n hx hb dX2_layStraight_6 rfl (lv_at hl 2 rfl) ?_
  refine lv_bipush (v := 8) hx hb dX2_layStraight_7 (by decide) ?_
  refine lv_imul hx hb dX2_layStraight_9 ?_
  refine fr_topi (y := nI (n * 8)) (pk_mul _ 8) ?_
  refine va_put (D := g.1) (ci := 2) (v := .int (nI (n * 8))) (ty := .int) (C := RX2) (T := TX2) (N := 3) hx hb hts inX2 tyX2 tyX2_ok nmX2 hown hK hP hD hS 0 rfl rfl 2 (by decide) (hts _ tw175) (fun _ h9 => h9) rfl (by decide +kernel) rfl rfl (Nat.le_of_ble_eq_true rfl) dX2_layStraight_10 (fun H locs hP hD hS => ?_)
  have hP : va_P g.1 vwCl [(ay, .inr (2, [.ref ap, .int p0, .int (nI (n * 8))])), (ap, .inl (g.2 1, 16, .inl pg))] H := hP
  have hD : va_D A [(ay, .inr (2, [.ref ap, .int p0, .int (nI (n * 8))])), (ap, .inl (g.2 1, 16, .inl pg))] := hD
  exact W.vret hx hb hr (fun t ht _ => ⟨⟨none, [(ay, .inr (2, [.ref ap, .int p0, .int (nI (n * 8))])), (ap, .inl (g.2 1, 16, .inl pg))], rfl, ⟨rfl, rfl⟩, rfl, by rw [ht]; exact hP⟩, hS.F ht⟩) hS.2.2 dX2_layStraight_13
set_option maxHeartbeats 4000000 in
set_option maxRecDepth 100000 in
/-- Data.address -/
theorem kX2_address (l : Launch) (g : GG) (ay : Nat) (ap : Nat) (fi : Int32) (F : Nat) (pg : Nat → Int32) (k : Nat) (hk : k < 2048) (hF : F < 2048) : Ct l yX2_address cX2_address 4 (some .int) ({ frames := 1, cells := 0, slots := 0, locals := 40 } : Room) g [.ref ay, .int (nI k)] [(ay, .inr (2, [.ref ap, .int fi, .int (nI F)])), (ap, .inl (g.2 1, 16, .inl pg))] (fun v w' => v = some (.int (adr fi F pg k)) ∧ w' = [(ay, .inr (2, [.ref ap, .int fi, .int (nI F)])), (ap, .inl (g.2 1, 16, .inl pg))]) := by
  refine Ct.of (by decide) (Nat.le_of_ble_eq_true rfl) ?_
  intro p e s m below meth c A ls H locs hx hb hr hml hlocks hts hown hin hA hS hK hP hD hl
  have hown : s.vm.findClass RX2 = some m.cls := hown
  have hl : lv_has ls 4 [(0, .ref ay), (1, .int (nI k))] := hl
  refine lv_iload_n hx hb dX2_address_0 rfl (lv_at hl 1 rfl) ?_
  refine lv_aload_n hx hb dX2_address_1 rfl (lv_at hl 0 rfl) ?_
  refine va_get (D := g.1) (ci := 2) (v := .int (nI F)) (C := RX2) (T := TX2) (N := 3) hx hb hts inX2 hown hK hP 0 rfl rfl 2 (by decide) (hts _ tw175) (fun _ h9 => h9) rfl dX2_address_2 ?_
  refine lv_icmp_ge (tgt := 15) hx hb dX2_address_5 (by decide) (fun c5 => ?_) (fun c5 => ?_)
  · have c5 := (nI_leI (a := F) (b := k) (by omega) (by omega)).mp c5
    refine lv_iload_n hx hb dX2_address_15 rfl (lv_at hl 1 rfl) ?_
    refine lv_aload_n hx hb dX2_address_16 rfl (lv_at hl 0 rfl) ?_
    refine va_get (D := g.1) (ci := 2) (v := .int (nI F)) (C := RX2) (T := TX2) (N := 3) hx hb hts inX2 hown hK hP 0 rfl rfl 2 (by decide) (hts _ tw175) (fun _ h9 => h9) rfl dX2_address_17 ?_
    refine lv_isub hx hb dX2_address_20 ?_
    refine fr_topi (y := nI (k - F)) (pk_sub (by omega)) ?_
    refine lv_istore_n (lv' := [(2, .int (nI (k - F))), (0, .ref ay), (1, .int (nI k))]) hx hb dX2_address_21 rfl hl (by decide) rfl (fun ls hl => ?_)
    refine lv_iload_n hx hb dX2_address_22 rfl (lv_at hl 0 rfl) ?_
    refine lv_bipush (v := 16) hx hb dX2_address_23 (by decide) ?_
    refine lv_idiv hx hb dX2_address_25 (by decide) ?_
    refine fr_topi (y := nI ((k - F) / 16)) (pk_div (a := k - F) (d := 16) (by omega) (by decide) (by decide)) ?_
    refine lv_bipush (v := 15) hx hb dX2_address_26 (by decide) ?_
    refine va_mmin hx hb (hml.trans hl.1.symm) hown (hts _ tw456) (hts _ tw457) (hts _ tw12) (hts _ tw458) (Nat.le_of_ble_eq_true rfl) (Nat.le_of_ble_eq_true rfl) (Nat.zero_le _) (Nat.zero_le _) dX2_address_28 ?_
    refine fr_topi (y := nI (min ((k - F) / 16) 15)) (mn_l (by omega) (by decide)) ?_
    refine lv_istore_n (lv' := [(3, .int (nI (min ((k - F) / 16) 15))), (2, .int (nI (k - F))), (0, .ref ay), (1, .int (nI k))]) hx hb dX2_address_31 rfl hl (by decide) rfl (fun ls hl => ?_)
    refine lv_aload_n hx hb dX2_address_32 rfl (lv_at hl 2 rfl) ?_
    refine va_get (D := g.1) (ci := 2) (v := .ref ap) (C := RX2) (T := TX2) (N := 3) hx hb hts inX2 hown hK hP 0 rfl rfl 0 (by decide) (hts _ tw173) (fun _ h9 => h9) rfl dX2_address_33 ?_
    refine lv_iload_n hx hb dX2_address_36 rfl (lv_at hl 0 rfl) ?_
    refine fr_iald (k := (min ((k - F) / 16) 15)) hx hb hK hP 1 1 rfl rfl (by omega) (by decide) dX2_address_37 ?_
    refine lv_iload_n hx hb dX2_address_38 rfl (lv_at hl 1 rfl) ?_
    refine fr_go (va_runS (As := [.int (nI (k - F))]) (rest := [.int (pg (min ((k - F) / 16) 15))]) ⟨hx, hb, hml, hown, hts⟩ (kX4_placeInPage l g (nI (k - F)) H.size) (va_cwS 1 hts (gdS tw453 tw454 tw2 tw455) rfl rfl rfl (by decide +kernel) ⟨Nat.le_of_ble_eq_true rfl, Nat.le_of_ble_eq_true rfl⟩) ⟨Pst.blind, fr_pre hK hP hD [] rfl rfl⟩ rfl rfl hl.1 rfl (lv_room (Nat.le_of_ble_eq_true rfl)) dX2_address_39 ⟨Nat.le_of_ble_eq_true rfl, Nat.le_of_ble_eq_true rfl⟩) hP hD hS hA [] rfl (fun v w9 H locs hq hP hD hS => ?_)
    obtain ⟨rfl, rfl⟩ := hq
    have hP : va_P g.1 vwCl [(ay, .inr (2, [.ref ap, .int fi, .int (nI F)])), (ap, .inl (g.2 1, 16, .inl pg))] H := hP
    have hD : va_D A [(ay, .inr (2, [.ref ap, .int fi, .int (nI F)])), (ap, .inl (g.2 1, 16, .inl pg))] := hD
    show W p l e _ s m _ below meth c H locs _ _ _ (F0 m (39 + 3) ls (.int ((nI (k - F)) &&& 15) :: .int (pg (min ((k - F) / 16) 15)) :: []))
    refine fr_topi (y := nI ((k - F) % 16)) (and15 (by omega)) ?_
    refine lv_iadd hx hb dX2_address_42 ?_
    exact W.iret (v := (pg (min ((k - F) / 16) 15)) + (nI ((k - F) % 16))) hx hb hr (fun t ht _ => ⟨⟨(some (.int ((pg (min ((k - F) / 16) 15)) + (nI ((k - F) % 16))))), [(ay, .inr (2, [.ref ap, .int fi, .int (nI F)])), (ap, .inl (g.2 1, 16, .inl pg))], rfl, ⟨congrArg (fun z : Int32 => some (Value.int z)) (if_neg (by omega)).symm, rfl⟩, rfl, by rw [ht]; exact hP⟩, hS.F ht⟩) hS.2.2 dX2_address_43
  · have c5 := (not_congr (nI_leI (a := F) (b := k) (by omega) (by omega))).mp c5
    refine lv_aload_n hx hb dX2_address_8 rfl (lv_at hl 0 rfl) ?_
    refine va_get (D := g.1) (ci := 2) (v := .int fi) (C := RX2) (T := TX2) (N := 3) hx hb hts inX2 hown hK hP 0 rfl rfl 1 (by decide) (hts _ tw174) (fun _ h9 => h9) rfl dX2_address_9 ?_
    refine lv_iload_n hx hb dX2_address_12 rfl (lv_at hl 1 rfl) ?_
    refine lv_iadd hx hb dX2_address_13 ?_
    exact W.iret (v := fi + (nI k)) hx hb hr (fun t ht _ => ⟨⟨(some (.int (fi + (nI k)))), [(ay, .inr (2, [.ref ap, .int fi, .int (nI F)])), (ap, .inl (g.2 1, 16, .inl pg))], rfl, ⟨congrArg (fun z : Int32 => some (Value.int z)) (if_pos (by omega)).symm, rfl⟩, rfl, by rw [ht]; exact hP⟩, hS.F ht⟩) hS.2.2 dX2_address_14
set_option maxHeartbeats 4000000 in
set_option maxRecDepth 100000 in
/-- Data.addList -/
theorem kX2_addList (l : Launch) (g : GG) (ay : Nat) (ap : Nat) (fi : Int32) (fs : Int32) (pg : Nat → Int32) (am : Nat) (al : Nat) (mem : Nat → Int64) (x : Int64) (nd : Nat) (hnd : nd < 2048) : Ct l yX2_addList cX2_addList 6 (some .boolean) ({ frames := 2, cells := 0, slots := 0, locals := 44 } : Room) g [.ref ay, .ref am, .long x, .int (nI nd)] [(ay, .inr (2, [.ref ap, .int fi, .int fs])), (ap, .inl (g.2 1, 16, .inl pg)), (am, .inr (4, [.ref al])), (al, .inl (g.2 0, 1024, .inr (.inl mem)))] (fun v w' => v = some (.int (bI (lstOk mem x nd))) ∧ w' = [(ay, .inr (2, [.ref ap, .int fi, .int fs])), (ap, .inl (g.2 1, 16, .inl (lstP pg mem x nd))), (am, .inr (4, [.ref al])), (al, .inl (g.2 0, 1024, .inr (.inl mem)))]) := by
  refine Ct.of (by decide) (Nat.le_of_ble_eq_true rfl) ?_
  intro p e s m below meth c A ls H locs hx hb hr hml hlocks hts hown hin hA hS hK hP hD hl
  have hown : s.vm.findClass RX2 = some m.cls := hown
  have hl : lv_has ls 6 [(0, .ref ay), (1, .ref am), (2, .long x), (4, .int (nI nd))] := hl
  refine lv_lload_n hx hb dX2_addList_0 rfl (lv_at hl 2 rfl) ?_
  refine fr_go (va_runS (As := [.long x]) (rest := []) ⟨hx, hb, hml, hown, hts⟩ (kX4_holds l g x H.size) (va_cwS 1 hts (gdS tw452 tw238 tw2 tw239) rfl rfl rfl (by decide +kernel) ⟨Nat.le_of_ble_eq_true rfl, Nat.le_of_ble_eq_true rfl⟩) ⟨Pst.blind, fr_pre hK hP hD [] rfl rfl⟩ rfl rfl hl.1 rfl (lv_room (Nat.le_of_ble_eq_true rfl)) dX2_addList_1 ⟨Nat.le_of_ble_eq_true rfl, Nat.le_of_ble_eq_true rfl⟩) hP hD hS hA [] rfl (fun v w9 H locs hq hP hD hS => ?_)
  obtain ⟨rfl, rfl⟩ := hq
  have hP : va_P g.1 vwCl [(ay, .inr (2, [.ref ap, .int fi, .int fs])), (ap, .inl (g.2 1, 16, .inl pg)), (am, .inr (4, [.ref al])), (al, .inl (g.2 0, 1024, .inr (.inl mem)))] H := hP
  have hD : va_D A [(ay, .inr (2, [.ref ap, .int fi, .int fs])), (ap, .inl (g.2 1, 16, .inl pg)), (am, .inr (4, [.ref al])), (al, .inl (g.2 0, 1024, .inr (.inl mem)))] := hD
  show W p l e _ s m _ below meth c H locs _ _ _ (F0 m (1 + 3) ls (.int (bI (hol x)) :: []))
  refine lv_if_eq (tgt := 20) hx hb dX2_addList_4 (by decide) (fun c4 => ?_) (fun c4 => ?_)
  · have c4 := bI_f c4
    refine lv_iconst (v := 0) hx hb dX2_addList_20 (by decide) ?_
    exact W.zret (v := 0) hx hb hr (by first | rfl | exact bz_n (by first | assumption | exact bI_z | decide)) (fun t ht _ => ⟨⟨(some (.int 0)), [(ay, .inr (2, [.ref ap, .int fi, .int fs])), (ap, .inl (g.2 1, 16, .inl pg)), (am, .inr (4, [.ref al])), (al, .inl (g.2 0, 1024, .inr (.inl mem)))], rfl, ⟨congrArg (fun z : Int32 => some (Value.int z)) (bI_0 (fun q => c4 q.1)), by rw [lstP, if_neg (fun q => c4 q.1)]⟩, rfl, by rw [ht]; exact hP⟩, hS.F ht⟩) hS.2.2 dX2_addList_21
  · have c4 := bI_t c4
    have hx9 := hol_n c4
    refine lv_lload_n hx hb dX2_addList_7 rfl (lv_at hl 2 rfl) ?_
    refine lv_l2i hx hb dX2_addList_8 rfl ?_
    refine fr_go (va_runS (As := [.int x.toInt32]) (rest := []) ⟨hx, hb, hml, hown, hts⟩ (kX4_placeInPage l g x.toInt32 H.size) (va_cwS 1 hts (gdS tw453 tw454 tw2 tw455) rfl rfl rfl (by decide +kernel) ⟨Nat.le_of_ble_eq_true rfl, Nat.le_of_ble_eq_true rfl⟩) ⟨Pst.blind, fr_pre hK hP hD [] rfl rfl⟩ rfl rfl hl.1 rfl (lv_room (Nat.le_of_ble_eq_true rfl)) dX2_addList_9 ⟨Nat.le_of_ble_eq_true rfl, Nat.le_of_ble_eq_true rfl⟩) hP hD hS hA [] rfl (fun v w9 H locs hq hP hD hS => ?_)
    obtain ⟨rfl, rfl⟩ := hq
    have hP : va_P g.1 vwCl [(ay, .inr (2, [.ref ap, .int fi, .int fs])), (ap, .inl (g.2 1, 16, .inl pg)), (am, .inr (4, [.ref al])), (al, .inl (g.2 0, 1024, .inr (.inl mem)))] H := hP
    have hD : va_D A [(ay, .inr (2, [.ref ap, .int fi, .int fs])), (ap, .inl (g.2 1, 16, .inl pg)), (am, .inr (4, [.ref al])), (al, .inl (g.2 0, 1024, .inr (.inl mem)))] := hD
    show W p l e _ s m _ below meth c H locs _ _ _ (F0 m (9 + 3) ls (.int (x.toInt32 &&& 15) :: []))
    refine fr_topi (y := nI (pN x % 16)) (by rw [hx9.2.1]; exact and15 (by omega)) ?_
    refine lv_iload hx hb dX2_addList_12 (lv_at hl 3 rfl) ?_
    refine lv_iadd hx hb dX2_addList_14 ?_
    refine fr_topi (y := nI (pN x % 16 + nd)) (nI_add _ _) ?_
    refine lv_bipush (v := 16) hx hb dX2_addList_15 (by decide) ?_
    refine lv_icmp_le (tgt := 22) hx hb dX2_addList_17 (by decide) (fun c17 => ?_) (fun c17 => ?_)
    · have c17 := (nI_leI (a := (pN x % 16 + nd)) (b := 16) (by omega) (by omega)).mp c17
      refine lv_iconst (v := 0) hx hb dX2_addList_22 (by decide) ?_
      refine fr_topi (y := nI 0) nI_0.symm ?_
      refine lv_istore (lv' := [(5, .int (nI 0)), (0, .ref ay), (1, .ref am), (2, .long x), (4, .int (nI nd))]) hx hb dX2_addList_23 hl (by decide) rfl (fun ls hl => ?_)
      have lp25 : ∀ (n9 : Nat) (i : Nat) , nd - i < n9 → (i ≤ nd) → (lsC mem x.toInt32 i = i) → ∀ (H : Heap) (locs : List Loc) (ls : Array Slot), va_P g.1 vwCl [(ay, .inr (2, [.ref ap, .int fi, .int fs])), (ap, .inl (g.2 1, 16, .inl (lsP pg mem x.toInt32 i))), (am, .inr (4, [.ref al])), (al, .inl (g.2 0, 1024, .inr (.inl mem)))] H → va_D A [(ay, .inr (2, [.ref ap, .int fi, .int fs])), (ap, .inl (g.2 1, 16, .inl (lsP pg mem x.toInt32 i))), (am, .inr (4, [.ref al])), (al, .inl (g.2 0, 1024, .inr (.inl mem)))] → va_S A s.heap H locs → lv_has ls 6 [(5, .int (nI i)), (0, .ref ay), (1, .ref am), (2, .long x), (4, .int (nI nd))] → W p l e ({ frames := 2, cells := 0, slots := 0, locals := 44 } : Room) s m ([.ref ay, .ref am, .long x, .int (nI nd)].toArray) below meth c H locs 0 0 (MQ below (Qst g [(ay, .inr (2, [.ref ap, .int fi, .int fs])), (ap, .inl (g.2 1, 16, .inl pg)), (am, .inr (4, [.ref al])), (al, .inl (g.2 0, 1024, .inr (.inl mem)))] (fun v w' => v = some (.int (bI (lstOk mem x nd))) ∧ w' = [(ay, .inr (2, [.ref ap, .int fi, .int fs])), (ap, .inl (g.2 1, 16, .inl (lstP pg mem x nd))), (am, .inr (4, [.ref al])), (al, .inl (g.2 0, 1024, .inr (.inl mem)))]) A) ([.ref ay, .ref am, .long x, .int (nI nd)].toArray) s 0 0 A) (F0 m 25 ls []) := by
        intro n9
        induction n9 with
        | zero => intro i q9; exact absurd q9 (Nat.not_lt_zero _)
        | succ n9 ih25 =>
          intro i hn9 hi hc H locs ls hP hD hS hl
          refine lv_iload hx hb dX2_addList_25 (lv_at hl 0 rfl) ?_
          refine lv_iload hx hb dX2_addList_27 (lv_at hl 4 rfl) ?_
          refine lv_icmp_ge (tgt := 58) hx hb dX2_addList_29 (by decide) (fun c29 => ?_) (fun c29 => ?_)
          · have c29 := (nI_leI (a := nd) (b := i) (by omega) (by omega)).mp c29
            refine lv_iconst (v := 1) hx hb dX2_addList_58 (by decide) ?_
            exact W.zret (v := 1) hx hb hr (by first | rfl | exact bz_n (by first | assumption | exact bI_z | decide)) (fun t ht _ => ⟨⟨(some (.int 1)), [(ay, .inr (2, [.ref ap, .int fi, .int fs])), (ap, .inl (g.2 1, 16, .inl (lsP pg mem x.toInt32 i))), (am, .inr (4, [.ref al])), (al, .inl (g.2 0, 1024, .inr (.inl mem)))], rfl, ⟨congrArg (fun z : Int32 => some (Value.int z)) (bI_1 ⟨c4, by omega, by rw [show nd = i by omega]; exact hc⟩), by rw [lstP, if_pos (show hol x ∧ ¬ 16 < pN x % 16 + nd from ⟨c4, by omega⟩), show nd = i by omega, hc]⟩, rfl, by rw [ht]; exact hP⟩, hS.F ht⟩) hS.2.2 dX2_addList_59
          · have c29 := (not_congr (nI_leI (a := nd) (b := i) (by omega) (by omega))).mp c29
            refine lv_aload_n hx hb dX2_addList_32 rfl (lv_at hl 1 rfl) ?_
            refine lv_iload hx hb dX2_addList_33 (lv_at hl 0 rfl) ?_
            refine lv_aload_n hx hb dX2_addList_35 rfl (lv_at hl 2 rfl) ?_
            refine lv_lload_n hx hb dX2_addList_36 rfl (lv_at hl 3 rfl) ?_
            refine lv_l2i hx hb dX2_addList_37 rfl ?_
            refine lv_iload hx hb dX2_addList_38 (lv_at hl 0 rfl) ?_
            refine lv_iadd hx hb dX2_addList_40 ?_
            refine fr_go (va_runV (As := [.int (x.toInt32 + (nI i))]) (rest := [.int (nI i), .ref ay]) ⟨hx, hb, hml, hown, hts⟩ (kX4_at l g am al mem (x.toInt32 + (nI i)) H.size) (cwV 1 hts (gdV tw471 tw234 tw235 tw2 tw236) rfl rfl rfl (by decide +kernel) ⟨Nat.le_of_ble_eq_true rfl, Nat.le_of_ble_eq_true rfl⟩) ⟨Pst.blind, va_recv hK hP (ci := 4) (q0 := 2) rfl rfl, fr_pre hK hP hD [2, 3] (by decide) rfl⟩ rfl rfl hl.1 rfl (lv_room (Nat.le_of_ble_eq_true rfl)) dX2_addList_41 ⟨Nat.le_of_ble_eq_true rfl, Nat.le_of_ble_eq_true rfl⟩) hP hD hS hA [2, 3] rfl (fun v w9 H locs hq hP hD hS => ?_)
            obtain ⟨rfl, rfl⟩ := hq
            have hP : va_P g.1 vwCl [(ay, .inr (2, [.ref ap, .int fi, .int fs])), (ap, .inl (g.2 1, 16, .inl (lsP pg mem x.toInt32 i))), (am, .inr (4, [.ref al])), (al, .inl (g.2 0, 1024, .inr (.inl mem)))] H := hP
            have hD : va_D A [(ay, .inr (2, [.ref ap, .int fi, .int fs])), (ap, .inl (g.2 1, 16, .inl (lsP pg mem x.toInt32 i))), (am, .inr (4, [.ref al])), (al, .inl (g.2 0, 1024, .inr (.inl mem)))] := hD
            show W p l e _ s m _ below meth c H locs _ _ _ (F0 m (41 + 3) ls (.long (mAt mem (x.toInt32 + (nI i))) :: .int (nI i) :: .ref ay :: []))
            refine fr_go (va_runV (As := [.int (nI i), .long (mAt mem (x.toInt32 + (nI i)))]) (rest := []) ⟨hx, hb, hml, hown, hts⟩ (kX2_addPage l g ay ap fi fs (lsP pg mem x.toInt32 i) i (mAt mem (x.toInt32 + (nI i))) (by first | assumption | omega) H.size) (cwV 2 hts (gdV tw459 tw461 tp13 tw8 tw462) rfl rfl rfl (by decide +kernel) ⟨Nat.le_of_ble_eq_true rfl, Nat.le_of_ble_eq_true rfl⟩) ⟨Pst.blind, va_recv hK hP (ci := 2) (q0 := 0) rfl rfl, fr_pre hK hP hD [0, 1] (by decide) rfl⟩ rfl rfl hl.1 rfl (lv_room (Nat.le_of_ble_eq_true rfl)) dX2_addList_44 ⟨Nat.le_of_ble_eq_true rfl, Nat.le_of_ble_eq_true rfl⟩) hP hD hS hA [0, 1] rfl (fun v w9 H locs hq hP hD hS => ?_)
            obtain ⟨rfl, rfl⟩ := hq
            have hP : va_P g.1 vwCl [(ay, .inr (2, [.ref ap, .int fi, .int fs])), (ap, .inl (g.2 1, 16, .inl (if hpg (mAt mem (x.toInt32 + (nI i))) then upd (lsP pg mem x.toInt32 i) i (mAt mem (x.toInt32 + (nI i))).toInt32 else (lsP pg mem x.toInt32 i)))), (am, .inr (4, [.ref al])), (al, .inl (g.2 0, 1024, .inr (.inl mem)))] H := hP
            have hD : va_D A [(ay, .inr (2, [.ref ap, .int fi, .int fs])), (ap, .inl (g.2 1, 16, .inl (if hpg (mAt mem (x.toInt32 + (nI i))) then upd (lsP pg mem x.toInt32 i) i (mAt mem (x.toInt32 + (nI i))).toInt32 else (lsP pg mem x.toInt32 i)))), (am, .inr (4, [.ref al])), (al, .inl (g.2 0, 1024, .inr (.inl mem)))] := hD
            show W p l e _ s m _ below meth c H locs _ _ _ (F0 m (44 + 3) ls (.int (bI (hpg (mAt mem (x.toInt32 + (nI i))))) :: []))
            refine lv_if_ne (tgt := 52) hx hb dX2_addList_47 (by decide) (fun c47 => ?_) (fun c47 => ?_)
            · have c47 := bI_t c47
              refine lv_iinc (v := nI (i + 1)) (lv' := [(5, .int (nI (i + 1))), (0, .ref ay), (1, .ref am), (2, .long x), (4, .int (nI nd))]) hx hb dX2_addList_52 hl (k := 0) rfl (nI_1 _) (by decide) rfl (fun ls hl => ?_)
              refine lv_goto (tgt := 25) hx hb dX2_addList_55 (by decide) ?_
              rw [if_pos c47] at hP hD
              exact ih25 (i + 1) (by omega) (by omega) (lsC_go hc c47) H locs ls hP hD hS (lv_sub hl [0, 1, 2, 3, 4] rfl)
            · have c47 := bI_f c47
              refine lv_iconst (v := 0) hx hb dX2_addList_50 (by decide) ?_
              exact W.zret (v := 0) hx hb hr (by first | rfl | exact bz_n (by first | assumption | exact bI_z | decide)) (fun t ht _ => ⟨⟨(some (.int 0)), [(ay, .inr (2, [.ref ap, .int fi, .int fs])), (ap, .inl (g.2 1, 16, .inl (if hpg (mAt mem (x.toInt32 + (nI i))) then upd (lsP pg mem x.toInt32 i) i (mAt mem (x.toInt32 + (nI i))).toInt32 else (lsP pg mem x.toInt32 i)))), (am, .inr (4, [.ref al])), (al, .inl (g.2 0, 1024, .inr (.inl mem)))], rfl, ⟨congrArg (fun z : Int32 => some (Value.int z)) (bI_0 (fun q => by have := q.2.2; rw [lsC_stop hc c47 (by omega)] at this; omega)), by rw [if_neg c47, lstP, if_pos (show hol x ∧ ¬ 16 < pN x % 16 + nd from ⟨c4, by omega⟩), lsC_stop hc c47 (by omega)]⟩, rfl, by rw [ht]; exact hP⟩, hS.F ht⟩) hS.2.2 dX2_addList_51
      exact lp25 _ 0 (Nat.lt_succ_self _) (Nat.zero_le _) rfl H locs ls hP hD hS (lv_sub hl [0, 1, 2, 3, 4] rfl)
    · have c17 := (not_congr (nI_leI (a := (pN x % 16 + nd)) (b := 16) (by omega) (by omega))).mp c17
      refine lv_iconst (v := 0) hx hb dX2_addList_20 (by decide) ?_
      exact W.zret (v := 0) hx hb hr (by first | rfl | exact bz_n (by first | assumption | exact bI_z | decide)) (fun t ht _ => ⟨⟨(some (.int 0)), [(ay, .inr (2, [.ref ap, .int fi, .int fs])), (ap, .inl (g.2 1, 16, .inl pg)), (am, .inr (4, [.ref al])), (al, .inl (g.2 0, 1024, .inr (.inl mem)))], rfl, ⟨congrArg (fun z : Int32 => some (Value.int z)) (bI_0 (fun q => q.2.1 (by omega))), by rw [lstP, if_neg (fun q => q.2 (by omega))]⟩, rfl, by rw [ht]; exact hP⟩, hS.F ht⟩) hS.2.2 dX2_addList_21
set_option maxHeartbeats 4000000 in
set_option maxRecDepth 100000 in
/-- Data.layByPages -/
theorem kX2_layByPages (l : Launch) (g : GG) (ay : Nat) (ap : Nat) (fi : Int32) (F : Nat) (pg : Nat → Int32) (am : Nat) (al : Nat) (mem : Nat → Int64) (ac : Nat) (op : Int32) (id : Int32) (fg : Int32) (n : Nat) (cp : Int64) (cq : Int64) (cx : Int64) (hn : n ≤ 256) : Ct l yX2_layByPages cX2_layByPages 5 (some .boolean) ({ frames := 3, cells := 0, slots := 0, locals := 69 } : Room) g [.ref ay, .ref am, .ref ac] [(ay, .inr (2, [.ref ap, .int fi, .int (nI F)])), (ap, .inl (g.2 1, 16, .inl pg)), (am, .inr (4, [.ref al])), (al, .inl (g.2 0, 1024, .inr (.inl mem))), (ac, .inr (0, [.int op, .int id, .int fg, .int (nI n), .long cp, .long cq, .long cx]))] (fun v w' => v = some (.int (bI (lyOk mem cp cq n))) ∧ w' = [(ay, .inr (2, [.ref ap, .int (if hol cp then nI (pN cp) else fi), .int (nI (if hol cp then fsN n (pN cp) else F))])), (ap, .inl (g.2 1, 16, .inl (lyP pg mem cp cq n))), (am, .inr (4, [.ref al])), (al, .inl (g.2 0, 1024, .inr (.inl mem))), (ac, .inr (0, [.int op, .int id, .int fg, .int (nI n), .long cp, .long cq, .long cx]))]) := by
  refine Ct.of (by decide) (Nat.le_of_ble_eq_true rfl) ?_
  intro p e s m below meth c A ls H locs hx hb hr hml hlocks hts hown hin hA hS hK hP hD hl
  have hown : s.vm.findClass RX2 = some m.cls := hown
  have hl : lv_has ls 5 [(0, .ref ay), (1, .ref am), (2, .ref ac)] := hl
  refine lv_aload_n hx hb dX2_layByPages_0 rfl (lv_at hl 2 rfl) ?_
  refine va_get (D := g.1) (ci := 0) (v := .long cp) (C := RX0) (T := TX0) (N := 7) hx hb hts inX0 hown hK hP 4 rfl rfl 4 (by decide) (hts _ tw144) (fun _ h9 => h9) rfl dX2_layByPages_1 ?_
  refine fr_go (va_runS (As := [.long cp]) (rest := []) ⟨hx, hb, hml, hown, hts⟩ (kX4_holds l g cp H.size) (va_cwS 1 hts (gdS tw452 tw238 tw2 tw239) rfl rfl rfl (by decide +kernel) ⟨Nat.le_of_ble_eq_true rfl, Nat.le_of_ble_eq_true rfl⟩) ⟨Pst.blind, fr_pre hK hP hD [] rfl rfl⟩ rfl rfl hl.1 rfl (lv_room (Nat.le_of_ble_eq_true rfl)) dX2_layByPages_4 ⟨Nat.le_of_ble_eq_true rfl, Nat.le_of_ble_eq_true rfl⟩) hP hD hS hA [] rfl (fun v w9 H locs hq hP hD hS => ?_)
  obtain ⟨rfl, rfl⟩ := hq
  have hP : va_P g.1 vwCl [(ay, .inr (2, [.ref ap, .int fi, .int (nI F)])), (ap, .inl (g.2 1, 16, .inl pg)), (am, .inr (4, [.ref al])), (al, .inl (g.2 0, 1024, .inr (.inl mem))), (ac, .inr (0, [.int op, .int id, .int fg, .int (nI n), .long cp, .long cq, .long cx]))] H := hP
  have hD : va_D A [(ay, .inr (2, [.ref ap, .int fi, .int (nI F)])), (ap, .inl (g.2 1, 16, .inl pg)), (am, .inr (4, [.ref al])), (al, .inl (g.2 0, 1024, .inr (.inl mem))), (ac, .inr (0, [.int op, .int id, .int fg, .int (nI n), .long cp, .long cq, .long cx]))] := hD
  show W p l e _ s m _ below meth c H locs _ _ _ (F0 m (4 + 3) ls (.int (bI (hol cp)) :: []))
  refine lv_if_ne (tgt := 12) hx hb dX2_layByPages_7 (by decide) (fun c7 => ?_) (fun c7 => ?_)
  · have c7 := bI_t c7
    have hp9 := hol_n c7
    have hf9 : fsN n (pN cp) ≤ n * 8 := Nat.min_le_left _ _
    have hr9 : rsN n (pN cp) = n * 8 - fsN n (pN cp) := rfl
    have hd9 : ndN (rsN n (pN cp)) = (rsN n (pN cp) + 15) / 16 := rfl
    refine lv_aload_n hx hb dX2_layByPages_12 rfl (lv_at hl 0 rfl) ?_
    refine lv_aload_n hx hb dX2_layByPages_13 rfl (lv_at hl 2 rfl) ?_
    refine va_get (D := g.1) (ci := 0) (v := .long cp) (C := RX0) (T := TX0) (N := 7) hx hb hts inX0 hown hK hP 4 rfl rfl 4 (by decide) (hts _ tw144) (fun _ h9 => h9) rfl dX2_layByPages_14 ?_
    refine lv_l2i hx hb dX2_layByPages_17 rfl ?_
    refine fr_topi (y := nI (pN cp)) hp9.2.1 ?_
    refine va_put (D := g.1) (ci := 2) (v := .int (nI (pN cp))) (ty := .int) (C := RX2) (T := TX2) (N := 3) hx hb hts inX2 tyX2 tyX2_ok nmX2 hown hK hP hD hS 0 rfl rfl 1 (by decide) (hts _ tw174) (fun _ h9 => h9) rfl (by decide +kernel) rfl rfl (Nat.le_of_ble_eq_true rfl) dX2_layByPages_18 (fun H locs hP hD hS => ?_)
    have hP : va_P g.1 vwCl [(ay, .inr (2, [.ref ap, .int (nI (pN cp)), .int (nI F)])), (ap, .inl (g.2 1, 16, .inl pg)), (am, .inr (4, [.ref al])), (al, .inl (g.2 0, 1024, .inr (.inl mem))), (ac, .inr (0, [.int op, .int id, .int fg, .int (nI n), .long cp, .long cq, .long cx]))] H := hP
    have hD : va_D A [(ay, .inr (2, [.ref ap, .int (nI (pN cp)), .int (nI F)])), (ap, .inl (g.2 1, 16, .inl pg)), (am, .inr (4, [.ref al])), (al, .inl (g.2 0, 1024, .inr (.inl mem))), (ac, .inr (0, [.int op, .int id, .int fg, .int (nI n), .long cp, .long cq, .long cx]))] := hD
    refine lv_aload_n hx hb dX2_layByPages_21 rfl (lv_at hl 2 rfl) ?_
    refine va_get (D := g.1) (ci := 0) (v := .int (nI n)) (C := RX0) (T := TX0) (N := 7) hx hb hts inX0 hown hK hP 4 rfl rfl 3 (by decide) (hts _ tw141) (fun _ h9 => h9) rfl dX2_layByPages_22 ?_
    refine lv_bipush (v := 8) hx hb dX2_layByPages_25 (by decide) ?_
    refine lv_imul hx hb dX2_layByPages_27 ?_
    refine fr_topi (y := nI (n * 8)) (pk_mul _ 8) ?_
    refine lv_istore_n (lv' := [(3, .int (nI (n * 8))), (0, .ref ay), (1, .ref am), (2, .ref ac)]) hx hb dX2_layByPages_28 rfl hl (by decide) rfl (fun ls hl => ?_)
    refine lv_aload_n hx hb dX2_layByPages_29 rfl (lv_at hl 1 rfl) ?_
    refine lv_iload_n hx hb dX2_layByPages_30 rfl (lv_at hl 0 rfl) ?_
    refine lv_bipush (v := 16) hx hb dX2_layByPages_31 (by decide) ?_
    refine lv_aload_n hx hb dX2_layByPages_33 rfl (lv_at hl 1 rfl) ?_
    refine va_get (D := g.1) (ci := 2) (v := .int (nI (pN cp))) (C := RX2) (T := TX2) (N := 3) hx hb hts inX2 hown hK hP 0 rfl rfl 1 (by decide) (hts _ tw174) (fun _ h9 => h9) rfl dX2_layByPages_34 ?_
    refine fr_go (va_runS (As := [.int (nI (pN cp))]) (rest := [.int 16, .int (nI (n * 8)), .ref ay]) ⟨hx, hb, hml, hown, hts⟩ (kX4_placeInPage l g (nI (pN cp)) H.size) (va_cwS 1 hts (gdS tw453 tw454 tw2 tw455) rfl rfl rfl (by decide +kernel) ⟨Nat.le_of_ble_eq_true rfl, Nat.le_of_ble_eq_true rfl⟩) ⟨Pst.blind, fr_pre hK hP hD [] rfl rfl⟩ rfl rfl hl.1 rfl (lv_room (Nat.le_of_ble_eq_true rfl)) dX2_layByPages_37 ⟨Nat.le_of_ble_eq_true rfl, Nat.le_of_ble_eq_true rfl⟩) hP hD hS hA [] rfl (fun v w9 H locs hq hP hD hS => ?_)
    obtain ⟨rfl, rfl⟩ := hq
    have hP : va_P g.1 vwCl [(ay, .inr (2, [.ref ap, .int (nI (pN cp)), .int (nI F)])), (ap, .inl (g.2 1, 16, .inl pg)), (am, .inr (4, [.ref al])), (al, .inl (g.2 0, 1024, .inr (.inl mem))), (ac, .inr (0, [.int op, .int id, .int fg, .int (nI n), .long cp, .long cq, .long cx]))] H := hP
    have hD : va_D A [(ay, .inr (2, [.ref ap, .int (nI (pN cp)), .int (nI F)])), (ap, .inl (g.2 1, 16, .inl pg)), (am, .inr (4, [.ref al])), (al, .inl (g.2 0, 1024, .inr (.inl mem))), (ac, .inr (0, [.int op, .int id, .int fg, .int (nI n), .long cp, .long cq, .long cx]))] := hD
    show W p l e _ s m _ below meth c H locs _ _ _ (F0 m (37 + 3) ls (.int ((nI (pN cp)) &&& 15) :: .int 16 :: .int (nI (n * 8)) :: .ref ay :: []))
    refine fr_topi (y := nI (pN cp % 16)) (and15 (by omega)) ?_
    refine lv_isub hx hb dX2_layByPages_40 ?_
    refine fr_topi (y := nI (16 - pN cp % 16)) (pk_sub (a := 16) (by omega)) ?_
    refine va_mmin hx hb (hml.trans hl.1.symm) hown (hts _ tw456) (hts _ tw457) (hts _ tw12) (hts _ tw458) (Nat.le_of_ble_eq_true rfl) (Nat.le_of_ble_eq_true rfl) (Nat.zero_le _) (Nat.zero_le _) dX2_layByPages_41 ?_
    refine fr_topi (y := nI (fsN n (pN cp))) (mn_l (by omega) (by omega)) ?_
    refine va_put (D := g.1) (ci := 2) (v := .int (nI (fsN n (pN cp)))) (ty := .int) (C := RX2) (T := TX2) (N := 3) hx hb hts inX2 tyX2 tyX2_ok nmX2 hown hK hP hD hS 0 rfl rfl 2 (by decide) (hts _ tw175) (fun _ h9 => h9) rfl (by decide +kernel) rfl rfl (Nat.le_of_ble_eq_true rfl) dX2_layByPages_44 (fun H locs hP hD hS => ?_)
    have hP : va_P g.1 vwCl [(ay, .inr (2, [.ref ap, .int (nI (pN cp)), .int (nI (fsN n (pN cp)))])), (ap, .inl (g.2 1, 16, .inl pg)), (am, .inr (4, [.ref al])), (al, .inl (g.2 0, 1024, .inr (.inl mem))), (ac, .inr (0, [.int op, .int id, .int fg, .int (nI n), .long cp, .long cq, .long cx]))] H := hP
    have hD : va_D A [(ay, .inr (2, [.ref ap, .int (nI (pN cp)), .int (nI (fsN n (pN cp)))])), (ap, .inl (g.2 1, 16, .inl pg)), (am, .inr (4, [.ref al])), (al, .inl (g.2 0, 1024, .inr (.inl mem))), (ac, .inr (0, [.int op, .int id, .int fg, .int (nI n), .long cp, .long cq, .long cx]))] := hD
    refine lv_iload_n hx hb dX2_layByPages_47 rfl (lv_at hl 0 rfl) ?_
    refine lv_aload_n hx hb dX2_layByPages_48 rfl (lv_at hl 1 rfl) ?_
    refine va_get (D := g.1) (ci := 2) (v := .int (nI (fsN n (pN cp)))) (C := RX2) (T := TX2) (N := 3) hx hb hts inX2 hown hK hP 0 rfl rfl 2 (by decide) (hts _ tw175) (fun _ h9 => h9) rfl dX2_layByPages_49 ?_
    refine lv_isub hx hb dX2_layByPages_52 ?_
    refine fr_topi (y := nI (rsN n (pN cp))) (pk_sub hf9) ?_
    refine lv_istore (lv' := [(4, .int (nI (rsN n (pN cp)))), (3, .int (nI (n * 8))), (0, .ref ay), (1, .ref am), (2, .ref ac)]) hx hb dX2_layByPages_53 hl (by decide) rfl (fun ls hl => ?_)
    refine lv_iload hx hb dX2_layByPages_55 (lv_at hl 0 rfl) ?_
    refine lv_if_ne (tgt := 62) hx hb dX2_layByPages_57 (by decide) (fun c57 => ?_) (fun c57 => ?_)
    · have c57 := (not_congr (nI_eq (a := (rsN n (pN cp))) (b := 0) (by omega) (by omega))).mp c57
      refine lv_iload hx hb dX2_layByPages_62 (lv_at hl 0 rfl) ?_
      refine lv_bipush (v := 16) hx hb dX2_layByPages_64 (by decide) ?_
      refine lv_icmp_gt (tgt := 81) hx hb dX2_layByPages_66 (by decide) (fun c66 => ?_) (fun c66 => ?_)
      · have c66 := (nI_ltI (a := 16) (b := (rsN n (pN cp))) (by omega) (by omega)).mp c66
        refine lv_aload_n hx hb dX2_layByPages_81 rfl (lv_at hl 2 rfl) ?_
        refine lv_aload_n hx hb dX2_layByPages_82 rfl (lv_at hl 3 rfl) ?_
        refine lv_aload_n hx hb dX2_layByPages_83 rfl (lv_at hl 4 rfl) ?_
        refine va_get (D := g.1) (ci := 0) (v := .long cq) (C := RX0) (T := TX0) (N := 7) hx hb hts inX0 hown hK hP 4 rfl rfl 5 (by decide) (hts _ tw147) (fun _ h9 => h9) rfl dX2_layByPages_84 ?_
        refine lv_iload hx hb dX2_layByPages_87 (lv_at hl 0 rfl) ?_
        refine lv_bipush (v := 16) hx hb dX2_layByPages_89 (by decide) ?_
        refine lv_iadd hx hb dX2_layByPages_91 ?_
        refine fr_topi (y := nI (rsN n (pN cp) + 16)) (nI_add _ 16) ?_
        refine lv_iconst (v := 1) hx hb dX2_layByPages_92 (by decide) ?_
        refine lv_isub hx hb dX2_layByPages_93 ?_
        refine fr_topi (y := nI (rsN n (pN cp) + 15)) (nI_pred _) ?_
        refine lv_bipush (v := 16) hx hb dX2_layByPages_94 (by decide) ?_
        refine lv_idiv hx hb dX2_layByPages_96 (by decide) ?_
        refine fr_topi (y := nI (ndN (rsN n (pN cp)))) (pk_div (d := 16) (by omega) (by decide) (by decide)) ?_
        refine fr_go (va_runV (As := [.ref am, .long cq, .int (nI (ndN (rsN n (pN cp))))]) (rest := []) ⟨hx, hb, hml, hown, hts⟩ (kX2_addList l g ay ap (nI (pN cp)) (nI (fsN n (pN cp))) pg am al mem cq (ndN (rsN n (pN cp))) (by first | assumption | omega) H.size) (cwV 3 hts (gdV tw467 tw469 tp14 tw8 tw470) rfl rfl rfl (by decide +kernel) ⟨Nat.le_of_ble_eq_true rfl, Nat.le_of_ble_eq_true rfl⟩) ⟨Pst.blind, va_recv hK hP (ci := 2) (q0 := 0) rfl rfl, fr_pre hK hP hD [0, 1, 2, 3] (by decide) rfl⟩ rfl rfl hl.1 rfl (lv_room (Nat.le_of_ble_eq_true rfl)) dX2_layByPages_97 ⟨Nat.le_of_ble_eq_true rfl, Nat.le_of_ble_eq_true rfl⟩) hP hD hS hA [0, 1, 2, 3] rfl (fun v w9 H locs hq hP hD hS => ?_)
        obtain ⟨rfl, rfl⟩ := hq
        have hP : va_P g.1 vwCl [(ay, .inr (2, [.ref ap, .int (nI (pN cp)), .int (nI (fsN n (pN cp)))])), (ap, .inl (g.2 1, 16, .inl (lstP pg mem cq (ndN (rsN n (pN cp)))))), (am, .inr (4, [.ref al])), (al, .inl (g.2 0, 1024, .inr (.inl mem))), (ac, .inr (0, [.int op, .int id, .int fg, .int (nI n), .long cp, .long cq, .long cx]))] H := hP
        have hD : va_D A [(ay, .inr (2, [.ref ap, .int (nI (pN cp)), .int (nI (fsN n (pN cp)))])), (ap, .inl (g.2 1, 16, .inl (lstP pg mem cq (ndN (rsN n (pN cp)))))), (am, .inr (4, [.ref al])), (al, .inl (g.2 0, 1024, .inr (.inl mem))), (ac, .inr (0, [.int op, .int id, .int fg, .int (nI n), .long cp, .long cq, .long cx]))] := hD
        show W p l e _ s m _ below meth c H locs _ _ _ (F0 m (97 + 3) ls (.int (bI (lstOk mem cq (ndN (rsN n (pN cp))))) :: []))
        exact W.zret (v := bI (lstOk mem cq (ndN (rsN n (pN cp))))) hx hb hr (by first | rfl | exact bz_n (by first | assumption | exact bI_z | decide)) (fun t ht _ => ⟨⟨(some (.int (bI (lstOk mem cq (ndN (rsN n (pN cp))))))), [(ay, .inr (2, [.ref ap, .int (nI (pN cp)), .int (nI (fsN n (pN cp)))])), (ap, .inl (g.2 1, 16, .inl (lstP pg mem cq (ndN (rsN n (pN cp)))))), (am, .inr (4, [.ref al])), (al, .inl (g.2 0, 1024, .inr (.inl mem))), (ac, .inr (0, [.int op, .int id, .int fg, .int (nI n), .long cp, .long cq, .long cx]))], rfl, ⟨congrArg (fun z : Int32 => some (Value.int z)) (bI_iff ⟨fun h => ⟨c7, Or.inr (Or.inr ⟨c66, h⟩)⟩, fun h => h.2.elim (fun z => absurd z c57) (fun z => z.elim (fun z => absurd c66 z.2.1) (fun z => z.2))⟩), by rw [lyP, if_neg (show ¬ (¬ hol cp ∨ rsN n (pN cp) = 0) from fun q => q.elim (fun z => z c7) c57), if_pos (show 16 < rsN n (pN cp) by omega), if_pos c7, if_pos c7]⟩, rfl, by rw [ht]; exact hP⟩, hS.F ht⟩) hS.2.2 dX2_layByPages_100
      · have c66 := (not_congr (nI_ltI (a := 16) (b := (rsN n (pN cp))) (by omega) (by omega))).mp c66
        refine lv_aload_n hx hb dX2_layByPages_69 rfl (lv_at hl 2 rfl) ?_
        refine lv_iconst (v := 0) hx hb dX2_layByPages_70 (by decide) ?_
        refine fr_topi (y := nI 0) nI_0.symm ?_
        refine lv_aload_n hx hb dX2_layByPages_71 rfl (lv_at hl 4 rfl) ?_
        refine va_get (D := g.1) (ci := 0) (v := .long cq) (C := RX0) (T := TX0) (N := 7) hx hb hts inX0 hown hK hP 4 rfl rfl 5 (by decide) (hts _ tw147) (fun _ h9 => h9) rfl dX2_layByPages_72 ?_
        refine fr_go (va_runV (As := [.int (nI 0), .long cq]) (rest := []) ⟨hx, hb, hml, hown, hts⟩ (kX2_addPage l g ay ap (nI (pN cp)) (nI (fsN n (pN cp))) pg 0 cq (by first | assumption | omega) H.size) (cwV 2 hts (gdV tw459 tw461 tp13 tw8 tw462) rfl rfl rfl (by decide +kernel) ⟨Nat.le_of_ble_eq_true rfl, Nat.le_of_ble_eq_true rfl⟩) ⟨Pst.blind, va_recv hK hP (ci := 2) (q0 := 0) rfl rfl, fr_pre hK hP hD [0, 1] (by decide) rfl⟩ rfl rfl hl.1 rfl (lv_room (Nat.le_of_ble_eq_true rfl)) dX2_layByPages_75 ⟨Nat.le_of_ble_eq_true rfl, Nat.le_of_ble_eq_true rfl⟩) hP hD hS hA [0, 1] rfl (fun v w9 H locs hq hP hD hS => ?_)
        obtain ⟨rfl, rfl⟩ := hq
        have hP : va_P g.1 vwCl [(ay, .inr (2, [.ref ap, .int (nI (pN cp)), .int (nI (fsN n (pN cp)))])), (ap, .inl (g.2 1, 16, .inl (if hpg cq then upd pg 0 cq.toInt32 else pg))), (am, .inr (4, [.ref al])), (al, .inl (g.2 0, 1024, .inr (.inl mem))), (ac, .inr (0, [.int op, .int id, .int fg, .int (nI n), .long cp, .long cq, .long cx]))] H := hP
        have hD : va_D A [(ay, .inr (2, [.ref ap, .int (nI (pN cp)), .int (nI (fsN n (pN cp)))])), (ap, .inl (g.2 1, 16, .inl (if hpg cq then upd pg 0 cq.toInt32 else pg))), (am, .inr (4, [.ref al])), (al, .inl (g.2 0, 1024, .inr (.inl mem))), (ac, .inr (0, [.int op, .int id, .int fg, .int (nI n), .long cp, .long cq, .long cx]))] := hD
        show W p l e _ s m _ below meth c H locs _ _ _ (F0 m (75 + 3) ls (.int (bI (hpg cq)) :: []))
        refine lv_goto (tgt := 100) hx hb dX2_layByPages_78 (by decide) ?_
        exact W.zret (v := bI (hpg cq)) hx hb hr (by first | rfl | exact bz_n (by first | assumption | exact bI_z | decide)) (fun t ht _ => ⟨⟨(some (.int (bI (hpg cq)))), [(ay, .inr (2, [.ref ap, .int (nI (pN cp)), .int (nI (fsN n (pN cp)))])), (ap, .inl (g.2 1, 16, .inl (if hpg cq then upd pg 0 cq.toInt32 else pg))), (am, .inr (4, [.ref al])), (al, .inl (g.2 0, 1024, .inr (.inl mem))), (ac, .inr (0, [.int op, .int id, .int fg, .int (nI n), .long cp, .long cq, .long cx]))], rfl, ⟨congrArg (fun z : Int32 => some (Value.int z)) (bI_iff ⟨fun h => ⟨c7, Or.inr (Or.inl ⟨c57, by omega, h⟩)⟩, fun h => h.2.elim (fun z => absurd z c57) (fun z => z.elim (fun z => z.2.2) (fun z => absurd z.1 (by omega)))⟩), by rw [lyP, if_neg (show ¬ (¬ hol cp ∨ rsN n (pN cp) = 0) from fun q => q.elim (fun z => z c7) c57), if_neg (show ¬ 16 < rsN n (pN cp) by omega), if_pos c7, if_pos c7]⟩, rfl, by rw [ht]; exact hP⟩, hS.F ht⟩) hS.2.2 dX2_layByPages_100
    · have c57 := (nI_eq (a := (rsN n (pN cp))) (b := 0) (by omega) (by omega)).mp c57
      refine lv_iconst (v := 1) hx hb dX2_layByPages_60 (by decide) ?_
      exact W.zret (v := 1) hx hb hr (by first | rfl | exact bz_n (by first | assumption | exact bI_z | decide)) (fun t ht _ => ⟨⟨(some (.int 1)), [(ay, .inr (2, [.ref ap, .int (nI (pN cp)), .int (nI (fsN n (pN cp)))])), (ap, .inl (g.2 1, 16, .inl pg)), (am, .inr (4, [.ref al])), (al, .inl (g.2 0, 1024, .inr (.inl mem))), (ac, .inr (0, [.int op, .int id, .int fg, .int (nI n), .long cp, .long cq, .long cx]))], rfl, ⟨congrArg (fun z : Int32 => some (Value.int z)) (bI_1 ⟨c7, Or.inl c57⟩), by rw [if_pos c7, if_pos c7, lyP, if_pos (Or.inr c57)]⟩, rfl, by rw [ht]; exact hP⟩, hS.F ht⟩) hS.2.2 dX2_layByPages_61
  · have c7 := bI_f c7
    refine lv_iconst (v := 0) hx hb dX2_layByPages_10 (by decide) ?_
    exact W.zret (v := 0) hx hb hr (by first | rfl | exact bz_n (by first | assumption | exact bI_z | decide)) (fun t ht _ => ⟨⟨(some (.int 0)), [(ay, .inr (2, [.ref ap, .int fi, .int (nI F)])), (ap, .inl (g.2 1, 16, .inl pg)), (am, .inr (4, [.ref al])), (al, .inl (g.2 0, 1024, .inr (.inl mem))), (ac, .inr (0, [.int op, .int id, .int fg, .int (nI n), .long cp, .long cq, .long cx]))], rfl, ⟨congrArg (fun z : Int32 => some (Value.int z)) (bI_0 (fun q => c7 q.1)), by rw [if_neg c7, if_neg c7, lyP, if_pos (Or.inl c7)]⟩, rfl, by rw [ht]; exact hP⟩, hS.F ht⟩) hS.2.2 dX2_layByPages_11
