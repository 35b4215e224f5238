set_option maxHeartbeats 4000000 in
set_option maxRecDepth 100000 in
/-- Command.take -/
theorem kX0_take (l : Launch) (g : GG) (ac : Nat) (op : Int32) (id : Int32) (fg : Int32) (cn : Int32) (cp : Int64) (cq : Int64) (cx : Int64) (am : Nat) (al : Nat) (mem : Nat → Int64) (p0 : Int32) : Ct l yX0_take cX0_take 5 none ({ frames := 2, cells := 0, slots := 0, locals := 42 } : Room) g [.ref ac, .ref am, .int p0] [(ac, .inr (0, [.int op, .int id, .int fg, .int cn, .long cp, .long cq, .long cx])), (am, .inr (4, [.ref al])), (al, .inl (g.2 0, 1024, .inr (.inl mem)))] (fun v w' => v = none ∧ w' = [(ac, .inr (0, [.int (cOp (mAt mem p0)), .int (cId (mAt mem p0)), .int (bI (cFg (mAt mem p0))), .int (nI (cNn (mAt mem p0))), .long (mAt mem (p0 + 1)), .long (mAt mem (p0 + 2)), .long (mAt mem (p0 + 3))])), (am, .inr (4, [.ref al])), (al, .inl (g.2 0, 1024, .inr (.inl mem)))]) := by
  refine Ct.of (by decide) (Nat.le_of_ble_eq_true rfl) ?_
  intro p e s m below meth c A ls H locs hx hb hr hml hlocks hts hown hin hA hS hK hP hD hl
  have hown : s.vm.findClass RX0 = some m.cls := hown
  have hl : lv_has ls 5 [(0, .ref ac), (1, .ref am), (2, .int p0)] := hl
  refine lv_aload_n hx hb dX0_take_0 rfl (lv_at hl 1 rfl) ?_
  refine lv_iload_n hx hb dX0_take_1 rfl (lv_at hl 2 rfl) ?_
  refine fr_go (va_runV (As := [.int p0]) (rest := []) ⟨hx, hb, hml, hown, hts⟩ (kX4_at l g am al mem p0 H.size) (cwV 1 hts (gdV tw398 tw234 tw235 tw2 tw236) rfl rfl rfl (by decide +kernel) ⟨Nat.le_of_ble_eq_true rfl, Nat.le_of_ble_eq_true rfl⟩) ⟨Pst.blind, va_recv hK hP (ci := 4) (q0 := 1) rfl rfl, fr_pre hK hP hD [1, 2] (by decide) rfl⟩ rfl rfl hl.1 rfl (lv_room (Nat.le_of_ble_eq_true rfl)) dX0_take_2 ⟨Nat.le_of_ble_eq_true rfl, Nat.le_of_ble_eq_true rfl⟩) hP hD hS hA [1, 2] rfl (fun v w9 H locs hq hP hD hS => ?_)
  obtain ⟨rfl, rfl⟩ := hq
  have hP : va_P g.1 vwCl [(ac, .inr (0, [.int op, .int id, .int fg, .int cn, .long cp, .long cq, .long cx])), (am, .inr (4, [.ref al])), (al, .inl (g.2 0, 1024, .inr (.inl mem)))] H := hP
  have hD : va_D A [(ac, .inr (0, [.int op, .int id, .int fg, .int cn, .long cp, .long cq, .long cx])), (am, .inr (4, [.ref al])), (al, .inl (g.2 0, 1024, .inr (.inl mem)))] := hD
  show W p l e _ s m _ below meth c H locs _ _ _ (F0 m (2 + 3) ls (.long (mAt mem p0) :: []))
  refine lv_lstore_n (lv' := [(3, .long (mAt mem p0)), (0, .ref ac), (1, .ref am), (2, .int p0)]) hx hb dX0_take_5 rfl hl (by decide) rfl (fun ls hl => ?_)
  refine lv_aload_n hx hb dX0_take_6 rfl (lv_at hl 1 rfl) ?_
  refine lv_lload_n hx hb dX0_take_7 rfl (lv_at hl 0 rfl) ?_
  refine lv_ldc2 hx hb hown (hts _ tw399) dX0_take_8 ?_
  refine lv_land hx hb dX0_take_11 ?_
  refine lv_l2i hx hb dX0_take_12 rfl ?_
  refine va_put (D := g.1) (ci := 0) (v := .int (((mAt mem p0) &&& 255).toInt32)) (ty := .int) (C := RX0) (T := TX0) (N := 7) hx hb hts inX0 tyX0 tyX0_ok nmX0 hown hK hP hD hS 0 rfl rfl 0 (by decide) (hts _ tw135) (fun _ h9 => h9) rfl (by decide +kernel) rfl rfl (Nat.le_of_ble_eq_true rfl) dX0_take_13 (fun H locs hP hD hS => ?_)
  have hP : va_P g.1 vwCl [(ac, .inr (0, [.int (((mAt mem p0) &&& 255).toInt32), .int id, .int fg, .int cn, .long cp, .long cq, .long cx])), (am, .inr (4, [.ref al])), (al, .inl (g.2 0, 1024, .inr (.inl mem)))] H := hP
  have hD : va_D A [(ac, .inr (0, [.int (((mAt mem p0) &&& 255).toInt32), .int id, .int fg, .int cn, .long cp, .long cq, .long cx])), (am, .inr (4, [.ref al])), (al, .inl (g.2 0, 1024, .inr (.inl mem)))] := hD
  refine lv_aload_n hx hb dX0_take_16 rfl (lv_at hl 1 rfl) ?_
  refine lv_lload_n hx hb dX0_take_17 rfl (lv_at hl 0 rfl) ?_
  refine lv_bipush (v := 8) hx hb dX0_take_18 (by decide) ?_
  refine lv_lushr hx hb dX0_take_20 rfl ?_
  refine lv_ldc2 hx hb hown (hts _ tw400) dX0_take_21 ?_
  refine lv_land hx hb dX0_take_24 ?_
  refine lv_l2i hx hb dX0_take_25 rfl ?_
  refine va_put (D := g.1) (ci := 0) (v := .int (((((mAt mem p0).toUInt64 >>> ((8 : Int32).toInt64.toUInt64 &&& Int64.toUInt64 63)).toInt64) &&& 65535).toInt32)) (ty := .int) (C := RX0) (T := TX0) (N := 7) hx hb hts inX0 tyX0 tyX0_ok nmX0 hown hK hP hD hS 0 rfl rfl 1 (by decide) (hts _ tw137) (fun _ h9 => h9) rfl (by decide +kernel) rfl rfl (Nat.le_of_ble_eq_true rfl) dX0_take_26 (fun H locs hP hD hS => ?_)
  have hP : va_P g.1 vwCl [(ac, .inr (0, [.int (((mAt mem p0) &&& 255).toInt32), .int (((((mAt mem p0).toUInt64 >>> ((8 : Int32).toInt64.toUInt64 &&& Int64.toUInt64 63)).toInt64) &&& 65535).toInt32), .int fg, .int cn, .long cp, .long cq, .long cx])), (am, .inr (4, [.ref al])), (al, .inl (g.2 0, 1024, .inr (.inl mem)))] H := hP
  have hD : va_D A [(ac, .inr (0, [.int (((mAt mem p0) &&& 255).toInt32), .int (((((mAt mem p0).toUInt64 >>> ((8 : Int32).toInt64.toUInt64 &&& Int64.toUInt64 63)).toInt64) &&& 65535).toInt32), .int fg, .int cn, .long cp, .long cq, .long cx])), (am, .inr (4, [.ref al])), (al, .inl (g.2 0, 1024, .inr (.inl mem)))] := hD
  refine lv_aload_n hx hb dX0_take_29 rfl (lv_at hl 1 rfl) ?_
  refine lv_lload_n hx hb dX0_take_30 rfl (lv_at hl 0 rfl) ?_
  refine lv_bipush (v := 24) hx hb dX0_take_31 (by decide) ?_
  refine lv_lushr hx hb dX0_take_33 rfl ?_
  refine lv_lconst (v := 1) hx hb dX0_take_34 (by decide) ?_
  refine lv_land hx hb dX0_take_35 ?_
  refine lv_lconst (v := 1) hx hb dX0_take_36 (by decide) ?_
  refine W.lcmp hx hb dX0_take_37 ?_
  refine lv_if_ne (tgt := 45) hx hb dX0_take_38 (by decide) (fun c38 => ?_) (fun c38 => ?_)
  · have c38 := (not_congr (lg_cmp_eq ((((mAt mem p0).toUInt64 >>> ((24 : Int32).toInt64.toUInt64 &&& Int64.toUInt64 63)).toInt64) &&& 1) 1)).mp c38
    refine lv_iconst (v := 0) hx hb dX0_take_45 (by decide) ?_
    refine va_put (D := g.1) (ci := 0) (v := .int 0) (ty := .boolean) (C := RX0) (T := TX0) (N := 7) hx hb hts inX0 tyX0 tyX0_ok nmX0 hown hK hP hD hS 0 rfl rfl 2 (by decide) (hts _ tw139) (fun _ h9 => h9) rfl (by decide +kernel) rfl rfl (Nat.le_of_ble_eq_true rfl) dX0_take_46 (fun H locs hP hD hS => ?_)
    have hP : va_P g.1 vwCl [(ac, .inr (0, [.int (((mAt mem p0) &&& 255).toInt32), .int (((((mAt mem p0).toUInt64 >>> ((8 : Int32).toInt64.toUInt64 &&& Int64.toUInt64 63)).toInt64) &&& 65535).toInt32), .int 0, .int cn, .long cp, .long cq, .long cx])), (am, .inr (4, [.ref al])), (al, .inl (g.2 0, 1024, .inr (.inl mem)))] H := hP
    have hD : va_D A [(ac, .inr (0, [.int (((mAt mem p0) &&& 255).toInt32), .int (((((mAt mem p0).toUInt64 >>> ((8 : Int32).toInt64.toUInt64 &&& Int64.toUInt64 63)).toInt64) &&& 65535).toInt32), .int 0, .int cn, .long cp, .long cq, .long cx])), (am, .inr (4, [.ref al])), (al, .inl (g.2 0, 1024, .inr (.inl mem)))] := hD
    refine lv_aload_n hx hb dX0_take_49 rfl (lv_at hl 1 rfl) ?_
    refine lv_lload_n hx hb dX0_take_50 rfl (lv_at hl 0 rfl) ?_
    refine lv_bipush (v := 32) hx hb dX0_take_51 (by decide) ?_
    refine lv_lushr hx hb dX0_take_53 rfl ?_
    refine lv_ldc2 hx hb hown (hts _ tw399) dX0_take_54 ?_
    refine lv_land hx hb dX0_take_57 ?_
    refine lv_l2i hx hb dX0_take_58 rfl ?_
    refine lv_iconst (v := 1) hx hb dX0_take_59 (by decide) ?_
    refine lv_iadd hx hb dX0_take_60 ?_
    refine fr_topi (y := nI (cNn (mAt mem p0))) (cN_n _) ?_
    refine va_put (D := g.1) (ci := 0) (v := .int (nI (cNn (mAt mem p0)))) (ty := .int) (C := RX0) (T := TX0) (N := 7) hx hb hts inX0 tyX0 tyX0_ok nmX0 hown hK hP hD hS 0 rfl rfl 3 (by decide) (hts _ tw142) (fun _ h9 => h9) rfl (by decide +kernel) rfl rfl (Nat.le_of_ble_eq_true rfl) dX0_take_61 (fun H locs hP hD hS => ?_)
    have hP : va_P g.1 vwCl [(ac, .inr (0, [.int (((mAt mem p0) &&& 255).toInt32), .int (((((mAt mem p0).toUInt64 >>> ((8 : Int32).toInt64.toUInt64 &&& Int64.toUInt64 63)).toInt64) &&& 65535).toInt32), .int 0, .int (nI (cNn (mAt mem p0))), .long cp, .long cq, .long cx])), (am, .inr (4, [.ref al])), (al, .inl (g.2 0, 1024, .inr (.inl mem)))] H := hP
    have hD : va_D A [(ac, .inr (0, [.int (((mAt mem p0) &&& 255).toInt32), .int (((((mAt mem p0).toUInt64 >>> ((8 : Int32).toInt64.toUInt64 &&& Int64.toUInt64 63)).toInt64) &&& 65535).toInt32), .int 0, .int (nI (cNn (mAt mem p0))), .long cp, .long cq, .long cx])), (am, .inr (4, [.ref al])), (al, .inl (g.2 0, 1024, .inr (.inl mem)))] := hD
    refine lv_aload_n hx hb dX0_take_64 rfl (lv_at hl 1 rfl) ?_
    refine lv_aload_n hx hb dX0_take_65 rfl (lv_at hl 2 rfl) ?_
    refine lv_iload_n hx hb dX0_take_66 rfl (lv_at hl 3 rfl) ?_
    refine lv_iconst (v := 1) hx hb dX0_take_67 (by decide) ?_
    refine lv_iadd hx hb dX0_take_68 ?_
    refine fr_go (va_runV (As := [.int (p0 + 1)]) (rest := [.ref ac]) ⟨hx, hb, hml, hown, hts⟩ (kX4_at l g am al mem (p0 + 1) H.size) (cwV 1 hts (gdV tw398 tw234 tw235 tw2 tw236) rfl rfl rfl (by decide +kernel) ⟨Nat.le_of_ble_eq_true rfl, Nat.le_of_ble_eq_true rfl⟩) ⟨Pst.blind, va_recv hK hP (ci := 4) (q0 := 1) rfl rfl, fr_pre hK hP hD [1, 2] (by decide) rfl⟩ rfl rfl hl.1 rfl (lv_room (Nat.le_of_ble_eq_true rfl)) dX0_take_69 ⟨Nat.le_of_ble_eq_true rfl, Nat.le_of_ble_eq_true rfl⟩) hP hD hS hA [1, 2] rfl (fun v w9 H locs hq hP hD hS => ?_)
    obtain ⟨rfl, rfl⟩ := hq
    have hP : va_P g.1 vwCl [(ac, .inr (0, [.int (((mAt mem p0) &&& 255).toInt32), .int (((((mAt mem p0).toUInt64 >>> ((8 : Int32).toInt64.toUInt64 &&& Int64.toUInt64 63)).toInt64) &&& 65535).toInt32), .int 0, .int (nI (cNn (mAt mem p0))), .long cp, .long cq, .long cx])), (am, .inr (4, [.ref al])), (al, .inl (g.2 0, 1024, .inr (.inl mem)))] H := hP
    have hD : va_D A [(ac, .inr (0, [.int (((mAt mem p0) &&& 255).toInt32), .int (((((mAt mem p0).toUInt64 >>> ((8 : Int32).toInt64.toUInt64 &&& Int64.toUInt64 63)).toInt64) &&& 65535).toInt32), .int 0, .int (nI (cNn (mAt mem p0))), .long cp, .long cq, .long cx])), (am, .inr (4, [.ref al])), (al, .inl (g.2 0, 1024, .inr (.inl mem)))] := hD
    show W p l e _ s m _ below meth c H locs _ _ _ (F0 m (69 + 3) ls (.long (mAt mem (p0 + 1)) :: .ref ac :: []))
    refine va_put (D := g.1) (ci := 0) (v := .long (mAt mem (p0 + 1))) (ty := .long) (C := RX0) (T := TX0) (N := 7) hx hb hts inX0 tyX0 tyX0_ok nmX0 hown hK hP hD hS 0 rfl rfl 4 (by decide) (hts _ tw145) (fun _ h9 => h9) rfl (by decide +kernel) rfl rfl (Nat.le_of_ble_eq_true rfl) dX0_take_72 (fun H locs hP hD hS => ?_)
    have hP : va_P g.1 vwCl [(ac, .inr (0, [.int (((mAt mem p0) &&& 255).toInt32), .int (((((mAt mem p0).toUInt64 >>> ((8 : Int32).toInt64.toUInt64 &&& Int64.toUInt64 63)).toInt64) &&& 65535).toInt32), .int 0, .int (nI (cNn (mAt mem p0))), .long (mAt mem (p0 + 1)), .long cq, .long cx])), (am, .inr (4, [.ref al])), (al, .inl (g.2 0, 1024, .inr (.inl mem)))] H := hP
    have hD : va_D A [(ac, .inr (0, [.int (((mAt mem p0) &&& 255).toInt32), .int (((((mAt mem p0).toUInt64 >>> ((8 : Int32).toInt64.toUInt64 &&& Int64.toUInt64 63)).toInt64) &&& 65535).toInt32), .int 0, .int (nI (cNn (mAt mem p0))), .long (mAt mem (p0 + 1)), .long cq, .long cx])), (am, .inr (4, [.ref al])), (al, .inl (g.2 0, 1024, .inr (.inl mem)))] := hD
    refine lv_aload_n hx hb dX0_take_75 rfl (lv_at hl 1 rfl) ?_
    refine lv_aload_n hx hb dX0_take_76 rfl (lv_at hl 2 rfl) ?_
    refine lv_iload_n hx hb dX0_take_77 rfl (lv_at hl 3 rfl) ?_
    refine lv_iconst (v := 2) hx hb dX0_take_78 (by decide) ?_
    refine lv_iadd hx hb dX0_take_79 ?_
    refine fr_go (va_runV (As := [.int (p0 + 2)]) (rest := [.ref ac]) ⟨hx, hb, hml, hown, hts⟩ (kX4_at l g am al mem (p0 + 2) H.size) (cwV 1 hts (gdV tw398 tw234 tw235 tw2 tw236) rfl rfl rfl (by decide +kernel) ⟨Nat.le_of_ble_eq_true rfl, Nat.le_of_ble_eq_true rfl⟩) ⟨Pst.blind, va_recv hK hP (ci := 4) (q0 := 1) rfl rfl, fr_pre hK hP hD [1, 2] (by decide) rfl⟩ rfl rfl hl.1 rfl (lv_room (Nat.le_of_ble_eq_true rfl)) dX0_take_80 ⟨Nat.le_of_ble_eq_true rfl, Nat.le_of_ble_eq_true rfl⟩) hP hD hS hA [1, 2] rfl (fun v w9 H locs hq hP hD hS => ?_)
    obtain ⟨rfl, rfl⟩ := hq
    have hP : va_P g.1 vwCl [(ac, .inr (0, [.int (((mAt mem p0) &&& 255).toInt32), .int (((((mAt mem p0).toUInt64 >>> ((8 : Int32).toInt64.toUInt64 &&& Int64.toUInt64 63)).toInt64) &&& 65535).toInt32), .int 0, .int (nI (cNn (mAt mem p0))), .long (mAt mem (p0 + 1)), .long cq, .long cx])), (am, .inr (4, [.ref al])), (al, .inl (g.2 0, 1024, .inr (.inl mem)))] H := hP
    have hD : va_D A [(ac, .inr (0, [.int (((mAt mem p0) &&& 255).toInt32), .int (((((mAt mem p0).toUInt64 >>> ((8 : Int32).toInt64.toUInt64 &&& Int64.toUInt64 63)).toInt64) &&& 65535).toInt32), .int 0, .int (nI (cNn (mAt mem p0))), .long (mAt mem (p0 + 1)), .long cq, .long cx])), (am, .inr (4, [.ref al])), (al, .inl (g.2 0, 1024, .inr (.inl mem)))] := hD
    show W p l e _ s m _ below meth c H locs _ _ _ (F0 m (80 + 3) ls (.long (mAt mem (p0 + 2)) :: .ref ac :: []))
    refine va_put (D := g.1) (ci := 0) (v := .long (mAt mem (p0 + 2))) (ty := .long) (C := RX0) (T := TX0) (N := 7) hx hb hts inX0 tyX0 tyX0_ok nmX0 hown hK hP hD hS 0 rfl rfl 5 (by decide) (hts _ tw148) (fun _ h9 => h9) rfl (by decide +kernel) rfl rfl (Nat.le_of_ble_eq_true rfl) dX0_take_83 (fun H locs hP hD hS => ?_)
    have hP : va_P g.1 vwCl [(ac, .inr (0, [.int (((mAt mem p0) &&& 255).toInt32), .int (((((mAt mem p0).toUInt64 >>> ((8 : Int32).toInt64.toUInt64 &&& Int64.toUInt64 63)).toInt64) &&& 65535).toInt32), .int 0, .int (nI (cNn (mAt mem p0))), .long (mAt mem (p0 + 1)), .long (mAt mem (p0 + 2)), .long cx])), (am, .inr (4, [.ref al])), (al, .inl (g.2 0, 1024, .inr (.inl mem)))] H := hP
    have hD : va_D A [(ac, .inr (0, [.int (((mAt mem p0) &&& 255).toInt32), .int (((((mAt mem p0).toUInt64 >>> ((8 : Int32).toInt64.toUInt64 &&& Int64.toUInt64 63)).toInt64) &&& 65535).toInt32), .int 0, .int (nI (cNn (mAt mem p0))), .long (mAt mem (p0 + 1)), .long (mAt mem (p0 + 2)), .long cx])), (am, .inr (4, [.ref al])), (al, .inl (g.2 0, 1024, .inr (.inl mem)))] := hD
    refine lv_aload_n hx hb dX0_take_86 rfl (lv_at hl 1 rfl) ?_
    refine lv_aload_n hx hb dX0_take_87 rfl (lv_at hl 2 rfl) ?_
    refine lv_iload_n hx hb dX0_take_88 rfl (lv_at hl 3 rfl) ?_
    refine lv_iconst (v := 3) hx hb dX0_take_89 (by decide) ?_
    refine lv_iadd hx hb dX0_take_90 ?_
    refine fr_go (va_runV (As := [.int (p0 + 3)]) (rest := [.ref ac]) ⟨hx, hb, hml, hown, hts⟩ (kX4_at l g am al mem (p0 + 3) H.size) (cwV 1 hts (gdV tw398 tw234 tw235 tw2 tw236) rfl rfl rfl (by decide +kernel) ⟨Nat.le_of_ble_eq_true rfl, Nat.le_of_ble_eq_true rfl⟩) ⟨Pst.blind, va_recv hK hP (ci := 4) (q0 := 1) rfl rfl, fr_pre hK hP hD [1, 2] (by decide) rfl⟩ rfl rfl hl.1 rfl (lv_room (Nat.le_of_ble_eq_true rfl)) dX0_take_91 ⟨Nat.le_of_ble_eq_true rfl, Nat.le_of_ble_eq_true rfl⟩) hP hD hS hA [1, 2] rfl (fun v w9 H locs hq hP hD hS => ?_)
    obtain ⟨rfl, rfl⟩ := hq
    have hP : va_P g.1 vwCl [(ac, .inr (0, [.int (((mAt mem p0) &&& 255).toInt32), .int (((((mAt mem p0).toUInt64 >>> ((8 : Int32).toInt64.toUInt64 &&& Int64.toUInt64 63)).toInt64) &&& 65535).toInt32), .int 0, .int (nI (cNn (mAt mem p0))), .long (mAt mem (p0 + 1)), .long (mAt mem (p0 + 2)), .long cx])), (am, .inr (4, [.ref al])), (al, .inl (g.2 0, 1024, .inr (.inl mem)))] H := hP
    have hD : va_D A [(ac, .inr (0, [.int (((mAt mem p0) &&& 255).toInt32), .int (((((mAt mem p0).toUInt64 >>> ((8 : Int32).toInt64.toUInt64 &&& Int64.toUInt64 63)).toInt64) &&& 65535).toInt32), .int 0, .int (nI (cNn (mAt mem p0))), .long (mAt mem (p0 + 1)), .long (mAt mem (p0 + 2)), .long cx])), (am, .inr (4, [.ref al])), (al, .inl (g.2 0, 1024, .inr (.inl mem)))] := hD
    show W p l e _ s m _ below meth c H locs _ _ _ (F0 m (91 + 3) ls (.long (mAt mem (p0 + 3)) :: .ref ac :: []))
    refine va_put (D := g.1) (ci := 0) (v := .long (mAt mem (p0 + 3))) (ty := .long) (C := RX0) (T := TX0) (N := 7) hx hb hts inX0 tyX0 tyX0_ok nmX0 hown hK hP hD hS 0 rfl rfl 6 (by decide) (hts _ tw150) (fun _ h9 => h9) rfl (by decide +kernel) rfl rfl (Nat.le_of_ble_eq_true rfl) dX0_take_94 (fun H locs hP hD hS => ?_)
    have hP : va_P g.1 vwCl [(ac, .inr (0, [.int (((mAt mem p0) &&& 255).toInt32), .int (((((mAt mem p0).toUInt64 >>> ((8 : Int32).toInt64.toUInt64 &&& Int64.toUInt64 63)).toInt64) &&& 65535).toInt32), .int 0, .int (nI (cNn (mAt mem p0))), .long (mAt mem (p0 + 1)), .long (mAt mem (p0 + 2)), .long (mAt mem (p0 + 3))])), (am, .inr (4, [.ref al])), (al, .inl (g.2 0, 1024, .inr (.inl mem)))] H := hP
    have hD : va_D A [(ac, .inr (0, [.int (((mAt mem p0) &&& 255).toInt32), .int (((((mAt mem p0).toUInt64 >>> ((8 : Int32).toInt64.toUInt64 &&& Int64.toUInt64 63)).toInt64) &&& 65535).toInt32), .int 0, .int (nI (cNn (mAt mem p0))), .long (mAt mem (p0 + 1)), .long (mAt mem (p0 + 2)), .long (mAt mem (p0 + 3))])), (am, .inr (4, [.ref al])), (al, .inl (g.2 0, 1024, .inr (.inl mem)))] := hD
    exact W.vret hx hb hr (fun t ht _ => ⟨⟨none, [(ac, .inr (0, [.int (((mAt mem p0) &&& 255).toInt32), .int (((((mAt mem p0).toUInt64 >>> ((8 : Int32).toInt64.toUInt64 &&& Int64.toUInt64 63)).toInt64) &&& 65535).toInt32), .int 0, .int (nI (cNn (mAt mem p0))), .long (mAt mem (p0 + 1)), .long (mAt mem (p0 + 2)), .long (mAt mem (p0 + 3))])), (am, .inr (4, [.ref al])), (al, .inl (g.2 0, 1024, .inr (.inl mem)))], rfl, ⟨rfl, by first | rw [← bI_1 (P := cFg _) c38]; rfl | rw [← bI_0 (P := cFg _) c38]; rfl⟩, rfl, by rw [ht]; exact hP⟩, hS.F ht⟩) hS.2.2 dX0_take_97
  · have c38 := (lg_cmp_eq ((((mAt mem p0).toUInt64 >>> ((24 : Int32).toInt64.toUInt64 &&& Int64.toUInt64 63)).toInt64) &&& 1) 1).mp c38
    refine lv_iconst (v := 1) hx hb dX0_take_41 (by decide) ?_
    refine lv_goto (tgt := 46) hx hb dX0_take_42 (by decide) ?_
    refine va_put (D := g.1) (ci := 0) (v := .int 1) (ty := .boolean) (C := RX0) (T := TX0) (N := 7) hx hb hts inX0 tyX0 tyX0_ok nmX0 hown hK hP hD hS 0 rfl rfl 2 (by decide) (hts _ tw139) (fun _ h9 => h9) rfl (by decide +kernel) rfl rfl (Nat.le_of_ble_eq_true rfl) dX0_take_46 (fun H locs hP hD hS => ?_)
    have hP : va_P g.1 vwCl [(ac, .inr (0, [.int (((mAt mem p0) &&& 255).toInt32), .int (((((mAt mem p0).toUInt64 >>> ((8 : Int32).toInt64.toUInt64 &&& Int64.toUInt64 63)).toInt64) &&& 65535).toInt32), .int 1, .int cn, .long cp, .long cq, .long cx])), (am, .inr (4, [.ref al])), (al, .inl (g.2 0, 1024, .inr (.inl mem)))] H := hP
    have hD : va_D A [(ac, .inr (0, [.int (((mAt mem p0) &&& 255).toInt32), .int (((((mAt mem p0).toUInt64 >>> ((8 : Int32).toInt64.toUInt64 &&& Int64.toUInt64 63)).toInt64) &&& 65535).toInt32), .int 1, .int cn, .long cp, .long cq, .long cx])), (am, .inr (4, [.ref al])), (al, .inl (g.2 0, 1024, .inr (.inl mem)))] := hD
    refine lv_aload_n hx hb dX0_take_49 rfl (lv_at hl 1 rfl) ?_
    refine lv_lload_n hx hb dX0_take_50 rfl (lv_at hl 0 rfl) ?_
    refine lv_bipush (v := 32) hx hb dX0_take_51 (by decide) ?_
    refine lv_lushr hx hb dX0_take_53 rfl ?_
    refine lv_ldc2 hx hb hown (hts _ tw399) dX0_take_54 ?_
    refine lv_land hx hb dX0_take_57 ?_
    refine lv_l2i hx hb dX0_take_58 rfl ?_
    refine lv_iconst (v := 1) hx hb dX0_take_59 (by decide) ?_
    refine lv_iadd hx hb dX0_take_60 ?_
    refine fr_topi (y := nI (cNn (mAt mem p0))) (cN_n _) ?_
    refine va_put (D := g.1) (ci := 0) (v := .int (nI (cNn (mAt mem p0)))) (ty := .int) (C := RX0) (T := TX0) (N := 7) hx hb hts inX0 tyX0 tyX0_ok nmX0 hown hK hP hD hS 0 rfl rfl 3 (by decide) (hts _ tw142) (fun _ h9 => h9) rfl (by decide +kernel) rfl rfl (Nat.le_of_ble_eq_true rfl) dX0_take_61 (fun H locs hP hD hS => ?_)
    have hP : va_P g.1 vwCl [(ac, .inr (0, [.int (((mAt mem p0) &&& 255).toInt32), .int (((((mAt mem p0).toUInt64 >>> ((8 : Int32).toInt64.toUInt64 &&& Int64.toUInt64 63)).toInt64) &&& 65535).toInt32), .int 1, .int (nI (cNn (mAt mem p0))), .long cp, .long cq, .long cx])), (am, .inr (4, [.ref al])), (al, .inl (g.2 0, 1024, .inr (.inl mem)))] H := hP
    have hD : va_D A [(ac, .inr (0, [.int (((mAt mem p0) &&& 255).toInt32), .int (((((mAt mem p0).toUInt64 >>> ((8 : Int32).toInt64.toUInt64 &&& Int64.toUInt64 63)).toInt64) &&& 65535).toInt32), .int 1, .int (nI (cNn (mAt mem p0))), .long cp, .long cq, .long cx])), (am, .inr (4, [.ref al])), (al, .inl (g.2 0, 1024, .inr (.inl mem)))] := hD
    refine lv_aload_n hx hb dX0_take_64 rfl (lv_at hl 1 rfl) ?_
    refine lv_aload_n hx hb dX0_take_65 rfl (lv_at hl 2 rfl) ?_
    refine lv_iload_n hx hb dX0_take_66 rfl (lv_at hl 3 rfl) ?_
    refine lv_iconst (v := 1) hx hb dX0_take_67 (by decide) ?_
    refine lv_iadd hx hb dX0_take_68 ?_
    refine fr_go (va_runV (As := [.int (p0 + 1)]) (rest := [.ref ac]) ⟨hx, hb, hml, hown, hts⟩ (kX4_at l g am al mem (p0 + 1) H.size) (cwV 1 hts (gdV tw398 tw234 tw235 tw2 tw236) rfl rfl rfl (by decide +kernel) ⟨Nat.le_of_ble_eq_true rfl, Nat.le_of_ble_eq_true rfl⟩) ⟨Pst.blind, va_recv hK hP (ci := 4) (q0 := 1) rfl rfl, fr_pre hK hP hD [1, 2] (by decide) rfl⟩ rfl rfl hl.1 rfl (lv_room (Nat.le_of_ble_eq_true rfl)) dX0_take_69 ⟨Nat.le_of_ble_eq_true rfl, Nat.le_of_ble_eq_true rfl⟩) hP hD hS hA [1, 2] rfl (fun v w9 H locs hq hP hD hS => ?_)
    obtain ⟨rfl, rfl⟩ := hq
    have hP : va_P g.1 vwCl [(ac, .inr (0, [.int (((mAt mem p0) &&& 255).toInt32), .int (((((mAt mem p0).toUInt64 >>> ((8 : Int32).toInt64.toUInt64 &&& Int64.toUInt64 63)).toInt64) &&& 65535).toInt32), .int 1, .int (nI (cNn (mAt mem p0))), .long cp, .long cq, .long cx])), (am, .inr (4, [.ref al])), (al, .inl (g.2 0, 1024, .inr (.inl mem)))] H := hP
    have hD : va_D A [(ac, .inr (0, [.int (((mAt mem p0) &&& 255).toInt32), .int (((((mAt mem p0).toUInt64 >>> ((8 : Int32).toInt64.toUInt64 &&& Int64.toUInt64 63)).toInt64) &&& 65535).toInt32), .int 1, .int (nI (cNn (mAt mem p0))), .long cp, .long cq, .long cx])), (am, .inr (4, [.ref al])), (al, .inl (g.2 0, 1024, .inr (.inl mem)))] := hD
    show W p l e _ s m _ below meth c H locs _ _ _ (F0 m (69 + 3) ls (.long (mAt mem (p0 + 1)) :: .ref ac :: []))
    refine va_put (D := g.1) (ci := 0) (v := .long (mAt mem (p0 + 1))) (ty := .long) (C := RX0) (T := TX0) (N := 7) hx hb hts inX0 tyX0 tyX0_ok nmX0 hown hK hP hD hS 0 rfl rfl 4 (by decide) (hts _ tw145) (fun _ h9 => h9) rfl (by decide +kernel) rfl rfl (Nat.le_of_ble_eq_true rfl) dX0_take_72 (fun H locs hP hD hS => ?_)
    have hP : va_P g.1 vwCl [(ac, .inr (0, [.int (((mAt mem p0) &&& 255).toInt32), .int (((((mAt mem p0).toUInt64 >>> ((8 : Int32).toInt64.toUInt64 &&& Int64.toUInt64 63)).toInt64) &&& 65535).toInt32), .int 1, .int (nI (cNn (mAt mem p0))), .long (mAt mem (p0 + 1)), .long cq, .long cx])), (am, .inr (4, [.ref al])), (al, .inl (g.2 0, 1024, .inr (.inl mem)))] H := hP
    have hD : va_D A [(ac, .inr (0, [.int (((mAt mem p0) &&& 255).toInt32), .int (((((mAt mem p0).toUInt64 >>> ((8 : Int32).toInt64.toUInt64 &&& Int64.toUInt64 63)).toInt64) &&& 65535).toInt32), .int 1, .int (nI (cNn (mAt mem p0))), .long (mAt mem (p0 + 1)), .long cq, .long cx])), (am, .inr (4, [.ref al])), (al, .inl (g.2 0, 1024, .inr (.inl mem)))] := hD
    refine lv_aload_n hx hb dX0_take_75 rfl (lv_at hl 1 rfl) ?_
    refine lv_aload_n hx hb dX0_take_76 rfl (lv_at hl 2 rfl) ?_
    refine lv_iload_n hx hb dX0_take_77 rfl (lv_at hl 3 rfl) ?_
    refine lv_iconst (v := 2) hx hb dX0_take_78 (by decide) ?_
    refine lv_iadd hx hb dX0_take_79 ?_
    refine fr_go (va_runV (As := [.int (p0 + 2)]) (rest := [.ref ac]) ⟨hx, hb, hml, hown, hts⟩ (kX4_at l g am al mem (p0 + 2) H.size) (cwV 1 hts (gdV tw398 tw234 tw235 tw2 tw236) rfl rfl rfl (by decide +kernel) ⟨Nat.le_of_ble_eq_true rfl, Nat.le_of_ble_eq_true rfl⟩) ⟨Pst.blind, va_recv hK hP (ci := 4) (q0 := 1) rfl rfl, fr_pre hK hP hD [1, 2] (by decide) rfl⟩ rfl rfl hl.1 rfl (lv_room (Nat.le_of_ble_eq_true rfl)) dX0_take_80 ⟨Nat.le_of_ble_eq_true rfl, Nat.le_of_ble_eq_true rfl⟩) hP hD hS hA [1, 2] rfl (fun v w9 H locs hq hP hD hS => ?_)
    obtain ⟨rfl, rfl⟩ := hq
    have hP : va_P g.1 vwCl [(ac, .inr (0, [.int (((mAt mem p0) &&& 255).toInt32), .int (((((mAt mem p0).toUInt64 >>> ((8 : Int32).toInt64.toUInt64 &&& Int64.toUInt64 63)).toInt64) &&& 65535).toInt32), .int 1, .int (nI (cNn (mAt mem p0))), .long (mAt mem (p0 + 1)), .long cq, .long cx])), (am, .inr (4, [.ref al])), (al, .inl (g.2 0, 1024, .inr (.inl mem)))] H := hP
    have hD : va_D A [(ac, .inr (0, [.int (((mAt mem p0) &&& 255).toInt32), .int (((((mAt mem p0).toUInt64 >>> ((8 : Int32).toInt64.toUInt64 &&& Int64.toUInt64 63)).toInt64) &&& 65535).toInt32), .int 1, .int (nI (cNn (mAt mem p0))), .long (mAt mem (p0 + 1)), .long cq, .long cx])), (am, .inr (4, [.ref al])), (al, .inl (g.2 0, 1024, .inr (.inl mem)))] := hD
    show W p l e _ s m _ below meth c H locs _ _ _ (F0 m (80 + 3) ls (.long (mAt mem (p0 + 2)) :: .ref ac :: []))
    refine va_put (D := g.1) (ci := 0) (v := .long (mAt mem (p0 + 2))) (ty := .long) (C := RX0) (T := TX0) (N := 7) hx hb hts inX0 tyX0 tyX0_ok nmX0 hown hK hP hD hS 0 rfl rfl 5 (by decide) (hts _ tw148) (fun _ h9 => h9) rfl (by decide +kernel) rfl rfl (Nat.le_of_ble_eq_true rfl) dX0_take_83 (fun H locs hP hD hS => ?_)
    have hP : va_P g.1 vwCl [(ac, .inr (0, [.int (((mAt mem p0) &&& 255).toInt32), .int (((((mAt mem p0).toUInt64 >>> ((8 : Int32).toInt64.toUInt64 &&& Int64.toUInt64 63)).toInt64) &&& 65535).toInt32), .int 1, .int (nI (cNn (mAt mem p0))), .long (mAt mem (p0 + 1)), .long (mAt mem (p0 + 2)), .long cx])), (am, .inr (4, [.ref al])), (al, .inl (g.2 0, 1024, .inr (.inl mem)))] H := hP
    have hD : va_D A [(ac, .inr (0, [.int (((mAt mem p0) &&& 255).toInt32), .int (((((mAt mem p0).toUInt64 >>> ((8 : Int32).toInt64.toUInt64 &&& Int64.toUInt64 63)).toInt64) &&& 65535).toInt32), .int 1, .int (nI (cNn (mAt mem p0))), .long (mAt mem (p0 + 1)), .long (mAt mem (p0 + 2)), .long cx])), (am, .inr (4, [.ref al])), (al, .inl (g.2 0, 1024, .inr (.inl mem)))] := hD
    refine lv_aload_n hx hb dX0_take_86 rfl (lv_at hl 1 rfl) ?_
    refine lv_aload_n hx hb dX0_take_87 rfl (lv_at hl 2 rfl) ?_
    refine lv_iload_n hx hb dX0_take_88 rfl (lv_at hl 3 rfl) ?_
    refine lv_iconst (v := 3) hx hb dX0_take_89 (by decide) ?_
    refine lv_iadd hx hb dX0_take_90 ?_
    refine fr_go (va_runV (As := [.int (p0 + 3)]) (rest := [.ref ac]) ⟨hx, hb, hml, hown, hts⟩ (kX4_at l g am al mem (p0 + 3) H.size) (cwV 1 hts (gdV tw398 tw234 tw235 tw2 tw236) rfl rfl rfl (by decide +kernel) ⟨Nat.le_of_ble_eq_true rfl, Nat.le_of_ble_eq_true rfl⟩) ⟨Pst.blind, va_recv hK hP (ci := 4) (q0 := 1) rfl rfl, fr_pre hK hP hD [1, 2] (by decide) rfl⟩ rfl rfl hl.1 rfl (lv_room (Nat.le_of_ble_eq_true rfl)) dX0_take_91 ⟨Nat.le_of_ble_eq_true rfl, Nat.le_of_ble_eq_true rfl⟩) hP hD hS hA [1, 2] rfl (fun v w9 H locs hq hP hD hS => ?_)
    obtain ⟨rfl, rfl⟩ := hq
    have hP : va_P g.1 vwCl [(ac, .inr (0, [.int (((mAt mem p0) &&& 255).toInt32), .int (((((mAt mem p0).toUInt64 >>> ((8 : Int32).toInt64.toUInt64 &&& Int64.toUInt64 63)).toInt64) &&& 65535).toInt32), .int 1, .int (nI (cNn (mAt mem p0))), .long (mAt mem (p0 + 1)), .long (mAt mem (p0 + 2)), .long cx])), (am, .inr (4, [.ref al])), (al, .inl (g.2 0, 1024, .inr (.inl mem)))] H := hP
    have hD : va_D A [(ac, .inr (0, [.int (((mAt mem p0) &&& 255).toInt32), .int (((((mAt mem p0).toUInt64 >>> ((8 : Int32).toInt64.toUInt64 &&& Int64.toUInt64 63)).toInt64) &&& 65535).toInt32), .int 1, .int (nI (cNn (mAt mem p0))), .long (mAt mem (p0 + 1)), .long (mAt mem (p0 + 2)), .long cx])), (am, .inr (4, [.ref al])), (al, .inl (g.2 0, 1024, .inr (.inl mem)))] := hD
    show W p l e _ s m _ below meth c H locs _ _ _ (F0 m (91 + 3) ls (.long (mAt mem (p0 + 3)) :: .ref ac :: []))
    refine va_put (D := g.1) (ci := 0) (v := .long (mAt mem (p0 + 3))) (ty := .long) (C := RX0) (T := TX0) (N := 7) hx hb hts inX0 tyX0 tyX0_ok nmX0 hown hK hP hD hS 0 rfl rfl 6 (by decide) (hts _ tw150) (fun _ h9 => h9) rfl (by decide +kernel) rfl rfl (Nat.le_of_ble_eq_true rfl) dX0_take_94 (fun H locs hP hD hS => ?_)
    have hP : va_P g.1 vwCl [(ac, .inr (0, [.int (((mAt mem p0) &&& 255).toInt32), .int (((((mAt mem p0).toUInt64 >>> ((8 : Int32).toInt64.toUInt64 &&& Int64.toUInt64 63)).toInt64) &&& 65535).toInt32), .int 1, .int (nI (cNn (mAt mem p0))), .long (mAt mem (p0 + 1)), .long (mAt mem (p0 + 2)), .long (mAt mem (p0 + 3))])), (am, .inr (4, [.ref al])), (al, .inl (g.2 0, 1024, .inr (.inl mem)))] H := hP
    have hD : va_D A [(ac, .inr (0, [.int (((mAt mem p0) &&& 255).toInt32), .int (((((mAt mem p0).toUInt64 >>> ((8 : Int32).toInt64.toUInt64 &&& Int64.toUInt64 63)).toInt64) &&& 65535).toInt32), .int 1, .int (nI (cNn (mAt mem p0))), .long (mAt mem (p0 + 1)), .long (mAt mem (p0 + 2)), .long (mAt mem (p0 + 3))])), (am, .inr (4, [.ref al])), (al, .inl (g.2 0, 1024, .inr (.inl mem)))] := hD
    exact W.vret hx hb hr (fun t ht _ => ⟨⟨none, [(ac, .inr (0, [.int (((mAt mem p0) &&& 255).toInt32), .int (((((mAt mem p0).toUInt64 >>> ((8 : Int32).toInt64.toUInt64 &&& Int64.toUInt64 63)).toInt64) &&& 65535).toInt32), .int 1, .int (nI (cNn (mAt mem p0))), .long (mAt mem (p0 + 1)), .long (mAt mem (p0 + 2)), .long (mAt mem (p0 + 3))])), (am, .inr (4, [.ref al])), (al, .inl (g.2 0, 1024, .inr (.inl mem)))], rfl, ⟨rfl, by first | rw [← bI_1 (P := cFg _) c38]; rfl | rw [← bI_0 (P := cFg _) c38]; rfl⟩, rfl, by rw [ht]; exact hP⟩, hS.F ht⟩) hS.2.2 dX0_take_97
