set_option maxHeartbeats 4000000 in
set_option maxRecDepth 100000 in
/-- in -/
theorem kX8_in (l : Launch) (g : GG) (x : Int64) (u0 : Int64) (v1 : Int64) : Ct l yX8_in cX8_in 6 (some .boolean) ({ frames := 0, cells := 0, slots := 0, locals := 0 } : Room) g [.long x, .long u0, .long v1] [] (fun v w' => v = some (.int (bI (¬ x < u0 ∧ ¬ v1 < x))) ∧ w' = []) := by
  refine Ct.of (by decide) (Nat.le_of_ble_eq_true rfl) ?_
  intro p e s m below meth c A ls H locs hx hb hr hml hlocks hts hown hin hA hS hK hP hD hl
  have hown : s.vm.findClass RX8 = some m.cls := hown
  have hl : lv_has ls 6 [(0, .long x), (2, .long u0), (4, .long v1)] := hl
  refine lv_lload_n hx hb dX8_in_0 rfl (lv_at hl 0 rfl) ?_
  refine lv_lload_n hx hb dX8_in_1 rfl (lv_at hl 1 rfl) ?_
  refine W.lcmp hx hb dX8_in_2 ?_
  refine lv_if_lt (tgt := 17) hx hb dX8_in_3 (by decide) (fun c3 => ?_) (fun c3 => ?_)
  · have c3 := (lg_cmp_lt x u0).mp c3
    refine lv_iconst (v := 0) hx hb dX8_in_17 (by decide) ?_
    exact W.zret (v := 0) hx hb hr (by first | rfl | exact bz_n (by first | assumption | exact bI_z | decide)) (fun t ht _ => ⟨⟨(some (.int 0)), [], rfl, ⟨congrArg (fun z : Int32 => some (Value.int z)) (by first | exact bI_1 ⟨‹_›, ‹_›⟩ | exact bI_0 (fun q => q.1 ‹_›) | exact bI_0 (fun q => absurd q.1 ‹_›) | exact bI_0 (fun q => q.2 ‹_›) | exact bI_0 (fun q => absurd q.2 ‹_›)), rfl⟩, rfl, by rw [ht]; exact hP⟩, hS.F ht⟩) hS.2.2 dX8_in_18
  · have c3 := (not_congr (lg_cmp_lt x u0)).mp c3
    refine lv_lload_n hx hb dX8_in_6 rfl (lv_at hl 0 rfl) ?_
    refine lv_lload hx hb dX8_in_7 (lv_at hl 2 rfl) ?_
    refine W.lcmp hx hb dX8_in_9 ?_
    refine lv_if_gt (tgt := 17) hx hb dX8_in_10 (by decide) (fun c10 => ?_) (fun c10 => ?_)
    · have c10 := (lg_cmp_gt x v1).mp c10
      refine lv_iconst (v := 0) hx hb dX8_in_17 (by decide) ?_
      exact W.zret (v := 0) hx hb hr (by first | rfl | exact bz_n (by first | assumption | exact bI_z | decide)) (fun t ht _ => ⟨⟨(some (.int 0)), [], rfl, ⟨congrArg (fun z : Int32 => some (Value.int z)) (by first | exact bI_1 ⟨‹_›, ‹_›⟩ | exact bI_0 (fun q => q.1 ‹_›) | exact bI_0 (fun q => absurd q.1 ‹_›) | exact bI_0 (fun q => q.2 ‹_›) | exact bI_0 (fun q => absurd q.2 ‹_›)), rfl⟩, rfl, by rw [ht]; exact hP⟩, hS.F ht⟩) hS.2.2 dX8_in_18
    · have c10 := (not_congr (lg_cmp_gt x v1)).mp c10
      refine lv_iconst (v := 1) hx hb dX8_in_13 (by decide) ?_
      refine lv_goto (tgt := 18) hx hb dX8_in_14 (by decide) ?_
      exact W.zret (v := 1) hx hb hr (by first | rfl | exact bz_n (by first | assumption | exact bI_z | decide)) (fun t ht _ => ⟨⟨(some (.int 1)), [], rfl, ⟨congrArg (fun z : Int32 => some (Value.int z)) (by first | exact bI_1 ⟨‹_›, ‹_›⟩ | exact bI_0 (fun q => q.1 ‹_›) | exact bI_0 (fun q => absurd q.1 ‹_›) | exact bI_0 (fun q => q.2 ‹_›) | exact bI_0 (fun q => absurd q.2 ‹_›)), rfl⟩, rfl, by rw [ht]; exact hP⟩, hS.F ht⟩) hS.2.2 dX8_in_18
set_option maxHeartbeats 4000000 in
set_option maxRecDepth 100000 in
/-- isPage -/
theorem kX8_isPage (l : Launch) (g : GG) (x : Int64) : Ct l yX8_isPage cX8_isPage 2 (some .boolean) ({ frames := 1, cells := 0, slots := 0, locals := 25 } : Room) g [.long x] [] (fun v w' => v = some (.int (bI (hpg x))) ∧ w' = []) := by
  refine Ct.of (by decide) (Nat.le_of_ble_eq_true rfl) ?_
  intro p e s m below meth c A ls H locs hx hb hr hml hlocks hts hown hin hA hS hK hP hD hl
  have hown : s.vm.findClass RX8 = some m.cls := hown
  have hl : lv_has ls 2 [(0, .long x)] := hl
  refine lv_lload_n hx hb dX8_isPage_0 rfl (lv_at hl 0 rfl) ?_
  refine lv_lconst (v := 0) hx hb dX8_isPage_1 (by decide) ?_
  refine lv_ldc2 hx hb hown (hts _ tw699) dX8_isPage_2 ?_
  refine fr_go (va_runS (As := [.long x, .long 0, .long 1023]) (rest := []) ⟨hx, hb, hml, hown, hts⟩ (kX8_in l g x 0 1023 H.size) (va_cwS 3 hts (gdS tw700 tw701 tw9 tw702) rfl rfl rfl (by decide +kernel) ⟨Nat.le_of_ble_eq_true rfl, Nat.le_of_ble_eq_true rfl⟩) ⟨Pst.blind, fr_pre hK hP hD [] rfl rfl⟩ rfl rfl hl.1 rfl (lv_room (Nat.le_of_ble_eq_true rfl)) dX8_isPage_5 ⟨Nat.le_of_ble_eq_true rfl, Nat.le_of_ble_eq_true rfl⟩) hP hD hS hA [] rfl (fun v w9 H locs hq hP hD hS => ?_)
  obtain ⟨rfl, rfl⟩ := hq
  have hP : va_P g.1 vwCl [] H := hP
  have hD : va_D A [] := hD
  show W p l e _ s m _ below meth c H locs _ _ _ (F0 m (5 + 3) ls (.int (bI (¬ x < 0 ∧ ¬ 1023 < x)) :: []))
  refine lv_if_eq (tgt := 25) hx hb dX8_isPage_8 (by decide) (fun c8 => ?_) (fun c8 => ?_)
  · have c8 := bI_f c8
    have d8 : ¬ hol x := fun q => c8 ⟨q.1, fun z => q.2 (l1024 z)⟩
    refine lv_iconst (v := 0) hx hb dX8_isPage_25 (by decide) ?_
    exact W.zret (v := 0) hx hb hr (by first | rfl | exact bz_n (by first | assumption | exact bI_z | decide)) (fun t ht _ => ⟨⟨(some (.int 0)), [], rfl, ⟨congrArg (fun z : Int32 => some (Value.int z)) (bI_0 (fun q => d8 ⟨q.1, q.2.1⟩)), rfl⟩, rfl, by rw [ht]; exact hP⟩, hS.F ht⟩) hS.2.2 dX8_isPage_26
  · have c8 := bI_t c8
    have d8 : hol x := ⟨c8.1, fun q => c8.2 (l1023 q)⟩
    refine lv_lload_n hx hb dX8_isPage_11 rfl (lv_at hl 0 rfl) ?_
    refine lv_ldc2 hx hb hown (hts _ tw715) dX8_isPage_12 ?_
    refine lv_lrem hx hb dX8_isPage_15 (by decide) ?_
    refine lv_lconst (v := 0) hx hb dX8_isPage_16 (by decide) ?_
    refine W.lcmp hx hb dX8_isPage_17 ?_
    refine lv_if_ne (tgt := 25) hx hb dX8_isPage_18 (by decide) (fun c18 => ?_) (fun c18 => ?_)
    · have c18 := (not_congr (lg_cmp_eq (x - x / 16 * 16) 0)).mp c18
      refine lv_iconst (v := 0) hx hb dX8_isPage_25 (by decide) ?_
      exact W.zret (v := 0) hx hb hr (by first | rfl | exact bz_n (by first | assumption | exact bI_z | decide)) (fun t ht _ => ⟨⟨(some (.int 0)), [], rfl, ⟨congrArg (fun z : Int32 => some (Value.int z)) (bI_0 (fun q => c18 q.2.2)), rfl⟩, rfl, by rw [ht]; exact hP⟩, hS.F ht⟩) hS.2.2 dX8_isPage_26
    · have c18 := (lg_cmp_eq (x - x / 16 * 16) 0).mp c18
      refine lv_iconst (v := 1) hx hb dX8_isPage_21 (by decide) ?_
      refine lv_goto (tgt := 26) hx hb dX8_isPage_22 (by decide) ?_
      exact W.zret (v := 1) hx hb hr (by first | rfl | exact bz_n (by first | assumption | exact bI_z | decide)) (fun t ht _ => ⟨⟨(some (.int 1)), [], rfl, ⟨congrArg (fun z : Int32 => some (Value.int z)) (bI_1 ⟨d8.1, d8.2, c18⟩), rfl⟩, rfl, by rw [ht]; exact hP⟩, hS.F ht⟩) hS.2.2 dX8_isPage_26
set_option maxHeartbeats 4000000 in
set_option maxRecDepth 100000 in
/-- fits -/
theorem kX8_fits (l : Launch) (g : GG) (x : Int64) (y : Int64) (e0 : Int32) : Ct l yX8_fits cX8_fits 5 (some .boolean) ({ frames := 1, cells := 0, slots := 0, locals := 25 } : Room) g [.long x, .long y, .int e0] [] (fun v w' => v = some (.int (bI (fitR x y e0))) ∧ w' = []) := by
  refine Ct.of (by decide) (Nat.le_of_ble_eq_true rfl) ?_
  intro p e s m below meth c A ls H locs hx hb hr hml hlocks hts hown hin hA hS hK hP hD hl
  have hown : s.vm.findClass RX8 = some m.cls := hown
  have hl : lv_has ls 5 [(0, .long x), (2, .long y), (4, .int e0)] := hl
  refine lv_lload_n hx hb dX8_fits_0 rfl (lv_at hl 1 rfl) ?_
  refine lv_ldc2 hx hb hown (hts _ tw714) dX8_fits_1 ?_
  refine lv_ldc2 hx hb hown (hts _ tw715) dX8_fits_4 ?_
  refine fr_go (va_runS (As := [.long y, .long 2, .long 16]) (rest := []) ⟨hx, hb, hml, hown, hts⟩ (kX8_in l g y 2 16 H.size) (va_cwS 3 hts (gdS tw700 tw701 tw9 tw702) rfl rfl rfl (by decide +kernel) ⟨Nat.le_of_ble_eq_true rfl, Nat.le_of_ble_eq_true rfl⟩) ⟨Pst.blind, fr_pre hK hP hD [] rfl rfl⟩ rfl rfl hl.1 rfl (lv_room (Nat.le_of_ble_eq_true rfl)) dX8_fits_7 ⟨Nat.le_of_ble_eq_true rfl, Nat.le_of_ble_eq_true rfl⟩) hP hD hS hA [] rfl (fun v w9 H locs hq hP hD hS => ?_)
  obtain ⟨rfl, rfl⟩ := hq
  have hP : va_P g.1 vwCl [] H := hP
  have hD : va_D A [] := hD
  show W p l e _ s m _ below meth c H locs _ _ _ (F0 m (7 + 3) ls (.int (bI (¬ y < 2 ∧ ¬ 16 < y)) :: []))
  refine lv_if_eq (tgt := 52) hx hb dX8_fits_10 (by decide) (fun c10 => ?_) (fun c10 => ?_)
  · have c10 := bI_f c10
    refine lv_iconst (v := 0) hx hb dX8_fits_52 (by decide) ?_
    exact W.zret (v := 0) hx hb hr (by first | rfl | exact bz_n (by first | assumption | exact bI_z | decide)) (fun t ht _ => ⟨⟨(some (.int 0)), [], rfl, ⟨congrArg (fun z : Int32 => some (Value.int z)) (bI_0 (fun q => c10 ⟨q.2.2.1, q.2.2.2.1⟩)), rfl⟩, rfl, by rw [ht]; exact hP⟩, hS.F ht⟩) hS.2.2 dX8_fits_53
  · have c10 := bI_t c10
    refine lv_lload_n hx hb dX8_fits_13 rfl (lv_at hl 0 rfl) ?_
    refine lv_lconst (v := 0) hx hb dX8_fits_14 (by decide) ?_
    refine lv_ldc2 hx hb hown (hts _ tw699) dX8_fits_15 ?_
    refine fr_go (va_runS (As := [.long x, .long 0, .long 1023]) (rest := []) ⟨hx, hb, hml, hown, hts⟩ (kX8_in l g x 0 1023 H.size) (va_cwS 3 hts (gdS tw700 tw701 tw9 tw702) rfl rfl rfl (by decide +kernel) ⟨Nat.le_of_ble_eq_true rfl, Nat.le_of_ble_eq_true rfl⟩) ⟨Pst.blind, fr_pre hK hP hD [] rfl rfl⟩ rfl rfl hl.1 rfl (lv_room (Nat.le_of_ble_eq_true rfl)) dX8_fits_18 ⟨Nat.le_of_ble_eq_true rfl, Nat.le_of_ble_eq_true rfl⟩) hP hD hS hA [] rfl (fun v w9 H locs hq hP hD hS => ?_)
    obtain ⟨rfl, rfl⟩ := hq
    have hP : va_P g.1 vwCl [] H := hP
    have hD : va_D A [] := hD
    show W p l e _ s m _ below meth c H locs _ _ _ (F0 m (18 + 3) ls (.int (bI (¬ x < 0 ∧ ¬ 1023 < x)) :: []))
    refine lv_if_eq (tgt := 52) hx hb dX8_fits_21 (by decide) (fun c21 => ?_) (fun c21 => ?_)
    · have c21 := bI_f c21
      have d21 : ¬ hol x := fun q => c21 ⟨q.1, fun z => q.2 (l1024 z)⟩
      refine lv_iconst (v := 0) hx hb dX8_fits_52 (by decide) ?_
      exact W.zret (v := 0) hx hb hr (by first | rfl | exact bz_n (by first | assumption | exact bI_z | decide)) (fun t ht _ => ⟨⟨(some (.int 0)), [], rfl, ⟨congrArg (fun z : Int32 => some (Value.int z)) (bI_0 (fun q => d21 q.1)), rfl⟩, rfl, by rw [ht]; exact hP⟩, hS.F ht⟩) hS.2.2 dX8_fits_53
    · have c21 := bI_t c21
      have d21 : hol x := ⟨c21.1, fun q => c21.2 (l1023 q)⟩
      refine lv_lload_n hx hb dX8_fits_24 rfl (lv_at hl 0 rfl) ?_
      refine lv_ldc2 hx hb hown (hts _ tw716) dX8_fits_25 ?_
      refine lv_lrem hx hb dX8_fits_28 (by decide) ?_
      refine lv_lconst (v := 0) hx hb dX8_fits_29 (by decide) ?_
      refine W.lcmp hx hb dX8_fits_30 ?_
      refine lv_if_ne (tgt := 52) hx hb dX8_fits_31 (by decide) (fun c31 => ?_) (fun c31 => ?_)
      · have c31 := (not_congr (lg_cmp_eq (x - x / 4 * 4) 0)).mp c31
        refine lv_iconst (v := 0) hx hb dX8_fits_52 (by decide) ?_
        exact W.zret (v := 0) hx hb hr (by first | rfl | exact bz_n (by first | assumption | exact bI_z | decide)) (fun t ht _ => ⟨⟨(some (.int 0)), [], rfl, ⟨congrArg (fun z : Int32 => some (Value.int z)) (bI_0 (fun q => c31 q.2.1)), rfl⟩, rfl, by rw [ht]; exact hP⟩, hS.F ht⟩) hS.2.2 dX8_fits_53
      · have c31 := (lg_cmp_eq (x - x / 4 * 4) 0).mp c31
        refine lv_lload_n hx hb dX8_fits_34 rfl (lv_at hl 0 rfl) ?_
        refine lv_lload_n hx hb dX8_fits_35 rfl (lv_at hl 1 rfl) ?_
        refine lv_iload hx hb dX8_fits_36 (lv_at hl 2 rfl) ?_
        refine lv_i2l hx hb dX8_fits_38 rfl ?_
        refine lv_lmul hx hb dX8_fits_39 ?_
        refine lv_ladd hx hb dX8_fits_40 ?_
        refine lv_ldc2 hx hb hown (hts _ tw717) dX8_fits_41 ?_
        refine W.lcmp hx hb dX8_fits_44 ?_
        refine lv_if_gt (tgt := 52) hx hb dX8_fits_45 (by decide) (fun c45 => ?_) (fun c45 => ?_)
        · have c45 := (lg_cmp_gt (x + (y * e0.toInt64)) 1024).mp c45
          refine lv_iconst (v := 0) hx hb dX8_fits_52 (by decide) ?_
          exact W.zret (v := 0) hx hb hr (by first | rfl | exact bz_n (by first | assumption | exact bI_z | decide)) (fun t ht _ => ⟨⟨(some (.int 0)), [], rfl, ⟨congrArg (fun z : Int32 => some (Value.int z)) (bI_0 (fun q => q.2.2.2.2 c45)), rfl⟩, rfl, by rw [ht]; exact hP⟩, hS.F ht⟩) hS.2.2 dX8_fits_53
        · have c45 := (not_congr (lg_cmp_gt (x + (y * e0.toInt64)) 1024)).mp c45
          refine lv_iconst (v := 1) hx hb dX8_fits_48 (by decide) ?_
          refine lv_goto (tgt := 53) hx hb dX8_fits_49 (by decide) ?_
          exact W.zret (v := 1) hx hb hr (by first | rfl | exact bz_n (by first | assumption | exact bI_z | decide)) (fun t ht _ => ⟨⟨(some (.int 1)), [], rfl, ⟨congrArg (fun z : Int32 => some (Value.int z)) (bI_1 ⟨d21, c31, c10.1, c10.2, c45⟩), rfl⟩, rfl, by rw [ht]; exact hP⟩, hS.F ht⟩) hS.2.2 dX8_fits_53
