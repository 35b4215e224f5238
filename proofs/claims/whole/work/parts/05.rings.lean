set_option maxHeartbeats 4000000 in
set_option maxRecDepth 100000 in
/-- Ring.fitsInMemory -/
theorem kX5_fitsInMemory (l : Launch) (g : GG) (x : Int64) (y : Int64) (e0 : Int32) : Ct l yX5_fitsInMemory cX5_fitsInMemory 5 (some .boolean) ({ frames := 1, cells := 0, slots := 0, locals := 21 } : Room) g [.long x, .long y, .int e0] [] (fun v w' => v = some (.int (bI (fitR x y e0))) ∧ w' = []) := by
  refine Ct.of (by decide) (Nat.le_of_ble_eq_true rfl) ?_
  intro p e s m below meth c A ls H locs hx hb hr hml hlocks hts hown hin hA hS hK hP hD hl
  have hown : s.vm.findClass RX5 = some m.cls := hown
  have hl : lv_has ls 5 [(0, .long x), (2, .long y), (4, .int e0)] := hl
  refine lv_lload_n hx hb dX5_fitsInMemory_0 rfl (lv_at hl 0 rfl) ?_
  refine fr_go (va_runS (As := [.long x]) (rest := []) ⟨hx, hb, hml, hown, hts⟩ (kX4_holds l g x H.size) (va_cwS 1 hts (gdS tw260 tw238 tw2 tw239) rfl rfl rfl (by decide +kernel) ⟨Nat.le_of_ble_eq_true rfl, Nat.le_of_ble_eq_true rfl⟩) ⟨Pst.blind, fr_pre hK hP hD [] rfl rfl⟩ rfl rfl hl.1 rfl (lv_room (Nat.le_of_ble_eq_true rfl)) dX5_fitsInMemory_1 ⟨Nat.le_of_ble_eq_true rfl, Nat.le_of_ble_eq_true rfl⟩) hP hD hS hA [] rfl (fun v w9 H locs hq hP hD hS => ?_)
  obtain ⟨rfl, rfl⟩ := hq
  have hP : va_P g.1 vwCl [] H := hP
  have hD : va_D A [] := hD
  show W p l e _ s m _ below meth c H locs _ _ _ (F0 m (1 + 3) ls (.int (bI (hol x)) :: []))
  refine lv_if_eq (tgt := 51) hx hb dX5_fitsInMemory_4 (by decide) (fun c4 => ?_) (fun c4 => ?_)
  · have c4 := bI_f c4
    refine lv_iconst (v := 0) hx hb dX5_fitsInMemory_51 (by decide) ?_
    exact W.zret (v := 0) hx hb hr (by first | rfl | exact bz_n (by first | assumption | exact bI_z | decide)) (fun t ht _ => ⟨⟨(some (.int 0)), [], rfl, ⟨congrArg (fun z : Int32 => some (Value.int z)) (by first | exact bI_1 ⟨‹_›, ‹_›, ‹_›, ‹_›, ‹_›⟩ | exact bI_0 (fun q => q.1 ‹_›) | exact bI_0 (fun q => absurd q.1 ‹_›) | exact bI_0 (fun q => q.2.1 ‹_›) | exact bI_0 (fun q => absurd q.2.1 ‹_›) | exact bI_0 (fun q => q.2.2.1 ‹_›) | exact bI_0 (fun q => absurd q.2.2.1 ‹_›) | exact bI_0 (fun q => q.2.2.2.1 ‹_›) | exact bI_0 (fun q => absurd q.2.2.2.1 ‹_›) | exact bI_0 (fun q => q.2.2.2.2 ‹_›) | exact bI_0 (fun q => absurd q.2.2.2.2 ‹_›)), rfl⟩, rfl, by rw [ht]; exact hP⟩, hS.F ht⟩) hS.2.2 dX5_fitsInMemory_52
  · have c4 := bI_t c4
    refine lv_lload_n hx hb dX5_fitsInMemory_7 rfl (lv_at hl 0 rfl) ?_
    refine lv_ldc2 hx hb hown (hts _ tw261) dX5_fitsInMemory_8 ?_
    refine lv_lrem hx hb dX5_fitsInMemory_11 (by decide) ?_
    refine lv_lconst (v := 0) hx hb dX5_fitsInMemory_12 (by decide) ?_
    refine W.lcmp hx hb dX5_fitsInMemory_13 ?_
    refine lv_if_ne (tgt := 51) hx hb dX5_fitsInMemory_14 (by decide) (fun c14 => ?_) (fun c14 => ?_)
    · have c14 := (not_congr (lg_cmp_eq (x - x / 4 * 4) 0)).mp c14
      refine lv_iconst (v := 0) hx hb dX5_fitsInMemory_51 (by decide) ?_
      exact W.zret (v := 0) hx hb hr (by first | rfl | exact bz_n (by first | assumption | exact bI_z | decide)) (fun t ht _ => ⟨⟨(some (.int 0)), [], rfl, ⟨congrArg (fun z : Int32 => some (Value.int z)) (by first | exact bI_1 ⟨‹_›, ‹_›, ‹_›, ‹_›, ‹_›⟩ | exact bI_0 (fun q => q.1 ‹_›) | exact bI_0 (fun q => absurd q.1 ‹_›) | exact bI_0 (fun q => q.2.1 ‹_›) | exact bI_0 (fun q => absurd q.2.1 ‹_›) | exact bI_0 (fun q => q.2.2.1 ‹_›) | exact bI_0 (fun q => absurd q.2.2.1 ‹_›) | exact bI_0 (fun q => q.2.2.2.1 ‹_›) | exact bI_0 (fun q => absurd q.2.2.2.1 ‹_›) | exact bI_0 (fun q => q.2.2.2.2 ‹_›) | exact bI_0 (fun q => absurd q.2.2.2.2 ‹_›)), rfl⟩, rfl, by rw [ht]; exact hP⟩, hS.F ht⟩) hS.2.2 dX5_fitsInMemory_52
    · have c14 := (lg_cmp_eq (x - x / 4 * 4) 0).mp c14
      refine lv_lload_n hx hb dX5_fitsInMemory_17 rfl (lv_at hl 1 rfl) ?_
      refine lv_ldc2 hx hb hown (hts _ tw262) dX5_fitsInMemory_18 ?_
      refine W.lcmp hx hb dX5_fitsInMemory_21 ?_
      refine lv_if_lt (tgt := 51) hx hb dX5_fitsInMemory_22 (by decide) (fun c22 => ?_) (fun c22 => ?_)
      · have c22 := (lg_cmp_lt y 2).mp c22
        refine lv_iconst (v := 0) hx hb dX5_fitsInMemory_51 (by decide) ?_
        exact W.zret (v := 0) hx hb hr (by first | rfl | exact bz_n (by first | assumption | exact bI_z | decide)) (fun t ht _ => ⟨⟨(some (.int 0)), [], rfl, ⟨congrArg (fun z : Int32 => some (Value.int z)) (by first | exact bI_1 ⟨‹_›, ‹_›, ‹_›, ‹_›, ‹_›⟩ | exact bI_0 (fun q => q.1 ‹_›) | exact bI_0 (fun q => absurd q.1 ‹_›) | exact bI_0 (fun q => q.2.1 ‹_›) | exact bI_0 (fun q => absurd q.2.1 ‹_›) | exact bI_0 (fun q => q.2.2.1 ‹_›) | exact bI_0 (fun q => absurd q.2.2.1 ‹_›) | exact bI_0 (fun q => q.2.2.2.1 ‹_›) | exact bI_0 (fun q => absurd q.2.2.2.1 ‹_›) | exact bI_0 (fun q => q.2.2.2.2 ‹_›) | exact bI_0 (fun q => absurd q.2.2.2.2 ‹_›)), rfl⟩, rfl, by rw [ht]; exact hP⟩, hS.F ht⟩) hS.2.2 dX5_fitsInMemory_52
      · have c22 := (not_congr (lg_cmp_lt y 2)).mp c22
        refine lv_lload_n hx hb dX5_fitsInMemory_25 rfl (lv_at hl 1 rfl) ?_
        refine lv_ldc2 hx hb hown (hts _ tw263) dX5_fitsInMemory_26 ?_
        refine W.lcmp hx hb dX5_fitsInMemory_29 ?_
        refine lv_if_gt (tgt := 51) hx hb dX5_fitsInMemory_30 (by decide) (fun c30 => ?_) (fun c30 => ?_)
        · have c30 := (lg_cmp_gt y 16).mp c30
          refine lv_iconst (v := 0) hx hb dX5_fitsInMemory_51 (by decide) ?_
          exact W.zret (v := 0) hx hb hr (by first | rfl | exact bz_n (by first | assumption | exact bI_z | decide)) (fun t ht _ => ⟨⟨(some (.int 0)), [], rfl, ⟨congrArg (fun z : Int32 => some (Value.int z)) (by first | exact bI_1 ⟨‹_›, ‹_›, ‹_›, ‹_›, ‹_›⟩ | exact bI_0 (fun q => q.1 ‹_›) | exact bI_0 (fun q => absurd q.1 ‹_›) | exact bI_0 (fun q => q.2.1 ‹_›) | exact bI_0 (fun q => absurd q.2.1 ‹_›) | exact bI_0 (fun q => q.2.2.1 ‹_›) | exact bI_0 (fun q => absurd q.2.2.1 ‹_›) | exact bI_0 (fun q => q.2.2.2.1 ‹_›) | exact bI_0 (fun q => absurd q.2.2.2.1 ‹_›) | exact bI_0 (fun q => q.2.2.2.2 ‹_›) | exact bI_0 (fun q => absurd q.2.2.2.2 ‹_›)), rfl⟩, rfl, by rw [ht]; exact hP⟩, hS.F ht⟩) hS.2.2 dX5_fitsInMemory_52
        · have c30 := (not_congr (lg_cmp_gt y 16)).mp c30
          refine lv_lload_n hx hb dX5_fitsInMemory_33 rfl (lv_at hl 0 rfl) ?_
          refine lv_lload_n hx hb dX5_fitsInMemory_34 rfl (lv_at hl 1 rfl) ?_
          refine lv_iload hx hb dX5_fitsInMemory_35 (lv_at hl 2 rfl) ?_
          refine lv_i2l hx hb dX5_fitsInMemory_37 rfl ?_
          refine lv_lmul hx hb dX5_fitsInMemory_38 ?_
          refine lv_ladd hx hb dX5_fitsInMemory_39 ?_
          refine lv_ldc2 hx hb hown (hts _ tw264) dX5_fitsInMemory_40 ?_
          refine W.lcmp hx hb dX5_fitsInMemory_43 ?_
          refine lv_if_gt (tgt := 51) hx hb dX5_fitsInMemory_44 (by decide) (fun c44 => ?_) (fun c44 => ?_)
          · have c44 := (lg_cmp_gt (x + (y * e0.toInt64)) 1024).mp c44
            refine lv_iconst (v := 0) hx hb dX5_fitsInMemory_51 (by decide) ?_
            exact W.zret (v := 0) hx hb hr (by first | rfl | exact bz_n (by first | assumption | exact bI_z | decide)) (fun t ht _ => ⟨⟨(some (.int 0)), [], rfl, ⟨congrArg (fun z : Int32 => some (Value.int z)) (by first | exact bI_1 ⟨‹_›, ‹_›, ‹_›, ‹_›, ‹_›⟩ | exact bI_0 (fun q => q.1 ‹_›) | exact bI_0 (fun q => absurd q.1 ‹_›) | exact bI_0 (fun q => q.2.1 ‹_›) | exact bI_0 (fun q => absurd q.2.1 ‹_›) | exact bI_0 (fun q => q.2.2.1 ‹_›) | exact bI_0 (fun q => absurd q.2.2.1 ‹_›) | exact bI_0 (fun q => q.2.2.2.1 ‹_›) | exact bI_0 (fun q => absurd q.2.2.2.1 ‹_›) | exact bI_0 (fun q => q.2.2.2.2 ‹_›) | exact bI_0 (fun q => absurd q.2.2.2.2 ‹_›)), rfl⟩, rfl, by rw [ht]; exact hP⟩, hS.F ht⟩) hS.2.2 dX5_fitsInMemory_52
          · have c44 := (not_congr (lg_cmp_gt (x + (y * e0.toInt64)) 1024)).mp c44
            refine lv_iconst (v := 1) hx hb dX5_fitsInMemory_47 (by decide) ?_
            refine lv_goto (tgt := 52) hx hb dX5_fitsInMemory_48 (by decide) ?_
            exact W.zret (v := 1) hx hb hr (by first | rfl | exact bz_n (by first | assumption | exact bI_z | decide)) (fun t ht _ => ⟨⟨(some (.int 1)), [], rfl, ⟨congrArg (fun z : Int32 => some (Value.int z)) (by first | exact bI_1 ⟨‹_›, ‹_›, ‹_›, ‹_›, ‹_›⟩ | exact bI_0 (fun q => q.1 ‹_›) | exact bI_0 (fun q => absurd q.1 ‹_›) | exact bI_0 (fun q => q.2.1 ‹_›) | exact bI_0 (fun q => absurd q.2.1 ‹_›) | exact bI_0 (fun q => q.2.2.1 ‹_›) | exact bI_0 (fun q => absurd q.2.2.1 ‹_›) | exact bI_0 (fun q => q.2.2.2.1 ‹_›) | exact bI_0 (fun q => absurd q.2.2.2.1 ‹_›) | exact bI_0 (fun q => q.2.2.2.2 ‹_›) | exact bI_0 (fun q => absurd q.2.2.2.2 ‹_›)), rfl⟩, rfl, by rw [ht]; exact hP⟩, hS.F ht⟩) hS.2.2 dX5_fitsInMemory_52
set_option maxHeartbeats 4000000 in
set_option maxRecDepth 100000 in
/-- Submission.fits -/
theorem kX6_fits (l : Launch) (g : GG) (x : Int64) (y : Int64) : Ct l yX6_fits cX6_fits 4 (some .boolean) ({ frames := 2, cells := 0, slots := 0, locals := 45 } : Room) g [.long x, .long y] [] (fun v w' => v = some (.int (bI (fitR x y 4))) ∧ w' = []) := by
  refine Ct.of (by decide) (Nat.le_of_ble_eq_true rfl) ?_
  intro p e s m below meth c A ls H locs hx hb hr hml hlocks hts hown hin hA hS hK hP hD hl
  have hown : s.vm.findClass RX6 = some m.cls := hown
  have hl : lv_has ls 4 [(0, .long x), (2, .long y)] := hl
  refine lv_lload_n hx hb dX6_fits_0 rfl (lv_at hl 0 rfl) ?_
  refine lv_lload_n hx hb dX6_fits_1 rfl (lv_at hl 1 rfl) ?_
  refine lv_iconst (v := 4) hx hb dX6_fits_2 (by decide) ?_
  refine fr_go (va_runS (As := [.long x, .long y, .int 4]) (rest := []) ⟨hx, hb, hml, hown, hts⟩ (kX5_fitsInMemory l g x y 4 H.size) (va_cwS 3 hts (gdS tw257 tw258 tw4 tw259) rfl rfl rfl (by decide +kernel) ⟨Nat.le_of_ble_eq_true rfl, Nat.le_of_ble_eq_true rfl⟩) ⟨Pst.blind, fr_pre hK hP hD [] rfl rfl⟩ rfl rfl hl.1 rfl (lv_room (Nat.le_of_ble_eq_true rfl)) dX6_fits_3 ⟨Nat.le_of_ble_eq_true rfl, Nat.le_of_ble_eq_true rfl⟩) hP hD hS hA [] rfl (fun v w9 H locs hq hP hD hS => ?_)
  obtain ⟨rfl, rfl⟩ := hq
  have hP : va_P g.1 vwCl [] H := hP
  have hD : va_D A [] := hD
  show W p l e _ s m _ below meth c H locs _ _ _ (F0 m (3 + 3) ls (.int (bI (fitR x y 4)) :: []))
  exact W.zret (v := bI (fitR x y 4)) hx hb hr (by first | rfl | exact bz_n (by first | assumption | exact bI_z | decide)) (fun t ht _ => ⟨⟨(some (.int (bI (fitR x y 4)))), [], rfl, ⟨rfl, rfl⟩, rfl, by rw [ht]; exact hP⟩, hS.F ht⟩) hS.2.2 dX6_fits_6
set_option maxHeartbeats 4000000 in
set_option maxRecDepth 100000 in
/-- Completion.fits -/
theorem kX1_fits (l : Launch) (g : GG) (x : Int64) (y : Int64) : Ct l yX1_fits cX1_fits 4 (some .boolean) ({ frames := 2, cells := 0, slots := 0, locals := 45 } : Room) g [.long x, .long y] [] (fun v w' => v = some (.int (bI (fitR x y 1))) ∧ w' = []) := by
  refine Ct.of (by decide) (Nat.le_of_ble_eq_true rfl) ?_
  intro p e s m below meth c A ls H locs hx hb hr hml hlocks hts hown hin hA hS hK hP hD hl
  have hown : s.vm.findClass RX1 = some m.cls := hown
  have hl : lv_has ls 4 [(0, .long x), (2, .long y)] := hl
  refine lv_lload_n hx hb dX1_fits_0 rfl (lv_at hl 0 rfl) ?_
  refine lv_lload_n hx hb dX1_fits_1 rfl (lv_at hl 1 rfl) ?_
  refine lv_iconst (v := 1) hx hb dX1_fits_2 (by decide) ?_
  refine fr_go (va_runS (As := [.long x, .long y, .int 1]) (rest := []) ⟨hx, hb, hml, hown, hts⟩ (kX5_fitsInMemory l g x y 1 H.size) (va_cwS 3 hts (gdS tw268 tw258 tw4 tw259) rfl rfl rfl (by decide +kernel) ⟨Nat.le_of_ble_eq_true rfl, Nat.le_of_ble_eq_true rfl⟩) ⟨Pst.blind, fr_pre hK hP hD [] rfl rfl⟩ rfl rfl hl.1 rfl (lv_room (Nat.le_of_ble_eq_true rfl)) dX1_fits_3 ⟨Nat.le_of_ble_eq_true rfl, Nat.le_of_ble_eq_true rfl⟩) hP hD hS hA [] rfl (fun v w9 H locs hq hP hD hS => ?_)
  obtain ⟨rfl, rfl⟩ := hq
  have hP : va_P g.1 vwCl [] H := hP
  have hD : va_D A [] := hD
  show W p l e _ s m _ below meth c H locs _ _ _ (F0 m (3 + 3) ls (.int (bI (fitR x y 1)) :: []))
  exact W.zret (v := bI (fitR x y 1)) hx hb hr (by first | rfl | exact bz_n (by first | assumption | exact bI_z | decide)) (fun t ht _ => ⟨⟨(some (.int (bI (fitR x y 1)))), [], rfl, ⟨rfl, rfl⟩, rfl, by rw [ht]; exact hP⟩, hS.F ht⟩) hS.2.2 dX1_fits_6
set_option maxHeartbeats 4000000 in
set_option maxRecDepth 100000 in
/-- Ring.lay -/
theorem kX5_lay_X6 (l : Launch) (g : GG) (ao : Nat) (th : Int32) (ba : Int32) (sz : Int32) (hd : Int32) (tl : Int32) (an : Int32) (p0 : Int32) (p1 : Int32) : Ct l yX5_lay cX5_lay 3 none ({ frames := 0, cells := 0, slots := 0, locals := 0 } : Room) g [.ref ao, .int p0, .int p1] [(ao, .inr (5, [.int th, .int ba, .int sz, .int hd, .int tl, .int an]))] (fun v w' => v = none ∧ w' = [(ao, .inr (5, [.int 1, .int p0, .int p1, .int 0, .int 0, .int an]))]) := by
  refine Ct.of (by decide) (Nat.le_of_ble_eq_true rfl) ?_
  intro p e s m below meth c A ls H locs hx hb hr hml hlocks hts hown hin hA hS hK hP hD hl
  have hown : s.vm.findClass RX5 = some m.cls := hown
  have hl : lv_has ls 3 [(0, .ref ao), (1, .int p0), (2, .int p1)] := hl
  refine lv_aload_n hx hb dX5_lay_0 rfl (lv_at hl 0 rfl) ?_
  refine lv_iconst (v := 1) hx hb dX5_lay_1 (by decide) ?_
  refine va_put (D := g.1) (ci := 5) (v := .int 1) (ty := .boolean) (C := RX6) (T := TX6) (N := 6) hx hb hts inX6 tyX6 tyX6_ok nmX6 hown hK hP hD hS 0 rfl rfl 0 (by decide) (hts _ tw69) (fun _ h9 => h9) rfl (by decide +kernel) rfl rfl (Nat.le_of_ble_eq_true rfl) dX5_lay_2 (fun H locs hP hD hS => ?_)
  have hP : va_P g.1 vwCl [(ao, .inr (5, [.int 1, .int ba, .int sz, .int hd, .int tl, .int an]))] H := hP
  have hD : va_D A [(ao, .inr (5, [.int 1, .int ba, .int sz, .int hd, .int tl, .int an]))] := hD
  refine lv_aload_n hx hb dX5_lay_5 rfl (lv_at hl 0 rfl) ?_
  refine lv_iload_n hx hb dX5_lay_6 rfl (lv_at hl 1 rfl) ?_
  refine va_put (D := g.1) (ci := 5) (v := .int p0) (ty := .int) (C := RX6) (T := TX6) (N := 6) hx hb hts inX6 tyX6 tyX6_ok nmX6 hown hK hP hD hS 0 rfl rfl 1 (by decide) (hts _ tw74) (fun _ h9 => h9) rfl (by decide +kernel) rfl rfl (Nat.le_of_ble_eq_true rfl) dX5_lay_7 (fun H locs hP hD hS => ?_)
  have hP : va_P g.1 vwCl [(ao, .inr (5, [.int 1, .int p0, .int sz, .int hd, .int tl, .int an]))] H := hP
  have hD : va_D A [(ao, .inr (5, [.int 1, .int p0, .int sz, .int hd, .int tl, .int an]))] := hD
  refine lv_aload_n hx hb dX5_lay_10 rfl (lv_at hl 0 rfl) ?_
  refine lv_iload_n hx hb dX5_lay_11 rfl (lv_at hl 2 rfl) ?_
  refine va_put (D := g.1) (ci := 5) (v := .int p1) (ty := .int) (C := RX6) (T := TX6) (N := 6) hx hb hts inX6 tyX6 tyX6_ok nmX6 hown hK hP hD hS 0 rfl rfl 2 (by decide) (hts _ tw79) (fun _ h9 => h9) rfl (by decide +kernel) rfl rfl (Nat.le_of_ble_eq_true rfl) dX5_lay_12 (fun H locs hP hD hS => ?_)
  have hP : va_P g.1 vwCl [(ao, .inr (5, [.int 1, .int p0, .int p1, .int hd, .int tl, .int an]))] H := hP
  have hD : va_D A [(ao, .inr (5, [.int 1, .int p0, .int p1, .int hd, .int tl, .int an]))] := hD
  refine lv_aload_n hx hb dX5_lay_15 rfl (lv_at hl 0 rfl) ?_
  refine lv_iconst (v := 0) hx hb dX5_lay_16 (by decide) ?_
  refine va_put (D := g.1) (ci := 5) (v := .int 0) (ty := .int) (C := RX6) (T := TX6) (N := 6) hx hb hts inX6 tyX6 tyX6_ok nmX6 hown hK hP hD hS 0 rfl rfl 3 (by decide) (hts _ tw84) (fun _ h9 => h9) rfl (by decide +kernel) rfl rfl (Nat.le_of_ble_eq_true rfl) dX5_lay_17 (fun H locs hP hD hS => ?_)
  have hP : va_P g.1 vwCl [(ao, .inr (5, [.int 1, .int p0, .int p1, .int 0, .int tl, .int an]))] H := hP
  have hD : va_D A [(ao, .inr (5, [.int 1, .int p0, .int p1, .int 0, .int tl, .int an]))] := hD
  refine lv_aload_n hx hb dX5_lay_20 rfl (lv_at hl 0 rfl) ?_
  refine lv_iconst (v := 0) hx hb dX5_lay_21 (by decide) ?_
  refine va_put (D := g.1) (ci := 5) (v := .int 0) (ty := .int) (C := RX6) (T := TX6) (N := 6) hx hb hts inX6 tyX6 tyX6_ok nmX6 hown hK hP hD hS 0 rfl rfl 4 (by decide) (hts _ tw91) (fun _ h9 => h9) rfl (by decide +kernel) rfl rfl (Nat.le_of_ble_eq_true rfl) dX5_lay_22 (fun H locs hP hD hS => ?_)
  have hP : va_P g.1 vwCl [(ao, .inr (5, [.int 1, .int p0, .int p1, .int 0, .int 0, .int an]))] H := hP
  have hD : va_D A [(ao, .inr (5, [.int 1, .int p0, .int p1, .int 0, .int 0, .int an]))] := hD
  exact W.vret hx hb hr (fun t ht _ => ⟨⟨none, [(ao, .inr (5, [.int 1, .int p0, .int p1, .int 0, .int 0, .int an]))], rfl, ⟨rfl, rfl⟩, rfl, by rw [ht]; exact hP⟩, hS.F ht⟩) hS.2.2 dX5_lay_25
set_option maxHeartbeats 4000000 in
set_option maxRecDepth 100000 in
/-- Ring.drop -/
theorem kX5_drop_X6 (l : Launch) (g : GG) (ao : Nat) (th : Int32) (ba : Int32) (sz : Int32) (hd : Int32) (tl : Int32) (an : Int32) : Ct l yX5_drop cX5_drop 1 none ({ frames := 0, cells := 0, slots := 0, locals := 0 } : Room) g [.ref ao] [(ao, .inr (5, [.int th, .int ba, .int sz, .int hd, .int tl, .int an]))] (fun v w' => v = none ∧ w' = [(ao, .inr (5, [.int 0, .int ba, .int sz, .int hd, .int tl, .int an]))]) := by
  refine Ct.of (by decide) (Nat.le_of_ble_eq_true rfl) ?_
  intro p e s m below meth c A ls H locs hx hb hr hml hlocks hts hown hin hA hS hK hP hD hl
  have hown : s.vm.findClass RX5 = some m.cls := hown
  have hl : lv_has ls 1 [(0, .ref ao)] := hl
  refine lv_aload_n hx hb dX5_drop_0 rfl (lv_at hl 0 rfl) ?_
  refine lv_iconst (v := 0) hx hb dX5_drop_1 (by decide) ?_
  refine va_put (D := g.1) (ci := 5) (v := .int 0) (ty := .boolean) (C := RX6) (T := TX6) (N := 6) hx hb hts inX6 tyX6 tyX6_ok nmX6 hown hK hP hD hS 0 rfl rfl 0 (by decide) (hts _ tw69) (fun _ h9 => h9) rfl (by decide +kernel) rfl rfl (Nat.le_of_ble_eq_true rfl) dX5_drop_2 (fun H locs hP hD hS => ?_)
  have hP : va_P g.1 vwCl [(ao, .inr (5, [.int 0, .int ba, .int sz, .int hd, .int tl, .int an]))] H := hP
  have hD : va_D A [(ao, .inr (5, [.int 0, .int ba, .int sz, .int hd, .int tl, .int an]))] := hD
  exact W.vret hx hb hr (fun t ht _ => ⟨⟨none, [(ao, .inr (5, [.int 0, .int ba, .int sz, .int hd, .int tl, .int an]))], rfl, ⟨rfl, rfl⟩, rfl, by rw [ht]; exact hP⟩, hS.F ht⟩) hS.2.2 dX5_drop_5
set_option maxHeartbeats 4000000 in
set_option maxRecDepth 100000 in
/-- Ring.hasPlace -/
theorem kX5_hasPlace_X6 (l : Launch) (g : GG) (ao : Nat) (th : Int32) (ba : Int32) (sz : Int32) (hd : Int32) (tl : Int32) (an : Int32) (p0 : Int32) : Ct l yX5_hasPlace cX5_hasPlace 2 (some .boolean) ({ frames := 0, cells := 0, slots := 0, locals := 0 } : Room) g [.ref ao, .int p0] [(ao, .inr (5, [.int th, .int ba, .int sz, .int hd, .int tl, .int an]))] (fun v w' => v = some (.int (bI (hpl sz p0))) ∧ w' = [(ao, .inr (5, [.int th, .int ba, .int sz, .int hd, .int tl, .int an]))]) := by
  refine Ct.of (by decide) (Nat.le_of_ble_eq_true rfl) ?_
  intro p e s m below meth c A ls H locs hx hb hr hml hlocks hts hown hin hA hS hK hP hD hl
  have hown : s.vm.findClass RX5 = some m.cls := hown
  have hl : lv_has ls 2 [(0, .ref ao), (1, .int p0)] := hl
  refine lv_iload_n hx hb dX5_hasPlace_0 rfl (lv_at hl 1 rfl) ?_
  refine lv_if_lt (tgt := 16) hx hb dX5_hasPlace_1 (by decide) (fun c1 => ?_) (fun c1 => ?_)
  · refine lv_iconst (v := 0) hx hb dX5_hasPlace_16 (by decide) ?_
    exact W.zret (v := 0) hx hb hr (by first | rfl | exact bz_n (by first | assumption | exact bI_z | decide)) (fun t ht _ => ⟨⟨(some (.int 0)), [(ao, .inr (5, [.int th, .int ba, .int sz, .int hd, .int tl, .int an]))], rfl, ⟨congrArg (fun z : Int32 => some (Value.int z)) (by first | exact bI_1 ⟨‹_›, ‹_›⟩ | exact bI_0 (fun q => q.1 ‹_›) | exact bI_0 (fun q => absurd q.1 ‹_›) | exact bI_0 (fun q => q.2 ‹_›) | exact bI_0 (fun q => absurd q.2 ‹_›)), rfl⟩, rfl, by rw [ht]; exact hP⟩, hS.F ht⟩) hS.2.2 dX5_hasPlace_17
  · refine lv_iload_n hx hb dX5_hasPlace_4 rfl (lv_at hl 1 rfl) ?_
    refine lv_aload_n hx hb dX5_hasPlace_5 rfl (lv_at hl 0 rfl) ?_
    refine va_get (D := g.1) (ci := 5) (v := .int sz) (C := RX6) (T := TX6) (N := 6) hx hb hts inX6 hown hK hP 0 rfl rfl 2 (by decide) (hts _ tw79) (fun _ h9 => h9) rfl dX5_hasPlace_6 ?_
    refine lv_icmp_ge (tgt := 16) hx hb dX5_hasPlace_9 (by decide) (fun c9 => ?_) (fun c9 => ?_)
    · refine lv_iconst (v := 0) hx hb dX5_hasPlace_16 (by decide) ?_
      exact W.zret (v := 0) hx hb hr (by first | rfl | exact bz_n (by first | assumption | exact bI_z | decide)) (fun t ht _ => ⟨⟨(some (.int 0)), [(ao, .inr (5, [.int th, .int ba, .int sz, .int hd, .int tl, .int an]))], rfl, ⟨congrArg (fun z : Int32 => some (Value.int z)) (by first | exact bI_1 ⟨‹_›, ‹_›⟩ | exact bI_0 (fun q => q.1 ‹_›) | exact bI_0 (fun q => absurd q.1 ‹_›) | exact bI_0 (fun q => q.2 ‹_›) | exact bI_0 (fun q => absurd q.2 ‹_›)), rfl⟩, rfl, by rw [ht]; exact hP⟩, hS.F ht⟩) hS.2.2 dX5_hasPlace_17
    · refine lv_iconst (v := 1) hx hb dX5_hasPlace_12 (by decide) ?_
      refine lv_goto (tgt := 17) hx hb dX5_hasPlace_13 (by decide) ?_
      exact W.zret (v := 1) hx hb hr (by first | rfl | exact bz_n (by first | assumption | exact bI_z | decide)) (fun t ht _ => ⟨⟨(some (.int 1)), [(ao, .inr (5, [.int th, .int ba, .int sz, .int hd, .int tl, .int an]))], rfl, ⟨congrArg (fun z : Int32 => some (Value.int z)) (by first | exact bI_1 ⟨‹_›, ‹_›⟩ | exact bI_0 (fun q => q.1 ‹_›) | exact bI_0 (fun q => absurd q.1 ‹_›) | exact bI_0 (fun q => q.2 ‹_›) | exact bI_0 (fun q => absurd q.2 ‹_›)), rfl⟩, rfl, by rw [ht]; exact hP⟩, hS.F ht⟩) hS.2.2 dX5_hasPlace_17
set_option maxHeartbeats 4000000 in
set_option maxRecDepth 100000 in
/-- Ring.behind -/
theorem kX5_behind_X6 (l : Launch) (g : GG) (ao : Nat) (th : Int32) (ba : Int32) (sz : Int32) (hd : Int32) (tl : Int32) (an : Int32) (p0 : Int32) : Ct l yX5_behind cX5_behind 2 (some .int) ({ frames := 0, cells := 0, slots := 0, locals := 0 } : Room) g [.ref ao, .int p0] [(ao, .inr (5, [.int th, .int ba, .int sz, .int hd, .int tl, .int an]))] (fun v w' => v = some (.int (bhd sz p0)) ∧ w' = [(ao, .inr (5, [.int th, .int ba, .int sz, .int hd, .int tl, .int an]))]) := by
  refine Ct.of (by decide) (Nat.le_of_ble_eq_true rfl) ?_
  intro p e s m below meth c A ls H locs hx hb hr hml hlocks hts hown hin hA hS hK hP hD hl
  have hown : s.vm.findClass RX5 = some m.cls := hown
  have hl : lv_has ls 2 [(0, .ref ao), (1, .int p0)] := hl
  refine lv_iload_n hx hb dX5_behind_0 rfl (lv_at hl 1 rfl) ?_
  refine lv_iconst (v := 1) hx hb dX5_behind_1 (by decide) ?_
  refine lv_iadd hx hb dX5_behind_2 ?_
  refine lv_aload_n hx hb dX5_behind_3 rfl (lv_at hl 0 rfl) ?_
  refine va_get (D := g.1) (ci := 5) (v := .int sz) (C := RX6) (T := TX6) (N := 6) hx hb hts inX6 hown hK hP 0 rfl rfl 2 (by decide) (hts _ tw79) (fun _ h9 => h9) rfl dX5_behind_4 ?_
  refine lv_icmp_lt (tgt := 14) hx hb dX5_behind_7 (by decide) (fun c7 => ?_) (fun c7 => ?_)
  · refine lv_iload_n hx hb dX5_behind_14 rfl (lv_at hl 1 rfl) ?_
    refine lv_iconst (v := 1) hx hb dX5_behind_15 (by decide) ?_
    refine lv_iadd hx hb dX5_behind_16 ?_
    exact W.iret (v := p0 + 1) hx hb hr (fun t ht _ => ⟨⟨(some (.int (p0 + 1))), [(ao, .inr (5, [.int th, .int ba, .int sz, .int hd, .int tl, .int an]))], rfl, ⟨congrArg (fun z : Int32 => some (Value.int z)) (by first | exact (if_pos ‹_›).symm | exact (if_neg ‹_›).symm), rfl⟩, rfl, by rw [ht]; exact hP⟩, hS.F ht⟩) hS.2.2 dX5_behind_17
  · refine lv_iconst (v := 0) hx hb dX5_behind_10 (by decide) ?_
    refine lv_goto (tgt := 17) hx hb dX5_behind_11 (by decide) ?_
    exact W.iret (v := 0) hx hb hr (fun t ht _ => ⟨⟨(some (.int 0)), [(ao, .inr (5, [.int th, .int ba, .int sz, .int hd, .int tl, .int an]))], rfl, ⟨congrArg (fun z : Int32 => some (Value.int z)) (by first | exact (if_pos ‹_›).symm | exact (if_neg ‹_›).symm), rfl⟩, rfl, by rw [ht]; exact hP⟩, hS.F ht⟩) hS.2.2 dX5_behind_17
set_option maxHeartbeats 4000000 in
set_option maxRecDepth 100000 in
/-- Ring.fromHeadTo -/
theorem kX5_fromHeadTo_X6 (l : Launch) (g : GG) (ao : Nat) (th : Int32) (ba : Int32) (sz : Int32) (hd : Int32) (tl : Int32) (an : Int32) (p0 : Int32) : Ct l yX5_fromHeadTo cX5_fromHeadTo 2 (some .int) ({ frames := 0, cells := 0, slots := 0, locals := 0 } : Room) g [.ref ao, .int p0] [(ao, .inr (5, [.int th, .int ba, .int sz, .int hd, .int tl, .int an]))] (fun v w' => v = some (.int (fht hd sz p0)) ∧ w' = [(ao, .inr (5, [.int th, .int ba, .int sz, .int hd, .int tl, .int an]))]) := by
  refine Ct.of (by decide) (Nat.le_of_ble_eq_true rfl) ?_
  intro p e s m below meth c A ls H locs hx hb hr hml hlocks hts hown hin hA hS hK hP hD hl
  have hown : s.vm.findClass RX5 = some m.cls := hown
  have hl : lv_has ls 2 [(0, .ref ao), (1, .int p0)] := hl
  refine lv_iload_n hx hb dX5_fromHeadTo_0 rfl (lv_at hl 1 rfl) ?_
  refine lv_aload_n hx hb dX5_fromHeadTo_1 rfl (lv_at hl 0 rfl) ?_
  refine va_get (D := g.1) (ci := 5) (v := .int hd) (C := RX6) (T := TX6) (N := 6) hx hb hts inX6 hown hK hP 0 rfl rfl 3 (by decide) (hts _ tw84) (fun _ h9 => h9) rfl dX5_fromHeadTo_2 ?_
  refine lv_icmp_lt (tgt := 17) hx hb dX5_fromHeadTo_5 (by decide) (fun c5 => ?_) (fun c5 => ?_)
  · refine lv_iload_n hx hb dX5_fromHeadTo_17 rfl (lv_at hl 1 rfl) ?_
    refine lv_aload_n hx hb dX5_fromHeadTo_18 rfl (lv_at hl 0 rfl) ?_
    refine va_get (D := g.1) (ci := 5) (v := .int hd) (C := RX6) (T := TX6) (N := 6) hx hb hts inX6 hown hK hP 0 rfl rfl 3 (by decide) (hts _ tw84) (fun _ h9 => h9) rfl dX5_fromHeadTo_19 ?_
    refine lv_isub hx hb dX5_fromHeadTo_22 ?_
    refine lv_aload_n hx hb dX5_fromHeadTo_23 rfl (lv_at hl 0 rfl) ?_
    refine va_get (D := g.1) (ci := 5) (v := .int sz) (C := RX6) (T := TX6) (N := 6) hx hb hts inX6 hown hK hP 0 rfl rfl 2 (by decide) (hts _ tw79) (fun _ h9 => h9) rfl dX5_fromHeadTo_24 ?_
    refine lv_iadd hx hb dX5_fromHeadTo_27 ?_
    exact W.iret (v := (p0 - hd) + sz) hx hb hr (fun t ht _ => ⟨⟨(some (.int ((p0 - hd) + sz))), [(ao, .inr (5, [.int th, .int ba, .int sz, .int hd, .int tl, .int an]))], rfl, ⟨congrArg (fun z : Int32 => some (Value.int z)) (by first | exact (if_pos ‹_›).symm | exact (if_neg ‹_›).symm), rfl⟩, rfl, by rw [ht]; exact hP⟩, hS.F ht⟩) hS.2.2 dX5_fromHeadTo_28
  · refine lv_iload_n hx hb dX5_fromHeadTo_8 rfl (lv_at hl 1 rfl) ?_
    refine lv_aload_n hx hb dX5_fromHeadTo_9 rfl (lv_at hl 0 rfl) ?_
    refine va_get (D := g.1) (ci := 5) (v := .int hd) (C := RX6) (T := TX6) (N := 6) hx hb hts inX6 hown hK hP 0 rfl rfl 3 (by decide) (hts _ tw84) (fun _ h9 => h9) rfl dX5_fromHeadTo_10 ?_
    refine lv_isub hx hb dX5_fromHeadTo_13 ?_
    refine lv_goto (tgt := 28) hx hb dX5_fromHeadTo_14 (by decide) ?_
    exact W.iret (v := p0 - hd) hx hb hr (fun t ht _ => ⟨⟨(some (.int (p0 - hd))), [(ao, .inr (5, [.int th, .int ba, .int sz, .int hd, .int tl, .int an]))], rfl, ⟨congrArg (fun z : Int32 => some (Value.int z)) (by first | exact (if_pos ‹_›).symm | exact (if_neg ‹_›).symm), rfl⟩, rfl, by rw [ht]; exact hP⟩, hS.F ht⟩) hS.2.2 dX5_fromHeadTo_28
set_option maxHeartbeats 4000000 in
set_option maxRecDepth 100000 in
/-- Ring.held -/
theorem kX5_held_X6 (l : Launch) (g : GG) (ao : Nat) (th : Int32) (ba : Int32) (sz : Int32) (hd : Int32) (tl : Int32) (an : Int32) : Ct l yX5_held cX5_held 1 (some .int) ({ frames := 1, cells := 0, slots := 0, locals := 21 } : Room) g [.ref ao] [(ao, .inr (5, [.int th, .int ba, .int sz, .int hd, .int tl, .int an]))] (fun v w' => v = some (.int (fht hd sz tl)) ∧ w' = [(ao, .inr (5, [.int th, .int ba, .int sz, .int hd, .int tl, .int an]))]) := by
  refine Ct.of (by decide) (Nat.le_of_ble_eq_true rfl) ?_
  intro p e s m below meth c A ls H locs hx hb hr hml hlocks hts hown hin hA hS hK hP hD hl
  have hown : s.vm.findClass RX5 = some m.cls := hown
  have hl : lv_has ls 1 [(0, .ref ao)] := hl
  refine lv_aload_n hx hb dX5_held_0 rfl (lv_at hl 0 rfl) ?_
  refine lv_aload_n hx hb dX5_held_1 rfl (lv_at hl 0 rfl) ?_
  refine va_get (D := g.1) (ci := 5) (v := .int tl) (C := RX6) (T := TX6) (N := 6) hx hb hts inX6 hown hK hP 0 rfl rfl 4 (by decide) (hts _ tw91) (fun _ h9 => h9) rfl dX5_held_2 ?_
  refine fr_go (va_runU (As := [.int tl]) (rest := []) ⟨hx, hb, hml, hown, hts⟩ (kX5_fromHeadTo_X6 l g ao th ba sz hd tl an tl H.size) (va_cwU 1 hts (gdU (x := yX5_fromHeadTo) (owner := RX5) tw335 tw337 tw339 tw336 tw4 tw340) rfl rfl rfl rfl (by decide +kernel) ⟨Nat.le_of_ble_eq_true rfl, Nat.le_of_ble_eq_true rfl⟩) ⟨Pst.blind, va_recv hK hP (ci := 5) (q0 := 0) rfl rfl, fr_pre hK hP hD [0] rfl rfl⟩ rfl rfl hl.1 rfl (lv_room (Nat.le_of_ble_eq_true rfl)) dX5_held_5 ⟨Nat.le_of_ble_eq_true rfl, Nat.le_of_ble_eq_true rfl⟩) hP hD hS hA [0] rfl (fun v w9 H locs hq hP hD hS => ?_)
  obtain ⟨rfl, rfl⟩ := hq
  have hP : va_P g.1 vwCl [(ao, .inr (5, [.int th, .int ba, .int sz, .int hd, .int tl, .int an]))] H := hP
  have hD : va_D A [(ao, .inr (5, [.int th, .int ba, .int sz, .int hd, .int tl, .int an]))] := hD
  show W p l e _ s m _ below meth c H locs _ _ _ (F0 m (5 + 3) ls (.int (fht hd sz tl) :: []))
  exact W.iret (v := fht hd sz tl) hx hb hr (fun t ht _ => ⟨⟨(some (.int (fht hd sz tl))), [(ao, .inr (5, [.int th, .int ba, .int sz, .int hd, .int tl, .int an]))], rfl, ⟨rfl, rfl⟩, rfl, by rw [ht]; exact hP⟩, hS.F ht⟩) hS.2.2 dX5_held_8
set_option maxHeartbeats 4000000 in
set_option maxRecDepth 100000 in
/-- Ring.lay -/
theorem kX5_lay_X1 (l : Launch) (g : GG) (ao : Nat) (th : Int32) (ba : Int32) (sz : Int32) (hd : Int32) (tl : Int32) (ph : Int32) (it : Int32) (p0 : Int32) (p1 : Int32) : Ct l yX5_lay cX5_lay 3 none ({ frames := 0, cells := 0, slots := 0, locals := 0 } : Room) g [.ref ao, .int p0, .int p1] [(ao, .inr (1, [.int th, .int ba, .int sz, .int hd, .int tl, .int ph, .int it]))] (fun v w' => v = none ∧ w' = [(ao, .inr (1, [.int 1, .int p0, .int p1, .int 0, .int 0, .int ph, .int it]))]) := by
  refine Ct.of (by decide) (Nat.le_of_ble_eq_true rfl) ?_
  intro p e s m below meth c A ls H locs hx hb hr hml hlocks hts hown hin hA hS hK hP hD hl
  have hown : s.vm.findClass RX5 = some m.cls := hown
  have hl : lv_has ls 3 [(0, .ref ao), (1, .int p0), (2, .int p1)] := hl
  refine lv_aload_n hx hb dX5_lay_0 rfl (lv_at hl 0 rfl) ?_
  refine lv_iconst (v := 1) hx hb dX5_lay_1 (by decide) ?_
  refine va_put (D := g.1) (ci := 1) (v := .int 1) (ty := .boolean) (C := RX1) (T := TX1) (N := 7) hx hb hts inX1 tyX1 tyX1_ok nmX1 hown hK hP hD hS 0 rfl rfl 0 (by decide) (hts _ tw69) (fun _ h9 => h9) rfl (by decide +kernel) rfl rfl (Nat.le_of_ble_eq_true rfl) dX5_lay_2 (fun H locs hP hD hS => ?_)
  have hP : va_P g.1 vwCl [(ao, .inr (1, [.int 1, .int ba, .int sz, .int hd, .int tl, .int ph, .int it]))] H := hP
  have hD : va_D A [(ao, .inr (1, [.int 1, .int ba, .int sz, .int hd, .int tl, .int ph, .int it]))] := hD
  refine lv_aload_n hx hb dX5_lay_5 rfl (lv_at hl 0 rfl) ?_
  refine lv_iload_n hx hb dX5_lay_6 rfl (lv_at hl 1 rfl) ?_
  refine va_put (D := g.1) (ci := 1) (v := .int p0) (ty := .int) (C := RX1) (T := TX1) (N := 7) hx hb hts inX1 tyX1 tyX1_ok nmX1 hown hK hP hD hS 0 rfl rfl 1 (by decide) (hts _ tw74) (fun _ h9 => h9) rfl (by decide +kernel) rfl rfl (Nat.le_of_ble_eq_true rfl) dX5_lay_7 (fun H locs hP hD hS => ?_)
  have hP : va_P g.1 vwCl [(ao, .inr (1, [.int 1, .int p0, .int sz, .int hd, .int tl, .int ph, .int it]))] H := hP
  have hD : va_D A [(ao, .inr (1, [.int 1, .int p0, .int sz, .int hd, .int tl, .int ph, .int it]))] := hD
  refine lv_aload_n hx hb dX5_lay_10 rfl (lv_at hl 0 rfl) ?_
  refine lv_iload_n hx hb dX5_lay_11 rfl (lv_at hl 2 rfl) ?_
  refine va_put (D := g.1) (ci := 1) (v := .int p1) (ty := .int) (C := RX1) (T := TX1) (N := 7) hx hb hts inX1 tyX1 tyX1_ok nmX1 hown hK hP hD hS 0 rfl rfl 2 (by decide) (hts _ tw79) (fun _ h9 => h9) rfl (by decide +kernel) rfl rfl (Nat.le_of_ble_eq_true rfl) dX5_lay_12 (fun H locs hP hD hS => ?_)
  have hP : va_P g.1 vwCl [(ao, .inr (1, [.int 1, .int p0, .int p1, .int hd, .int tl, .int ph, .int it]))] H := hP
  have hD : va_D A [(ao, .inr (1, [.int 1, .int p0, .int p1, .int hd, .int tl, .int ph, .int it]))] := hD
  refine lv_aload_n hx hb dX5_lay_15 rfl (lv_at hl 0 rfl) ?_
  refine lv_iconst (v := 0) hx hb dX5_lay_16 (by decide) ?_
  refine va_put (D := g.1) (ci := 1) (v := .int 0) (ty := .int) (C := RX1) (T := TX1) (N := 7) hx hb hts inX1 tyX1 tyX1_ok nmX1 hown hK hP hD hS 0 rfl rfl 3 (by decide) (hts _ tw84) (fun _ h9 => h9) rfl (by decide +kernel) rfl rfl (Nat.le_of_ble_eq_true rfl) dX5_lay_17 (fun H locs hP hD hS => ?_)
  have hP : va_P g.1 vwCl [(ao, .inr (1, [.int 1, .int p0, .int p1, .int 0, .int tl, .int ph, .int it]))] H := hP
  have hD : va_D A [(ao, .inr (1, [.int 1, .int p0, .int p1, .int 0, .int tl, .int ph, .int it]))] := hD
  refine lv_aload_n hx hb dX5_lay_20 rfl (lv_at hl 0 rfl) ?_
  refine lv_iconst (v := 0) hx hb dX5_lay_21 (by decide) ?_
  refine va_put (D := g.1) (ci := 1) (v := .int 0) (ty := .int) (C := RX1) (T := TX1) (N := 7) hx hb hts inX1 tyX1 tyX1_ok nmX1 hown hK hP hD hS 0 rfl rfl 4 (by decide) (hts _ tw91) (fun _ h9 => h9) rfl (by decide +kernel) rfl rfl (Nat.le_of_ble_eq_true rfl) dX5_lay_22 (fun H locs hP hD hS => ?_)
  have hP : va_P g.1 vwCl [(ao, .inr (1, [.int 1, .int p0, .int p1, .int 0, .int 0, .int ph, .int it]))] H := hP
  have hD : va_D A [(ao, .inr (1, [.int 1, .int p0, .int p1, .int 0, .int 0, .int ph, .int it]))] := hD
  exact W.vret hx hb hr (fun t ht _ => ⟨⟨none, [(ao, .inr (1, [.int 1, .int p0, .int p1, .int 0, .int 0, .int ph, .int it]))], rfl, ⟨rfl, rfl⟩, rfl, by rw [ht]; exact hP⟩, hS.F ht⟩) hS.2.2 dX5_lay_25
set_option maxHeartbeats 4000000 in
set_option maxRecDepth 100000 in
/-- Ring.drop -/
theorem kX5_drop_X1 (l : Launch) (g : GG) (ao : Nat) (th : Int32) (ba : Int32) (sz : Int32) (hd : Int32) (tl : Int32) (ph : Int32) (it : Int32) : Ct l yX5_drop cX5_drop 1 none ({ frames := 0, cells := 0, slots := 0, locals := 0 } : Room) g [.ref ao] [(ao, .inr (1, [.int th, .int ba, .int sz, .int hd, .int tl, .int ph, .int it]))] (fun v w' => v = none ∧ w' = [(ao, .inr (1, [.int 0, .int ba, .int sz, .int hd, .int tl, .int ph, .int it]))]) := by
  refine Ct.of (by decide) (Nat.le_of_ble_eq_true rfl) ?_
  intro p e s m below meth c A ls H locs hx hb hr hml hlocks hts hown hin hA hS hK hP hD hl
  have hown : s.vm.findClass RX5 = some m.cls := hown
  have hl : lv_has ls 1 [(0, .ref ao)] := hl
  refine lv_aload_n hx hb dX5_drop_0 rfl (lv_at hl 0 rfl) ?_
  refine lv_iconst (v := 0) hx hb dX5_drop_1 (by decide) ?_
  refine va_put (D := g.1) (ci := 1) (v := .int 0) (ty := .boolean) (C := RX1) (T := TX1) (N := 7) hx hb hts inX1 tyX1 tyX1_ok nmX1 hown hK hP hD hS 0 rfl rfl 0 (by decide) (hts _ tw69) (fun _ h9 => h9) rfl (by decide +kernel) rfl rfl (Nat.le_of_ble_eq_true rfl) dX5_drop_2 (fun H locs hP hD hS => ?_)
  have hP : va_P g.1 vwCl [(ao, .inr (1, [.int 0, .int ba, .int sz, .int hd, .int tl, .int ph, .int it]))] H := hP
  have hD : va_D A [(ao, .inr (1, [.int 0, .int ba, .int sz, .int hd, .int tl, .int ph, .int it]))] := hD
  exact W.vret hx hb hr (fun t ht _ => ⟨⟨none, [(ao, .inr (1, [.int 0, .int ba, .int sz, .int hd, .int tl, .int ph, .int it]))], rfl, ⟨rfl, rfl⟩, rfl, by rw [ht]; exact hP⟩, hS.F ht⟩) hS.2.2 dX5_drop_5
set_option maxHeartbeats 4000000 in
set_option maxRecDepth 100000 in
/-- Ring.hasPlace -/
theorem kX5_hasPlace_X1 (l : Launch) (g : GG) (ao : Nat) (th : Int32) (ba : Int32) (sz : Int32) (hd : Int32) (tl : Int32) (ph : Int32) (it : Int32) (p0 : Int32) : Ct l yX5_hasPlace cX5_hasPlace 2 (some .boolean) ({ frames := 0, cells := 0, slots := 0, locals := 0 } : Room) g [.ref ao, .int p0] [(ao, .inr (1, [.int th, .int ba, .int sz, .int hd, .int tl, .int ph, .int it]))] (fun v w' => v = some (.int (bI (hpl sz p0))) ∧ w' = [(ao, .inr (1, [.int th, .int ba, .int sz, .int hd, .int tl, .int ph, .int it]))]) := by
  refine Ct.of (by decide) (Nat.le_of_ble_eq_true rfl) ?_
  intro p e s m below meth c A ls H locs hx hb hr hml hlocks hts hown hin hA hS hK hP hD hl
  have hown : s.vm.findClass RX5 = some m.cls := hown
  have hl : lv_has ls 2 [(0, .ref ao), (1, .int p0)] := hl
  refine lv_iload_n hx hb dX5_hasPlace_0 rfl (lv_at hl 1 rfl) ?_
  refine lv_if_lt (tgt := 16) hx hb dX5_hasPlace_1 (by decide) (fun c1 => ?_) (fun c1 => ?_)
  · refine lv_iconst (v := 0) hx hb dX5_hasPlace_16 (by decide) ?_
    exact W.zret (v := 0) hx hb hr (by first | rfl | exact bz_n (by first | assumption | exact bI_z | decide)) (fun t ht _ => ⟨⟨(some (.int 0)), [(ao, .inr (1, [.int th, .int ba, .int sz, .int hd, .int tl, .int ph, .int it]))], rfl, ⟨congrArg (fun z : Int32 => some (Value.int z)) (by first | exact bI_1 ⟨‹_›, ‹_›⟩ | exact bI_0 (fun q => q.1 ‹_›) | exact bI_0 (fun q => absurd q.1 ‹_›) | exact bI_0 (fun q => q.2 ‹_›) | exact bI_0 (fun q => absurd q.2 ‹_›)), rfl⟩, rfl, by rw [ht]; exact hP⟩, hS.F ht⟩) hS.2.2 dX5_hasPlace_17
  · refine lv_iload_n hx hb dX5_hasPlace_4 rfl (lv_at hl 1 rfl) ?_
    refine lv_aload_n hx hb dX5_hasPlace_5 rfl (lv_at hl 0 rfl) ?_
    refine va_get (D := g.1) (ci := 1) (v := .int sz) (C := RX1) (T := TX1) (N := 7) hx hb hts inX1 hown hK hP 0 rfl rfl 2 (by decide) (hts _ tw79) (fun _ h9 => h9) rfl dX5_hasPlace_6 ?_
    refine lv_icmp_ge (tgt := 16) hx hb dX5_hasPlace_9 (by decide) (fun c9 => ?_) (fun c9 => ?_)
    · refine lv_iconst (v := 0) hx hb dX5_hasPlace_16 (by decide) ?_
      exact W.zret (v := 0) hx hb hr (by first | rfl | exact bz_n (by first | assumption | exact bI_z | decide)) (fun t ht _ => ⟨⟨(some (.int 0)), [(ao, .inr (1, [.int th, .int ba, .int sz, .int hd, .int tl, .int ph, .int it]))], rfl, ⟨congrArg (fun z : Int32 => some (Value.int z)) (by first | exact bI_1 ⟨‹_›, ‹_›⟩ | exact bI_0 (fun q => q.1 ‹_›) | exact bI_0 (fun q => absurd q.1 ‹_›) | exact bI_0 (fun q => q.2 ‹_›) | exact bI_0 (fun q => absurd q.2 ‹_›)), rfl⟩, rfl, by rw [ht]; exact hP⟩, hS.F ht⟩) hS.2.2 dX5_hasPlace_17
    · refine lv_iconst (v := 1) hx hb dX5_hasPlace_12 (by decide) ?_
      refine lv_goto (tgt := 17) hx hb dX5_hasPlace_13 (by decide) ?_
      exact W.zret (v := 1) hx hb hr (by first | rfl | exact bz_n (by first | assumption | exact bI_z | decide)) (fun t ht _ => ⟨⟨(some (.int 1)), [(ao, .inr (1, [.int th, .int ba, .int sz, .int hd, .int tl, .int ph, .int it]))], rfl, ⟨congrArg (fun z : Int32 => some (Value.int z)) (by first | exact bI_1 ⟨‹_›, ‹_›⟩ | exact bI_0 (fun q => q.1 ‹_›) | exact bI_0 (fun q => absurd q.1 ‹_›) | exact bI_0 (fun q => q.2 ‹_›) | exact bI_0 (fun q => absurd q.2 ‹_›)), rfl⟩, rfl, by rw [ht]; exact hP⟩, hS.F ht⟩) hS.2.2 dX5_hasPlace_17
set_option maxHeartbeats 4000000 in
set_option maxRecDepth 100000 in
/-- Ring.behind -/
theorem kX5_behind_X1 (l : Launch) (g : GG) (ao : Nat) (th : Int32) (ba : Int32) (sz : Int32) (hd : Int32) (tl : Int32) (ph : Int32) (it : Int32) (p0 : Int32) : Ct l yX5_behind cX5_behind 2 (some .int) ({ frames := 0, cells := 0, slots := 0, locals := 0 } : Room) g [.ref ao, .int p0] [(ao, .inr (1, [.int th, .int ba, .int sz, .int hd, .int tl, .int ph, .int it]))] (fun v w' => v = some (.int (bhd sz p0)) ∧ w' = [(ao, .inr (1, [.int th, .int ba, .int sz, .int hd, .int tl, .int ph, .int it]))]) := by
  refine Ct.of (by decide) (Nat.le_of_ble_eq_true rfl) ?_
  intro p e s m below meth c A ls H locs hx hb hr hml hlocks hts hown hin hA hS hK hP hD hl
  have hown : s.vm.findClass RX5 = some m.cls := hown
  have hl : lv_has ls 2 [(0, .ref ao), (1, .int p0)] := hl
  refine lv_iload_n hx hb dX5_behind_0 rfl (lv_at hl 1 rfl) ?_
  refine lv_iconst (v := 1) hx hb dX5_behind_1 (by decide) ?_
  refine lv_iadd hx hb dX5_behind_2 ?_
  refine lv_aload_n hx hb dX5_behind_3 rfl (lv_at hl 0 rfl) ?_
  refine va_get (D := g.1) (ci := 1) (v := .int sz) (C := RX1) (T := TX1) (N := 7) hx hb hts inX1 hown hK hP 0 rfl rfl 2 (by decide) (hts _ tw79) (fun _ h9 => h9) rfl dX5_behind_4 ?_
  refine lv_icmp_lt (tgt := 14) hx hb dX5_behind_7 (by decide) (fun c7 => ?_) (fun c7 => ?_)
  · refine lv_iload_n hx hb dX5_behind_14 rfl (lv_at hl 1 rfl) ?_
    refine lv_iconst (v := 1) hx hb dX5_behind_15 (by decide) ?_
    refine lv_iadd hx hb dX5_behind_16 ?_
    exact W.iret (v := p0 + 1) hx hb hr (fun t ht _ => ⟨⟨(some (.int (p0 + 1))), [(ao, .inr (1, [.int th, .int ba, .int sz, .int hd, .int tl, .int ph, .int it]))], rfl, ⟨congrArg (fun z : Int32 => some (Value.int z)) (by first | exact (if_pos ‹_›).symm | exact (if_neg ‹_›).symm), rfl⟩, rfl, by rw [ht]; exact hP⟩, hS.F ht⟩) hS.2.2 dX5_behind_17
  · refine lv_iconst (v := 0) hx hb dX5_behind_10 (by decide) ?_
    refine lv_goto (tgt := 17) hx hb dX5_behind_11 (by decide) ?_
    exact W.iret (v := 0) hx hb hr (fun t ht _ => ⟨⟨(some (.int 0)), [(ao, .inr (1, [.int th, .int ba, .int sz, .int hd, .int tl, .int ph, .int it]))], rfl, ⟨congrArg (fun z : Int32 => some (Value.int z)) (by first | exact (if_pos ‹_›).symm | exact (if_neg ‹_›).symm), rfl⟩, rfl, by rw [ht]; exact hP⟩, hS.F ht⟩) hS.2.2 dX5_behind_17
set_option maxHeartbeats 4000000 in
set_option maxRecDepth 100000 in
/-- Ring.fromHeadTo -/
theorem kX5_fromHeadTo_X1 (l : Launch) (g : GG) (ao : Nat) (th : Int32) (ba : Int32) (sz : Int32) (hd : Int32) (tl : Int32) (ph : Int32) (it : Int32) (p0 : Int32) : Ct l yX5_fromHeadTo cX5_fromHeadTo 2 (some .int) ({ frames := 0, cells := 0, slots := 0, locals := 0 } : Room) g [.ref ao, .int p0] [(ao, .inr (1, [.int th, .int ba, .int sz, .int hd, .int tl, .int ph, .int it]))] (fun v w' => v = some (.int (fht hd sz p0)) ∧ w' = [(ao, .inr (1, [.int th, .int ba, .int sz, .int hd, .int tl, .int ph, .int it]))]) := by
  refine Ct.of (by decide) (Nat.le_of_ble_eq_true rfl) ?_
  intro p e s m below meth c A ls H locs hx hb hr hml hlocks hts hown hin hA hS hK hP hD hl
  have hown : s.vm.findClass RX5 = some m.cls := hown
  have hl : lv_has ls 2 [(0, .ref ao), (1, .int p0)] := hl
  refine lv_iload_n hx hb dX5_fromHeadTo_0 rfl (lv_at hl 1 rfl) ?_
  refine lv_aload_n hx hb dX5_fromHeadTo_1 rfl (lv_at hl 0 rfl) ?_
  refine va_get (D := g.1) (ci := 1) (v := .int hd) (C := RX1) (T := TX1) (N := 7) hx hb hts inX1 hown hK hP 0 rfl rfl 3 (by decide) (hts _ tw84) (fun _ h9 => h9) rfl dX5_fromHeadTo_2 ?_
  refine lv_icmp_lt (tgt := 17) hx hb dX5_fromHeadTo_5 (by decide) (fun c5 => ?_) (fun c5 => ?_)
  · refine lv_iload_n hx hb dX5_fromHeadTo_17 rfl (lv_at hl 1 rfl) ?_
    refine lv_aload_n hx hb dX5_fromHeadTo_18 rfl (lv_at hl 0 rfl) ?_
    refine va_get (D := g.1) (ci := 1) (v := .int hd) (C := RX1) (T := TX1) (N := 7) hx hb hts inX1 hown hK hP 0 rfl rfl 3 (by decide) (hts _ tw84) (fun _ h9 => h9) rfl dX5_fromHeadTo_19 ?_
    refine lv_isub hx hb dX5_fromHeadTo_22 ?_
    refine lv_aload_n hx hb dX5_fromHeadTo_23 rfl (lv_at hl 0 rfl) ?_
    refine va_get (D := g.1) (ci := 1) (v := .int sz) (C := RX1) (T := TX1) (N := 7) hx hb hts inX1 hown hK hP 0 rfl rfl 2 (by decide) (hts _ tw79) (fun _ h9 => h9) rfl dX5_fromHeadTo_24 ?_
    refine lv_iadd hx hb dX5_fromHeadTo_27 ?_
    exact W.iret (v := (p0 - hd) + sz) hx hb hr (fun t ht _ => ⟨⟨(some (.int ((p0 - hd) + sz))), [(ao, .inr (1, [.int th, .int ba, .int sz, .int hd, .int tl, .int ph, .int it]))], rfl, ⟨congrArg (fun z : Int32 => some (Value.int z)) (by first | exact (if_pos ‹_›).symm | exact (if_neg ‹_›).symm), rfl⟩, rfl, by rw [ht]; exact hP⟩, hS.F ht⟩) hS.2.2 dX5_fromHeadTo_28
  · refine lv_iload_n hx hb dX5_fromHeadTo_8 rfl (lv_at hl 1 rfl) ?_
    refine lv_aload_n hx hb dX5_fromHeadTo_9 rfl (lv_at hl 0 rfl) ?_
    refine va_get (D := g.1) (ci := 1) (v := .int hd) (C := RX1) (T := TX1) (N := 7) hx hb hts inX1 hown hK hP 0 rfl rfl 3 (by decide) (hts _ tw84) (fun _ h9 => h9) rfl dX5_fromHeadTo_10 ?_
    refine lv_isub hx hb dX5_fromHeadTo_13 ?_
    refine lv_goto (tgt := 28) hx hb dX5_fromHeadTo_14 (by decide) ?_
    exact W.iret (v := p0 - hd) hx hb hr (fun t ht _ => ⟨⟨(some (.int (p0 - hd))), [(ao, .inr (1, [.int th, .int ba, .int sz, .int hd, .int tl, .int ph, .int it]))], rfl, ⟨congrArg (fun z : Int32 => some (Value.int z)) (by first | exact (if_pos ‹_›).symm | exact (if_neg ‹_›).symm), rfl⟩, rfl, by rw [ht]; exact hP⟩, hS.F ht⟩) hS.2.2 dX5_fromHeadTo_28
set_option maxHeartbeats 4000000 in
set_option maxRecDepth 100000 in
/-- Ring.held -/
theorem kX5_held_X1 (l : Launch) (g : GG) (ao : Nat) (th : Int32) (ba : Int32) (sz : Int32) (hd : Int32) (tl : Int32) (ph : Int32) (it : Int32) : Ct l yX5_held cX5_held 1 (some .int) ({ frames := 1, cells := 0, slots := 0, locals := 21 } : Room) g [.ref ao] [(ao, .inr (1, [.int th, .int ba, .int sz, .int hd, .int tl, .int ph, .int it]))] (fun v w' => v = some (.int (fht hd sz tl)) ∧ w' = [(ao, .inr (1, [.int th, .int ba, .int sz, .int hd, .int tl, .int ph, .int it]))]) := by
  refine Ct.of (by decide) (Nat.le_of_ble_eq_true rfl) ?_
  intro p e s m below meth c A ls H locs hx hb hr hml hlocks hts hown hin hA hS hK hP hD hl
  have hown : s.vm.findClass RX5 = some m.cls := hown
  have hl : lv_has ls 1 [(0, .ref ao)] := hl
  refine lv_aload_n hx hb dX5_held_0 rfl (lv_at hl 0 rfl) ?_
  refine lv_aload_n hx hb dX5_held_1 rfl (lv_at hl 0 rfl) ?_
  refine va_get (D := g.1) (ci := 1) (v := .int tl) (C := RX1) (T := TX1) (N := 7) hx hb hts inX1 hown hK hP 0 rfl rfl 4 (by decide) (hts _ tw91) (fun _ h9 => h9) rfl dX5_held_2 ?_
  refine fr_go (va_runU (As := [.int tl]) (rest := []) ⟨hx, hb, hml, hown, hts⟩ (kX5_fromHeadTo_X1 l g ao th ba sz hd tl ph it tl H.size) (va_cwU 1 hts (gdU (x := yX5_fromHeadTo) (owner := RX5) tw335 tw337 tw338 tw336 tw4 tw340) rfl rfl rfl rfl (by decide +kernel) ⟨Nat.le_of_ble_eq_true rfl, Nat.le_of_ble_eq_true rfl⟩) ⟨Pst.blind, va_recv hK hP (ci := 1) (q0 := 0) rfl rfl, fr_pre hK hP hD [0] rfl rfl⟩ rfl rfl hl.1 rfl (lv_room (Nat.le_of_ble_eq_true rfl)) dX5_held_5 ⟨Nat.le_of_ble_eq_true rfl, Nat.le_of_ble_eq_true rfl⟩) hP hD hS hA [0] rfl (fun v w9 H locs hq hP hD hS => ?_)
  obtain ⟨rfl, rfl⟩ := hq
  have hP : va_P g.1 vwCl [(ao, .inr (1, [.int th, .int ba, .int sz, .int hd, .int tl, .int ph, .int it]))] H := hP
  have hD : va_D A [(ao, .inr (1, [.int th, .int ba, .int sz, .int hd, .int tl, .int ph, .int it]))] := hD
  show W p l e _ s m _ below meth c H locs _ _ _ (F0 m (5 + 3) ls (.int (fht hd sz tl) :: []))
  exact W.iret (v := fht hd sz tl) hx hb hr (fun t ht _ => ⟨⟨(some (.int (fht hd sz tl))), [(ao, .inr (1, [.int th, .int ba, .int sz, .int hd, .int tl, .int ph, .int it]))], rfl, ⟨rfl, rfl⟩, rfl, by rw [ht]; exact hP⟩, hS.F ht⟩) hS.2.2 dX5_held_8
set_option maxHeartbeats 4000000 in
set_option maxRecDepth 100000 in
/-- Submission.make -/
theorem kX6_make (l : Launch) (g : GG) (ao : Nat) (th : Int32) (ba : Int32) (sz : Int32) (hd : Int32) (tl : Int32) (an : Int32) (p0 : Int32) (p1 : Int32) (p2 : Int32) : Ct l yX6_make cX6_make 4 none ({ frames := 1, cells := 0, slots := 0, locals := 22 } : Room) g [.ref ao, .int p0, .int p1, .int p2] [(ao, .inr (5, [.int th, .int ba, .int sz, .int hd, .int tl, .int an]))] (fun v w' => v = none ∧ w' = [(ao, .inr (5, [.int 1, .int p0, .int p1, .int 0, .int 0, .int p2]))]) := by
  refine Ct.of (by decide) (Nat.le_of_ble_eq_true rfl) ?_
  intro p e s m below meth c A ls H locs hx hb hr hml hlocks hts hown hin hA hS hK hP hD hl
  have hown : s.vm.findClass RX6 = some m.cls := hown
  have hl : lv_has ls 4 [(0, .ref ao), (1, .int p0), (2, .int p1), (3, .int p2)] := hl
  refine lv_aload_n hx hb dX6_make_0 rfl (lv_at hl 0 rfl) ?_
  refine lv_iload_n hx hb dX6_make_1 rfl (lv_at hl 1 rfl) ?_
  refine lv_iload_n hx hb dX6_make_2 rfl (lv_at hl 2 rfl) ?_
  refine fr_go (va_runU (As := [.int p0, .int p1]) (rest := []) ⟨hx, hb, hml, hown, hts⟩ (kX5_lay_X6 l g ao th ba sz hd tl an p0 p1 H.size) (va_cwU 2 hts (gdU (x := ⟨"DoorbellDrive$Submission", "lay", "(II)V"⟩) (owner := RX5) tw283 tw284 tw285 tw277 tw4 tw278) rfl rfl rfl rfl (by decide +kernel) ⟨Nat.le_of_ble_eq_true rfl, Nat.le_of_ble_eq_true rfl⟩) ⟨Pst.blind, va_recv hK hP (ci := 5) (q0 := 0) rfl rfl, fr_pre hK hP hD [0] rfl rfl⟩ rfl rfl hl.1 rfl (lv_room (Nat.le_of_ble_eq_true rfl)) dX6_make_3 ⟨Nat.le_of_ble_eq_true rfl, Nat.le_of_ble_eq_true rfl⟩) hP hD hS hA [0] rfl (fun v w9 H locs hq hP hD hS => ?_)
  obtain ⟨rfl, rfl⟩ := hq
  have hP : va_P g.1 vwCl [(ao, .inr (5, [.int 1, .int p0, .int p1, .int 0, .int 0, .int an]))] H := hP
  have hD : va_D A [(ao, .inr (5, [.int 1, .int p0, .int p1, .int 0, .int 0, .int an]))] := hD
  show W p l e _ s m _ below meth c H locs _ _ _ (F0 m (3 + 3) ls ([]))
  refine lv_aload_n hx hb dX6_make_6 rfl (lv_at hl 0 rfl) ?_
  refine lv_iload_n hx hb dX6_make_7 rfl (lv_at hl 3 rfl) ?_
  refine va_put (D := g.1) (ci := 5) (v := .int p2) (ty := .int) (C := RX6) (T := TX6) (N := 6) hx hb hts inX6 tyX6 tyX6_ok nmX6 hown hK hP hD hS 0 rfl rfl 5 (by decide) (hts _ tw67) (fun _ h9 => h9) rfl (by decide +kernel) rfl rfl (Nat.le_of_ble_eq_true rfl) dX6_make_8 (fun H locs hP hD hS => ?_)
  have hP : va_P g.1 vwCl [(ao, .inr (5, [.int 1, .int p0, .int p1, .int 0, .int 0, .int p2]))] H := hP
  have hD : va_D A [(ao, .inr (5, [.int 1, .int p0, .int p1, .int 0, .int 0, .int p2]))] := hD
  exact W.vret hx hb hr (fun t ht _ => ⟨⟨none, [(ao, .inr (5, [.int 1, .int p0, .int p1, .int 0, .int 0, .int p2]))], rfl, ⟨rfl, rfl⟩, rfl, by rw [ht]; exact hP⟩, hS.F ht⟩) hS.2.2 dX6_make_11
set_option maxHeartbeats 4000000 in
set_option maxRecDepth 100000 in
/-- Submission.addressOfHead -/
theorem kX6_addressOfHead (l : Launch) (g : GG) (ao : Nat) (th : Int32) (ba : Int32) (sz : Int32) (hd : Int32) (tl : Int32) (an : Int32) : Ct l yX6_addressOfHead cX6_addressOfHead 1 (some .int) ({ frames := 0, cells := 0, slots := 0, locals := 0 } : Room) g [.ref ao] [(ao, .inr (5, [.int th, .int ba, .int sz, .int hd, .int tl, .int an]))] (fun v w' => v = some (.int (ba + hd * 4)) ∧ w' = [(ao, .inr (5, [.int th, .int ba, .int sz, .int hd, .int tl, .int an]))]) := by
  refine Ct.of (by decide) (Nat.le_of_ble_eq_true rfl) ?_
  intro p e s m below meth c A ls H locs hx hb hr hml hlocks hts hown hin hA hS hK hP hD hl
  have hown : s.vm.findClass RX6 = some m.cls := hown
  have hl : lv_has ls 1 [(0, .ref ao)] := hl
  refine lv_aload_n hx hb dX6_addressOfHead_0 rfl (lv_at hl 0 rfl) ?_
  refine va_get (D := g.1) (ci := 5) (v := .int ba) (C := RX6) (T := TX6) (N := 6) hx hb hts inX6 hown hK hP 0 rfl rfl 1 (by decide) (hts _ tw75) (u_same (hts _ tw76)) rfl dX6_addressOfHead_1 ?_
  refine lv_aload_n hx hb dX6_addressOfHead_4 rfl (lv_at hl 0 rfl) ?_
  refine va_get (D := g.1) (ci := 5) (v := .int hd) (C := RX6) (T := TX6) (N := 6) hx hb hts inX6 hown hK hP 0 rfl rfl 3 (by decide) (hts _ tw85) (u_same (hts _ tw86)) rfl dX6_addressOfHead_5 ?_
  refine lv_iconst (v := 4) hx hb dX6_addressOfHead_8 (by decide) ?_
  refine lv_imul hx hb dX6_addressOfHead_9 ?_
  refine lv_iadd hx hb dX6_addressOfHead_10 ?_
  exact W.iret (v := ba + (hd * 4)) hx hb hr (fun t ht _ => ⟨⟨(some (.int (ba + (hd * 4)))), [(ao, .inr (5, [.int th, .int ba, .int sz, .int hd, .int tl, .int an]))], rfl, ⟨rfl, rfl⟩, rfl, by rw [ht]; exact hP⟩, hS.F ht⟩) hS.2.2 dX6_addressOfHead_11
set_option maxHeartbeats 4000000 in
set_option maxRecDepth 100000 in
/-- Completion.make -/
theorem kX1_make (l : Launch) (g : GG) (ao : Nat) (th : Int32) (ba : Int32) (sz : Int32) (hd : Int32) (tl : Int32) (ph : Int32) (it : Int32) (p0 : Int32) (p1 : Int32) (p2 : Int32) (hz : p2 = 0 ∨ p2 = 1) : Ct l yX1_make cX1_make 4 none ({ frames := 1, cells := 0, slots := 0, locals := 22 } : Room) g [.ref ao, .int p0, .int p1, .int p2] [(ao, .inr (1, [.int th, .int ba, .int sz, .int hd, .int tl, .int ph, .int it]))] (fun v w' => v = none ∧ w' = [(ao, .inr (1, [.int 1, .int p0, .int p1, .int 0, .int 0, .int 1, .int p2]))]) := by
  refine Ct.of (by decide) (Nat.le_of_ble_eq_true rfl) ?_
  intro p e s m below meth c A ls H locs hx hb hr hml hlocks hts hown hin hA hS hK hP hD hl
  have hown : s.vm.findClass RX1 = some m.cls := hown
  have hl : lv_has ls 4 [(0, .ref ao), (1, .int p0), (2, .int p1), (3, .int p2)] := hl
  refine lv_aload_n hx hb dX1_make_0 rfl (lv_at hl 0 rfl) ?_
  refine lv_iload_n hx hb dX1_make_1 rfl (lv_at hl 1 rfl) ?_
  refine lv_iload_n hx hb dX1_make_2 rfl (lv_at hl 2 rfl) ?_
  refine fr_go (va_runU (As := [.int p0, .int p1]) (rest := []) ⟨hx, hb, hml, hown, hts⟩ (kX5_lay_X1 l g ao th ba sz hd tl ph it p0 p1 H.size) (va_cwU 2 hts (gdU (x := ⟨"DoorbellDrive$Completion", "lay", "(II)V"⟩) (owner := RX5) tw273 tw274 tw276 tw277 tw4 tw278) rfl rfl rfl rfl (by decide +kernel) ⟨Nat.le_of_ble_eq_true rfl, Nat.le_of_ble_eq_true rfl⟩) ⟨Pst.blind, va_recv hK hP (ci := 1) (q0 := 0) rfl rfl, fr_pre hK hP hD [0] rfl rfl⟩ rfl rfl hl.1 rfl (lv_room (Nat.le_of_ble_eq_true rfl)) dX1_make_3 ⟨Nat.le_of_ble_eq_true rfl, Nat.le_of_ble_eq_true rfl⟩) hP hD hS hA [0] rfl (fun v w9 H locs hq hP hD hS => ?_)
  obtain ⟨rfl, rfl⟩ := hq
  have hP : va_P g.1 vwCl [(ao, .inr (1, [.int 1, .int p0, .int p1, .int 0, .int 0, .int ph, .int it]))] H := hP
  have hD : va_D A [(ao, .inr (1, [.int 1, .int p0, .int p1, .int 0, .int 0, .int ph, .int it]))] := hD
  show W p l e _ s m _ below meth c H locs _ _ _ (F0 m (3 + 3) ls ([]))
  refine lv_aload_n hx hb dX1_make_6 rfl (lv_at hl 0 rfl) ?_
  refine lv_iconst (v := 1) hx hb dX1_make_7 (by decide) ?_
  refine va_put (D := g.1) (ci := 1) (v := .int 1) (ty := .int) (C := RX1) (T := TX1) (N := 7) hx hb hts inX1 tyX1 tyX1_ok nmX1 hown hK hP hD hS 0 rfl rfl 5 (by decide) (hts _ tw115) (fun _ h9 => h9) rfl (by decide +kernel) rfl rfl (Nat.le_of_ble_eq_true rfl) dX1_make_8 (fun H locs hP hD hS => ?_)
  have hP : va_P g.1 vwCl [(ao, .inr (1, [.int 1, .int p0, .int p1, .int 0, .int 0, .int 1, .int it]))] H := hP
  have hD : va_D A [(ao, .inr (1, [.int 1, .int p0, .int p1, .int 0, .int 0, .int 1, .int it]))] := hD
  refine lv_aload_n hx hb dX1_make_11 rfl (lv_at hl 0 rfl) ?_
  refine lv_iload_n hx hb dX1_make_12 rfl (lv_at hl 3 rfl) ?_
  refine va_put (D := g.1) (ci := 1) (v := .int p2) (ty := .boolean) (C := RX1) (T := TX1) (N := 7) hx hb hts inX1 tyX1 tyX1_ok nmX1 hown hK hP hD hS 0 rfl rfl 6 (by decide) (hts _ tw117) (fun _ h9 => h9) rfl (by decide +kernel) (bz_n (by first | assumption | exact bI_z)) (bz_f (by first | assumption | exact bI_z)) (Nat.le_of_ble_eq_true rfl) dX1_make_13 (fun H locs hP hD hS => ?_)
  have hP : va_P g.1 vwCl [(ao, .inr (1, [.int 1, .int p0, .int p1, .int 0, .int 0, .int 1, .int p2]))] H := hP
  have hD : va_D A [(ao, .inr (1, [.int 1, .int p0, .int p1, .int 0, .int 0, .int 1, .int p2]))] := hD
  exact W.vret hx hb hr (fun t ht _ => ⟨⟨none, [(ao, .inr (1, [.int 1, .int p0, .int p1, .int 0, .int 0, .int 1, .int p2]))], rfl, ⟨rfl, rfl⟩, rfl, by rw [ht]; exact hP⟩, hS.F ht⟩) hS.2.2 dX1_make_16
set_option maxHeartbeats 4000000 in
set_option maxRecDepth 100000 in
/-- Completion.isFull -/
theorem kX1_isFull (l : Launch) (g : GG) (ao : Nat) (th : Int32) (ba : Int32) (sz : Int32) (hd : Int32) (tl : Int32) (ph : Int32) (it : Int32) : Ct l yX1_isFull cX1_isFull 1 (some .boolean) ({ frames := 1, cells := 0, slots := 0, locals := 21 } : Room) g [.ref ao] [(ao, .inr (1, [.int th, .int ba, .int sz, .int hd, .int tl, .int ph, .int it]))] (fun v w' => v = some (.int (bI (bhd sz tl = hd))) ∧ w' = [(ao, .inr (1, [.int th, .int ba, .int sz, .int hd, .int tl, .int ph, .int it]))]) := by
  refine Ct.of (by decide) (Nat.le_of_ble_eq_true rfl) ?_
  intro p e s m below meth c A ls H locs hx hb hr hml hlocks hts hown hin hA hS hK hP hD hl
  have hown : s.vm.findClass RX1 = some m.cls := hown
  have hl : lv_has ls 1 [(0, .ref ao)] := hl
  refine lv_aload_n hx hb dX1_isFull_0 rfl (lv_at hl 0 rfl) ?_
  refine lv_aload_n hx hb dX1_isFull_1 rfl (lv_at hl 0 rfl) ?_
  refine va_get (D := g.1) (ci := 1) (v := .int tl) (C := RX1) (T := TX1) (N := 7) hx hb hts inX1 hown hK hP 0 rfl rfl 4 (by decide) (hts _ tw92) (u_same (hts _ tw93)) rfl dX1_isFull_2 ?_
  refine fr_go (va_runU (As := [.int tl]) (rest := []) ⟨hx, hb, hml, hown, hts⟩ (kX5_behind_X1 l g ao th ba sz hd tl ph it tl H.size) (va_cwU 1 hts (gdU (x := ⟨"DoorbellDrive$Completion", "behind", "(I)I"⟩) (owner := RX5) tw380 tw381 tw383 tw384 tw4 tw385) rfl rfl rfl rfl (by decide +kernel) ⟨Nat.le_of_ble_eq_true rfl, Nat.le_of_ble_eq_true rfl⟩) ⟨Pst.blind, va_recv hK hP (ci := 1) (q0 := 0) rfl rfl, fr_pre hK hP hD [0] rfl rfl⟩ rfl rfl hl.1 rfl (lv_room (Nat.le_of_ble_eq_true rfl)) dX1_isFull_5 ⟨Nat.le_of_ble_eq_true rfl, Nat.le_of_ble_eq_true rfl⟩) hP hD hS hA [0] rfl (fun v w9 H locs hq hP hD hS => ?_)
  obtain ⟨rfl, rfl⟩ := hq
  have hP : va_P g.1 vwCl [(ao, .inr (1, [.int th, .int ba, .int sz, .int hd, .int tl, .int ph, .int it]))] H := hP
  have hD : va_D A [(ao, .inr (1, [.int th, .int ba, .int sz, .int hd, .int tl, .int ph, .int it]))] := hD
  show W p l e _ s m _ below meth c H locs _ _ _ (F0 m (5 + 3) ls (.int (bhd sz tl) :: []))
  refine lv_aload_n hx hb dX1_isFull_8 rfl (lv_at hl 0 rfl) ?_
  refine va_get (D := g.1) (ci := 1) (v := .int hd) (C := RX1) (T := TX1) (N := 7) hx hb hts inX1 hown hK hP 0 rfl rfl 3 (by decide) (hts _ tw87) (u_same (hts _ tw88)) rfl dX1_isFull_9 ?_
  refine lv_icmp_ne (tgt := 19) hx hb dX1_isFull_12 (by decide) (fun c12 => ?_) (fun c12 => ?_)
  · refine lv_iconst (v := 0) hx hb dX1_isFull_19 (by decide) ?_
    exact W.zret (v := 0) hx hb hr (by first | rfl | exact bz_n (by first | assumption | exact bI_z | decide)) (fun t ht _ => ⟨⟨(some (.int 0)), [(ao, .inr (1, [.int th, .int ba, .int sz, .int hd, .int tl, .int ph, .int it]))], rfl, ⟨congrArg (fun z : Int32 => some (Value.int z)) (by first | exact bI_1 ‹_› | exact bI_0 (fun q => q ‹_›) | exact bI_0 (fun q => absurd q ‹_›)), rfl⟩, rfl, by rw [ht]; exact hP⟩, hS.F ht⟩) hS.2.2 dX1_isFull_20
  · refine lv_iconst (v := 1) hx hb dX1_isFull_15 (by decide) ?_
    refine lv_goto (tgt := 20) hx hb dX1_isFull_16 (by decide) ?_
    exact W.zret (v := 1) hx hb hr (by first | rfl | exact bz_n (by first | assumption | exact bI_z | decide)) (fun t ht _ => ⟨⟨(some (.int 1)), [(ao, .inr (1, [.int th, .int ba, .int sz, .int hd, .int tl, .int ph, .int it]))], rfl, ⟨congrArg (fun z : Int32 => some (Value.int z)) (by first | exact bI_1 ‹_› | exact bI_0 (fun q => q ‹_›) | exact bI_0 (fun q => absurd q ‹_›)), rfl⟩, rfl, by rw [ht]; exact hP⟩, hS.F ht⟩) hS.2.2 dX1_isFull_20
set_option maxHeartbeats 4000000 in
set_option maxRecDepth 100000 in
/-- Completion.reaches -/
theorem kX1_reaches (l : Launch) (g : GG) (ao : Nat) (th : Int32) (ba : Int32) (sz : Int32) (hd : Int32) (tl : Int32) (ph : Int32) (it : Int32) (p0 : Int32) : Ct l yX1_reaches cX1_reaches 2 (some .boolean) ({ frames := 2, cells := 0, slots := 0, locals := 41 } : Room) g [.ref ao, .int p0] [(ao, .inr (1, [.int th, .int ba, .int sz, .int hd, .int tl, .int ph, .int it]))] (fun v w' => v = some (.int (bI (rch hd sz tl p0))) ∧ w' = [(ao, .inr (1, [.int th, .int ba, .int sz, .int hd, .int tl, .int ph, .int it]))]) := by
  refine Ct.of (by decide) (Nat.le_of_ble_eq_true rfl) ?_
  intro p e s m below meth c A ls H locs hx hb hr hml hlocks hts hown hin hA hS hK hP hD hl
  have hown : s.vm.findClass RX1 = some m.cls := hown
  have hl : lv_has ls 2 [(0, .ref ao), (1, .int p0)] := hl
  refine lv_aload_n hx hb dX1_reaches_0 rfl (lv_at hl 0 rfl) ?_
  refine lv_iload_n hx hb dX1_reaches_1 rfl (lv_at hl 1 rfl) ?_
  refine fr_go (va_runU (As := [.int p0]) (rest := []) ⟨hx, hb, hml, hown, hts⟩ (kX5_hasPlace_X1 l g ao th ba sz hd tl ph it p0 H.size) (va_cwU 1 hts (gdU (x := ⟨"DoorbellDrive$Completion", "hasPlace", "(I)Z"⟩) (owner := RX5) tw353 tw354 tw355 tw327 tw4 tw328) rfl rfl rfl rfl (by decide +kernel) ⟨Nat.le_of_ble_eq_true rfl, Nat.le_of_ble_eq_true rfl⟩) ⟨Pst.blind, va_recv hK hP (ci := 1) (q0 := 0) rfl rfl, fr_pre hK hP hD [0] rfl rfl⟩ rfl rfl hl.1 rfl (lv_room (Nat.le_of_ble_eq_true rfl)) dX1_reaches_2 ⟨Nat.le_of_ble_eq_true rfl, Nat.le_of_ble_eq_true rfl⟩) hP hD hS hA [0] rfl (fun v w9 H locs hq hP hD hS => ?_)
  obtain ⟨rfl, rfl⟩ := hq
  have hP : va_P g.1 vwCl [(ao, .inr (1, [.int th, .int ba, .int sz, .int hd, .int tl, .int ph, .int it]))] H := hP
  have hD : va_D A [(ao, .inr (1, [.int th, .int ba, .int sz, .int hd, .int tl, .int ph, .int it]))] := hD
  show W p l e _ s m _ below meth c H locs _ _ _ (F0 m (2 + 3) ls (.int (bI (hpl sz p0)) :: []))
  refine lv_if_eq (tgt := 24) hx hb dX1_reaches_5 (by decide) (fun c5 => ?_) (fun c5 => ?_)
  · have c5 := bI_f c5
    refine lv_iconst (v := 0) hx hb dX1_reaches_24 (by decide) ?_
    exact W.zret (v := 0) hx hb hr (by first | rfl | exact bz_n (by first | assumption | exact bI_z | decide)) (fun t ht _ => ⟨⟨(some (.int 0)), [(ao, .inr (1, [.int th, .int ba, .int sz, .int hd, .int tl, .int ph, .int it]))], rfl, ⟨congrArg (fun z : Int32 => some (Value.int z)) (by first | exact bI_1 ⟨‹_›, ‹_›⟩ | exact bI_0 (fun q => q.1 ‹_›) | exact bI_0 (fun q => absurd q.1 ‹_›) | exact bI_0 (fun q => q.2 ‹_›) | exact bI_0 (fun q => absurd q.2 ‹_›)), rfl⟩, rfl, by rw [ht]; exact hP⟩, hS.F ht⟩) hS.2.2 dX1_reaches_25
  · have c5 := bI_t c5
    refine lv_aload_n hx hb dX1_reaches_8 rfl (lv_at hl 0 rfl) ?_
    refine lv_iload_n hx hb dX1_reaches_9 rfl (lv_at hl 1 rfl) ?_
    refine fr_go (va_runU (As := [.int p0]) (rest := []) ⟨hx, hb, hml, hown, hts⟩ (kX5_fromHeadTo_X1 l g ao th ba sz hd tl ph it p0 H.size) (va_cwU 1 hts (gdU (x := ⟨"DoorbellDrive$Completion", "fromHeadTo", "(I)I"⟩) (owner := RX5) tw356 tw357 tw359 tw336 tw4 tw340) rfl rfl rfl rfl (by decide +kernel) ⟨Nat.le_of_ble_eq_true rfl, Nat.le_of_ble_eq_true rfl⟩) ⟨Pst.blind, va_recv hK hP (ci := 1) (q0 := 0) rfl rfl, fr_pre hK hP hD [0] rfl rfl⟩ rfl rfl hl.1 rfl (lv_room (Nat.le_of_ble_eq_true rfl)) dX1_reaches_10 ⟨Nat.le_of_ble_eq_true rfl, Nat.le_of_ble_eq_true rfl⟩) hP hD hS hA [0] rfl (fun v w9 H locs hq hP hD hS => ?_)
    obtain ⟨rfl, rfl⟩ := hq
    have hP : va_P g.1 vwCl [(ao, .inr (1, [.int th, .int ba, .int sz, .int hd, .int tl, .int ph, .int it]))] H := hP
    have hD : va_D A [(ao, .inr (1, [.int th, .int ba, .int sz, .int hd, .int tl, .int ph, .int it]))] := hD
    show W p l e _ s m _ below meth c H locs _ _ _ (F0 m (10 + 3) ls (.int (fht hd sz p0) :: []))
    refine lv_aload_n hx hb dX1_reaches_13 rfl (lv_at hl 0 rfl) ?_
    refine fr_go (va_runU (As := []) (rest := [.int (fht hd sz p0)]) ⟨hx, hb, hml, hown, hts⟩ (kX5_held_X1 l g ao th ba sz hd tl ph it H.size) (va_cwU 0 hts (gdU (x := ⟨"DoorbellDrive$Completion", "held", "()I"⟩) (owner := RX5) tw360 tw361 tw362 tw333 tw4 tw334) rfl rfl rfl rfl (by decide +kernel) ⟨Nat.le_of_ble_eq_true rfl, Nat.le_of_ble_eq_true rfl⟩) ⟨Pst.blind, va_recv hK hP (ci := 1) (q0 := 0) rfl rfl, fr_pre hK hP hD [0] rfl rfl⟩ rfl rfl hl.1 rfl (lv_room (Nat.le_of_ble_eq_true rfl)) dX1_reaches_14 ⟨Nat.le_of_ble_eq_true rfl, Nat.le_of_ble_eq_true rfl⟩) hP hD hS hA [0] rfl (fun v w9 H locs hq hP hD hS => ?_)
    obtain ⟨rfl, rfl⟩ := hq
    have hP : va_P g.1 vwCl [(ao, .inr (1, [.int th, .int ba, .int sz, .int hd, .int tl, .int ph, .int it]))] H := hP
    have hD : va_D A [(ao, .inr (1, [.int th, .int ba, .int sz, .int hd, .int tl, .int ph, .int it]))] := hD
    show W p l e _ s m _ below meth c H locs _ _ _ (F0 m (14 + 3) ls (.int (fht hd sz tl) :: .int (fht hd sz p0) :: []))
    refine lv_icmp_gt (tgt := 24) hx hb dX1_reaches_17 (by decide) (fun c17 => ?_) (fun c17 => ?_)
    · refine lv_iconst (v := 0) hx hb dX1_reaches_24 (by decide) ?_
      exact W.zret (v := 0) hx hb hr (by first | rfl | exact bz_n (by first | assumption | exact bI_z | decide)) (fun t ht _ => ⟨⟨(some (.int 0)), [(ao, .inr (1, [.int th, .int ba, .int sz, .int hd, .int tl, .int ph, .int it]))], rfl, ⟨congrArg (fun z : Int32 => some (Value.int z)) (by first | exact bI_1 ⟨‹_›, ‹_›⟩ | exact bI_0 (fun q => q.1 ‹_›) | exact bI_0 (fun q => absurd q.1 ‹_›) | exact bI_0 (fun q => q.2 ‹_›) | exact bI_0 (fun q => absurd q.2 ‹_›)), rfl⟩, rfl, by rw [ht]; exact hP⟩, hS.F ht⟩) hS.2.2 dX1_reaches_25
    · refine lv_iconst (v := 1) hx hb dX1_reaches_20 (by decide) ?_
      refine lv_goto (tgt := 25) hx hb dX1_reaches_21 (by decide) ?_
      exact W.zret (v := 1) hx hb hr (by first | rfl | exact bz_n (by first | assumption | exact bI_z | decide)) (fun t ht _ => ⟨⟨(some (.int 1)), [(ao, .inr (1, [.int th, .int ba, .int sz, .int hd, .int tl, .int ph, .int it]))], rfl, ⟨congrArg (fun z : Int32 => some (Value.int z)) (by first | exact bI_1 ⟨‹_›, ‹_›⟩ | exact bI_0 (fun q => q.1 ‹_›) | exact bI_0 (fun q => absurd q.1 ‹_›) | exact bI_0 (fun q => q.2 ‹_›) | exact bI_0 (fun q => absurd q.2 ‹_›)), rfl⟩, rfl, by rw [ht]; exact hP⟩, hS.F ht⟩) hS.2.2 dX1_reaches_25
set_option maxHeartbeats 4000000 in
set_option maxRecDepth 100000 in
/-- Completion.addressOfTail -/
theorem kX1_addressOfTail (l : Launch) (g : GG) (ao : Nat) (th : Int32) (ba : Int32) (sz : Int32) (hd : Int32) (tl : Int32) (ph : Int32) (it : Int32) : Ct l yX1_addressOfTail cX1_addressOfTail 1 (some .int) ({ frames := 0, cells := 0, slots := 0, locals := 0 } : Room) g [.ref ao] [(ao, .inr (1, [.int th, .int ba, .int sz, .int hd, .int tl, .int ph, .int it]))] (fun v w' => v = some (.int (ba + tl)) ∧ w' = [(ao, .inr (1, [.int th, .int ba, .int sz, .int hd, .int tl, .int ph, .int it]))]) := by
  refine Ct.of (by decide) (Nat.le_of_ble_eq_true rfl) ?_
  intro p e s m below meth c A ls H locs hx hb hr hml hlocks hts hown hin hA hS hK hP hD hl
  have hown : s.vm.findClass RX1 = some m.cls := hown
  have hl : lv_has ls 1 [(0, .ref ao)] := hl
  refine lv_aload_n hx hb dX1_addressOfTail_0 rfl (lv_at hl 0 rfl) ?_
  refine va_get (D := g.1) (ci := 1) (v := .int ba) (C := RX1) (T := TX1) (N := 7) hx hb hts inX1 hown hK hP 0 rfl rfl 1 (by decide) (hts _ tw77) (u_same (hts _ tw78)) rfl dX1_addressOfTail_1 ?_
  refine lv_aload_n hx hb dX1_addressOfTail_4 rfl (lv_at hl 0 rfl) ?_
  refine va_get (D := g.1) (ci := 1) (v := .int tl) (C := RX1) (T := TX1) (N := 7) hx hb hts inX1 hown hK hP 0 rfl rfl 4 (by decide) (hts _ tw92) (u_same (hts _ tw93)) rfl dX1_addressOfTail_5 ?_
  refine lv_iadd hx hb dX1_addressOfTail_8 ?_
  exact W.iret (v := ba + tl) hx hb hr (fun t ht _ => ⟨⟨(some (.int (ba + tl))), [(ao, .inr (1, [.int th, .int ba, .int sz, .int hd, .int tl, .int ph, .int it]))], rfl, ⟨rfl, rfl⟩, rfl, by rw [ht]; exact hP⟩, hS.F ht⟩) hS.2.2 dX1_addressOfTail_9
set_option maxHeartbeats 4000000 in
set_option maxRecDepth 100000 in
/-- Completion.advance -/
theorem kX1_advance (l : Launch) (g : GG) (ao : Nat) (th : Int32) (ba : Int32) (sz : Int32) (hd : Int32) (tl : Int32) (ph : Int32) (it : Int32) : Ct l yX1_advance cX1_advance 1 none ({ frames := 1, cells := 0, slots := 0, locals := 21 } : Room) g [.ref ao] [(ao, .inr (1, [.int th, .int ba, .int sz, .int hd, .int tl, .int ph, .int it]))] (fun v w' => v = none ∧ w' = [(ao, .inr (1, [.int th, .int ba, .int sz, .int hd, .int (bhd sz tl), .int (if bhd sz tl = 0 then 1 - ph else ph), .int it]))]) := by
  refine Ct.of (by decide) (Nat.le_of_ble_eq_true rfl) ?_
  intro p e s m below meth c A ls H locs hx hb hr hml hlocks hts hown hin hA hS hK hP hD hl
  have hown : s.vm.findClass RX1 = some m.cls := hown
  have hl : lv_has ls 1 [(0, .ref ao)] := hl
  refine lv_aload_n hx hb dX1_advance_0 rfl (lv_at hl 0 rfl) ?_
  refine lv_aload_n hx hb dX1_advance_1 rfl (lv_at hl 0 rfl) ?_
  refine lv_aload_n hx hb dX1_advance_2 rfl (lv_at hl 0 rfl) ?_
  refine va_get (D := g.1) (ci := 1) (v := .int tl) (C := RX1) (T := TX1) (N := 7) hx hb hts inX1 hown hK hP 0 rfl rfl 4 (by decide) (hts _ tw92) (u_same (hts _ tw93)) rfl dX1_advance_3 ?_
  refine fr_go (va_runU (As := [.int tl]) (rest := [.ref ao]) ⟨hx, hb, hml, hown, hts⟩ (kX5_behind_X1 l g ao th ba sz hd tl ph it tl H.size) (va_cwU 1 hts (gdU (x := ⟨"DoorbellDrive$Completion", "behind", "(I)I"⟩) (owner := RX5) tw380 tw381 tw383 tw384 tw4 tw385) rfl rfl rfl rfl (by decide +kernel) ⟨Nat.le_of_ble_eq_true rfl, Nat.le_of_ble_eq_true rfl⟩) ⟨Pst.blind, va_recv hK hP (ci := 1) (q0 := 0) rfl rfl, fr_pre hK hP hD [0] rfl rfl⟩ rfl rfl hl.1 rfl (lv_room (Nat.le_of_ble_eq_true rfl)) dX1_advance_6 ⟨Nat.le_of_ble_eq_true rfl, Nat.le_of_ble_eq_true rfl⟩) hP hD hS hA [0] rfl (fun v w9 H locs hq hP hD hS => ?_)
  obtain ⟨rfl, rfl⟩ := hq
  have hP : va_P g.1 vwCl [(ao, .inr (1, [.int th, .int ba, .int sz, .int hd, .int tl, .int ph, .int it]))] H := hP
  have hD : va_D A [(ao, .inr (1, [.int th, .int ba, .int sz, .int hd, .int tl, .int ph, .int it]))] := hD
  show W p l e _ s m _ below meth c H locs _ _ _ (F0 m (6 + 3) ls (.int (bhd sz tl) :: .ref ao :: []))
  refine va_put (D := g.1) (ci := 1) (v := .int (bhd sz tl)) (ty := .int) (C := RX1) (T := TX1) (N := 7) hx hb hts inX1 tyX1 tyX1_ok nmX1 hown hK hP hD hS 0 rfl rfl 4 (by decide) (hts _ tw92) (u_same (hts _ tw93)) rfl (by decide +kernel) rfl rfl (Nat.le_of_ble_eq_true rfl) dX1_advance_9 (fun H locs hP hD hS => ?_)
  have hP : va_P g.1 vwCl [(ao, .inr (1, [.int th, .int ba, .int sz, .int hd, .int (bhd sz tl), .int ph, .int it]))] H := hP
  have hD : va_D A [(ao, .inr (1, [.int th, .int ba, .int sz, .int hd, .int (bhd sz tl), .int ph, .int it]))] := hD
  refine lv_aload_n hx hb dX1_advance_12 rfl (lv_at hl 0 rfl) ?_
  refine va_get (D := g.1) (ci := 1) (v := .int (bhd sz tl)) (C := RX1) (T := TX1) (N := 7) hx hb hts inX1 hown hK hP 0 rfl rfl 4 (by decide) (hts _ tw92) (u_same (hts _ tw93)) rfl dX1_advance_13 ?_
  refine lv_if_ne (tgt := 29) hx hb dX1_advance_16 (by decide) (fun c16 => ?_) (fun c16 => ?_)
  · exact W.vret hx hb hr (fun t ht _ => ⟨⟨none, [(ao, .inr (1, [.int th, .int ba, .int sz, .int hd, .int (bhd sz tl), .int ph, .int it]))], rfl, ⟨rfl, by first | rw [if_pos ‹_›] | rw [if_neg ‹_›]⟩, rfl, by rw [ht]; exact hP⟩, hS.F ht⟩) hS.2.2 dX1_advance_29
  · refine lv_aload_n hx hb dX1_advance_19 rfl (lv_at hl 0 rfl) ?_
    refine lv_iconst (v := 1) hx hb dX1_advance_20 (by decide) ?_
    refine lv_aload_n hx hb dX1_advance_21 rfl (lv_at hl 0 rfl) ?_
    refine va_get (D := g.1) (ci := 1) (v := .int ph) (C := RX1) (T := TX1) (N := 7) hx hb hts inX1 hown hK hP 0 rfl rfl 5 (by decide) (hts _ tw115) (fun _ h9 => h9) rfl dX1_advance_22 ?_
    refine lv_isub hx hb dX1_advance_25 ?_
    refine va_put (D := g.1) (ci := 1) (v := .int (1 - ph)) (ty := .int) (C := RX1) (T := TX1) (N := 7) hx hb hts inX1 tyX1 tyX1_ok nmX1 hown hK hP hD hS 0 rfl rfl 5 (by decide) (hts _ tw115) (fun _ h9 => h9) rfl (by decide +kernel) rfl rfl (Nat.le_of_ble_eq_true rfl) dX1_advance_26 (fun H locs hP hD hS => ?_)
    have hP : va_P g.1 vwCl [(ao, .inr (1, [.int th, .int ba, .int sz, .int hd, .int (bhd sz tl), .int (1 - ph), .int it]))] H := hP
    have hD : va_D A [(ao, .inr (1, [.int th, .int ba, .int sz, .int hd, .int (bhd sz tl), .int (1 - ph), .int it]))] := hD
    exact W.vret hx hb hr (fun t ht _ => ⟨⟨none, [(ao, .inr (1, [.int th, .int ba, .int sz, .int hd, .int (bhd sz tl), .int (1 - ph), .int it]))], rfl, ⟨rfl, by first | rw [if_pos ‹_›] | rw [if_neg ‹_›]⟩, rfl, by rw [ht]; exact hP⟩, hS.F ht⟩) hS.2.2 dX1_advance_29
