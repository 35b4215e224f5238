set_option maxHeartbeats 4000000 in
set_option maxRecDepth 100000 in
/-- Memory.holds -/
theorem kX4_holds (l : Launch) (g : GG) (x : Int64) : Ct l yX4_holds cX4_holds 2 (some .boolean) ({ frames := 0, cells := 0, slots := 0, locals := 0 } : Room) g [.long x] [] (fun v w' => v = some (.int (bI (hol x))) ∧ w' = []) := by
  refine Ct.of (by decide) (Nat.le_of_ble_eq_true rfl) ?_
  intro p e s m below meth c A ls H locs hx hb hr hml hlocks hts hown hin hA hS hK hP hD hl
  have hown : s.vm.findClass RX4 = some m.cls := hown
  have hl : lv_has ls 2 [(0, .long x)] := hl
  refine lv_lload_n hx hb dX4_holds_0 rfl (lv_at hl 0 rfl) ?_
  refine lv_lconst (v := 0) hx hb dX4_holds_1 (by decide) ?_
  refine W.lcmp hx hb dX4_holds_2 ?_
  refine lv_if_lt (tgt := 18) hx hb dX4_holds_3 (by decide) (fun c3 => ?_) (fun c3 => ?_)
  · have c3 := (lg_cmp_lt x 0).mp c3
    refine lv_iconst (v := 0) hx hb dX4_holds_18 (by decide) ?_
    exact W.zret (v := 0) hx hb hr (by first | rfl | exact bz_n (by first | assumption | exact bI_z | decide)) (fun t ht _ => ⟨⟨(some (.int 0)), [], rfl, ⟨congrArg (fun z : Int32 => some (Value.int z)) (by first | exact bI_1 ⟨‹_›, ‹_›⟩ | exact bI_0 (fun q => q.1 ‹_›) | exact bI_0 (fun q => absurd q.1 ‹_›) | exact bI_0 (fun q => q.2 ‹_›) | exact bI_0 (fun q => absurd q.2 ‹_›)), rfl⟩, rfl, by rw [ht]; exact hP⟩, hS.F ht⟩) hS.2.2 dX4_holds_19
  · have c3 := (not_congr (lg_cmp_lt x 0)).mp c3
    refine lv_lload_n hx hb dX4_holds_6 rfl (lv_at hl 0 rfl) ?_
    refine lv_ldc2 hx hb hown (hts _ tw240) dX4_holds_7 ?_
    refine W.lcmp hx hb dX4_holds_10 ?_
    refine lv_if_ge (tgt := 18) hx hb dX4_holds_11 (by decide) (fun c11 => ?_) (fun c11 => ?_)
    · have c11 := (lg_cmp_ge x 1024).mp c11
      refine lv_iconst (v := 0) hx hb dX4_holds_18 (by decide) ?_
      exact W.zret (v := 0) hx hb hr (by first | rfl | exact bz_n (by first | assumption | exact bI_z | decide)) (fun t ht _ => ⟨⟨(some (.int 0)), [], rfl, ⟨congrArg (fun z : Int32 => some (Value.int z)) (by first | exact bI_1 ⟨‹_›, ‹_›⟩ | exact bI_0 (fun q => q.1 ‹_›) | exact bI_0 (fun q => absurd q.1 ‹_›) | exact bI_0 (fun q => q.2 ‹_›) | exact bI_0 (fun q => absurd q.2 ‹_›)), rfl⟩, rfl, by rw [ht]; exact hP⟩, hS.F ht⟩) hS.2.2 dX4_holds_19
    · have c11 := (not_congr (lg_cmp_ge x 1024)).mp c11
      refine lv_iconst (v := 1) hx hb dX4_holds_14 (by decide) ?_
      refine lv_goto (tgt := 19) hx hb dX4_holds_15 (by decide) ?_
      exact W.zret (v := 1) hx hb hr (by first | rfl | exact bz_n (by first | assumption | exact bI_z | decide)) (fun t ht _ => ⟨⟨(some (.int 1)), [], rfl, ⟨congrArg (fun z : Int32 => some (Value.int z)) (by first | exact bI_1 ⟨‹_›, ‹_›⟩ | exact bI_0 (fun q => q.1 ‹_›) | exact bI_0 (fun q => absurd q.1 ‹_›) | exact bI_0 (fun q => q.2 ‹_›) | exact bI_0 (fun q => absurd q.2 ‹_›)), rfl⟩, rfl, by rw [ht]; exact hP⟩, hS.F ht⟩) hS.2.2 dX4_holds_19
set_option maxHeartbeats 4000000 in
set_option maxRecDepth 100000 in
/-- Memory.holdsPage -/
theorem kX4_holdsPage (l : Launch) (g : GG) (x : Int64) : Ct l yX4_holdsPage cX4_holdsPage 2 (some .boolean) ({ frames := 0, cells := 0, slots := 0, locals := 0 } : Room) g [.long x] [] (fun v w' => v = some (.int (bI (hpg x))) ∧ w' = []) := by
  refine Ct.of (by decide) (Nat.le_of_ble_eq_true rfl) ?_
  intro p e s m below meth c A ls H locs hx hb hr hml hlocks hts hown hin hA hS hK hP hD hl
  have hown : s.vm.findClass RX4 = some m.cls := hown
  have hl : lv_has ls 2 [(0, .long x)] := hl
  refine lv_lload_n hx hb dX4_holdsPage_0 rfl (lv_at hl 0 rfl) ?_
  refine lv_lconst (v := 0) hx hb dX4_holdsPage_1 (by decide) ?_
  refine W.lcmp hx hb dX4_holdsPage_2 ?_
  refine lv_if_lt (tgt := 28) hx hb dX4_holdsPage_3 (by decide) (fun c3 => ?_) (fun c3 => ?_)
  · have c3 := (lg_cmp_lt x 0).mp c3
    refine lv_iconst (v := 0) hx hb dX4_holdsPage_28 (by decide) ?_
    exact W.zret (v := 0) hx hb hr (by first | rfl | exact bz_n (by first | assumption | exact bI_z | decide)) (fun t ht _ => ⟨⟨(some (.int 0)), [], rfl, ⟨congrArg (fun z : Int32 => some (Value.int z)) (by first | exact bI_1 ⟨‹_›, ‹_›, ‹_›⟩ | exact bI_0 (fun q => q.1 ‹_›) | exact bI_0 (fun q => absurd q.1 ‹_›) | exact bI_0 (fun q => q.2.1 ‹_›) | exact bI_0 (fun q => absurd q.2.1 ‹_›) | exact bI_0 (fun q => q.2.2 ‹_›) | exact bI_0 (fun q => absurd q.2.2 ‹_›)), rfl⟩, rfl, by rw [ht]; exact hP⟩, hS.F ht⟩) hS.2.2 dX4_holdsPage_29
  · have c3 := (not_congr (lg_cmp_lt x 0)).mp c3
    refine lv_lload_n hx hb dX4_holdsPage_6 rfl (lv_at hl 0 rfl) ?_
    refine lv_ldc2 hx hb hown (hts _ tw240) dX4_holdsPage_7 ?_
    refine W.lcmp hx hb dX4_holdsPage_10 ?_
    refine lv_if_ge (tgt := 28) hx hb dX4_holdsPage_11 (by decide) (fun c11 => ?_) (fun c11 => ?_)
    · have c11 := (lg_cmp_ge x 1024).mp c11
      refine lv_iconst (v := 0) hx hb dX4_holdsPage_28 (by decide) ?_
      exact W.zret (v := 0) hx hb hr (by first | rfl | exact bz_n (by first | assumption | exact bI_z | decide)) (fun t ht _ => ⟨⟨(some (.int 0)), [], rfl, ⟨congrArg (fun z : Int32 => some (Value.int z)) (by first | exact bI_1 ⟨‹_›, ‹_›, ‹_›⟩ | exact bI_0 (fun q => q.1 ‹_›) | exact bI_0 (fun q => absurd q.1 ‹_›) | exact bI_0 (fun q => q.2.1 ‹_›) | exact bI_0 (fun q => absurd q.2.1 ‹_›) | exact bI_0 (fun q => q.2.2 ‹_›) | exact bI_0 (fun q => absurd q.2.2 ‹_›)), rfl⟩, rfl, by rw [ht]; exact hP⟩, hS.F ht⟩) hS.2.2 dX4_holdsPage_29
    · have c11 := (not_congr (lg_cmp_ge x 1024)).mp c11
      refine lv_lload_n hx hb dX4_holdsPage_14 rfl (lv_at hl 0 rfl) ?_
      refine lv_ldc2 hx hb hown (hts _ tw466) dX4_holdsPage_15 ?_
      refine lv_lrem hx hb dX4_holdsPage_18 (by decide) ?_
      refine lv_lconst (v := 0) hx hb dX4_holdsPage_19 (by decide) ?_
      refine W.lcmp hx hb dX4_holdsPage_20 ?_
      refine lv_if_ne (tgt := 28) hx hb dX4_holdsPage_21 (by decide) (fun c21 => ?_) (fun c21 => ?_)
      · have c21 := (not_congr (lg_cmp_eq (x - x / 16 * 16) 0)).mp c21
        refine lv_iconst (v := 0) hx hb dX4_holdsPage_28 (by decide) ?_
        exact W.zret (v := 0) hx hb hr (by first | rfl | exact bz_n (by first | assumption | exact bI_z | decide)) (fun t ht _ => ⟨⟨(some (.int 0)), [], rfl, ⟨congrArg (fun z : Int32 => some (Value.int z)) (by first | exact bI_1 ⟨‹_›, ‹_›, ‹_›⟩ | exact bI_0 (fun q => q.1 ‹_›) | exact bI_0 (fun q => absurd q.1 ‹_›) | exact bI_0 (fun q => q.2.1 ‹_›) | exact bI_0 (fun q => absurd q.2.1 ‹_›) | exact bI_0 (fun q => q.2.2 ‹_›) | exact bI_0 (fun q => absurd q.2.2 ‹_›)), rfl⟩, rfl, by rw [ht]; exact hP⟩, hS.F ht⟩) hS.2.2 dX4_holdsPage_29
      · have c21 := (lg_cmp_eq (x - x / 16 * 16) 0).mp c21
        refine lv_iconst (v := 1) hx hb dX4_holdsPage_24 (by decide) ?_
        refine lv_goto (tgt := 29) hx hb dX4_holdsPage_25 (by decide) ?_
        exact W.zret (v := 1) hx hb hr (by first | rfl | exact bz_n (by first | assumption | exact bI_z | decide)) (fun t ht _ => ⟨⟨(some (.int 1)), [], rfl, ⟨congrArg (fun z : Int32 => some (Value.int z)) (by first | exact bI_1 ⟨‹_›, ‹_›, ‹_›⟩ | exact bI_0 (fun q => q.1 ‹_›) | exact bI_0 (fun q => absurd q.1 ‹_›) | exact bI_0 (fun q => q.2.1 ‹_›) | exact bI_0 (fun q => absurd q.2.1 ‹_›) | exact bI_0 (fun q => q.2.2 ‹_›) | exact bI_0 (fun q => absurd q.2.2 ‹_›)), rfl⟩, rfl, by rw [ht]; exact hP⟩, hS.F ht⟩) hS.2.2 dX4_holdsPage_29
set_option maxHeartbeats 4000000 in
set_option maxRecDepth 100000 in
/-- Memory.placeInPage -/
theorem kX4_placeInPage (l : Launch) (g : GG) (p0 : Int32) : Ct l yX4_placeInPage cX4_placeInPage 1 (some .int) ({ frames := 0, cells := 0, slots := 0, locals := 0 } : Room) g [.int p0] [] (fun v w' => v = some (.int (p0 &&& 15)) ∧ w' = []) := by
  refine Ct.of (by decide) (Nat.le_of_ble_eq_true rfl) ?_
  intro p e s m below meth c A ls H locs hx hb hr hml hlocks hts hown hin hA hS hK hP hD hl
  have hown : s.vm.findClass RX4 = some m.cls := hown
  have hl : lv_has ls 1 [(0, .int p0)] := hl
  refine lv_iload_n hx hb dX4_placeInPage_0 rfl (lv_at hl 0 rfl) ?_
  refine lv_bipush (v := 15) hx hb dX4_placeInPage_1 (by decide) ?_
  refine lv_iand hx hb dX4_placeInPage_3 ?_
  exact W.iret (v := p0 &&& 15) hx hb hr (fun t ht _ => ⟨⟨(some (.int (p0 &&& 15))), [], rfl, ⟨rfl, rfl⟩, rfl, by rw [ht]; exact hP⟩, hS.F ht⟩) hS.2.2 dX4_placeInPage_4
set_option maxHeartbeats 4000000 in
set_option maxRecDepth 100000 in
/-- Memory.at -/
theorem kX4_at (l : Launch) (g : GG) (am : Nat) (al : Nat) (mem : Nat → Int64) (p0 : Int32) : Ct l yX4_at cX4_at 2 (some .long) ({ frames := 1, cells := 0, slots := 0, locals := 21 } : Room) g [.ref am, .int p0] [(am, .inr (4, [.ref al])), (al, .inl (g.2 0, 1024, .inr (.inl mem)))] (fun v w' => v = some (.long (mAt mem p0)) ∧ w' = [(am, .inr (4, [.ref al])), (al, .inl (g.2 0, 1024, .inr (.inl mem)))]) := by
  refine Ct.of (by decide) (Nat.le_of_ble_eq_true rfl) ?_
  intro p e s m below meth c A ls H locs hx hb hr hml hlocks hts hown hin hA hS hK hP hD hl
  have hown : s.vm.findClass RX4 = some m.cls := hown
  have hl : lv_has ls 2 [(0, .ref am), (1, .int p0)] := hl
  refine lv_iload_n hx hb dX4_at_0 rfl (lv_at hl 1 rfl) ?_
  refine lv_i2l hx hb dX4_at_1 rfl ?_
  refine fr_go (va_runS (As := [.long p0.toInt64]) (rest := []) ⟨hx, hb, hml, hown, hts⟩ (kX4_holds l g p0.toInt64 H.size) (va_cwS 1 hts (gdS tw237 tw238 tw2 tw239) rfl rfl rfl (by decide +kernel) ⟨Nat.le_of_ble_eq_true rfl, Nat.le_of_ble_eq_true rfl⟩) ⟨Pst.blind, fr_pre hK hP hD [] rfl rfl⟩ rfl rfl hl.1 rfl (lv_room (Nat.le_of_ble_eq_true rfl)) dX4_at_2 ⟨Nat.le_of_ble_eq_true rfl, Nat.le_of_ble_eq_true rfl⟩) hP hD hS hA [] rfl (fun v w9 H locs hq hP hD hS => ?_)
  obtain ⟨rfl, rfl⟩ := hq
  have hP : va_P g.1 vwCl [(am, .inr (4, [.ref al])), (al, .inl (g.2 0, 1024, .inr (.inl mem)))] H := hP
  have hD : va_D A [(am, .inr (4, [.ref al])), (al, .inl (g.2 0, 1024, .inr (.inl mem)))] := hD
  show W p l e _ s m _ below meth c H locs _ _ _ (F0 m (2 + 3) ls (.int (bI (hol p0.toInt64)) :: []))
  refine lv_if_eq (tgt := 17) hx hb dX4_at_5 (by decide) (fun c5 => ?_) (fun c5 => ?_)
  · have c5 := bI_f c5
    refine lv_lconst (v := 0) hx hb dX4_at_17 (by decide) ?_
    exact W.lret (v := 0) hx hb hr (fun t ht _ => ⟨⟨(some (.long 0)), [(am, .inr (4, [.ref al])), (al, .inl (g.2 0, 1024, .inr (.inl mem)))], rfl, ⟨congrArg (fun z : Int64 => some (Value.long z)) (by first | exact (if_pos ‹_›).symm | exact (if_neg ‹_›).symm), rfl⟩, rfl, by rw [ht]; exact hP⟩, hS.F ht⟩) hS.2.2 dX4_at_18
  · have c5 := bI_t c5
    refine lv_aload_n hx hb dX4_at_8 rfl (lv_at hl 0 rfl) ?_
    refine va_get (D := g.1) (ci := 4) (v := .ref al) (C := RX4) (T := TX4) (N := 1) hx hb hts inX4 hown hK hP 0 rfl rfl 0 (by decide) (hts _ tw27) (fun _ h9 => h9) rfl dX4_at_9 ?_
    refine lv_iload_n hx hb dX4_at_12 rfl (lv_at hl 1 rfl) ?_
    refine va_lald hx hb hK hP 1 0 rfl rfl (hol_in c5) dX4_at_13 ?_
    refine lv_goto (tgt := 18) hx hb dX4_at_14 (by decide) ?_
    exact W.lret (v := mem p0.toNatClampNeg) hx hb hr (fun t ht _ => ⟨⟨(some (.long (mem p0.toNatClampNeg))), [(am, .inr (4, [.ref al])), (al, .inl (g.2 0, 1024, .inr (.inl mem)))], rfl, ⟨congrArg (fun z : Int64 => some (Value.long z)) (by first | exact (if_pos ‹_›).symm | exact (if_neg ‹_›).symm), rfl⟩, rfl, by rw [ht]; exact hP⟩, hS.F ht⟩) hS.2.2 dX4_at_18
set_option maxHeartbeats 4000000 in
set_option maxRecDepth 100000 in
/-- Memory.put -/
theorem kX4_put (l : Launch) (g : GG) (am : Nat) (al : Nat) (mem : Nat → Int64) (p0 : Int32) (v0 : Int64) : Ct l yX4_put cX4_put 4 none ({ frames := 1, cells := 0, slots := 0, locals := 21 } : Room) g [.ref am, .int p0, .long v0] [(am, .inr (4, [.ref al])), (al, .inl (g.2 0, 1024, .inr (.inl mem)))] (fun v w' => v = none ∧ w' = [(am, .inr (4, [.ref al])), (al, .inl (g.2 0, 1024, .inr (.inl (mPut mem p0 v0))))]) := by
  refine Ct.of (by decide) (Nat.le_of_ble_eq_true rfl) ?_
  intro p e s m below meth c A ls H locs hx hb hr hml hlocks hts hown hin hA hS hK hP hD hl
  have hown : s.vm.findClass RX4 = some m.cls := hown
  have hl : lv_has ls 4 [(0, .ref am), (1, .int p0), (2, .long v0)] := hl
  refine lv_iload_n hx hb dX4_put_0 rfl (lv_at hl 1 rfl) ?_
  refine lv_i2l hx hb dX4_put_1 rfl ?_
  refine fr_go (va_runS (As := [.long p0.toInt64]) (rest := []) ⟨hx, hb, hml, hown, hts⟩ (kX4_holds l g p0.toInt64 H.size) (va_cwS 1 hts (gdS tw237 tw238 tw2 tw239) rfl rfl rfl (by decide +kernel) ⟨Nat.le_of_ble_eq_true rfl, Nat.le_of_ble_eq_true rfl⟩) ⟨Pst.blind, fr_pre hK hP hD [] rfl rfl⟩ rfl rfl hl.1 rfl (lv_room (Nat.le_of_ble_eq_true rfl)) dX4_put_2 ⟨Nat.le_of_ble_eq_true rfl, Nat.le_of_ble_eq_true rfl⟩) hP hD hS hA [] rfl (fun v w9 H locs hq hP hD hS => ?_)
  obtain ⟨rfl, rfl⟩ := hq
  have hP : va_P g.1 vwCl [(am, .inr (4, [.ref al])), (al, .inl (g.2 0, 1024, .inr (.inl mem)))] H := hP
  have hD : va_D A [(am, .inr (4, [.ref al])), (al, .inl (g.2 0, 1024, .inr (.inl mem)))] := hD
  show W p l e _ s m _ below meth c H locs _ _ _ (F0 m (2 + 3) ls (.int (bI (hol p0.toInt64)) :: []))
  refine lv_if_eq (tgt := 15) hx hb dX4_put_5 (by decide) (fun c5 => ?_) (fun c5 => ?_)
  · have c5 := bI_f c5
    exact W.vret hx hb hr (fun t ht _ => ⟨⟨none, [(am, .inr (4, [.ref al])), (al, .inl (g.2 0, 1024, .inr (.inl mem)))], rfl, ⟨rfl, by rw [mPut]; first | rw [if_pos ‹_›] | rw [if_neg ‹_›]⟩, rfl, by rw [ht]; exact hP⟩, hS.F ht⟩) hS.2.2 dX4_put_15
  · have c5 := bI_t c5
    refine lv_aload_n hx hb dX4_put_8 rfl (lv_at hl 0 rfl) ?_
    refine va_get (D := g.1) (ci := 4) (v := .ref al) (C := RX4) (T := TX4) (N := 1) hx hb hts inX4 hown hK hP 0 rfl rfl 0 (by decide) (hts _ tw27) (fun _ h9 => h9) rfl dX4_put_9 ?_
    refine lv_iload_n hx hb dX4_put_12 rfl (lv_at hl 1 rfl) ?_
    refine lv_lload_n hx hb dX4_put_13 rfl (lv_at hl 2 rfl) ?_
    refine va_last hx hb hK hP hD hS 1 0 rfl rfl (hol_in c5) dX4_put_14 (fun H locs hP hD hS => ?_)
    have hP : va_P g.1 vwCl [(am, .inr (4, [.ref al])), (al, .inl (g.2 0, 1024, .inr (.inl (vp_updL mem p0.toNatClampNeg v0))))] H := hP
    have hD : va_D A [(am, .inr (4, [.ref al])), (al, .inl (g.2 0, 1024, .inr (.inl (vp_updL mem p0.toNatClampNeg v0))))] := hD
    exact W.vret hx hb hr (fun t ht _ => ⟨⟨none, [(am, .inr (4, [.ref al])), (al, .inl (g.2 0, 1024, .inr (.inl (vp_updL mem p0.toNatClampNeg v0))))], rfl, ⟨rfl, by rw [mPut]; first | rw [if_pos ‹_›] | rw [if_neg ‹_›]⟩, rfl, by rw [ht]; exact hP⟩, hS.F ht⟩) hS.2.2 dX4_put_15
