set_option maxHeartbeats 4000000 in
set_option maxRecDepth 100000 in
/-- Disk.isBlock -/
theorem kX3_isBlock (l : Launch) (g : GG) (x : Int64) : Ct l yX3_isBlock cX3_isBlock 2 (some .boolean) ({ frames := 0, cells := 0, slots := 0, locals := 0 } : Room) g [.long x] [] (fun v w' => v = some (.int (bI (isb x))) ∧ w' = []) := by
  refine Ct.of (by decide) (Nat.le_of_ble_eq_true rfl) ?_
  intro p e s m below meth c A ls H locs hx hb hr hml hlocks hts hown hin hA hS hK hP hD hl
  have hown : s.vm.findClass RX3 = some m.cls := hown
  have hl : lv_has ls 2 [(0, .long x)] := hl
  refine lv_lload_n hx hb dX3_isBlock_0 rfl (lv_at hl 0 rfl) ?_
  refine lv_lconst (v := 0) hx hb dX3_isBlock_1 (by decide) ?_
  refine W.lcmp hx hb dX3_isBlock_2 ?_
  refine lv_if_lt (tgt := 18) hx hb dX3_isBlock_3 (by decide) (fun c3 => ?_) (fun c3 => ?_)
  · have c3 := (lg_cmp_lt x 0).mp c3
    refine lv_iconst (v := 0) hx hb dX3_isBlock_18 (by decide) ?_
    exact W.zret (v := 0) hx hb hr (by first | rfl | exact bz_n (by first | assumption | exact bI_z | decide)) (fun t ht _ => ⟨⟨(some (.int 0)), [], rfl, ⟨congrArg (fun z : Int32 => some (Value.int z)) (by first | exact bI_1 ⟨‹_›, ‹_›⟩ | exact bI_0 (fun q => q.1 ‹_›) | exact bI_0 (fun q => absurd q.1 ‹_›) | exact bI_0 (fun q => q.2 ‹_›) | exact bI_0 (fun q => absurd q.2 ‹_›)), rfl⟩, rfl, by rw [ht]; exact hP⟩, hS.F ht⟩) hS.2.2 dX3_isBlock_19
  · have c3 := (not_congr (lg_cmp_lt x 0)).mp c3
    refine lv_lload_n hx hb dX3_isBlock_6 rfl (lv_at hl 0 rfl) ?_
    refine lv_ldc2 hx hb hown (hts _ tw499) dX3_isBlock_7 ?_
    refine W.lcmp hx hb dX3_isBlock_10 ?_
    refine lv_if_ge (tgt := 18) hx hb dX3_isBlock_11 (by decide) (fun c11 => ?_) (fun c11 => ?_)
    · have c11 := (lg_cmp_ge x 64).mp c11
      refine lv_iconst (v := 0) hx hb dX3_isBlock_18 (by decide) ?_
      exact W.zret (v := 0) hx hb hr (by first | rfl | exact bz_n (by first | assumption | exact bI_z | decide)) (fun t ht _ => ⟨⟨(some (.int 0)), [], rfl, ⟨congrArg (fun z : Int32 => some (Value.int z)) (by first | exact bI_1 ⟨‹_›, ‹_›⟩ | exact bI_0 (fun q => q.1 ‹_›) | exact bI_0 (fun q => absurd q.1 ‹_›) | exact bI_0 (fun q => q.2 ‹_›) | exact bI_0 (fun q => absurd q.2 ‹_›)), rfl⟩, rfl, by rw [ht]; exact hP⟩, hS.F ht⟩) hS.2.2 dX3_isBlock_19
    · have c11 := (not_congr (lg_cmp_ge x 64)).mp c11
      refine lv_iconst (v := 1) hx hb dX3_isBlock_14 (by decide) ?_
      refine lv_goto (tgt := 19) hx hb dX3_isBlock_15 (by decide) ?_
      exact W.zret (v := 1) hx hb hr (by first | rfl | exact bz_n (by first | assumption | exact bI_z | decide)) (fun t ht _ => ⟨⟨(some (.int 1)), [], rfl, ⟨congrArg (fun z : Int32 => some (Value.int z)) (by first | exact bI_1 ⟨‹_›, ‹_›⟩ | exact bI_0 (fun q => q.1 ‹_›) | exact bI_0 (fun q => absurd q.1 ‹_›) | exact bI_0 (fun q => q.2 ‹_›) | exact bI_0 (fun q => absurd q.2 ‹_›)), rfl⟩, rfl, by rw [ht]; exact hP⟩, hS.F ht⟩) hS.2.2 dX3_isBlock_19
set_option maxHeartbeats 4000000 in
set_option maxRecDepth 100000 in
/-- Disk.isLong -/
theorem kX3_isLong (l : Launch) (g : GG) (p0 : Int32) (p1 : Int32) : Ct l yX3_isLong cX3_isLong 2 (some .boolean) ({ frames := 1, cells := 0, slots := 0, locals := 21 } : Room) g [.int p0, .int p1] [] (fun v w' => v = some (.int (bI (isl p0 p1))) ∧ w' = []) := by
  refine Ct.of (by decide) (Nat.le_of_ble_eq_true rfl) ?_
  intro p e s m below meth c A ls H locs hx hb hr hml hlocks hts hown hin hA hS hK hP hD hl
  have hown : s.vm.findClass RX3 = some m.cls := hown
  have hl : lv_has ls 2 [(0, .int p0), (1, .int p1)] := hl
  refine lv_iload_n hx hb dX3_isLong_0 rfl (lv_at hl 0 rfl) ?_
  refine lv_i2l hx hb dX3_isLong_1 rfl ?_
  refine fr_go (va_runS (As := [.long p0.toInt64]) (rest := []) ⟨hx, hb, hml, hown, hts⟩ (kX3_isBlock l g p0.toInt64 H.size) (va_cwS 1 hts (gdS tw512 tw497 tw3 tw498) rfl rfl rfl (by decide +kernel) ⟨Nat.le_of_ble_eq_true rfl, Nat.le_of_ble_eq_true rfl⟩) ⟨Pst.blind, fr_pre hK hP hD [] rfl rfl⟩ rfl rfl hl.1 rfl (lv_room (Nat.le_of_ble_eq_true rfl)) dX3_isLong_2 ⟨Nat.le_of_ble_eq_true rfl, Nat.le_of_ble_eq_true rfl⟩) hP hD hS hA [] rfl (fun v w9 H locs hq hP hD hS => ?_)
  obtain ⟨rfl, rfl⟩ := hq
  have hP : va_P g.1 vwCl [] H := hP
  have hD : va_D A [] := hD
  show W p l e _ s m _ below meth c H locs _ _ _ (F0 m (2 + 3) ls (.int (bI (isb p0.toInt64)) :: []))
  refine lv_if_eq (tgt := 22) hx hb dX3_isLong_5 (by decide) (fun c5 => ?_) (fun c5 => ?_)
  · have c5 := bI_f c5
    refine lv_iconst (v := 0) hx hb dX3_isLong_22 (by decide) ?_
    exact W.zret (v := 0) hx hb hr (by first | rfl | exact bz_n (by first | assumption | exact bI_z | decide)) (fun t ht _ => ⟨⟨(some (.int 0)), [], rfl, ⟨congrArg (fun z : Int32 => some (Value.int z)) (by first | exact bI_1 ⟨‹_›, ‹_›, ‹_›⟩ | exact bI_0 (fun q => q.1 ‹_›) | exact bI_0 (fun q => absurd q.1 ‹_›) | exact bI_0 (fun q => q.2.1 ‹_›) | exact bI_0 (fun q => absurd q.2.1 ‹_›) | exact bI_0 (fun q => q.2.2 ‹_›) | exact bI_0 (fun q => absurd q.2.2 ‹_›)), rfl⟩, rfl, by rw [ht]; exact hP⟩, hS.F ht⟩) hS.2.2 dX3_isLong_23
  · have c5 := bI_t c5
    refine lv_iload_n hx hb dX3_isLong_8 rfl (lv_at hl 1 rfl) ?_
    refine lv_if_lt (tgt := 22) hx hb dX3_isLong_9 (by decide) (fun c9 => ?_) (fun c9 => ?_)
    · refine lv_iconst (v := 0) hx hb dX3_isLong_22 (by decide) ?_
      exact W.zret (v := 0) hx hb hr (by first | rfl | exact bz_n (by first | assumption | exact bI_z | decide)) (fun t ht _ => ⟨⟨(some (.int 0)), [], rfl, ⟨congrArg (fun z : Int32 => some (Value.int z)) (by first | exact bI_1 ⟨‹_›, ‹_›, ‹_›⟩ | exact bI_0 (fun q => q.1 ‹_›) | exact bI_0 (fun q => absurd q.1 ‹_›) | exact bI_0 (fun q => q.2.1 ‹_›) | exact bI_0 (fun q => absurd q.2.1 ‹_›) | exact bI_0 (fun q => q.2.2 ‹_›) | exact bI_0 (fun q => absurd q.2.2 ‹_›)), rfl⟩, rfl, by rw [ht]; exact hP⟩, hS.F ht⟩) hS.2.2 dX3_isLong_23
    · refine lv_iload_n hx hb dX3_isLong_12 rfl (lv_at hl 1 rfl) ?_
      refine lv_bipush (v := 8) hx hb dX3_isLong_13 (by decide) ?_
      refine lv_icmp_ge (tgt := 22) hx hb dX3_isLong_15 (by decide) (fun c15 => ?_) (fun c15 => ?_)
      · refine lv_iconst (v := 0) hx hb dX3_isLong_22 (by decide) ?_
        exact W.zret (v := 0) hx hb hr (by first | rfl | exact bz_n (by first | assumption | exact bI_z | decide)) (fun t ht _ => ⟨⟨(some (.int 0)), [], rfl, ⟨congrArg (fun z : Int32 => some (Value.int z)) (by first | exact bI_1 ⟨‹_›, ‹_›, ‹_›⟩ | exact bI_0 (fun q => q.1 ‹_›) | exact bI_0 (fun q => absurd q.1 ‹_›) | exact bI_0 (fun q => q.2.1 ‹_›) | exact bI_0 (fun q => absurd q.2.1 ‹_›) | exact bI_0 (fun q => q.2.2 ‹_›) | exact bI_0 (fun q => absurd q.2.2 ‹_›)), rfl⟩, rfl, by rw [ht]; exact hP⟩, hS.F ht⟩) hS.2.2 dX3_isLong_23
      · refine lv_iconst (v := 1) hx hb dX3_isLong_18 (by decide) ?_
        refine lv_goto (tgt := 23) hx hb dX3_isLong_19 (by decide) ?_
        exact W.zret (v := 1) hx hb hr (by first | rfl | exact bz_n (by first | assumption | exact bI_z | decide)) (fun t ht _ => ⟨⟨(some (.int 1)), [], rfl, ⟨congrArg (fun z : Int32 => some (Value.int z)) (by first | exact bI_1 ⟨‹_›, ‹_›, ‹_›⟩ | exact bI_0 (fun q => q.1 ‹_›) | exact bI_0 (fun q => absurd q.1 ‹_›) | exact bI_0 (fun q => q.2.1 ‹_›) | exact bI_0 (fun q => absurd q.2.1 ‹_›) | exact bI_0 (fun q => q.2.2 ‹_›) | exact bI_0 (fun q => absurd q.2.2 ‹_›)), rfl⟩, rfl, by rw [ht]; exact hP⟩, hS.F ht⟩) hS.2.2 dX3_isLong_23
set_option maxHeartbeats 4000000 in
set_option maxRecDepth 100000 in
/-- Disk.cachedCount -/
theorem kX3_cachedCount (l : Launch) (g : GG) (ad : Nat) (a1 : Nat) (a2 : Nat) (a3 : Nat) (med : Nat → Int64) (cb : Nat → Int32) (ca : Nat → Int64) (nc : Nat) (cg : Int32) : Ct l yX3_cachedCount cX3_cachedCount 1 (some .int) ({ frames := 0, cells := 0, slots := 0, locals := 0 } : Room) g [.ref ad] [(ad, .inr (3, [.ref a1, .ref a2, .ref a3, .int (nI nc), .int cg])), (a1, .inl (g.2 0, 512, .inr (.inl med))), (a2, .inl (g.2 1, 6, .inl cb)), (a3, .inl (g.2 0, 48, .inr (.inl ca)))] (fun v w' => v = some (.int (nI nc)) ∧ w' = [(ad, .inr (3, [.ref a1, .ref a2, .ref a3, .int (nI nc), .int cg])), (a1, .inl (g.2 0, 512, .inr (.inl med))), (a2, .inl (g.2 1, 6, .inl cb)), (a3, .inl (g.2 0, 48, .inr (.inl ca)))]) := by
  refine Ct.of (by decide) (Nat.le_of_ble_eq_true rfl) ?_
  intro p e s m below meth c A ls H locs hx hb hr hml hlocks hts hown hin hA hS hK hP hD hl
  have hown : s.vm.findClass RX3 = some m.cls := hown
  have hl : lv_has ls 1 [(0, .ref ad)] := hl
  refine lv_aload_n hx hb dX3_cachedCount_0 rfl (lv_at hl 0 rfl) ?_
  refine va_get (D := g.1) (ci := 3) (v := .int (nI nc)) (C := RX3) (T := TX3) (N := 5) hx hb hts inX3 hown hK hP 0 rfl rfl 3 (by decide) (hts _ tw41) (fun _ h9 => h9) rfl dX3_cachedCount_1 ?_
  exact W.iret (v := nI nc) hx hb hr (fun t ht _ => ⟨⟨(some (.int (nI nc))), [(ad, .inr (3, [.ref a1, .ref a2, .ref a3, .int (nI nc), .int cg])), (a1, .inl (g.2 0, 512, .inr (.inl med))), (a2, .inl (g.2 1, 6, .inl cb)), (a3, .inl (g.2 0, 48, .inr (.inl ca)))], rfl, ⟨rfl, rfl⟩, rfl, by rw [ht]; exact hP⟩, hS.F ht⟩) hS.2.2 dX3_cachedCount_4
set_option maxHeartbeats 4000000 in
set_option maxRecDepth 100000 in
/-- Disk.isCaching -/
theorem kX3_isCaching (l : Launch) (g : GG) (ad : Nat) (a1 : Nat) (a2 : Nat) (a3 : Nat) (med : Nat → Int64) (cb : Nat → Int32) (ca : Nat → Int64) (nc : Nat) (cg : Int32) (hz : cg = 0 ∨ cg = 1) : Ct l yX3_isCaching cX3_isCaching 1 (some .boolean) ({ frames := 0, cells := 0, slots := 0, locals := 0 } : Room) g [.ref ad] [(ad, .inr (3, [.ref a1, .ref a2, .ref a3, .int (nI nc), .int cg])), (a1, .inl (g.2 0, 512, .inr (.inl med))), (a2, .inl (g.2 1, 6, .inl cb)), (a3, .inl (g.2 0, 48, .inr (.inl ca)))] (fun v w' => v = some (.int cg) ∧ w' = [(ad, .inr (3, [.ref a1, .ref a2, .ref a3, .int (nI nc), .int cg])), (a1, .inl (g.2 0, 512, .inr (.inl med))), (a2, .inl (g.2 1, 6, .inl cb)), (a3, .inl (g.2 0, 48, .inr (.inl ca)))]) := by
  refine Ct.of (by decide) (Nat.le_of_ble_eq_true rfl) ?_
  intro p e s m below meth c A ls H locs hx hb hr hml hlocks hts hown hin hA hS hK hP hD hl
  have hown : s.vm.findClass RX3 = some m.cls := hown
  have hl : lv_has ls 1 [(0, .ref ad)] := hl
  refine lv_aload_n hx hb dX3_isCaching_0 rfl (lv_at hl 0 rfl) ?_
  refine va_get (D := g.1) (ci := 3) (v := .int cg) (C := RX3) (T := TX3) (N := 5) hx hb hts inX3 hown hK hP 0 rfl rfl 4 (by decide) (hts _ tw42) (fun _ h9 => h9) rfl dX3_isCaching_1 ?_
  exact W.zret (v := cg) hx hb hr (by first | rfl | exact bz_n (by first | assumption | exact bI_z | decide)) (fun t ht _ => ⟨⟨(some (.int cg)), [(ad, .inr (3, [.ref a1, .ref a2, .ref a3, .int (nI nc), .int cg])), (a1, .inl (g.2 0, 512, .inr (.inl med))), (a2, .inl (g.2 1, 6, .inl cb)), (a3, .inl (g.2 0, 48, .inr (.inl ca)))], rfl, ⟨rfl, rfl⟩, rfl, by rw [ht]; exact hP⟩, hS.F ht⟩) hS.2.2 dX3_isCaching_4
set_option maxHeartbeats 4000000 in
set_option maxRecDepth 100000 in
/-- Disk.lose -/
theorem kX3_lose (l : Launch) (g : GG) (ad : Nat) (a1 : Nat) (a2 : Nat) (a3 : Nat) (med : Nat → Int64) (cb : Nat → Int32) (ca : Nat → Int64) (nc : Nat) (cg : Int32) : Ct l yX3_lose cX3_lose 1 none ({ frames := 0, cells := 0, slots := 0, locals := 0 } : Room) g [.ref ad] [(ad, .inr (3, [.ref a1, .ref a2, .ref a3, .int (nI nc), .int cg])), (a1, .inl (g.2 0, 512, .inr (.inl med))), (a2, .inl (g.2 1, 6, .inl cb)), (a3, .inl (g.2 0, 48, .inr (.inl ca)))] (fun v w' => v = none ∧ w' = [(ad, .inr (3, [.ref a1, .ref a2, .ref a3, .int (nI 0), .int cg])), (a1, .inl (g.2 0, 512, .inr (.inl med))), (a2, .inl (g.2 1, 6, .inl cb)), (a3, .inl (g.2 0, 48, .inr (.inl ca)))]) := by
  refine Ct.of (by decide) (Nat.le_of_ble_eq_true rfl) ?_
  intro p e s m below meth c A ls H locs hx hb hr hml hlocks hts hown hin hA hS hK hP hD hl
  have hown : s.vm.findClass RX3 = some m.cls := hown
  have hl : lv_has ls 1 [(0, .ref ad)] := hl
  refine lv_aload_n hx hb dX3_lose_0 rfl (lv_at hl 0 rfl) ?_
  refine lv_iconst (v := 0) hx hb dX3_lose_1 (by decide) ?_
  refine fr_topi (y := nI 0) nI_0.symm ?_
  refine va_put (D := g.1) (ci := 3) (v := .int (nI 0)) (ty := .int) (C := RX3) (T := TX3) (N := 5) hx hb hts inX3 tyX3 tyX3_ok nmX3 hown hK hP hD hS 0 rfl rfl 3 (by decide) (hts _ tw41) (fun _ h9 => h9) rfl (by decide +kernel) rfl rfl (Nat.le_of_ble_eq_true rfl) dX3_lose_2 (fun H locs hP hD hS => ?_)
  have hP : va_P g.1 vwCl [(ad, .inr (3, [.ref a1, .ref a2, .ref a3, .int (nI 0), .int cg])), (a1, .inl (g.2 0, 512, .inr (.inl med))), (a2, .inl (g.2 1, 6, .inl cb)), (a3, .inl (g.2 0, 48, .inr (.inl ca)))] H := hP
  have hD : va_D A [(ad, .inr (3, [.ref a1, .ref a2, .ref a3, .int (nI 0), .int cg])), (a1, .inl (g.2 0, 512, .inr (.inl med))), (a2, .inl (g.2 1, 6, .inl cb)), (a3, .inl (g.2 0, 48, .inr (.inl ca)))] := hD
  exact W.vret hx hb hr (fun t ht _ => ⟨⟨none, [(ad, .inr (3, [.ref a1, .ref a2, .ref a3, .int (nI 0), .int cg])), (a1, .inl (g.2 0, 512, .inr (.inl med))), (a2, .inl (g.2 1, 6, .inl cb)), (a3, .inl (g.2 0, 48, .inr (.inl ca)))], rfl, ⟨rfl, rfl⟩, rfl, by rw [ht]; exact hP⟩, hS.F ht⟩) hS.2.2 dX3_lose_5
set_option maxHeartbeats 4000000 in
set_option maxRecDepth 100000 in
/-- Disk.placeOf -/
theorem kX3_placeOf (l : Launch) (g : GG) (ad : Nat) (a1 : Nat) (a2 : Nat) (a3 : Nat) (med : Nat → Int64) (cb : Nat → Int32) (ca : Nat → Int64) (nc : Nat) (cg : Int32) (p0 : Int32) (hn : nc ≤ 6) : Ct l yX3_placeOf cX3_placeOf 3 (some .int) ({ frames := 0, cells := 0, slots := 0, locals := 0 } : Room) g [.ref ad, .int p0] [(ad, .inr (3, [.ref a1, .ref a2, .ref a3, .int (nI nc), .int cg])), (a1, .inl (g.2 0, 512, .inr (.inl med))), (a2, .inl (g.2 1, 6, .inl cb)), (a3, .inl (g.2 0, 48, .inr (.inl ca)))] (fun v w' => v = some (.int (plc cb p0 nc)) ∧ w' = [(ad, .inr (3, [.ref a1, .ref a2, .ref a3, .int (nI nc), .int cg])), (a1, .inl (g.2 0, 512, .inr (.inl med))), (a2, .inl (g.2 1, 6, .inl cb)), (a3, .inl (g.2 0, 48, .inr (.inl ca)))]) := by
  refine Ct.of (by decide) (Nat.le_of_ble_eq_true rfl) ?_
  intro p e s m below meth c A ls H locs hx hb hr hml hlocks hts hown hin hA hS hK hP hD hl
  have hown : s.vm.findClass RX3 = some m.cls := hown
  have hl : lv_has ls 3 [(0, .ref ad), (1, .int p0)] := hl
  refine lv_iconst (v := 0) hx hb dX3_placeOf_0 (by decide) ?_
  refine fr_topi (y := nI 0) nI_0.symm ?_
  refine lv_istore_n (lv' := [(2, .int (nI 0)), (0, .ref ad), (1, .int p0)]) hx hb dX3_placeOf_1 rfl hl (by decide) rfl (fun ls hl => ?_)
  have lp2 : ∀ (n9 : Nat) (i : Nat) , nc - i < n9 → (i ≤ nc) → (fnd cb p0 i = none) → ∀ (H : Heap) (locs : List Loc) (ls : Array Slot), va_P g.1 vwCl [(ad, .inr (3, [.ref a1, .ref a2, .ref a3, .int (nI nc), .int cg])), (a1, .inl (g.2 0, 512, .inr (.inl med))), (a2, .inl (g.2 1, 6, .inl cb)), (a3, .inl (g.2 0, 48, .inr (.inl ca)))] H → va_D A [(ad, .inr (3, [.ref a1, .ref a2, .ref a3, .int (nI nc), .int cg])), (a1, .inl (g.2 0, 512, .inr (.inl med))), (a2, .inl (g.2 1, 6, .inl cb)), (a3, .inl (g.2 0, 48, .inr (.inl ca)))] → va_S A s.heap H locs → lv_has ls 3 [(2, .int (nI i)), (0, .ref ad), (1, .int p0)] → W p l e ({ frames := 0, cells := 0, slots := 0, locals := 0 } : Room) s m ([.ref ad, .int p0].toArray) below meth c H locs 0 0 (MQ below (Qst g [(ad, .inr (3, [.ref a1, .ref a2, .ref a3, .int (nI nc), .int cg])), (a1, .inl (g.2 0, 512, .inr (.inl med))), (a2, .inl (g.2 1, 6, .inl cb)), (a3, .inl (g.2 0, 48, .inr (.inl ca)))] (fun v w' => v = some (.int (plc cb p0 nc)) ∧ w' = [(ad, .inr (3, [.ref a1, .ref a2, .ref a3, .int (nI nc), .int cg])), (a1, .inl (g.2 0, 512, .inr (.inl med))), (a2, .inl (g.2 1, 6, .inl cb)), (a3, .inl (g.2 0, 48, .inr (.inl ca)))]) A) ([.ref ad, .int p0].toArray) s 0 0 A) (F0 m 2 ls []) := by
    intro n9
    induction n9 with
    | zero => intro i q9; exact absurd q9 (Nat.not_lt_zero _)
    | succ n9 ih2 =>
      intro i hn9 hi hf H locs ls hP hD hS hl
      refine lv_iload_n hx hb dX3_placeOf_2 rfl (lv_at hl 0 rfl) ?_
      refine lv_aload_n hx hb dX3_placeOf_3 rfl (lv_at hl 1 rfl) ?_
      refine va_get (D := g.1) (ci := 3) (v := .int (nI nc)) (C := RX3) (T := TX3) (N := 5) hx hb hts inX3 hown hK hP 0 rfl rfl 3 (by decide) (hts _ tw41) (fun _ h9 => h9) rfl dX3_placeOf_4 ?_
      refine lv_icmp_ge (tgt := 28) hx hb dX3_placeOf_7 (by decide) (fun c7 => ?_) (fun c7 => ?_)
      · have c7 := (nI_leI (a := nc) (b := i) (by omega) (by omega)).mp c7
        refine lv_iconst (v := -1) hx hb dX3_placeOf_28 (by decide) ?_
        exact W.iret (v := -1) hx hb hr (fun t ht _ => ⟨⟨(some (.int (-1))), [(ad, .inr (3, [.ref a1, .ref a2, .ref a3, .int (nI nc), .int cg])), (a1, .inl (g.2 0, 512, .inr (.inl med))), (a2, .inl (g.2 1, 6, .inl cb)), (a3, .inl (g.2 0, 48, .inr (.inl ca)))], rfl, ⟨congrArg (fun z : Int32 => some (Value.int z)) (plc_n (by rw [show nc = i by omega]; exact hf)).symm, rfl⟩, rfl, by rw [ht]; exact hP⟩, hS.F ht⟩) hS.2.2 dX3_placeOf_29
      · have c7 := (not_congr (nI_leI (a := nc) (b := i) (by omega) (by omega))).mp c7
        refine lv_aload_n hx hb dX3_placeOf_10 rfl (lv_at hl 1 rfl) ?_
        refine va_get (D := g.1) (ci := 3) (v := .ref a2) (C := RX3) (T := TX3) (N := 5) hx hb hts inX3 hown hK hP 0 rfl rfl 1 (by decide) (hts _ tw39) (fun _ h9 => h9) rfl dX3_placeOf_11 ?_
        refine lv_iload_n hx hb dX3_placeOf_14 rfl (lv_at hl 0 rfl) ?_
        refine fr_iald (k := i) hx hb hK hP 2 1 rfl rfl (by omega) (by decide) dX3_placeOf_15 ?_
        refine lv_iload_n hx hb dX3_placeOf_16 rfl (lv_at hl 2 rfl) ?_
        refine lv_icmp_ne (tgt := 22) hx hb dX3_placeOf_17 (by decide) (fun c17 => ?_) (fun c17 => ?_)
        · refine lv_iinc (v := nI (i + 1)) (lv' := [(2, .int (nI (i + 1))), (0, .ref ad), (1, .int p0)]) hx hb dX3_placeOf_22 hl (k := 0) rfl (nI_1 _) (by decide) rfl (fun ls hl => ?_)
          refine lv_goto (tgt := 2) hx hb dX3_placeOf_25 (by decide) ?_
          exact ih2 (i + 1) (by omega) (by omega) (fnd_no hf c17) H locs ls hP hD hS (lv_sub hl [0, 1, 2] rfl)
        · refine lv_iload_n hx hb dX3_placeOf_20 rfl (lv_at hl 0 rfl) ?_
          exact W.iret (v := nI i) hx hb hr (fun t ht _ => ⟨⟨(some (.int (nI i))), [(ad, .inr (3, [.ref a1, .ref a2, .ref a3, .int (nI nc), .int cg])), (a1, .inl (g.2 0, 512, .inr (.inl med))), (a2, .inl (g.2 1, 6, .inl cb)), (a3, .inl (g.2 0, 48, .inr (.inl ca)))], rfl, ⟨congrArg (fun z : Int32 => some (Value.int z)) (plc_s (fnd_hit hf c17 (by omega))).symm, rfl⟩, rfl, by rw [ht]; exact hP⟩, hS.F ht⟩) hS.2.2 dX3_placeOf_21
  exact lp2 _ 0 (Nat.lt_succ_self _) (Nat.zero_le _) rfl H locs ls hP hD hS (lv_sub hl [0, 1, 2] rfl)
set_option maxHeartbeats 4000000 in
set_option maxRecDepth 100000 in
/-- Disk.onMedium -/
theorem kX3_onMedium (l : Launch) (g : GG) (ad : Nat) (a1 : Nat) (a2 : Nat) (a3 : Nat) (med : Nat → Int64) (cb : Nat → Int32) (ca : Nat → Int64) (nc : Nat) (cg : Int32) (p0 : Int32) (p1 : Int32) : Ct l yX3_onMedium cX3_onMedium 3 (some .long) ({ frames := 2, cells := 0, slots := 0, locals := 42 } : Room) g [.ref ad, .int p0, .int p1] [(ad, .inr (3, [.ref a1, .ref a2, .ref a3, .int (nI nc), .int cg])), (a1, .inl (g.2 0, 512, .inr (.inl med))), (a2, .inl (g.2 1, 6, .inl cb)), (a3, .inl (g.2 0, 48, .inr (.inl ca)))] (fun v w' => v = some (.long (onM med p0 p1)) ∧ w' = [(ad, .inr (3, [.ref a1, .ref a2, .ref a3, .int (nI nc), .int cg])), (a1, .inl (g.2 0, 512, .inr (.inl med))), (a2, .inl (g.2 1, 6, .inl cb)), (a3, .inl (g.2 0, 48, .inr (.inl ca)))]) := by
  refine Ct.of (by decide) (Nat.le_of_ble_eq_true rfl) ?_
  intro p e s m below meth c A ls H locs hx hb hr hml hlocks hts hown hin hA hS hK hP hD hl
  have hown : s.vm.findClass RX3 = some m.cls := hown
  have hl : lv_has ls 3 [(0, .ref ad), (1, .int p0), (2, .int p1)] := hl
  refine lv_iload_n hx hb dX3_onMedium_0 rfl (lv_at hl 1 rfl) ?_
  refine lv_iload_n hx hb dX3_onMedium_1 rfl (lv_at hl 2 rfl) ?_
  refine fr_go (va_runS (As := [.int p0, .int p1]) (rest := []) ⟨hx, hb, hml, hown, hts⟩ (kX3_isLong l g p0 p1 H.size) (va_cwS 2 hts (gdS tw573 tw574 tw3 tw575) rfl rfl rfl (by decide +kernel) ⟨Nat.le_of_ble_eq_true rfl, Nat.le_of_ble_eq_true rfl⟩) ⟨Pst.blind, fr_pre hK hP hD [] rfl rfl⟩ rfl rfl hl.1 rfl (lv_room (Nat.le_of_ble_eq_true rfl)) dX3_onMedium_2 ⟨Nat.le_of_ble_eq_true rfl, Nat.le_of_ble_eq_true rfl⟩) hP hD hS hA [] rfl (fun v w9 H locs hq hP hD hS => ?_)
  obtain ⟨rfl, rfl⟩ := hq
  have hP : va_P g.1 vwCl [(ad, .inr (3, [.ref a1, .ref a2, .ref a3, .int (nI nc), .int cg])), (a1, .inl (g.2 0, 512, .inr (.inl med))), (a2, .inl (g.2 1, 6, .inl cb)), (a3, .inl (g.2 0, 48, .inr (.inl ca)))] H := hP
  have hD : va_D A [(ad, .inr (3, [.ref a1, .ref a2, .ref a3, .int (nI nc), .int cg])), (a1, .inl (g.2 0, 512, .inr (.inl med))), (a2, .inl (g.2 1, 6, .inl cb)), (a3, .inl (g.2 0, 48, .inr (.inl ca)))] := hD
  show W p l e _ s m _ below meth c H locs _ _ _ (F0 m (2 + 3) ls (.int (bI (isl p0 p1)) :: []))
  refine lv_if_eq (tgt := 22) hx hb dX3_onMedium_5 (by decide) (fun c5 => ?_) (fun c5 => ?_)
  · have c5 := bI_f c5
    refine lv_lconst (v := 0) hx hb dX3_onMedium_22 (by decide) ?_
    exact W.lret (v := 0) hx hb hr (fun t ht _ => ⟨⟨(some (.long 0)), [(ad, .inr (3, [.ref a1, .ref a2, .ref a3, .int (nI nc), .int cg])), (a1, .inl (g.2 0, 512, .inr (.inl med))), (a2, .inl (g.2 1, 6, .inl cb)), (a3, .inl (g.2 0, 48, .inr (.inl ca)))], rfl, ⟨congrArg (fun z : Int64 => some (Value.long z)) (by first | exact (if_pos ‹_›).symm | exact (if_neg ‹_›).symm), rfl⟩, rfl, by rw [ht]; exact hP⟩, hS.F ht⟩) hS.2.2 dX3_onMedium_23
  · have c5 := bI_t c5
    refine lv_aload_n hx hb dX3_onMedium_8 rfl (lv_at hl 0 rfl) ?_
    refine va_get (D := g.1) (ci := 3) (v := .ref a1) (C := RX3) (T := TX3) (N := 5) hx hb hts inX3 hown hK hP 0 rfl rfl 0 (by decide) (hts _ tw38) (fun _ h9 => h9) rfl dX3_onMedium_9 ?_
    refine lv_iload_n hx hb dX3_onMedium_12 rfl (lv_at hl 1 rfl) ?_
    refine lv_bipush (v := 8) hx hb dX3_onMedium_13 (by decide) ?_
    refine lv_imul hx hb dX3_onMedium_15 ?_
    refine lv_iload_n hx hb dX3_onMedium_16 rfl (lv_at hl 2 rfl) ?_
    refine lv_iadd hx hb dX3_onMedium_17 ?_
    refine va_lald hx hb hK hP 1 0 rfl rfl (isl_in c5) dX3_onMedium_18 ?_
    refine lv_goto (tgt := 23) hx hb dX3_onMedium_19 (by decide) ?_
    exact W.lret (v := med (((p0 * 8) + p1).toNatClampNeg)) hx hb hr (fun t ht _ => ⟨⟨(some (.long (med (((p0 * 8) + p1).toNatClampNeg)))), [(ad, .inr (3, [.ref a1, .ref a2, .ref a3, .int (nI nc), .int cg])), (a1, .inl (g.2 0, 512, .inr (.inl med))), (a2, .inl (g.2 1, 6, .inl cb)), (a3, .inl (g.2 0, 48, .inr (.inl ca)))], rfl, ⟨congrArg (fun z : Int64 => some (Value.long z)) (by first | exact (if_pos ‹_›).symm | exact (if_neg ‹_›).symm), rfl⟩, rfl, by rw [ht]; exact hP⟩, hS.F ht⟩) hS.2.2 dX3_onMedium_23
set_option maxHeartbeats 4000000 in
set_option maxRecDepth 100000 in
/-- Disk.asRead -/
theorem kX3_asRead (l : Launch) (g : GG) (ad : Nat) (a1 : Nat) (a2 : Nat) (a3 : Nat) (med : Nat → Int64) (cb : Nat → Int32) (ca : Nat → Int64) (nc : Nat) (cg : Int32) (p0 : Int32) (p1 : Int32) (hn : nc ≤ 6) : Ct l yX3_asRead cX3_asRead 4 (some .long) ({ frames := 3, cells := 0, slots := 0, locals := 64 } : Room) g [.ref ad, .int p0, .int p1] [(ad, .inr (3, [.ref a1, .ref a2, .ref a3, .int (nI nc), .int cg])), (a1, .inl (g.2 0, 512, .inr (.inl med))), (a2, .inl (g.2 1, 6, .inl cb)), (a3, .inl (g.2 0, 48, .inr (.inl ca)))] (fun v w' => v = some (.long (asR med cb ca nc p0 p1)) ∧ w' = [(ad, .inr (3, [.ref a1, .ref a2, .ref a3, .int (nI nc), .int cg])), (a1, .inl (g.2 0, 512, .inr (.inl med))), (a2, .inl (g.2 1, 6, .inl cb)), (a3, .inl (g.2 0, 48, .inr (.inl ca)))]) := by
  refine Ct.of (by decide) (Nat.le_of_ble_eq_true rfl) ?_
  intro p e s m below meth c A ls H locs hx hb hr hml hlocks hts hown hin hA hS hK hP hD hl
  have hown : s.vm.findClass RX3 = some m.cls := hown
  have hl : lv_has ls 4 [(0, .ref ad), (1, .int p0), (2, .int p1)] := hl
  rcases hf : fnd cb p0 nc with _ | k
  · refine lv_aload_n hx hb dX3_asRead_0 rfl (lv_at hl 0 rfl) ?_
    refine lv_iload_n hx hb dX3_asRead_1 rfl (lv_at hl 1 rfl) ?_
    refine fr_go (va_runV (As := [.int p0]) (rest := []) ⟨hx, hb, hml, hown, hts⟩ (kX3_placeOf l g ad a1 a2 a3 med cb ca nc cg p0 (by first | assumption | omega) H.size) (cwV 1 hts (gdV tw513 tw515 tp20 tw3 tw516) rfl rfl rfl (by decide +kernel) ⟨Nat.le_of_ble_eq_true rfl, Nat.le_of_ble_eq_true rfl⟩) ⟨Pst.blind, va_recv hK hP (ci := 3) (q0 := 0) rfl rfl, fr_pre hK hP hD [0, 1, 2, 3] (by decide) rfl⟩ rfl rfl hl.1 rfl (lv_room (Nat.le_of_ble_eq_true rfl)) dX3_asRead_2 ⟨Nat.le_of_ble_eq_true rfl, Nat.le_of_ble_eq_true rfl⟩) hP hD hS hA [0, 1, 2, 3] rfl (fun v w9 H locs hq hP hD hS => ?_)
    obtain ⟨rfl, rfl⟩ := hq
    have hP : va_P g.1 vwCl [(ad, .inr (3, [.ref a1, .ref a2, .ref a3, .int (nI nc), .int cg])), (a1, .inl (g.2 0, 512, .inr (.inl med))), (a2, .inl (g.2 1, 6, .inl cb)), (a3, .inl (g.2 0, 48, .inr (.inl ca)))] H := hP
    have hD : va_D A [(ad, .inr (3, [.ref a1, .ref a2, .ref a3, .int (nI nc), .int cg])), (a1, .inl (g.2 0, 512, .inr (.inl med))), (a2, .inl (g.2 1, 6, .inl cb)), (a3, .inl (g.2 0, 48, .inr (.inl ca)))] := hD
    show W p l e _ s m _ below meth c H locs _ _ _ (F0 m (2 + 3) ls (.int (plc cb p0 nc) :: []))
    refine fr_topi (y := -1) (plc_n hf) ?_
    refine lv_istore_n (lv' := [(3, .int (-1)), (0, .ref ad), (1, .int p0), (2, .int p1)]) hx hb dX3_asRead_5 rfl hl (by decide) rfl (fun ls hl => ?_)
    refine lv_iload_n hx hb dX3_asRead_6 rfl (lv_at hl 0 rfl) ?_
    refine lv_iconst (v := -1) hx hb dX3_asRead_7 (by decide) ?_
    refine lv_icmp_eq (tgt := 33) hx hb dX3_asRead_8 (by decide) (fun _ => ?_) (fun q9 => absurd rfl q9)
    refine lv_aload_n hx hb dX3_asRead_33 rfl (lv_at hl 1 rfl) ?_
    refine lv_iload_n hx hb dX3_asRead_34 rfl (lv_at hl 2 rfl) ?_
    refine lv_iload_n hx hb dX3_asRead_35 rfl (lv_at hl 3 rfl) ?_
    refine fr_go (va_runV (As := [.int p0, .int p1]) (rest := []) ⟨hx, hb, hml, hown, hts⟩ (kX3_onMedium l g ad a1 a2 a3 med cb ca nc cg p0 p1 H.size) (cwV 2 hts (gdV tw580 tw570 tw571 tw3 tw572) rfl rfl rfl (by decide +kernel) ⟨Nat.le_of_ble_eq_true rfl, Nat.le_of_ble_eq_true rfl⟩) ⟨Pst.blind, va_recv hK hP (ci := 3) (q0 := 0) rfl rfl, fr_pre hK hP hD [0, 1, 2, 3] (by decide) rfl⟩ rfl rfl hl.1 rfl (lv_room (Nat.le_of_ble_eq_true rfl)) dX3_asRead_36 ⟨Nat.le_of_ble_eq_true rfl, Nat.le_of_ble_eq_true rfl⟩) hP hD hS hA [0, 1, 2, 3] rfl (fun v w9 H locs hq hP hD hS => ?_)
    obtain ⟨rfl, rfl⟩ := hq
    have hP : va_P g.1 vwCl [(ad, .inr (3, [.ref a1, .ref a2, .ref a3, .int (nI nc), .int cg])), (a1, .inl (g.2 0, 512, .inr (.inl med))), (a2, .inl (g.2 1, 6, .inl cb)), (a3, .inl (g.2 0, 48, .inr (.inl ca)))] H := hP
    have hD : va_D A [(ad, .inr (3, [.ref a1, .ref a2, .ref a3, .int (nI nc), .int cg])), (a1, .inl (g.2 0, 512, .inr (.inl med))), (a2, .inl (g.2 1, 6, .inl cb)), (a3, .inl (g.2 0, 48, .inr (.inl ca)))] := hD
    show W p l e _ s m _ below meth c H locs _ _ _ (F0 m (36 + 3) ls (.long (onM med p0 p1) :: []))
    exact W.lret (v := onM med p0 p1) hx hb hr (fun t ht _ => ⟨⟨(some (.long (onM med p0 p1))), [(ad, .inr (3, [.ref a1, .ref a2, .ref a3, .int (nI nc), .int cg])), (a1, .inl (g.2 0, 512, .inr (.inl med))), (a2, .inl (g.2 1, 6, .inl cb)), (a3, .inl (g.2 0, 48, .inr (.inl ca)))], rfl, ⟨congrArg (fun z : Int64 => some (Value.long z)) (by rw [asR, hf]), rfl⟩, rfl, by rw [ht]; exact hP⟩, hS.F ht⟩) hS.2.2 dX3_asRead_39
  · have hk := fnd_lt hf
    refine lv_aload_n hx hb dX3_asRead_0 rfl (lv_at hl 0 rfl) ?_
    refine lv_iload_n hx hb dX3_asRead_1 rfl (lv_at hl 1 rfl) ?_
    refine fr_go (va_runV (As := [.int p0]) (rest := []) ⟨hx, hb, hml, hown, hts⟩ (kX3_placeOf l g ad a1 a2 a3 med cb ca nc cg p0 (by first | assumption | omega) H.size) (cwV 1 hts (gdV tw513 tw515 tp20 tw3 tw516) rfl rfl rfl (by decide +kernel) ⟨Nat.le_of_ble_eq_true rfl, Nat.le_of_ble_eq_true rfl⟩) ⟨Pst.blind, va_recv hK hP (ci := 3) (q0 := 0) rfl rfl, fr_pre hK hP hD [0, 1, 2, 3] (by decide) rfl⟩ rfl rfl hl.1 rfl (lv_room (Nat.le_of_ble_eq_true rfl)) dX3_asRead_2 ⟨Nat.le_of_ble_eq_true rfl, Nat.le_of_ble_eq_true rfl⟩) hP hD hS hA [0, 1, 2, 3] rfl (fun v w9 H locs hq hP hD hS => ?_)
    obtain ⟨rfl, rfl⟩ := hq
    have hP : va_P g.1 vwCl [(ad, .inr (3, [.ref a1, .ref a2, .ref a3, .int (nI nc), .int cg])), (a1, .inl (g.2 0, 512, .inr (.inl med))), (a2, .inl (g.2 1, 6, .inl cb)), (a3, .inl (g.2 0, 48, .inr (.inl ca)))] H := hP
    have hD : va_D A [(ad, .inr (3, [.ref a1, .ref a2, .ref a3, .int (nI nc), .int cg])), (a1, .inl (g.2 0, 512, .inr (.inl med))), (a2, .inl (g.2 1, 6, .inl cb)), (a3, .inl (g.2 0, 48, .inr (.inl ca)))] := hD
    show W p l e _ s m _ below meth c H locs _ _ _ (F0 m (2 + 3) ls (.int (plc cb p0 nc) :: []))
    refine fr_topi (y := nI k) (plc_s hf) ?_
    refine lv_istore_n (lv' := [(3, .int (nI k)), (0, .ref ad), (1, .int p0), (2, .int p1)]) hx hb dX3_asRead_5 rfl hl (by decide) rfl (fun ls hl => ?_)
    refine lv_iload_n hx hb dX3_asRead_6 rfl (lv_at hl 0 rfl) ?_
    refine lv_iconst (v := -1) hx hb dX3_asRead_7 (by decide) ?_
    refine lv_icmp_eq (tgt := 33) hx hb dX3_asRead_8 (by decide) (fun q9 => absurd q9 (nI_m1 (by omega))) (fun _ => ?_)
    refine lv_iload_n hx hb dX3_asRead_11 rfl (lv_at hl 2 rfl) ?_
    refine lv_iload_n hx hb dX3_asRead_12 rfl (lv_at hl 3 rfl) ?_
    refine fr_go (va_runS (As := [.int p0, .int p1]) (rest := []) ⟨hx, hb, hml, hown, hts⟩ (kX3_isLong l g p0 p1 H.size) (va_cwS 2 hts (gdS tw573 tw574 tw3 tw575) rfl rfl rfl (by decide +kernel) ⟨Nat.le_of_ble_eq_true rfl, Nat.le_of_ble_eq_true rfl⟩) ⟨Pst.blind, fr_pre hK hP hD [] rfl rfl⟩ rfl rfl hl.1 rfl (lv_room (Nat.le_of_ble_eq_true rfl)) dX3_asRead_13 ⟨Nat.le_of_ble_eq_true rfl, Nat.le_of_ble_eq_true rfl⟩) hP hD hS hA [] rfl (fun v w9 H locs hq hP hD hS => ?_)
    obtain ⟨rfl, rfl⟩ := hq
    have hP : va_P g.1 vwCl [(ad, .inr (3, [.ref a1, .ref a2, .ref a3, .int (nI nc), .int cg])), (a1, .inl (g.2 0, 512, .inr (.inl med))), (a2, .inl (g.2 1, 6, .inl cb)), (a3, .inl (g.2 0, 48, .inr (.inl ca)))] H := hP
    have hD : va_D A [(ad, .inr (3, [.ref a1, .ref a2, .ref a3, .int (nI nc), .int cg])), (a1, .inl (g.2 0, 512, .inr (.inl med))), (a2, .inl (g.2 1, 6, .inl cb)), (a3, .inl (g.2 0, 48, .inr (.inl ca)))] := hD
    show W p l e _ s m _ below meth c H locs _ _ _ (F0 m (13 + 3) ls (.int (bI (isl p0 p1)) :: []))
    refine lv_if_eq (tgt := 33) hx hb dX3_asRead_16 (by decide) (fun c16 => ?_) (fun c16 => ?_)
    · have c16 := bI_f c16
      refine lv_aload_n hx hb dX3_asRead_33 rfl (lv_at hl 1 rfl) ?_
      refine lv_iload_n hx hb dX3_asRead_34 rfl (lv_at hl 2 rfl) ?_
      refine lv_iload_n hx hb dX3_asRead_35 rfl (lv_at hl 3 rfl) ?_
      refine fr_go (va_runV (As := [.int p0, .int p1]) (rest := []) ⟨hx, hb, hml, hown, hts⟩ (kX3_onMedium l g ad a1 a2 a3 med cb ca nc cg p0 p1 H.size) (cwV 2 hts (gdV tw580 tw570 tw571 tw3 tw572) rfl rfl rfl (by decide +kernel) ⟨Nat.le_of_ble_eq_true rfl, Nat.le_of_ble_eq_true rfl⟩) ⟨Pst.blind, va_recv hK hP (ci := 3) (q0 := 0) rfl rfl, fr_pre hK hP hD [0, 1, 2, 3] (by decide) rfl⟩ rfl rfl hl.1 rfl (lv_room (Nat.le_of_ble_eq_true rfl)) dX3_asRead_36 ⟨Nat.le_of_ble_eq_true rfl, Nat.le_of_ble_eq_true rfl⟩) hP hD hS hA [0, 1, 2, 3] rfl (fun v w9 H locs hq hP hD hS => ?_)
      obtain ⟨rfl, rfl⟩ := hq
      have hP : va_P g.1 vwCl [(ad, .inr (3, [.ref a1, .ref a2, .ref a3, .int (nI nc), .int cg])), (a1, .inl (g.2 0, 512, .inr (.inl med))), (a2, .inl (g.2 1, 6, .inl cb)), (a3, .inl (g.2 0, 48, .inr (.inl ca)))] H := hP
      have hD : va_D A [(ad, .inr (3, [.ref a1, .ref a2, .ref a3, .int (nI nc), .int cg])), (a1, .inl (g.2 0, 512, .inr (.inl med))), (a2, .inl (g.2 1, 6, .inl cb)), (a3, .inl (g.2 0, 48, .inr (.inl ca)))] := hD
      show W p l e _ s m _ below meth c H locs _ _ _ (F0 m (36 + 3) ls (.long (onM med p0 p1) :: []))
      exact W.lret (v := onM med p0 p1) hx hb hr (fun t ht _ => ⟨⟨(some (.long (onM med p0 p1))), [(ad, .inr (3, [.ref a1, .ref a2, .ref a3, .int (nI nc), .int cg])), (a1, .inl (g.2 0, 512, .inr (.inl med))), (a2, .inl (g.2 1, 6, .inl cb)), (a3, .inl (g.2 0, 48, .inr (.inl ca)))], rfl, ⟨congrArg (fun z : Int64 => some (Value.long z)) (by rw [asR, hf]; first | exact (if_pos c16).symm | exact (if_neg c16).symm), rfl⟩, rfl, by rw [ht]; exact hP⟩, hS.F ht⟩) hS.2.2 dX3_asRead_39
    · have c16 := bI_t c16
      refine lv_aload_n hx hb dX3_asRead_19 rfl (lv_at hl 1 rfl) ?_
      refine va_get (D := g.1) (ci := 3) (v := .ref a3) (C := RX3) (T := TX3) (N := 5) hx hb hts inX3 hown hK hP 0 rfl rfl 2 (by decide) (hts _ tw40) (fun _ h9 => h9) rfl dX3_asRead_20 ?_
      refine lv_iload_n hx hb dX3_asRead_23 rfl (lv_at hl 0 rfl) ?_
      refine lv_bipush (v := 8) hx hb dX3_asRead_24 (by decide) ?_
      refine lv_imul hx hb dX3_asRead_26 ?_
      refine lv_iload_n hx hb dX3_asRead_27 rfl (lv_at hl 3 rfl) ?_
      refine lv_iadd hx hb dX3_asRead_28 ?_
      refine va_lald hx hb hK hP 3 0 rfl rfl (pl_in (by omega) c16.2.1 c16.2.2) dX3_asRead_29 ?_
      refine lv_goto (tgt := 39) hx hb dX3_asRead_30 (by decide) ?_
      exact W.lret (v := ca ((((nI k) * 8) + p1).toNatClampNeg)) hx hb hr (fun t ht _ => ⟨⟨(some (.long (ca ((((nI k) * 8) + p1).toNatClampNeg)))), [(ad, .inr (3, [.ref a1, .ref a2, .ref a3, .int (nI nc), .int cg])), (a1, .inl (g.2 0, 512, .inr (.inl med))), (a2, .inl (g.2 1, 6, .inl cb)), (a3, .inl (g.2 0, 48, .inr (.inl ca)))], rfl, ⟨congrArg (fun z : Int64 => some (Value.long z)) (by rw [asR, hf]; first | exact (if_pos c16).symm | exact (if_neg c16).symm), rfl⟩, rfl, by rw [ht]; exact hP⟩, hS.F ht⟩) hS.2.2 dX3_asRead_39
set_option maxHeartbeats 4000000 in
set_option maxRecDepth 100000 in
/-- Disk.load -/
theorem kX3_load (l : Launch) (g : GG) (ad : Nat) (a1 : Nat) (a2 : Nat) (a3 : Nat) (med : Nat → Int64) (cb : Nat → Int32) (ca : Nat → Int64) (nc : Nat) (cg : Int32) (ar : Nat) (rw : Nat → Int64) (j : Nat) (hn : nc ≤ 6) (hj : j < 64) : Ct l yX3_load cX3_load 4 none ({ frames := 1, cells := 0, slots := 0, locals := 40 } : Room) g [.ref ad, .int (nI j), .ref ar] [(ad, .inr (3, [.ref a1, .ref a2, .ref a3, .int (nI nc), .int cg])), (a1, .inl (g.2 0, 512, .inr (.inl med))), (a2, .inl (g.2 1, 6, .inl cb)), (a3, .inl (g.2 0, 48, .inr (.inl ca))), (ar, .inl (g.2 0, 8, .inr (.inl rw)))] (fun v w' => v = none ∧ w' = [(ad, .inr (3, [.ref a1, .ref a2, .ref a3, .int (nI nc), .int cg])), (a1, .inl (g.2 0, 512, .inr (.inl med))), (a2, .inl (g.2 1, 6, .inl cb)), (a3, .inl (g.2 0, 48, .inr (.inl ca))), (ar, .inl (g.2 0, 8, .inr (.inl (ldR med cb ca nc rw j))))]) := by
  refine Ct.of (by decide) (Nat.le_of_ble_eq_true rfl) ?_
  intro p e s m below meth c A ls H locs hx hb hr hml hlocks hts hown hin hA hS hK hP hD hl
  have hown : s.vm.findClass RX3 = some m.cls := hown
  have hl : lv_has ls 4 [(0, .ref ad), (1, .int (nI j)), (2, .ref ar)] := hl
  rcases hf : fnd cb (nI j) nc with _ | k
  · refine lv_aload_n hx hb dX3_load_0 rfl (lv_at hl 0 rfl) ?_
    refine lv_iload_n hx hb dX3_load_1 rfl (lv_at hl 1 rfl) ?_
    refine fr_go (va_runV (As := [.int (nI j)]) (rest := []) ⟨hx, hb, hml, hown, hts⟩ (kX3_placeOf l g ad a1 a2 a3 med cb ca nc cg (nI j) (by first | assumption | omega) H.size) (cwV 1 hts (gdV tw513 tw515 tp20 tw3 tw516) rfl rfl rfl (by decide +kernel) ⟨Nat.le_of_ble_eq_true rfl, Nat.le_of_ble_eq_true rfl⟩) ⟨Pst.blind, va_recv hK hP (ci := 3) (q0 := 0) rfl rfl, fr_pre hK hP hD [0, 1, 2, 3] (by decide) rfl⟩ rfl rfl hl.1 rfl (lv_room (Nat.le_of_ble_eq_true rfl)) dX3_load_2 ⟨Nat.le_of_ble_eq_true rfl, Nat.le_of_ble_eq_true rfl⟩) hP hD hS hA [0, 1, 2, 3] rfl (fun v w9 H locs hq hP hD hS => ?_)
    obtain ⟨rfl, rfl⟩ := hq
    have hP : va_P g.1 vwCl [(ad, .inr (3, [.ref a1, .ref a2, .ref a3, .int (nI nc), .int cg])), (a1, .inl (g.2 0, 512, .inr (.inl med))), (a2, .inl (g.2 1, 6, .inl cb)), (a3, .inl (g.2 0, 48, .inr (.inl ca))), (ar, .inl (g.2 0, 8, .inr (.inl rw)))] H := hP
    have hD : va_D A [(ad, .inr (3, [.ref a1, .ref a2, .ref a3, .int (nI nc), .int cg])), (a1, .inl (g.2 0, 512, .inr (.inl med))), (a2, .inl (g.2 1, 6, .inl cb)), (a3, .inl (g.2 0, 48, .inr (.inl ca))), (ar, .inl (g.2 0, 8, .inr (.inl rw)))] := hD
    show W p l e _ s m _ below meth c H locs _ _ _ (F0 m (2 + 3) ls (.int (plc cb (nI j) nc) :: []))
    refine fr_topi (y := -1) (plc_n hf) ?_
    refine lv_istore_n (lv' := [(3, .int (-1)), (0, .ref ad), (1, .int (nI j)), (2, .ref ar)]) hx hb dX3_load_5 rfl hl (by decide) rfl (fun ls hl => ?_)
    refine lv_iload_n hx hb dX3_load_6 rfl (lv_at hl 0 rfl) ?_
    refine lv_iconst (v := -1) hx hb dX3_load_7 (by decide) ?_
    refine lv_icmp_eq (tgt := 29) hx hb dX3_load_8 (by decide) (fun _ => ?_) (fun q9 => absurd rfl q9)
    refine lv_iload_n hx hb dX3_load_29 rfl (lv_at hl 2 rfl) ?_
    refine lv_i2l hx hb dX3_load_30 rfl ?_
    refine fr_go (va_runS (As := [.long ((nI j).toInt64)]) (rest := []) ⟨hx, hb, hml, hown, hts⟩ (kX3_isBlock l g ((nI j).toInt64) H.size) (va_cwS 1 hts (gdS tw512 tw497 tw3 tw498) rfl rfl rfl (by decide +kernel) ⟨Nat.le_of_ble_eq_true rfl, Nat.le_of_ble_eq_true rfl⟩) ⟨Pst.blind, fr_pre hK hP hD [] rfl rfl⟩ rfl rfl hl.1 rfl (lv_room (Nat.le_of_ble_eq_true rfl)) dX3_load_31 ⟨Nat.le_of_ble_eq_true rfl, Nat.le_of_ble_eq_true rfl⟩) hP hD hS hA [] rfl (fun v w9 H locs hq hP hD hS => ?_)
    obtain ⟨rfl, rfl⟩ := hq
    have hP : va_P g.1 vwCl [(ad, .inr (3, [.ref a1, .ref a2, .ref a3, .int (nI nc), .int cg])), (a1, .inl (g.2 0, 512, .inr (.inl med))), (a2, .inl (g.2 1, 6, .inl cb)), (a3, .inl (g.2 0, 48, .inr (.inl ca))), (ar, .inl (g.2 0, 8, .inr (.inl rw)))] H := hP
    have hD : va_D A [(ad, .inr (3, [.ref a1, .ref a2, .ref a3, .int (nI nc), .int cg])), (a1, .inl (g.2 0, 512, .inr (.inl med))), (a2, .inl (g.2 1, 6, .inl cb)), (a3, .inl (g.2 0, 48, .inr (.inl ca))), (ar, .inl (g.2 0, 8, .inr (.inl rw)))] := hD
    show W p l e _ s m _ below meth c H locs _ _ _ (F0 m (31 + 3) ls (.int (bI (isb ((nI j).toInt64))) :: []))
    refine lv_if_eq (tgt := 52) hx hb dX3_load_34 (by decide) (fun q9 => absurd q9 (fun q => absurd (isb_j hj) (bI_f q))) (fun _ => ?_)
    refine lv_aload_n hx hb dX3_load_37 rfl (lv_at hl 1 rfl) ?_
    refine va_get (D := g.1) (ci := 3) (v := .ref a1) (C := RX3) (T := TX3) (N := 5) hx hb hts inX3 hown hK hP 0 rfl rfl 0 (by decide) (hts _ tw38) (fun _ h9 => h9) rfl dX3_load_38 ?_
    refine lv_iload_n hx hb dX3_load_41 rfl (lv_at hl 2 rfl) ?_
    refine lv_bipush (v := 8) hx hb dX3_load_42 (by decide) ?_
    refine lv_imul hx hb dX3_load_44 ?_
    refine fr_topi (y := nI (j * 8)) (pk_mul _ 8) ?_
    refine lv_aload_n hx hb dX3_load_45 rfl (lv_at hl 3 rfl) ?_
    refine lv_iconst (v := 0) hx hb dX3_load_46 (by decide) ?_
    refine lv_bipush (v := 8) hx hb dX3_load_47 (by decide) ?_
    refine fr_copyl hx hb (hml.trans hl.1.symm) hown (hts _ tw302) (hts _ tw304) (hts _ tw303) (hts _ tw11) hK hP hD hS 1 4 0 0 rfl rfl rfl rfl (j * 8) 0 8 rfl rfl rfl (by omega) (by omega) (by decide) (by decide) (Nat.le_of_ble_eq_true rfl) (Nat.le_of_ble_eq_true rfl) dX3_load_49 (fun H locs hP hD hS => ?_)
    have hP : va_P g.1 vwCl [(ad, .inr (3, [.ref a1, .ref a2, .ref a3, .int (nI nc), .int cg])), (a1, .inl (g.2 0, 512, .inr (.inl med))), (a2, .inl (g.2 1, 6, .inl cb)), (a3, .inl (g.2 0, 48, .inr (.inl ca))), (ar, .inl (g.2 0, 8, .inr (.inl (va_cpy med rw (j * 8) 0 8))))] H := hP
    have hD : va_D A [(ad, .inr (3, [.ref a1, .ref a2, .ref a3, .int (nI nc), .int cg])), (a1, .inl (g.2 0, 512, .inr (.inl med))), (a2, .inl (g.2 1, 6, .inl cb)), (a3, .inl (g.2 0, 48, .inr (.inl ca))), (ar, .inl (g.2 0, 8, .inr (.inl (va_cpy med rw (j * 8) 0 8))))] := hD
    exact W.vret hx hb hr (fun t ht _ => ⟨⟨none, [(ad, .inr (3, [.ref a1, .ref a2, .ref a3, .int (nI nc), .int cg])), (a1, .inl (g.2 0, 512, .inr (.inl med))), (a2, .inl (g.2 1, 6, .inl cb)), (a3, .inl (g.2 0, 48, .inr (.inl ca))), (ar, .inl (g.2 0, 8, .inr (.inl (va_cpy med rw (j * 8) 0 8))))], rfl, ⟨rfl, by rw [ldR, hf]⟩, rfl, by rw [ht]; exact hP⟩, hS.F ht⟩) hS.2.2 dX3_load_52
  · have hk := fnd_lt hf
    refine lv_aload_n hx hb dX3_load_0 rfl (lv_at hl 0 rfl) ?_
    refine lv_iload_n hx hb dX3_load_1 rfl (lv_at hl 1 rfl) ?_
    refine fr_go (va_runV (As := [.int (nI j)]) (rest := []) ⟨hx, hb, hml, hown, hts⟩ (kX3_placeOf l g ad a1 a2 a3 med cb ca nc cg (nI j) (by first | assumption | omega) H.size) (cwV 1 hts (gdV tw513 tw515 tp20 tw3 tw516) rfl rfl rfl (by decide +kernel) ⟨Nat.le_of_ble_eq_true rfl, Nat.le_of_ble_eq_true rfl⟩) ⟨Pst.blind, va_recv hK hP (ci := 3) (q0 := 0) rfl rfl, fr_pre hK hP hD [0, 1, 2, 3] (by decide) rfl⟩ rfl rfl hl.1 rfl (lv_room (Nat.le_of_ble_eq_true rfl)) dX3_load_2 ⟨Nat.le_of_ble_eq_true rfl, Nat.le_of_ble_eq_true rfl⟩) hP hD hS hA [0, 1, 2, 3] rfl (fun v w9 H locs hq hP hD hS => ?_)
    obtain ⟨rfl, rfl⟩ := hq
    have hP : va_P g.1 vwCl [(ad, .inr (3, [.ref a1, .ref a2, .ref a3, .int (nI nc), .int cg])), (a1, .inl (g.2 0, 512, .inr (.inl med))), (a2, .inl (g.2 1, 6, .inl cb)), (a3, .inl (g.2 0, 48, .inr (.inl ca))), (ar, .inl (g.2 0, 8, .inr (.inl rw)))] H := hP
    have hD : va_D A [(ad, .inr (3, [.ref a1, .ref a2, .ref a3, .int (nI nc), .int cg])), (a1, .inl (g.2 0, 512, .inr (.inl med))), (a2, .inl (g.2 1, 6, .inl cb)), (a3, .inl (g.2 0, 48, .inr (.inl ca))), (ar, .inl (g.2 0, 8, .inr (.inl rw)))] := hD
    show W p l e _ s m _ below meth c H locs _ _ _ (F0 m (2 + 3) ls (.int (plc cb (nI j) nc) :: []))
    refine fr_topi (y := nI k) (plc_s hf) ?_
    refine lv_istore_n (lv' := [(3, .int (nI k)), (0, .ref ad), (1, .int (nI j)), (2, .ref ar)]) hx hb dX3_load_5 rfl hl (by decide) rfl (fun ls hl => ?_)
    refine lv_iload_n hx hb dX3_load_6 rfl (lv_at hl 0 rfl) ?_
    refine lv_iconst (v := -1) hx hb dX3_load_7 (by decide) ?_
    refine lv_icmp_eq (tgt := 29) hx hb dX3_load_8 (by decide) (fun q9 => absurd q9 (nI_m1 (by omega))) (fun _ => ?_)
    refine lv_aload_n hx hb dX3_load_11 rfl (lv_at hl 1 rfl) ?_
    refine va_get (D := g.1) (ci := 3) (v := .ref a3) (C := RX3) (T := TX3) (N := 5) hx hb hts inX3 hown hK hP 0 rfl rfl 2 (by decide) (hts _ tw40) (fun _ h9 => h9) rfl dX3_load_12 ?_
    refine lv_iload_n hx hb dX3_load_15 rfl (lv_at hl 0 rfl) ?_
    refine lv_bipush (v := 8) hx hb dX3_load_16 (by decide) ?_
    refine lv_imul hx hb dX3_load_18 ?_
    refine fr_topi (y := nI (k * 8)) (pk_mul _ 8) ?_
    refine lv_aload_n hx hb dX3_load_19 rfl (lv_at hl 3 rfl) ?_
    refine lv_iconst (v := 0) hx hb dX3_load_20 (by decide) ?_
    refine lv_bipush (v := 8) hx hb dX3_load_21 (by decide) ?_
    refine fr_copyl hx hb (hml.trans hl.1.symm) hown (hts _ tw302) (hts _ tw304) (hts _ tw303) (hts _ tw11) hK hP hD hS 3 4 0 0 rfl rfl rfl rfl (k * 8) 0 8 rfl rfl rfl (by omega) (by omega) (by decide) (by decide) (Nat.le_of_ble_eq_true rfl) (Nat.le_of_ble_eq_true rfl) dX3_load_23 (fun H locs hP hD hS => ?_)
    have hP : va_P g.1 vwCl [(ad, .inr (3, [.ref a1, .ref a2, .ref a3, .int (nI nc), .int cg])), (a1, .inl (g.2 0, 512, .inr (.inl med))), (a2, .inl (g.2 1, 6, .inl cb)), (a3, .inl (g.2 0, 48, .inr (.inl ca))), (ar, .inl (g.2 0, 8, .inr (.inl (va_cpy ca rw (k * 8) 0 8))))] H := hP
    have hD : va_D A [(ad, .inr (3, [.ref a1, .ref a2, .ref a3, .int (nI nc), .int cg])), (a1, .inl (g.2 0, 512, .inr (.inl med))), (a2, .inl (g.2 1, 6, .inl cb)), (a3, .inl (g.2 0, 48, .inr (.inl ca))), (ar, .inl (g.2 0, 8, .inr (.inl (va_cpy ca rw (k * 8) 0 8))))] := hD
    refine lv_goto (tgt := 52) hx hb dX3_load_26 (by decide) ?_
    exact W.vret hx hb hr (fun t ht _ => ⟨⟨none, [(ad, .inr (3, [.ref a1, .ref a2, .ref a3, .int (nI nc), .int cg])), (a1, .inl (g.2 0, 512, .inr (.inl med))), (a2, .inl (g.2 1, 6, .inl cb)), (a3, .inl (g.2 0, 48, .inr (.inl ca))), (ar, .inl (g.2 0, 8, .inr (.inl (va_cpy ca rw (k * 8) 0 8))))], rfl, ⟨rfl, by rw [ldR, hf]⟩, rfl, by rw [ht]; exact hP⟩, hS.F ht⟩) hS.2.2 dX3_load_52
set_option maxHeartbeats 4000000 in
set_option maxRecDepth 100000 in
/-- Disk.flush -/
theorem kX3_flush (l : Launch) (g : GG) (ad : Nat) (a1 : Nat) (a2 : Nat) (a3 : Nat) (med : Nat → Int64) (cb : Nat → Int32) (ca : Nat → Int64) (nc : Nat) (cg : Int32) (hn : nc ≤ 6) (hcb : ∀ k, k < nc → ∃ j : Nat, j < 64 ∧ cb k = nI j) : Ct l yX3_flush cX3_flush 2 none ({ frames := 1, cells := 0, slots := 0, locals := 40 } : Room) g [.ref ad] [(ad, .inr (3, [.ref a1, .ref a2, .ref a3, .int (nI nc), .int cg])), (a1, .inl (g.2 0, 512, .inr (.inl med))), (a2, .inl (g.2 1, 6, .inl cb)), (a3, .inl (g.2 0, 48, .inr (.inl ca)))] (fun v w' => v = none ∧ w' = [(ad, .inr (3, [.ref a1, .ref a2, .ref a3, .int (nI 0), .int cg])), (a1, .inl (g.2 0, 512, .inr (.inl (flM cb ca med nc)))), (a2, .inl (g.2 1, 6, .inl cb)), (a3, .inl (g.2 0, 48, .inr (.inl ca)))]) := by
  refine Ct.of (by decide) (Nat.le_of_ble_eq_true rfl) ?_
  intro p e s m below meth c A ls H locs hx hb hr hml hlocks hts hown hin hA hS hK hP hD hl
  have hown : s.vm.findClass RX3 = some m.cls := hown
  have hl : lv_has ls 2 [(0, .ref ad)] := hl
  refine lv_iconst (v := 0) hx hb dX3_flush_0 (by decide) ?_
  refine fr_topi (y := nI 0) nI_0.symm ?_
  refine lv_istore_n (lv' := [(1, .int (nI 0)), (0, .ref ad)]) hx hb dX3_flush_1 rfl hl (by decide) rfl (fun ls hl => ?_)
  have lp2 : ∀ (n9 : Nat) (i : Nat) , nc - i < n9 → (i ≤ nc) → ∀ (H : Heap) (locs : List Loc) (ls : Array Slot), va_P g.1 vwCl [(ad, .inr (3, [.ref a1, .ref a2, .ref a3, .int (nI nc), .int cg])), (a1, .inl (g.2 0, 512, .inr (.inl (flM cb ca med i)))), (a2, .inl (g.2 1, 6, .inl cb)), (a3, .inl (g.2 0, 48, .inr (.inl ca)))] H → va_D A [(ad, .inr (3, [.ref a1, .ref a2, .ref a3, .int (nI nc), .int cg])), (a1, .inl (g.2 0, 512, .inr (.inl (flM cb ca med i)))), (a2, .inl (g.2 1, 6, .inl cb)), (a3, .inl (g.2 0, 48, .inr (.inl ca)))] → va_S A s.heap H locs → lv_has ls 2 [(1, .int (nI i)), (0, .ref ad)] → W p l e ({ frames := 1, cells := 0, slots := 0, locals := 40 } : Room) s m ([.ref ad].toArray) below meth c H locs 0 0 (MQ below (Qst g [(ad, .inr (3, [.ref a1, .ref a2, .ref a3, .int (nI nc), .int cg])), (a1, .inl (g.2 0, 512, .inr (.inl med))), (a2, .inl (g.2 1, 6, .inl cb)), (a3, .inl (g.2 0, 48, .inr (.inl ca)))] (fun v w' => v = none ∧ w' = [(ad, .inr (3, [.ref a1, .ref a2, .ref a3, .int (nI 0), .int cg])), (a1, .inl (g.2 0, 512, .inr (.inl (flM cb ca med nc)))), (a2, .inl (g.2 1, 6, .inl cb)), (a3, .inl (g.2 0, 48, .inr (.inl ca)))]) A) ([.ref ad].toArray) s 0 0 A) (F0 m 2 ls []) := by
    intro n9
    induction n9 with
    | zero => intro i q9; exact absurd q9 (Nat.not_lt_zero _)
    | succ n9 ih2 =>
      intro i hn9 hi H locs ls hP hD hS hl
      refine lv_iload_n hx hb dX3_flush_2 rfl (lv_at hl 0 rfl) ?_
      refine lv_aload_n hx hb dX3_flush_3 rfl (lv_at hl 1 rfl) ?_
      refine va_get (D := g.1) (ci := 3) (v := .int (nI nc)) (C := RX3) (T := TX3) (N := 5) hx hb hts inX3 hown hK hP 0 rfl rfl 3 (by decide) (hts _ tw41) (fun _ h9 => h9) rfl dX3_flush_4 ?_
      refine lv_icmp_ge (tgt := 42) hx hb dX3_flush_7 (by decide) (fun c7 => ?_) (fun c7 => ?_)
      · have c7 := (nI_leI (a := nc) (b := i) (by omega) (by omega)).mp c7
        refine lv_aload_n hx hb dX3_flush_42 rfl (lv_at hl 1 rfl) ?_
        refine lv_iconst (v := 0) hx hb dX3_flush_43 (by decide) ?_
        refine fr_topi (y := nI 0) nI_0.symm ?_
        refine va_put (D := g.1) (ci := 3) (v := .int (nI 0)) (ty := .int) (C := RX3) (T := TX3) (N := 5) hx hb hts inX3 tyX3 tyX3_ok nmX3 hown hK hP hD hS 0 rfl rfl 3 (by decide) (hts _ tw41) (fun _ h9 => h9) rfl (by decide +kernel) rfl rfl (Nat.le_of_ble_eq_true rfl) dX3_flush_44 (fun H locs hP hD hS => ?_)
        have hP : va_P g.1 vwCl [(ad, .inr (3, [.ref a1, .ref a2, .ref a3, .int (nI 0), .int cg])), (a1, .inl (g.2 0, 512, .inr (.inl (flM cb ca med i)))), (a2, .inl (g.2 1, 6, .inl cb)), (a3, .inl (g.2 0, 48, .inr (.inl ca)))] H := hP
        have hD : va_D A [(ad, .inr (3, [.ref a1, .ref a2, .ref a3, .int (nI 0), .int cg])), (a1, .inl (g.2 0, 512, .inr (.inl (flM cb ca med i)))), (a2, .inl (g.2 1, 6, .inl cb)), (a3, .inl (g.2 0, 48, .inr (.inl ca)))] := hD
        exact W.vret hx hb hr (fun t ht _ => ⟨⟨none, [(ad, .inr (3, [.ref a1, .ref a2, .ref a3, .int (nI 0), .int cg])), (a1, .inl (g.2 0, 512, .inr (.inl (flM cb ca med i)))), (a2, .inl (g.2 1, 6, .inl cb)), (a3, .inl (g.2 0, 48, .inr (.inl ca)))], rfl, ⟨rfl, by rw [show nc = i by omega]⟩, rfl, by rw [ht]; exact hP⟩, hS.F ht⟩) hS.2.2 dX3_flush_47
      · have c7 := (not_congr (nI_leI (a := nc) (b := i) (by omega) (by omega))).mp c7
        obtain ⟨j, hj, ej⟩ := hcb i (by omega)
        refine lv_aload_n hx hb dX3_flush_10 rfl (lv_at hl 1 rfl) ?_
        refine va_get (D := g.1) (ci := 3) (v := .ref a3) (C := RX3) (T := TX3) (N := 5) hx hb hts inX3 hown hK hP 0 rfl rfl 2 (by decide) (hts _ tw40) (fun _ h9 => h9) rfl dX3_flush_11 ?_
        refine lv_iload_n hx hb dX3_flush_14 rfl (lv_at hl 0 rfl) ?_
        refine lv_bipush (v := 8) hx hb dX3_flush_15 (by decide) ?_
        refine lv_imul hx hb dX3_flush_17 ?_
        refine fr_topi (y := nI (i * 8)) (pk_mul _ 8) ?_
        refine lv_aload_n hx hb dX3_flush_18 rfl (lv_at hl 1 rfl) ?_
        refine va_get (D := g.1) (ci := 3) (v := .ref a1) (C := RX3) (T := TX3) (N := 5) hx hb hts inX3 hown hK hP 0 rfl rfl 0 (by decide) (hts _ tw38) (fun _ h9 => h9) rfl dX3_flush_19 ?_
        refine lv_aload_n hx hb dX3_flush_22 rfl (lv_at hl 1 rfl) ?_
        refine va_get (D := g.1) (ci := 3) (v := .ref a2) (C := RX3) (T := TX3) (N := 5) hx hb hts inX3 hown hK hP 0 rfl rfl 1 (by decide) (hts _ tw39) (fun _ h9 => h9) rfl dX3_flush_23 ?_
        refine lv_iload_n hx hb dX3_flush_26 rfl (lv_at hl 0 rfl) ?_
        refine fr_iald (k := i) hx hb hK hP 2 1 rfl rfl (by omega) (by decide) dX3_flush_27 ?_
        refine fr_topi (y := nI j) ej ?_
        refine lv_bipush (v := 8) hx hb dX3_flush_28 (by decide) ?_
        refine lv_imul hx hb dX3_flush_30 ?_
        refine fr_topi (y := nI (j * 8)) (pk_mul _ 8) ?_
        refine lv_bipush (v := 8) hx hb dX3_flush_31 (by decide) ?_
        refine fr_copyl hx hb (hml.trans hl.1.symm) hown (hts _ tw302) (hts _ tw304) (hts _ tw303) (hts _ tw11) hK hP hD hS 3 1 0 0 rfl rfl rfl rfl (i * 8) (j * 8) 8 rfl rfl rfl (by omega) (by omega) (by decide) (by decide) (Nat.le_of_ble_eq_true rfl) (Nat.le_of_ble_eq_true rfl) dX3_flush_33 (fun H locs hP hD hS => ?_)
        have hP : va_P g.1 vwCl [(ad, .inr (3, [.ref a1, .ref a2, .ref a3, .int (nI nc), .int cg])), (a1, .inl (g.2 0, 512, .inr (.inl (va_cpy ca (flM cb ca med i) (i * 8) (j * 8) 8)))), (a2, .inl (g.2 1, 6, .inl cb)), (a3, .inl (g.2 0, 48, .inr (.inl ca)))] H := hP
        have hD : va_D A [(ad, .inr (3, [.ref a1, .ref a2, .ref a3, .int (nI nc), .int cg])), (a1, .inl (g.2 0, 512, .inr (.inl (va_cpy ca (flM cb ca med i) (i * 8) (j * 8) 8)))), (a2, .inl (g.2 1, 6, .inl cb)), (a3, .inl (g.2 0, 48, .inr (.inl ca)))] := hD
        refine lv_iinc (v := nI (i + 1)) (lv' := [(1, .int (nI (i + 1))), (0, .ref ad)]) hx hb dX3_flush_36 hl (k := 0) rfl (nI_1 _) (by decide) rfl (fun ls hl => ?_)
        refine lv_goto (tgt := 2) hx hb dX3_flush_39 (by decide) ?_
        have e9 : va_cpy ca (flM cb ca med i) (i * 8) (j * 8) 8 = flM cb ca med (i + 1) := by simp only [flM, ej, nI_clamp (show j < 2 ^ 31 by omega)]
        rw [e9] at hP hD
        exact ih2 (i + 1) (by omega) (by omega) H locs ls hP hD hS (lv_sub hl [0, 1] rfl)
  exact lp2 _ 0 (Nat.lt_succ_self _) (Nat.zero_le _) H locs ls hP hD hS (lv_sub hl [0, 1] rfl)
set_option maxHeartbeats 4000000 in
set_option maxRecDepth 100000 in
/-- Disk.setCaching -/
theorem kX3_setCaching (l : Launch) (g : GG) (ad : Nat) (a1 : Nat) (a2 : Nat) (a3 : Nat) (med : Nat → Int64) (cb : Nat → Int32) (ca : Nat → Int64) (nc : Nat) (cg : Int32) (p0 : Int32) (hn : nc ≤ 6) (hcb : ∀ k, k < nc → ∃ j : Nat, j < 64 ∧ cb k = nI j) (hz : p0 = 0 ∨ p0 = 1) : Ct l yX3_setCaching cX3_setCaching 2 none ({ frames := 2, cells := 0, slots := 0, locals := 61 } : Room) g [.ref ad, .int p0] [(ad, .inr (3, [.ref a1, .ref a2, .ref a3, .int (nI nc), .int cg])), (a1, .inl (g.2 0, 512, .inr (.inl med))), (a2, .inl (g.2 1, 6, .inl cb)), (a3, .inl (g.2 0, 48, .inr (.inl ca)))] (fun v w' => v = none ∧ w' = [(ad, .inr (3, [.ref a1, .ref a2, .ref a3, .int (nI (if p0 = 0 then 0 else nc)), .int p0])), (a1, .inl (g.2 0, 512, .inr (.inl (if p0 = 0 then flM cb ca med nc else med)))), (a2, .inl (g.2 1, 6, .inl cb)), (a3, .inl (g.2 0, 48, .inr (.inl ca)))]) := by
  refine Ct.of (by decide) (Nat.le_of_ble_eq_true rfl) ?_
  intro p e s m below meth c A ls H locs hx hb hr hml hlocks hts hown hin hA hS hK hP hD hl
  have hown : s.vm.findClass RX3 = some m.cls := hown
  have hl : lv_has ls 2 [(0, .ref ad), (1, .int p0)] := hl
  refine lv_iload_n hx hb dX3_setCaching_0 rfl (lv_at hl 1 rfl) ?_
  refine lv_if_ne (tgt := 8) hx hb dX3_setCaching_1 (by decide) (fun c1 => ?_) (fun c1 => ?_)
  · refine lv_aload_n hx hb dX3_setCaching_8 rfl (lv_at hl 0 rfl) ?_
    refine lv_iload_n hx hb dX3_setCaching_9 rfl (lv_at hl 1 rfl) ?_
    refine va_put (D := g.1) (ci := 3) (v := .int p0) (ty := .boolean) (C := RX3) (T := TX3) (N := 5) hx hb hts inX3 tyX3 tyX3_ok nmX3 hown hK hP hD hS 0 rfl rfl 4 (by decide) (hts _ tw42) (fun _ h9 => h9) rfl (by decide +kernel) (bz_n (by first | assumption | exact bI_z)) (bz_f (by first | assumption | exact bI_z)) (Nat.le_of_ble_eq_true rfl) dX3_setCaching_10 (fun H locs hP hD hS => ?_)
    have hP : va_P g.1 vwCl [(ad, .inr (3, [.ref a1, .ref a2, .ref a3, .int (nI nc), .int p0])), (a1, .inl (g.2 0, 512, .inr (.inl med))), (a2, .inl (g.2 1, 6, .inl cb)), (a3, .inl (g.2 0, 48, .inr (.inl ca)))] H := hP
    have hD : va_D A [(ad, .inr (3, [.ref a1, .ref a2, .ref a3, .int (nI nc), .int p0])), (a1, .inl (g.2 0, 512, .inr (.inl med))), (a2, .inl (g.2 1, 6, .inl cb)), (a3, .inl (g.2 0, 48, .inr (.inl ca)))] := hD
    exact W.vret hx hb hr (fun t ht _ => ⟨⟨none, [(ad, .inr (3, [.ref a1, .ref a2, .ref a3, .int (nI nc), .int p0])), (a1, .inl (g.2 0, 512, .inr (.inl med))), (a2, .inl (g.2 1, 6, .inl cb)), (a3, .inl (g.2 0, 48, .inr (.inl ca)))], rfl, ⟨rfl, by first | rw [if_pos c1, if_pos c1] | rw [if_neg c1, if_neg c1]⟩, rfl, by rw [ht]; exact hP⟩, hS.F ht⟩) hS.2.2 dX3_setCaching_13
  · refine lv_aload_n hx hb dX3_setCaching_4 rfl (lv_at hl 0 rfl) ?_
    refine fr_go (va_runV (As := []) (rest := []) ⟨hx, hb, hml, hown, hts⟩ (kX3_flush l g ad a1 a2 a3 med cb ca nc cg (by first | assumption | omega) (by first | assumption | omega) H.size) (cwV 0 hts (gdV tw443 tw299 tw300 tw3 tw301) rfl rfl rfl (by decide +kernel) ⟨Nat.le_of_ble_eq_true rfl, Nat.le_of_ble_eq_true rfl⟩) ⟨Pst.blind, va_recv hK hP (ci := 3) (q0 := 0) rfl rfl, fr_pre hK hP hD [0, 1, 2, 3] (by decide) rfl⟩ rfl rfl hl.1 rfl (lv_room (Nat.le_of_ble_eq_true rfl)) dX3_setCaching_5 ⟨Nat.le_of_ble_eq_true rfl, Nat.le_of_ble_eq_true rfl⟩) hP hD hS hA [0, 1, 2, 3] rfl (fun v w9 H locs hq hP hD hS => ?_)
    obtain ⟨rfl, rfl⟩ := hq
    have hP : va_P g.1 vwCl [(ad, .inr (3, [.ref a1, .ref a2, .ref a3, .int (nI 0), .int cg])), (a1, .inl (g.2 0, 512, .inr (.inl (flM cb ca med nc)))), (a2, .inl (g.2 1, 6, .inl cb)), (a3, .inl (g.2 0, 48, .inr (.inl ca)))] H := hP
    have hD : va_D A [(ad, .inr (3, [.ref a1, .ref a2, .ref a3, .int (nI 0), .int cg])), (a1, .inl (g.2 0, 512, .inr (.inl (flM cb ca med nc)))), (a2, .inl (g.2 1, 6, .inl cb)), (a3, .inl (g.2 0, 48, .inr (.inl ca)))] := hD
    show W p l e _ s m _ below meth c H locs _ _ _ (F0 m (5 + 3) ls ([]))
    refine lv_aload_n hx hb dX3_setCaching_8 rfl (lv_at hl 0 rfl) ?_
    refine lv_iload_n hx hb dX3_setCaching_9 rfl (lv_at hl 1 rfl) ?_
    refine va_put (D := g.1) (ci := 3) (v := .int p0) (ty := .boolean) (C := RX3) (T := TX3) (N := 5) hx hb hts inX3 tyX3 tyX3_ok nmX3 hown hK hP hD hS 0 rfl rfl 4 (by decide) (hts _ tw42) (fun _ h9 => h9) rfl (by decide +kernel) (bz_n (by first | assumption | exact bI_z)) (bz_f (by first | assumption | exact bI_z)) (Nat.le_of_ble_eq_true rfl) dX3_setCaching_10 (fun H locs hP hD hS => ?_)
    have hP : va_P g.1 vwCl [(ad, .inr (3, [.ref a1, .ref a2, .ref a3, .int (nI 0), .int p0])), (a1, .inl (g.2 0, 512, .inr (.inl (flM cb ca med nc)))), (a2, .inl (g.2 1, 6, .inl cb)), (a3, .inl (g.2 0, 48, .inr (.inl ca)))] H := hP
    have hD : va_D A [(ad, .inr (3, [.ref a1, .ref a2, .ref a3, .int (nI 0), .int p0])), (a1, .inl (g.2 0, 512, .inr (.inl (flM cb ca med nc)))), (a2, .inl (g.2 1, 6, .inl cb)), (a3, .inl (g.2 0, 48, .inr (.inl ca)))] := hD
    exact W.vret hx hb hr (fun t ht _ => ⟨⟨none, [(ad, .inr (3, [.ref a1, .ref a2, .ref a3, .int (nI 0), .int p0])), (a1, .inl (g.2 0, 512, .inr (.inl (flM cb ca med nc)))), (a2, .inl (g.2 1, 6, .inl cb)), (a3, .inl (g.2 0, 48, .inr (.inl ca)))], rfl, ⟨rfl, by first | rw [if_pos c1, if_pos c1] | rw [if_neg c1, if_neg c1]⟩, rfl, by rw [ht]; exact hP⟩, hS.F ht⟩) hS.2.2 dX3_setCaching_13
set_option maxHeartbeats 4000000 in
set_option maxRecDepth 100000 in
/-- Disk.placeForNew -/
theorem kX3_placeForNew (l : Launch) (g : GG) (ad : Nat) (a1 : Nat) (a2 : Nat) (a3 : Nat) (med : Nat → Int64) (cb : Nat → Int32) (ca : Nat → Int64) (nc : Nat) (cg : Int32) (p0 : Int32) (hn : nc ≤ 6) (hcb : ∀ k, k < nc → ∃ j : Nat, j < 64 ∧ cb k = nI j) : Ct l yX3_placeForNew cX3_placeForNew 3 (some .int) ({ frames := 1, cells := 0, slots := 0, locals := 40 } : Room) g [.ref ad, .int p0] [(ad, .inr (3, [.ref a1, .ref a2, .ref a3, .int (nI nc), .int cg])), (a1, .inl (g.2 0, 512, .inr (.inl med))), (a2, .inl (g.2 1, 6, .inl cb)), (a3, .inl (g.2 0, 48, .inr (.inl ca)))] (fun v w' => v = some (.int (nI (evN nc))) ∧ w' = [(ad, .inr (3, [.ref a1, .ref a2, .ref a3, .int (nI (evN nc + 1)), .int cg])), (a1, .inl (g.2 0, 512, .inr (.inl (evM med cb ca nc)))), (a2, .inl (g.2 1, 6, .inl (upd (evB cb nc) (evN nc) p0))), (a3, .inl (g.2 0, 48, .inr (.inl (evA ca nc))))]) := by
  refine Ct.of (by decide) (Nat.le_of_ble_eq_true rfl) ?_
  intro p e s m below meth c A ls H locs hx hb hr hml hlocks hts hown hin hA hS hK hP hD hl
  have hown : s.vm.findClass RX3 = some m.cls := hown
  have hl : lv_has ls 3 [(0, .ref ad), (1, .int p0)] := hl
  refine lv_aload_n hx hb dX3_placeForNew_0 rfl (lv_at hl 0 rfl) ?_
  refine va_get (D := g.1) (ci := 3) (v := .int (nI nc)) (C := RX3) (T := TX3) (N := 5) hx hb hts inX3 hown hK hP 0 rfl rfl 3 (by decide) (hts _ tw41) (fun _ h9 => h9) rfl dX3_placeForNew_1 ?_
  refine lv_bipush (v := 6) hx hb dX3_placeForNew_4 (by decide) ?_
  refine lv_icmp_ne (tgt := 80) hx hb dX3_placeForNew_6 (by decide) (fun c6 => ?_) (fun c6 => ?_)
  · have c6 := (not_congr (nI_eq (a := nc) (b := 6) (by omega) (by omega))).mp c6
    refine lv_aload_n hx hb dX3_placeForNew_80 rfl (lv_at hl 0 rfl) ?_
    refine va_get (D := g.1) (ci := 3) (v := .int (nI nc)) (C := RX3) (T := TX3) (N := 5) hx hb hts inX3 hown hK hP 0 rfl rfl 3 (by decide) (hts _ tw41) (fun _ h9 => h9) rfl dX3_placeForNew_81 ?_
    refine lv_istore_n (lv' := [(2, .int (nI nc)), (0, .ref ad), (1, .int p0)]) hx hb dX3_placeForNew_84 rfl hl (by decide) rfl (fun ls hl => ?_)
    refine lv_aload_n hx hb dX3_placeForNew_85 rfl (lv_at hl 1 rfl) ?_
    refine va_get (D := g.1) (ci := 3) (v := .ref a2) (C := RX3) (T := TX3) (N := 5) hx hb hts inX3 hown hK hP 0 rfl rfl 1 (by decide) (hts _ tw39) (fun _ h9 => h9) rfl dX3_placeForNew_86 ?_
    refine lv_iload_n hx hb dX3_placeForNew_89 rfl (lv_at hl 0 rfl) ?_
    refine lv_iload_n hx hb dX3_placeForNew_90 rfl (lv_at hl 2 rfl) ?_
    refine fr_iast (k := nc) hx hb hK hP hD hS 2 1 rfl rfl (by omega) (by decide) dX3_placeForNew_91 (fun H locs hP hD hS => ?_)
    have hP : va_P g.1 vwCl [(ad, .inr (3, [.ref a1, .ref a2, .ref a3, .int (nI nc), .int cg])), (a1, .inl (g.2 0, 512, .inr (.inl med))), (a2, .inl (g.2 1, 6, .inl (upd cb nc p0))), (a3, .inl (g.2 0, 48, .inr (.inl ca)))] H := hP
    have hD : va_D A [(ad, .inr (3, [.ref a1, .ref a2, .ref a3, .int (nI nc), .int cg])), (a1, .inl (g.2 0, 512, .inr (.inl med))), (a2, .inl (g.2 1, 6, .inl (upd cb nc p0))), (a3, .inl (g.2 0, 48, .inr (.inl ca)))] := hD
    refine lv_aload_n hx hb dX3_placeForNew_92 rfl (lv_at hl 1 rfl) ?_
    refine lv_dup hx hb dX3_placeForNew_93 rfl ?_
    refine va_get (D := g.1) (ci := 3) (v := .int (nI nc)) (C := RX3) (T := TX3) (N := 5) hx hb hts inX3 hown hK hP 0 rfl rfl 3 (by decide) (hts _ tw41) (fun _ h9 => h9) rfl dX3_placeForNew_94 ?_
    refine lv_iconst (v := 1) hx hb dX3_placeForNew_97 (by decide) ?_
    refine lv_iadd hx hb dX3_placeForNew_98 ?_
    refine fr_topi (y := nI (nc + 1)) (nI_1 _) ?_
    refine va_put (D := g.1) (ci := 3) (v := .int (nI (nc + 1))) (ty := .int) (C := RX3) (T := TX3) (N := 5) hx hb hts inX3 tyX3 tyX3_ok nmX3 hown hK hP hD hS 0 rfl rfl 3 (by decide) (hts _ tw41) (fun _ h9 => h9) rfl (by decide +kernel) rfl rfl (Nat.le_of_ble_eq_true rfl) dX3_placeForNew_99 (fun H locs hP hD hS => ?_)
    have hP : va_P g.1 vwCl [(ad, .inr (3, [.ref a1, .ref a2, .ref a3, .int (nI (nc + 1)), .int cg])), (a1, .inl (g.2 0, 512, .inr (.inl med))), (a2, .inl (g.2 1, 6, .inl (upd cb nc p0))), (a3, .inl (g.2 0, 48, .inr (.inl ca)))] H := hP
    have hD : va_D A [(ad, .inr (3, [.ref a1, .ref a2, .ref a3, .int (nI (nc + 1)), .int cg])), (a1, .inl (g.2 0, 512, .inr (.inl med))), (a2, .inl (g.2 1, 6, .inl (upd cb nc p0))), (a3, .inl (g.2 0, 48, .inr (.inl ca)))] := hD
    refine lv_iload_n hx hb dX3_placeForNew_102 rfl (lv_at hl 0 rfl) ?_
    exact W.iret (v := nI nc) hx hb hr (fun t ht _ => ⟨⟨(some (.int (nI nc))), [(ad, .inr (3, [.ref a1, .ref a2, .ref a3, .int (nI (nc + 1)), .int cg])), (a1, .inl (g.2 0, 512, .inr (.inl med))), (a2, .inl (g.2 1, 6, .inl (upd cb nc p0))), (a3, .inl (g.2 0, 48, .inr (.inl ca)))], rfl, ⟨by rw [evN, if_neg c6], by simp only [evM, evB, evA, evN, if_neg c6]⟩, rfl, by rw [ht]; exact hP⟩, hS.F ht⟩) hS.2.2 dX3_placeForNew_103
  · have c6 := (nI_eq (a := nc) (b := 6) (by omega) (by omega)).mp c6
    obtain ⟨j, hj, ej⟩ := hcb 0 (by omega)
    refine lv_aload_n hx hb dX3_placeForNew_9 rfl (lv_at hl 0 rfl) ?_
    refine va_get (D := g.1) (ci := 3) (v := .ref a3) (C := RX3) (T := TX3) (N := 5) hx hb hts inX3 hown hK hP 0 rfl rfl 2 (by decide) (hts _ tw40) (fun _ h9 => h9) rfl dX3_placeForNew_10 ?_
    refine lv_iconst (v := 0) hx hb dX3_placeForNew_13 (by decide) ?_
    refine lv_aload_n hx hb dX3_placeForNew_14 rfl (lv_at hl 0 rfl) ?_
    refine va_get (D := g.1) (ci := 3) (v := .ref a1) (C := RX3) (T := TX3) (N := 5) hx hb hts inX3 hown hK hP 0 rfl rfl 0 (by decide) (hts _ tw38) (fun _ h9 => h9) rfl dX3_placeForNew_15 ?_
    refine lv_aload_n hx hb dX3_placeForNew_18 rfl (lv_at hl 0 rfl) ?_
    refine va_get (D := g.1) (ci := 3) (v := .ref a2) (C := RX3) (T := TX3) (N := 5) hx hb hts inX3 hown hK hP 0 rfl rfl 1 (by decide) (hts _ tw39) (fun _ h9 => h9) rfl dX3_placeForNew_19 ?_
    refine lv_iconst (v := 0) hx hb dX3_placeForNew_22 (by decide) ?_
    refine fr_iald (k := 0) hx hb hK hP 2 1 rfl rfl (by decide) (by decide) dX3_placeForNew_23 ?_
    refine fr_topi (y := nI j) ej ?_
    refine lv_bipush (v := 8) hx hb dX3_placeForNew_24 (by decide) ?_
    refine lv_imul hx hb dX3_placeForNew_26 ?_
    refine fr_topi (y := nI (j * 8)) (pk_mul _ 8) ?_
    refine lv_bipush (v := 8) hx hb dX3_placeForNew_27 (by decide) ?_
    refine fr_copyl hx hb (hml.trans hl.1.symm) hown (hts _ tw302) (hts _ tw304) (hts _ tw303) (hts _ tw11) hK hP hD hS 3 1 0 0 rfl rfl rfl rfl 0 (j * 8) 8 rfl rfl rfl (by omega) (by omega) (by decide) (by decide) (Nat.le_of_ble_eq_true rfl) (Nat.le_of_ble_eq_true rfl) dX3_placeForNew_29 (fun H locs hP hD hS => ?_)
    have hP : va_P g.1 vwCl [(ad, .inr (3, [.ref a1, .ref a2, .ref a3, .int (nI nc), .int cg])), (a1, .inl (g.2 0, 512, .inr (.inl (va_cpy ca med 0 (j * 8) 8)))), (a2, .inl (g.2 1, 6, .inl cb)), (a3, .inl (g.2 0, 48, .inr (.inl ca)))] H := hP
    have hD : va_D A [(ad, .inr (3, [.ref a1, .ref a2, .ref a3, .int (nI nc), .int cg])), (a1, .inl (g.2 0, 512, .inr (.inl (va_cpy ca med 0 (j * 8) 8)))), (a2, .inl (g.2 1, 6, .inl cb)), (a3, .inl (g.2 0, 48, .inr (.inl ca)))] := hD
    refine lv_aload_n hx hb dX3_placeForNew_32 rfl (lv_at hl 0 rfl) ?_
    refine lv_dup hx hb dX3_placeForNew_33 rfl ?_
    refine va_get (D := g.1) (ci := 3) (v := .int (nI nc)) (C := RX3) (T := TX3) (N := 5) hx hb hts inX3 hown hK hP 0 rfl rfl 3 (by decide) (hts _ tw41) (fun _ h9 => h9) rfl dX3_placeForNew_34 ?_
    refine lv_iconst (v := 1) hx hb dX3_placeForNew_37 (by decide) ?_
    refine lv_isub hx hb dX3_placeForNew_38 ?_
    refine fr_topi (y := nI 5) (by rw [c6]; exact nI_pred 5) ?_
    refine va_put (D := g.1) (ci := 3) (v := .int (nI 5)) (ty := .int) (C := RX3) (T := TX3) (N := 5) hx hb hts inX3 tyX3 tyX3_ok nmX3 hown hK hP hD hS 0 rfl rfl 3 (by decide) (hts _ tw41) (fun _ h9 => h9) rfl (by decide +kernel) rfl rfl (Nat.le_of_ble_eq_true rfl) dX3_placeForNew_39 (fun H locs hP hD hS => ?_)
    have hP : va_P g.1 vwCl [(ad, .inr (3, [.ref a1, .ref a2, .ref a3, .int (nI 5), .int cg])), (a1, .inl (g.2 0, 512, .inr (.inl (va_cpy ca med 0 (j * 8) 8)))), (a2, .inl (g.2 1, 6, .inl cb)), (a3, .inl (g.2 0, 48, .inr (.inl ca)))] H := hP
    have hD : va_D A [(ad, .inr (3, [.ref a1, .ref a2, .ref a3, .int (nI 5), .int cg])), (a1, .inl (g.2 0, 512, .inr (.inl (va_cpy ca med 0 (j * 8) 8)))), (a2, .inl (g.2 1, 6, .inl cb)), (a3, .inl (g.2 0, 48, .inr (.inl ca)))] := hD
    refine lv_aload_n hx hb dX3_placeForNew_42 rfl (lv_at hl 0 rfl) ?_
    refine va_get (D := g.1) (ci := 3) (v := .ref a2) (C := RX3) (T := TX3) (N := 5) hx hb hts inX3 hown hK hP 0 rfl rfl 1 (by decide) (hts _ tw39) (fun _ h9 => h9) rfl dX3_placeForNew_43 ?_
    refine lv_iconst (v := 1) hx hb dX3_placeForNew_46 (by decide) ?_
    refine lv_aload_n hx hb dX3_placeForNew_47 rfl (lv_at hl 0 rfl) ?_
    refine va_get (D := g.1) (ci := 3) (v := .ref a2) (C := RX3) (T := TX3) (N := 5) hx hb hts inX3 hown hK hP 0 rfl rfl 1 (by decide) (hts _ tw39) (fun _ h9 => h9) rfl dX3_placeForNew_48 ?_
    refine lv_iconst (v := 0) hx hb dX3_placeForNew_51 (by decide) ?_
    refine lv_aload_n hx hb dX3_placeForNew_52 rfl (lv_at hl 0 rfl) ?_
    refine va_get (D := g.1) (ci := 3) (v := .int (nI 5)) (C := RX3) (T := TX3) (N := 5) hx hb hts inX3 hown hK hP 0 rfl rfl 3 (by decide) (hts _ tw41) (fun _ h9 => h9) rfl dX3_placeForNew_53 ?_
    refine fr_copyi hx hb (hml.trans hl.1.symm) hown (hts _ tw302) (hts _ tw304) (hts _ tw303) (hts _ tw11) hK hP hD hS 2 2 1 1 rfl rfl rfl rfl 1 0 5 rfl rfl rfl (by omega) (by omega) (by decide) (by decide) (Nat.le_of_ble_eq_true rfl) (Nat.le_of_ble_eq_true rfl) dX3_placeForNew_56 (fun H locs hP hD hS => ?_)
    have hP : va_P g.1 vwCl [(ad, .inr (3, [.ref a1, .ref a2, .ref a3, .int (nI 5), .int cg])), (a1, .inl (g.2 0, 512, .inr (.inl (va_cpy ca med 0 (j * 8) 8)))), (a2, .inl (g.2 1, 6, .inl (va_cpy cb cb 1 0 5))), (a3, .inl (g.2 0, 48, .inr (.inl ca)))] H := hP
    have hD : va_D A [(ad, .inr (3, [.ref a1, .ref a2, .ref a3, .int (nI 5), .int cg])), (a1, .inl (g.2 0, 512, .inr (.inl (va_cpy ca med 0 (j * 8) 8)))), (a2, .inl (g.2 1, 6, .inl (va_cpy cb cb 1 0 5))), (a3, .inl (g.2 0, 48, .inr (.inl ca)))] := hD
    refine lv_aload_n hx hb dX3_placeForNew_59 rfl (lv_at hl 0 rfl) ?_
    refine va_get (D := g.1) (ci := 3) (v := .ref a3) (C := RX3) (T := TX3) (N := 5) hx hb hts inX3 hown hK hP 0 rfl rfl 2 (by decide) (hts _ tw40) (fun _ h9 => h9) rfl dX3_placeForNew_60 ?_
    refine lv_bipush (v := 8) hx hb dX3_placeForNew_63 (by decide) ?_
    refine lv_aload_n hx hb dX3_placeForNew_65 rfl (lv_at hl 0 rfl) ?_
    refine va_get (D := g.1) (ci := 3) (v := .ref a3) (C := RX3) (T := TX3) (N := 5) hx hb hts inX3 hown hK hP 0 rfl rfl 2 (by decide) (hts _ tw40) (fun _ h9 => h9) rfl dX3_placeForNew_66 ?_
    refine lv_iconst (v := 0) hx hb dX3_placeForNew_69 (by decide) ?_
    refine lv_aload_n hx hb dX3_placeForNew_70 rfl (lv_at hl 0 rfl) ?_
    refine va_get (D := g.1) (ci := 3) (v := .int (nI 5)) (C := RX3) (T := TX3) (N := 5) hx hb hts inX3 hown hK hP 0 rfl rfl 3 (by decide) (hts _ tw41) (fun _ h9 => h9) rfl dX3_placeForNew_71 ?_
    refine lv_bipush (v := 8) hx hb dX3_placeForNew_74 (by decide) ?_
    refine lv_imul hx hb dX3_placeForNew_76 ?_
    refine fr_topi (y := nI (5 * 8)) (pk_mul _ 8) ?_
    refine fr_copyl hx hb (hml.trans hl.1.symm) hown (hts _ tw302) (hts _ tw304) (hts _ tw303) (hts _ tw11) hK hP hD hS 3 3 0 0 rfl rfl rfl rfl 8 0 (5 * 8) rfl rfl rfl (by omega) (by omega) (by decide) (by decide) (Nat.le_of_ble_eq_true rfl) (Nat.le_of_ble_eq_true rfl) dX3_placeForNew_77 (fun H locs hP hD hS => ?_)
    have hP : va_P g.1 vwCl [(ad, .inr (3, [.ref a1, .ref a2, .ref a3, .int (nI 5), .int cg])), (a1, .inl (g.2 0, 512, .inr (.inl (va_cpy ca med 0 (j * 8) 8)))), (a2, .inl (g.2 1, 6, .inl (va_cpy cb cb 1 0 5))), (a3, .inl (g.2 0, 48, .inr (.inl (va_cpy ca ca 8 0 (5 * 8)))))] H := hP
    have hD : va_D A [(ad, .inr (3, [.ref a1, .ref a2, .ref a3, .int (nI 5), .int cg])), (a1, .inl (g.2 0, 512, .inr (.inl (va_cpy ca med 0 (j * 8) 8)))), (a2, .inl (g.2 1, 6, .inl (va_cpy cb cb 1 0 5))), (a3, .inl (g.2 0, 48, .inr (.inl (va_cpy ca ca 8 0 (5 * 8)))))] := hD
    refine lv_aload_n hx hb dX3_placeForNew_80 rfl (lv_at hl 0 rfl) ?_
    refine va_get (D := g.1) (ci := 3) (v := .int (nI 5)) (C := RX3) (T := TX3) (N := 5) hx hb hts inX3 hown hK hP 0 rfl rfl 3 (by decide) (hts _ tw41) (fun _ h9 => h9) rfl dX3_placeForNew_81 ?_
    refine lv_istore_n (lv' := [(2, .int (nI 5)), (0, .ref ad), (1, .int p0)]) hx hb dX3_placeForNew_84 rfl hl (by decide) rfl (fun ls hl => ?_)
    refine lv_aload_n hx hb dX3_placeForNew_85 rfl (lv_at hl 1 rfl) ?_
    refine va_get (D := g.1) (ci := 3) (v := .ref a2) (C := RX3) (T := TX3) (N := 5) hx hb hts inX3 hown hK hP 0 rfl rfl 1 (by decide) (hts _ tw39) (fun _ h9 => h9) rfl dX3_placeForNew_86 ?_
    refine lv_iload_n hx hb dX3_placeForNew_89 rfl (lv_at hl 0 rfl) ?_
    refine lv_iload_n hx hb dX3_placeForNew_90 rfl (lv_at hl 2 rfl) ?_
    refine fr_iast (k := 5) hx hb hK hP hD hS 2 1 rfl rfl (by omega) (by decide) dX3_placeForNew_91 (fun H locs hP hD hS => ?_)
    have hP : va_P g.1 vwCl [(ad, .inr (3, [.ref a1, .ref a2, .ref a3, .int (nI 5), .int cg])), (a1, .inl (g.2 0, 512, .inr (.inl (va_cpy ca med 0 (j * 8) 8)))), (a2, .inl (g.2 1, 6, .inl (upd (va_cpy cb cb 1 0 5) 5 p0))), (a3, .inl (g.2 0, 48, .inr (.inl (va_cpy ca ca 8 0 (5 * 8)))))] H := hP
    have hD : va_D A [(ad, .inr (3, [.ref a1, .ref a2, .ref a3, .int (nI 5), .int cg])), (a1, .inl (g.2 0, 512, .inr (.inl (va_cpy ca med 0 (j * 8) 8)))), (a2, .inl (g.2 1, 6, .inl (upd (va_cpy cb cb 1 0 5) 5 p0))), (a3, .inl (g.2 0, 48, .inr (.inl (va_cpy ca ca 8 0 (5 * 8)))))] := hD
    refine lv_aload_n hx hb dX3_placeForNew_92 rfl (lv_at hl 1 rfl) ?_
    refine lv_dup hx hb dX3_placeForNew_93 rfl ?_
    refine va_get (D := g.1) (ci := 3) (v := .int (nI 5)) (C := RX3) (T := TX3) (N := 5) hx hb hts inX3 hown hK hP 0 rfl rfl 3 (by decide) (hts _ tw41) (fun _ h9 => h9) rfl dX3_placeForNew_94 ?_
    refine lv_iconst (v := 1) hx hb dX3_placeForNew_97 (by decide) ?_
    refine lv_iadd hx hb dX3_placeForNew_98 ?_
    refine fr_topi (y := nI (5 + 1)) (nI_1 _) ?_
    refine va_put (D := g.1) (ci := 3) (v := .int (nI (5 + 1))) (ty := .int) (C := RX3) (T := TX3) (N := 5) hx hb hts inX3 tyX3 tyX3_ok nmX3 hown hK hP hD hS 0 rfl rfl 3 (by decide) (hts _ tw41) (fun _ h9 => h9) rfl (by decide +kernel) rfl rfl (Nat.le_of_ble_eq_true rfl) dX3_placeForNew_99 (fun H locs hP hD hS => ?_)
    have hP : va_P g.1 vwCl [(ad, .inr (3, [.ref a1, .ref a2, .ref a3, .int (nI (5 + 1)), .int cg])), (a1, .inl (g.2 0, 512, .inr (.inl (va_cpy ca med 0 (j * 8) 8)))), (a2, .inl (g.2 1, 6, .inl (upd (va_cpy cb cb 1 0 5) 5 p0))), (a3, .inl (g.2 0, 48, .inr (.inl (va_cpy ca ca 8 0 (5 * 8)))))] H := hP
    have hD : va_D A [(ad, .inr (3, [.ref a1, .ref a2, .ref a3, .int (nI (5 + 1)), .int cg])), (a1, .inl (g.2 0, 512, .inr (.inl (va_cpy ca med 0 (j * 8) 8)))), (a2, .inl (g.2 1, 6, .inl (upd (va_cpy cb cb 1 0 5) 5 p0))), (a3, .inl (g.2 0, 48, .inr (.inl (va_cpy ca ca 8 0 (5 * 8)))))] := hD
    refine lv_iload_n hx hb dX3_placeForNew_102 rfl (lv_at hl 0 rfl) ?_
    exact W.iret (v := nI 5) hx hb hr (fun t ht _ => ⟨⟨(some (.int (nI 5))), [(ad, .inr (3, [.ref a1, .ref a2, .ref a3, .int (nI (5 + 1)), .int cg])), (a1, .inl (g.2 0, 512, .inr (.inl (va_cpy ca med 0 (j * 8) 8)))), (a2, .inl (g.2 1, 6, .inl (upd (va_cpy cb cb 1 0 5) 5 p0))), (a3, .inl (g.2 0, 48, .inr (.inl (va_cpy ca ca 8 0 (5 * 8)))))], rfl, ⟨by rw [evN, if_pos c6], by simp only [evM, evB, evA, evN, if_pos c6, ej, nI_clamp (show j < 2 ^ 31 by omega)]⟩, rfl, by rw [ht]; exact hP⟩, hS.F ht⟩) hS.2.2 dX3_placeForNew_103
set_option maxHeartbeats 4000000 in
set_option maxRecDepth 100000 in
/-- Disk.store -/
theorem kX3_store (l : Launch) (g : GG) (ad : Nat) (a1 : Nat) (a2 : Nat) (a3 : Nat) (med : Nat → Int64) (cb : Nat → Int32) (ca : Nat → Int64) (nc : Nat) (cg : Int32) (ar : Nat) (rw : Nat → Int64) (j : Nat) (hn : nc ≤ 6) (hcb : ∀ k, k < nc → ∃ j : Nat, j < 64 ∧ cb k = nI j) (hj : j < 64) : Ct l yX3_store cX3_store 4 none ({ frames := 2, cells := 0, slots := 0, locals := 62 } : Room) g [.ref ad, .int (nI j), .ref ar] [(ad, .inr (3, [.ref a1, .ref a2, .ref a3, .int (nI nc), .int cg])), (a1, .inl (g.2 0, 512, .inr (.inl med))), (a2, .inl (g.2 1, 6, .inl cb)), (a3, .inl (g.2 0, 48, .inr (.inl ca))), (ar, .inl (g.2 0, 8, .inr (.inl rw)))] (fun v w' => v = none ∧ w' = [(ad, .inr (3, [.ref a1, .ref a2, .ref a3, .int (nI (stN cb nc cg j)), .int cg])), (a1, .inl (g.2 0, 512, .inr (.inl (stM rw med cb ca nc cg j)))), (a2, .inl (g.2 1, 6, .inl (stB cb nc cg j))), (a3, .inl (g.2 0, 48, .inr (.inl (stA rw cb ca nc cg j)))), (ar, .inl (g.2 0, 8, .inr (.inl rw)))]) := by
  refine Ct.of (by decide) (Nat.le_of_ble_eq_true rfl) ?_
  intro p e s m below meth c A ls H locs hx hb hr hml hlocks hts hown hin hA hS hK hP hD hl
  have hown : s.vm.findClass RX3 = some m.cls := hown
  have hl : lv_has ls 4 [(0, .ref ad), (1, .int (nI j)), (2, .ref ar)] := hl
  refine lv_iload_n hx hb dX3_store_0 rfl (lv_at hl 1 rfl) ?_
  refine lv_i2l hx hb dX3_store_1 rfl ?_
  refine fr_go (va_runS (As := [.long ((nI j).toInt64)]) (rest := []) ⟨hx, hb, hml, hown, hts⟩ (kX3_isBlock l g ((nI j).toInt64) H.size) (va_cwS 1 hts (gdS tw512 tw497 tw3 tw498) rfl rfl rfl (by decide +kernel) ⟨Nat.le_of_ble_eq_true rfl, Nat.le_of_ble_eq_true rfl⟩) ⟨Pst.blind, fr_pre hK hP hD [] rfl rfl⟩ rfl rfl hl.1 rfl (lv_room (Nat.le_of_ble_eq_true rfl)) dX3_store_2 ⟨Nat.le_of_ble_eq_true rfl, Nat.le_of_ble_eq_true rfl⟩) hP hD hS hA [] rfl (fun v w9 H locs hq hP hD hS => ?_)
  obtain ⟨rfl, rfl⟩ := hq
  have hP : va_P g.1 vwCl [(ad, .inr (3, [.ref a1, .ref a2, .ref a3, .int (nI nc), .int cg])), (a1, .inl (g.2 0, 512, .inr (.inl med))), (a2, .inl (g.2 1, 6, .inl cb)), (a3, .inl (g.2 0, 48, .inr (.inl ca))), (ar, .inl (g.2 0, 8, .inr (.inl rw)))] H := hP
  have hD : va_D A [(ad, .inr (3, [.ref a1, .ref a2, .ref a3, .int (nI nc), .int cg])), (a1, .inl (g.2 0, 512, .inr (.inl med))), (a2, .inl (g.2 1, 6, .inl cb)), (a3, .inl (g.2 0, 48, .inr (.inl ca))), (ar, .inl (g.2 0, 8, .inr (.inl rw)))] := hD
  show W p l e _ s m _ below meth c H locs _ _ _ (F0 m (2 + 3) ls (.int (bI (isb ((nI j).toInt64))) :: []))
  refine lv_if_ne (tgt := 9) hx hb dX3_store_5 (by decide) (fun _ => ?_) (fun q9 => absurd q9 (bI_nz (isb_j hj)))
  refine lv_aload_n hx hb dX3_store_9 rfl (lv_at hl 0 rfl) ?_
  refine va_get (D := g.1) (ci := 3) (v := .int cg) (C := RX3) (T := TX3) (N := 5) hx hb hts inX3 hown hK hP 0 rfl rfl 4 (by decide) (hts _ tw42) (fun _ h9 => h9) rfl dX3_store_10 ?_
  refine lv_if_ne (tgt := 32) hx hb dX3_store_13 (by decide) (fun c13 => ?_) (fun c13 => ?_)
  · rcases hf : fnd cb (nI j) nc with _ | k
    · have he := evN_le hn
      refine lv_aload_n hx hb dX3_store_32 rfl (lv_at hl 0 rfl) ?_
      refine lv_iload_n hx hb dX3_store_33 rfl (lv_at hl 1 rfl) ?_
      refine fr_go (va_runV (As := [.int (nI j)]) (rest := []) ⟨hx, hb, hml, hown, hts⟩ (kX3_placeOf l g ad a1 a2 a3 med cb ca nc cg (nI j) (by first | assumption | omega) H.size) (cwV 1 hts (gdV tw513 tw515 tp20 tw3 tw516) rfl rfl rfl (by decide +kernel) ⟨Nat.le_of_ble_eq_true rfl, Nat.le_of_ble_eq_true rfl⟩) ⟨Pst.blind, va_recv hK hP (ci := 3) (q0 := 0) rfl rfl, fr_pre hK hP hD [0, 1, 2, 3] (by decide) rfl⟩ rfl rfl hl.1 rfl (lv_room (Nat.le_of_ble_eq_true rfl)) dX3_store_34 ⟨Nat.le_of_ble_eq_true rfl, Nat.le_of_ble_eq_true rfl⟩) hP hD hS hA [0, 1, 2, 3] rfl (fun v w9 H locs hq hP hD hS => ?_)
      obtain ⟨rfl, rfl⟩ := hq
      have hP : va_P g.1 vwCl [(ad, .inr (3, [.ref a1, .ref a2, .ref a3, .int (nI nc), .int cg])), (a1, .inl (g.2 0, 512, .inr (.inl med))), (a2, .inl (g.2 1, 6, .inl cb)), (a3, .inl (g.2 0, 48, .inr (.inl ca))), (ar, .inl (g.2 0, 8, .inr (.inl rw)))] H := hP
      have hD : va_D A [(ad, .inr (3, [.ref a1, .ref a2, .ref a3, .int (nI nc), .int cg])), (a1, .inl (g.2 0, 512, .inr (.inl med))), (a2, .inl (g.2 1, 6, .inl cb)), (a3, .inl (g.2 0, 48, .inr (.inl ca))), (ar, .inl (g.2 0, 8, .inr (.inl rw)))] := hD
      show W p l e _ s m _ below meth c H locs _ _ _ (F0 m (34 + 3) ls (.int (plc cb (nI j) nc) :: []))
      refine fr_topi (y := -1) (plc_n hf) ?_
      refine lv_istore_n (lv' := [(3, .int (-1)), (0, .ref ad), (1, .int (nI j)), (2, .ref ar)]) hx hb dX3_store_37 rfl hl (by decide) rfl (fun ls hl => ?_)
      refine lv_iload_n hx hb dX3_store_38 rfl (lv_at hl 0 rfl) ?_
      refine lv_iconst (v := -1) hx hb dX3_store_39 (by decide) ?_
      refine lv_icmp_ne (tgt := 49) hx hb dX3_store_40 (by decide) (fun q9 => absurd rfl q9) (fun _ => ?_)
      refine lv_aload_n hx hb dX3_store_43 rfl (lv_at hl 1 rfl) ?_
      refine lv_iload_n hx hb dX3_store_44 rfl (lv_at hl 2 rfl) ?_
      refine fr_go (va_runV (As := [.int (nI j)]) (rest := []) ⟨hx, hb, hml, hown, hts⟩ (kX3_placeForNew l g ad a1 a2 a3 med cb ca nc cg (nI j) (by first | assumption | omega) (by first | assumption | omega) H.size) (cwV 1 hts (gdV tw517 tw519 tp21 tw3 tw520) rfl rfl rfl (by decide +kernel) ⟨Nat.le_of_ble_eq_true rfl, Nat.le_of_ble_eq_true rfl⟩) ⟨Pst.blind, va_recv hK hP (ci := 3) (q0 := 0) rfl rfl, fr_pre hK hP hD [0, 1, 2, 3] (by decide) rfl⟩ rfl rfl hl.1 rfl (lv_room (Nat.le_of_ble_eq_true rfl)) dX3_store_45 ⟨Nat.le_of_ble_eq_true rfl, Nat.le_of_ble_eq_true rfl⟩) hP hD hS hA [0, 1, 2, 3] rfl (fun v w9 H locs hq hP hD hS => ?_)
      obtain ⟨rfl, rfl⟩ := hq
      have hP : va_P g.1 vwCl [(ad, .inr (3, [.ref a1, .ref a2, .ref a3, .int (nI (evN nc + 1)), .int cg])), (a1, .inl (g.2 0, 512, .inr (.inl (evM med cb ca nc)))), (a2, .inl (g.2 1, 6, .inl (upd (evB cb nc) (evN nc) (nI j)))), (a3, .inl (g.2 0, 48, .inr (.inl (evA ca nc)))), (ar, .inl (g.2 0, 8, .inr (.inl rw)))] H := hP
      have hD : va_D A [(ad, .inr (3, [.ref a1, .ref a2, .ref a3, .int (nI (evN nc + 1)), .int cg])), (a1, .inl (g.2 0, 512, .inr (.inl (evM med cb ca nc)))), (a2, .inl (g.2 1, 6, .inl (upd (evB cb nc) (evN nc) (nI j)))), (a3, .inl (g.2 0, 48, .inr (.inl (evA ca nc)))), (ar, .inl (g.2 0, 8, .inr (.inl rw)))] := hD
      show W p l e _ s m _ below meth c H locs _ _ _ (F0 m (45 + 3) ls (.int (nI (evN nc)) :: []))
      refine lv_istore_n (lv' := [(3, .int (nI (evN nc))), (0, .ref ad), (1, .int (nI j)), (2, .ref ar)]) hx hb dX3_store_48 rfl hl (by decide) rfl (fun ls hl => ?_)
      refine lv_aload_n hx hb dX3_store_49 rfl (lv_at hl 3 rfl) ?_
      refine lv_iconst (v := 0) hx hb dX3_store_50 (by decide) ?_
      refine lv_aload_n hx hb dX3_store_51 rfl (lv_at hl 1 rfl) ?_
      refine va_get (D := g.1) (ci := 3) (v := .ref a3) (C := RX3) (T := TX3) (N := 5) hx hb hts inX3 hown hK hP 0 rfl rfl 2 (by decide) (hts _ tw40) (fun _ h9 => h9) rfl dX3_store_52 ?_
      refine lv_iload_n hx hb dX3_store_55 rfl (lv_at hl 0 rfl) ?_
      refine lv_bipush (v := 8) hx hb dX3_store_56 (by decide) ?_
      refine lv_imul hx hb dX3_store_58 ?_
      refine fr_topi (y := nI (evN nc * 8)) (pk_mul _ 8) ?_
      refine lv_bipush (v := 8) hx hb dX3_store_59 (by decide) ?_
      refine fr_copyl hx hb (hml.trans hl.1.symm) hown (hts _ tw302) (hts _ tw304) (hts _ tw303) (hts _ tw11) hK hP hD hS 4 3 0 0 rfl rfl rfl rfl 0 (evN nc * 8) 8 rfl rfl rfl (by omega) (by omega) (by decide) (by decide) (Nat.le_of_ble_eq_true rfl) (Nat.le_of_ble_eq_true rfl) dX3_store_61 (fun H locs hP hD hS => ?_)
      have hP : va_P g.1 vwCl [(ad, .inr (3, [.ref a1, .ref a2, .ref a3, .int (nI (evN nc + 1)), .int cg])), (a1, .inl (g.2 0, 512, .inr (.inl (evM med cb ca nc)))), (a2, .inl (g.2 1, 6, .inl (upd (evB cb nc) (evN nc) (nI j)))), (a3, .inl (g.2 0, 48, .inr (.inl (va_cpy rw (evA ca nc) 0 (evN nc * 8) 8)))), (ar, .inl (g.2 0, 8, .inr (.inl rw)))] H := hP
      have hD : va_D A [(ad, .inr (3, [.ref a1, .ref a2, .ref a3, .int (nI (evN nc + 1)), .int cg])), (a1, .inl (g.2 0, 512, .inr (.inl (evM med cb ca nc)))), (a2, .inl (g.2 1, 6, .inl (upd (evB cb nc) (evN nc) (nI j)))), (a3, .inl (g.2 0, 48, .inr (.inl (va_cpy rw (evA ca nc) 0 (evN nc * 8) 8)))), (ar, .inl (g.2 0, 8, .inr (.inl rw)))] := hD
      exact W.vret hx hb hr (fun t ht _ => ⟨⟨none, [(ad, .inr (3, [.ref a1, .ref a2, .ref a3, .int (nI (evN nc + 1)), .int cg])), (a1, .inl (g.2 0, 512, .inr (.inl (evM med cb ca nc)))), (a2, .inl (g.2 1, 6, .inl (upd (evB cb nc) (evN nc) (nI j)))), (a3, .inl (g.2 0, 48, .inr (.inl (va_cpy rw (evA ca nc) 0 (evN nc * 8) 8)))), (ar, .inl (g.2 0, 8, .inr (.inl rw)))], rfl, ⟨rfl, by simp only [stM, stB, stA, stN, if_neg c13, hf]⟩, rfl, by rw [ht]; exact hP⟩, hS.F ht⟩) hS.2.2 dX3_store_64
    · have hk := fnd_lt hf
      refine lv_aload_n hx hb dX3_store_32 rfl (lv_at hl 0 rfl) ?_
      refine lv_iload_n hx hb dX3_store_33 rfl (lv_at hl 1 rfl) ?_
      refine fr_go (va_runV (As := [.int (nI j)]) (rest := []) ⟨hx, hb, hml, hown, hts⟩ (kX3_placeOf l g ad a1 a2 a3 med cb ca nc cg (nI j) (by first | assumption | omega) H.size) (cwV 1 hts (gdV tw513 tw515 tp20 tw3 tw516) rfl rfl rfl (by decide +kernel) ⟨Nat.le_of_ble_eq_true rfl, Nat.le_of_ble_eq_true rfl⟩) ⟨Pst.blind, va_recv hK hP (ci := 3) (q0 := 0) rfl rfl, fr_pre hK hP hD [0, 1, 2, 3] (by decide) rfl⟩ rfl rfl hl.1 rfl (lv_room (Nat.le_of_ble_eq_true rfl)) dX3_store_34 ⟨Nat.le_of_ble_eq_true rfl, Nat.le_of_ble_eq_true rfl⟩) hP hD hS hA [0, 1, 2, 3] rfl (fun v w9 H locs hq hP hD hS => ?_)
      obtain ⟨rfl, rfl⟩ := hq
      have hP : va_P g.1 vwCl [(ad, .inr (3, [.ref a1, .ref a2, .ref a3, .int (nI nc), .int cg])), (a1, .inl (g.2 0, 512, .inr (.inl med))), (a2, .inl (g.2 1, 6, .inl cb)), (a3, .inl (g.2 0, 48, .inr (.inl ca))), (ar, .inl (g.2 0, 8, .inr (.inl rw)))] H := hP
      have hD : va_D A [(ad, .inr (3, [.ref a1, .ref a2, .ref a3, .int (nI nc), .int cg])), (a1, .inl (g.2 0, 512, .inr (.inl med))), (a2, .inl (g.2 1, 6, .inl cb)), (a3, .inl (g.2 0, 48, .inr (.inl ca))), (ar, .inl (g.2 0, 8, .inr (.inl rw)))] := hD
      show W p l e _ s m _ below meth c H locs _ _ _ (F0 m (34 + 3) ls (.int (plc cb (nI j) nc) :: []))
      refine fr_topi (y := nI k) (plc_s hf) ?_
      refine lv_istore_n (lv' := [(3, .int (nI k)), (0, .ref ad), (1, .int (nI j)), (2, .ref ar)]) hx hb dX3_store_37 rfl hl (by decide) rfl (fun ls hl => ?_)
      refine lv_iload_n hx hb dX3_store_38 rfl (lv_at hl 0 rfl) ?_
      refine lv_iconst (v := -1) hx hb dX3_store_39 (by decide) ?_
      refine lv_icmp_ne (tgt := 49) hx hb dX3_store_40 (by decide) (fun _ => ?_) (fun q9 => absurd q9 (nI_m1 (by omega)))
      refine lv_aload_n hx hb dX3_store_49 rfl (lv_at hl 3 rfl) ?_
      refine lv_iconst (v := 0) hx hb dX3_store_50 (by decide) ?_
      refine lv_aload_n hx hb dX3_store_51 rfl (lv_at hl 1 rfl) ?_
      refine va_get (D := g.1) (ci := 3) (v := .ref a3) (C := RX3) (T := TX3) (N := 5) hx hb hts inX3 hown hK hP 0 rfl rfl 2 (by decide) (hts _ tw40) (fun _ h9 => h9) rfl dX3_store_52 ?_
      refine lv_iload_n hx hb dX3_store_55 rfl (lv_at hl 0 rfl) ?_
      refine lv_bipush (v := 8) hx hb dX3_store_56 (by decide) ?_
      refine lv_imul hx hb dX3_store_58 ?_
      refine fr_topi (y := nI (k * 8)) (pk_mul _ 8) ?_
      refine lv_bipush (v := 8) hx hb dX3_store_59 (by decide) ?_
      refine fr_copyl hx hb (hml.trans hl.1.symm) hown (hts _ tw302) (hts _ tw304) (hts _ tw303) (hts _ tw11) hK hP hD hS 4 3 0 0 rfl rfl rfl rfl 0 (k * 8) 8 rfl rfl rfl (by omega) (by omega) (by decide) (by decide) (Nat.le_of_ble_eq_true rfl) (Nat.le_of_ble_eq_true rfl) dX3_store_61 (fun H locs hP hD hS => ?_)
      have hP : va_P g.1 vwCl [(ad, .inr (3, [.ref a1, .ref a2, .ref a3, .int (nI nc), .int cg])), (a1, .inl (g.2 0, 512, .inr (.inl med))), (a2, .inl (g.2 1, 6, .inl cb)), (a3, .inl (g.2 0, 48, .inr (.inl (va_cpy rw ca 0 (k * 8) 8)))), (ar, .inl (g.2 0, 8, .inr (.inl rw)))] H := hP
      have hD : va_D A [(ad, .inr (3, [.ref a1, .ref a2, .ref a3, .int (nI nc), .int cg])), (a1, .inl (g.2 0, 512, .inr (.inl med))), (a2, .inl (g.2 1, 6, .inl cb)), (a3, .inl (g.2 0, 48, .inr (.inl (va_cpy rw ca 0 (k * 8) 8)))), (ar, .inl (g.2 0, 8, .inr (.inl rw)))] := hD
      exact W.vret hx hb hr (fun t ht _ => ⟨⟨none, [(ad, .inr (3, [.ref a1, .ref a2, .ref a3, .int (nI nc), .int cg])), (a1, .inl (g.2 0, 512, .inr (.inl med))), (a2, .inl (g.2 1, 6, .inl cb)), (a3, .inl (g.2 0, 48, .inr (.inl (va_cpy rw ca 0 (k * 8) 8)))), (ar, .inl (g.2 0, 8, .inr (.inl rw)))], rfl, ⟨rfl, by simp only [stM, stB, stA, stN, if_neg c13, hf]⟩, rfl, by rw [ht]; exact hP⟩, hS.F ht⟩) hS.2.2 dX3_store_64
  · refine lv_aload_n hx hb dX3_store_16 rfl (lv_at hl 2 rfl) ?_
    refine lv_iconst (v := 0) hx hb dX3_store_17 (by decide) ?_
    refine lv_aload_n hx hb dX3_store_18 rfl (lv_at hl 0 rfl) ?_
    refine va_get (D := g.1) (ci := 3) (v := .ref a1) (C := RX3) (T := TX3) (N := 5) hx hb hts inX3 hown hK hP 0 rfl rfl 0 (by decide) (hts _ tw38) (fun _ h9 => h9) rfl dX3_store_19 ?_
    refine lv_iload_n hx hb dX3_store_22 rfl (lv_at hl 1 rfl) ?_
    refine lv_bipush (v := 8) hx hb dX3_store_23 (by decide) ?_
    refine lv_imul hx hb dX3_store_25 ?_
    refine fr_topi (y := nI (j * 8)) (pk_mul _ 8) ?_
    refine lv_bipush (v := 8) hx hb dX3_store_26 (by decide) ?_
    refine fr_copyl hx hb (hml.trans hl.1.symm) hown (hts _ tw302) (hts _ tw304) (hts _ tw303) (hts _ tw11) hK hP hD hS 4 1 0 0 rfl rfl rfl rfl 0 (j * 8) 8 rfl rfl rfl (by omega) (by omega) (by decide) (by decide) (Nat.le_of_ble_eq_true rfl) (Nat.le_of_ble_eq_true rfl) dX3_store_28 (fun H locs hP hD hS => ?_)
    have hP : va_P g.1 vwCl [(ad, .inr (3, [.ref a1, .ref a2, .ref a3, .int (nI nc), .int cg])), (a1, .inl (g.2 0, 512, .inr (.inl (va_cpy rw med 0 (j * 8) 8)))), (a2, .inl (g.2 1, 6, .inl cb)), (a3, .inl (g.2 0, 48, .inr (.inl ca))), (ar, .inl (g.2 0, 8, .inr (.inl rw)))] H := hP
    have hD : va_D A [(ad, .inr (3, [.ref a1, .ref a2, .ref a3, .int (nI nc), .int cg])), (a1, .inl (g.2 0, 512, .inr (.inl (va_cpy rw med 0 (j * 8) 8)))), (a2, .inl (g.2 1, 6, .inl cb)), (a3, .inl (g.2 0, 48, .inr (.inl ca))), (ar, .inl (g.2 0, 8, .inr (.inl rw)))] := hD
    exact W.vret hx hb hr (fun t ht _ => ⟨⟨none, [(ad, .inr (3, [.ref a1, .ref a2, .ref a3, .int (nI nc), .int cg])), (a1, .inl (g.2 0, 512, .inr (.inl (va_cpy rw med 0 (j * 8) 8)))), (a2, .inl (g.2 1, 6, .inl cb)), (a3, .inl (g.2 0, 48, .inr (.inl ca))), (ar, .inl (g.2 0, 8, .inr (.inl rw)))], rfl, ⟨rfl, by simp only [stM, stB, stA, stN, if_pos c13]⟩, rfl, by rw [ht]; exact hP⟩, hS.F ht⟩) hS.2.2 dX3_store_31
