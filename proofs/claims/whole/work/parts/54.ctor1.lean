set_option maxHeartbeats 4000000 in
set_option maxRecDepth 100000 in
theorem kX5_init (l : Launch) (g : GG) (ao ci : Nat) (fs : List Value) : CtN l yX5_init cX5_init 1 ({ frames := 1, cells := 0, slots := 0, locals := 12 } : Room) g [.ref ao] [(ao, .inr (ci, fs))] (fun w' => w' = [(ao, .inr (ci, fs))]) := by
  refine CtN.of (by decide) (Nat.le_of_ble_eq_true rfl) ?_
  intro p e s m below meth c A ls H locs hx hb hr hml hlocks hts hown hin hA hS hK hP hD hN hl
  have hown : s.vm.findClass RX5 = some m.cls := hown
  have hin : meth.name = "<init>" := hin
  have hl : lv_has ls 1 [(0, .ref ao)] := hl
  refine lv_aload_n hx hb dX5_init_0 rfl (lv_at hl 0 rfl) ?_
  refine W.objInit hx hb hown (hts _ tw66) (hts _ tw19) (hts _ twObj) rfl (by rw [hml]; exact hl.1) rfl dX5_init_1 (Nat.le_of_ble_eq_true rfl) (Nat.le_of_ble_eq_true rfl) ?_
  refine W.eq (g2 := F0 m 4 ls []) rfl ?_
  exact W.vret hx hb hr (fun t ht _ => ⟨⟨[(ao, .inr (ci, fs))], rfl, rfl, by rw [ht]; exact hP, hD⟩, hS.F ht⟩) hS.2.2 dX5_init_4
set_option maxHeartbeats 4000000 in
set_option maxRecDepth 100000 in
theorem kX0_init (l : Launch) (g : GG) (ao : Nat) : CtN l yX0_init cX0_init 1 ({ frames := 1, cells := 0, slots := 0, locals := 12 } : Room) g [.ref ao] [(ao, .inr (0, [.int 0, .int 0, .int 0, .int 0, .long 0, .long 0, .long 0]))] (fun w' => w' = [(ao, .inr (0, [.int 0, .int 0, .int 0, .int 0, .long 0, .long 0, .long 0]))]) := by
  refine CtN.of (by decide) (Nat.le_of_ble_eq_true rfl) ?_
  intro p e s m below meth c A ls H locs hx hb hr hml hlocks hts hown hin hA hS hK hP hD hN hl
  have hown : s.vm.findClass RX0 = some m.cls := hown
  have hin : meth.name = "<init>" := hin
  have hl : lv_has ls 1 [(0, .ref ao)] := hl
  refine lv_aload_n hx hb dX0_init_0 rfl (lv_at hl 0 rfl) ?_
  refine W.objInit hx hb hown (hts _ tw134) (hts _ tw19) (hts _ twObj) rfl (by rw [hml]; exact hl.1) rfl dX0_init_1 (Nat.le_of_ble_eq_true rfl) (Nat.le_of_ble_eq_true rfl) ?_
  refine W.eq (g2 := F0 m 4 ls []) rfl ?_
  exact W.vret hx hb hr (fun t ht _ => ⟨⟨[(ao, .inr (0, [.int 0, .int 0, .int 0, .int 0, .long 0, .long 0, .long 0]))], rfl, rfl, by rw [ht]; exact hP, hD⟩, hS.F ht⟩) hS.2.2 dX0_init_4
set_option maxHeartbeats 4000000 in
set_option maxRecDepth 100000 in
theorem kX6_init (l : Launch) (g : GG) (ao : Nat) : CtN l yX6_init cX6_init 1 ({ frames := 2, cells := 0, slots := 0, locals := 32 } : Room) g [.ref ao] [(ao, .inr (5, [.int 0, .int 0, .int 0, .int 0, .int 0, .int 0]))] (fun w' => w' = [(ao, .inr (5, [.int 0, .int 0, .int 0, .int 0, .int 0, .int 0]))]) := by
  refine CtN.of (by decide) (Nat.le_of_ble_eq_true rfl) ?_
  intro p e s m below meth c A ls H locs hx hb hr hml hlocks hts hown hin hA hS hK hP hD hN hl
  have hown : s.vm.findClass RX6 = some m.cls := hown
  have hin : meth.name = "<init>" := hin
  have hl : lv_has ls 1 [(0, .ref ao)] := hl
  refine lv_aload_n hx hb dX6_init_0 rfl (lv_at hl 0 rfl) ?_
  refine fr_goN (wr := []) (w := [(ao, .inr (5, [.int 0, .int 0, .int 0, .int 0, .int 0, .int 0]))]) (va_runIN (As := []) (rest := []) ⟨hx, hb, hml, hown, hts⟩ (kX5_init l g ao 5 [.int 0, .int 0, .int 0, .int 0, .int 0, .int 0] H.size) ⟨va_cnB 0 hts (gdB tw65) rfl rfl rfl (hN _ nwX6_1) (hts _ tw4) (by decide +kernel) ⟨(Nat.le_of_ble_eq_true rfl), (Nat.le_of_ble_eq_true rfl)⟩, rfl, (hts _ tw64)⟩ ⟨Pnw.blind, fr_preN (wr := []) hN hK hP hD⟩ rfl rfl hl.1 rfl (lv_room (Nat.le_of_ble_eq_true rfl)) dX6_init_1 ⟨(Nat.le_of_ble_eq_true rfl), (Nat.le_of_ble_eq_true rfl)⟩) hP hD hS hA (fun w9 H locs hq hP hD hS => ?_)
  obtain rfl := hq
  have hP : va_P g.1 vwCl [(ao, .inr (5, [.int 0, .int 0, .int 0, .int 0, .int 0, .int 0]))] H := hP
  have hD : va_D A [(ao, .inr (5, [.int 0, .int 0, .int 0, .int 0, .int 0, .int 0]))] := hD
  exact W.vret hx hb hr (fun t ht _ => ⟨⟨[(ao, .inr (5, [.int 0, .int 0, .int 0, .int 0, .int 0, .int 0]))], rfl, rfl, by rw [ht]; exact hP, hD⟩, hS.F ht⟩) hS.2.2 dX6_init_4
set_option maxHeartbeats 4000000 in
set_option maxRecDepth 100000 in
theorem kX1_init (l : Launch) (g : GG) (ao : Nat) : CtN l yX1_init cX1_init 1 ({ frames := 2, cells := 0, slots := 0, locals := 32 } : Room) g [.ref ao] [(ao, .inr (1, [.int 0, .int 0, .int 0, .int 0, .int 0, .int 0, .int 0]))] (fun w' => w' = [(ao, .inr (1, [.int 0, .int 0, .int 0, .int 0, .int 0, .int 0, .int 0]))]) := by
  refine CtN.of (by decide) (Nat.le_of_ble_eq_true rfl) ?_
  intro p e s m below meth c A ls H locs hx hb hr hml hlocks hts hown hin hA hS hK hP hD hN hl
  have hown : s.vm.findClass RX1 = some m.cls := hown
  have hin : meth.name = "<init>" := hin
  have hl : lv_has ls 1 [(0, .ref ao)] := hl
  refine lv_aload_n hx hb dX1_init_0 rfl (lv_at hl 0 rfl) ?_
  refine fr_goN (wr := []) (w := [(ao, .inr (1, [.int 0, .int 0, .int 0, .int 0, .int 0, .int 0, .int 0]))]) (va_runIN (As := []) (rest := []) ⟨hx, hb, hml, hown, hts⟩ (kX5_init l g ao 1 [.int 0, .int 0, .int 0, .int 0, .int 0, .int 0, .int 0] H.size) ⟨va_cnB 0 hts (gdB tw65) rfl rfl rfl (hN _ nwX1_1) (hts _ tw4) (by decide +kernel) ⟨(Nat.le_of_ble_eq_true rfl), (Nat.le_of_ble_eq_true rfl)⟩, rfl, (hts _ tw64)⟩ ⟨Pnw.blind, fr_preN (wr := []) hN hK hP hD⟩ rfl rfl hl.1 rfl (lv_room (Nat.le_of_ble_eq_true rfl)) dX1_init_1 ⟨(Nat.le_of_ble_eq_true rfl), (Nat.le_of_ble_eq_true rfl)⟩) hP hD hS hA (fun w9 H locs hq hP hD hS => ?_)
  obtain rfl := hq
  have hP : va_P g.1 vwCl [(ao, .inr (1, [.int 0, .int 0, .int 0, .int 0, .int 0, .int 0, .int 0]))] H := hP
  have hD : va_D A [(ao, .inr (1, [.int 0, .int 0, .int 0, .int 0, .int 0, .int 0, .int 0]))] := hD
  exact W.vret hx hb hr (fun t ht _ => ⟨⟨[(ao, .inr (1, [.int 0, .int 0, .int 0, .int 0, .int 0, .int 0, .int 0]))], rfl, rfl, by rw [ht]; exact hP, hD⟩, hS.F ht⟩) hS.2.2 dX1_init_4
set_option maxHeartbeats 4000000 in
set_option maxRecDepth 100000 in
theorem kX4_init (l : Launch) (g : GG) (ao : Nat) : CtN l yX4_init cX4_init 1 ({ frames := 1, cells := 1, slots := 1024, locals := 12 } : Room) g [.ref ao] [(ao, .inr (4, [.null]))] (fun w' => ∃ q1 : Nat, w' = [(ao, .inr (4, [.ref q1])), (q1, .inl (g.2 0, 1024, .inr (.inl (fun _ => 0))))]) := by
  refine CtN.of (by decide) (Nat.le_of_ble_eq_true rfl) ?_
  intro p e s m below meth c A ls H locs hx hb hr hml hlocks hts hown hin hA hS hK hP hD hN hl
  have hown : s.vm.findClass RX4 = some m.cls := hown
  have hin : meth.name = "<init>" := hin
  have hl : lv_has ls 1 [(0, .ref ao)] := hl
  refine lv_aload_n hx hb dX4_init_0 rfl (lv_at hl 0 rfl) ?_
  refine W.objInit hx hb hown (hts _ tw26) (hts _ tw19) (hts _ twObj) rfl (by rw [hml]; exact hl.1) rfl dX4_init_1 (Nat.le_of_ble_eq_true rfl) (Nat.le_of_ble_eq_true rfl) ?_
  refine W.eq (g2 := F0 m 4 ls []) rfl ?_
  refine lv_aload_n hx hb dX4_init_4 rfl (lv_at hl 0 rfl) ?_
  refine lv_sipush (v := 1024) hx hb dX4_init_5 (by decide) ?_
  refine fr_newaL (N' := 1024) hx hb (hts _ tw31) hK hP hD hS hA (by decide) (by decide) (by decide) (Nat.le_of_ble_eq_true rfl) (Nat.le_of_ble_eq_true rfl) dX4_init_8 (fun q1 H hP hD hS => ?_)
  have hP : va_P g.1 vwCl [(ao, .inr (4, [.null])), (q1, .inl (g.2 0, 1024, .inr (.inl (fun _ => 0))))] H := hP
  have hD : va_D A [(ao, .inr (4, [.null])), (q1, .inl (g.2 0, 1024, .inr (.inl (fun _ => 0))))] := hD
  refine va_putF (D := g.1) (ci := 4) (v := .ref q1) (ty := .array .long) (C := RX4) (T := TX4) (N := 1) hx hb hts inX4 tyX4 tyX4_ok nmX4 hown hK hP hD hS 0 rfl rfl 0 (by decide) (hts _ tw27) (fun _ h9 => h9) rfl hin rfl (by decide +kernel) rfl rfl (Nat.le_of_ble_eq_true rfl) dX4_init_10 (fun H locs hP hD hS => ?_)
  have hP : va_P g.1 vwCl [(ao, .inr (4, [.ref q1])), (q1, .inl (g.2 0, 1024, .inr (.inl (fun _ => 0))))] H := hP
  have hD : va_D A [(ao, .inr (4, [.ref q1])), (q1, .inl (g.2 0, 1024, .inr (.inl (fun _ => 0))))] := hD
  refine W.widen (k := 1) (n := 1024) (by decide) (by decide) ?_
  exact W.vret hx hb hr (fun t ht _ => ⟨⟨[(ao, .inr (4, [.ref q1])), (q1, .inl (g.2 0, 1024, .inr (.inl (fun _ => 0))))], rfl, ⟨q1, rfl⟩, by rw [ht]; exact hP, hD⟩, hS.F ht⟩) hS.2.2 dX4_init_13
set_option maxHeartbeats 4000000 in
set_option maxRecDepth 100000 in
theorem kX3_init (l : Launch) (g : GG) (ao : Nat) : CtN l yX3_init cX3_init 1 ({ frames := 1, cells := 3, slots := 566, locals := 12 } : Room) g [.ref ao] [(ao, .inr (3, [.null, .null, .null, .int 0, .int 0]))] (fun w' => ∃ q1 q2 q3 : Nat, w' = [(ao, .inr (3, [.ref q1, .ref q2, .ref q3, .int 0, .int 1])), (q1, .inl (g.2 0, 512, .inr (.inl (fun _ => 0)))), (q2, .inl (g.2 1, 6, .inl (fun _ => 0))), (q3, .inl (g.2 0, 48, .inr (.inl (fun _ => 0))))]) := by
  refine CtN.of (by decide) (Nat.le_of_ble_eq_true rfl) ?_
  intro p e s m below meth c A ls H locs hx hb hr hml hlocks hts hown hin hA hS hK hP hD hN hl
  have hown : s.vm.findClass RX3 = some m.cls := hown
  have hin : meth.name = "<init>" := hin
  have hl : lv_has ls 1 [(0, .ref ao)] := hl
  refine lv_aload_n hx hb dX3_init_0 rfl (lv_at hl 0 rfl) ?_
  refine W.objInit hx hb hown (hts _ tw37) (hts _ tw19) (hts _ twObj) rfl (by rw [hml]; exact hl.1) rfl dX3_init_1 (Nat.le_of_ble_eq_true rfl) (Nat.le_of_ble_eq_true rfl) ?_
  refine W.eq (g2 := F0 m 4 ls []) rfl ?_
  refine lv_aload_n hx hb dX3_init_4 rfl (lv_at hl 0 rfl) ?_
  refine lv_sipush (v := 512) hx hb dX3_init_5 (by decide) ?_
  refine fr_newaL (N' := 512) hx hb (hts _ tw31) hK hP hD hS hA (by decide) (by decide) (by decide) (Nat.le_of_ble_eq_true rfl) (Nat.le_of_ble_eq_true rfl) dX3_init_8 (fun q1 H hP hD hS => ?_)
  have hP : va_P g.1 vwCl [(ao, .inr (3, [.null, .null, .null, .int 0, .int 0])), (q1, .inl (g.2 0, 512, .inr (.inl (fun _ => 0))))] H := hP
  have hD : va_D A [(ao, .inr (3, [.null, .null, .null, .int 0, .int 0])), (q1, .inl (g.2 0, 512, .inr (.inl (fun _ => 0))))] := hD
  refine va_putF (D := g.1) (ci := 3) (v := .ref q1) (ty := .array .long) (C := RX3) (T := TX3) (N := 5) hx hb hts inX3 tyX3 tyX3_ok nmX3 hown hK hP hD hS 0 rfl rfl 0 (by decide) (hts _ tw38) (fun _ h9 => h9) rfl hin rfl (by decide +kernel) rfl rfl (Nat.le_of_ble_eq_true rfl) dX3_init_10 (fun H locs hP hD hS => ?_)
  have hP : va_P g.1 vwCl [(ao, .inr (3, [.ref q1, .null, .null, .int 0, .int 0])), (q1, .inl (g.2 0, 512, .inr (.inl (fun _ => 0))))] H := hP
  have hD : va_D A [(ao, .inr (3, [.ref q1, .null, .null, .int 0, .int 0])), (q1, .inl (g.2 0, 512, .inr (.inl (fun _ => 0))))] := hD
  refine lv_aload_n hx hb dX3_init_13 rfl (lv_at hl 0 rfl) ?_
  refine lv_bipush (v := 6) hx hb dX3_init_14 (by decide) ?_
  refine fr_newaI (N' := 6) hx hb (hts _ tw54) hK hP hD hS hA (by decide) (by decide) (by decide) (Nat.le_of_ble_eq_true rfl) (Nat.le_of_ble_eq_true rfl) dX3_init_16 (fun q2 H hP hD hS => ?_)
  have hP : va_P g.1 vwCl [(ao, .inr (3, [.ref q1, .null, .null, .int 0, .int 0])), (q1, .inl (g.2 0, 512, .inr (.inl (fun _ => 0)))), (q2, .inl (g.2 1, 6, .inl (fun _ => 0)))] H := hP
  have hD : va_D A [(ao, .inr (3, [.ref q1, .null, .null, .int 0, .int 0])), (q1, .inl (g.2 0, 512, .inr (.inl (fun _ => 0)))), (q2, .inl (g.2 1, 6, .inl (fun _ => 0)))] := hD
  refine va_putF (D := g.1) (ci := 3) (v := .ref q2) (ty := .array .int) (C := RX3) (T := TX3) (N := 5) hx hb hts inX3 tyX3 tyX3_ok nmX3 hown hK hP hD hS 0 rfl rfl 1 (by decide) (hts _ tw39) (fun _ h9 => h9) rfl hin rfl (by decide +kernel) rfl rfl (Nat.le_of_ble_eq_true rfl) dX3_init_18 (fun H locs hP hD hS => ?_)
  have hP : va_P g.1 vwCl [(ao, .inr (3, [.ref q1, .ref q2, .null, .int 0, .int 0])), (q1, .inl (g.2 0, 512, .inr (.inl (fun _ => 0)))), (q2, .inl (g.2 1, 6, .inl (fun _ => 0)))] H := hP
  have hD : va_D A [(ao, .inr (3, [.ref q1, .ref q2, .null, .int 0, .int 0])), (q1, .inl (g.2 0, 512, .inr (.inl (fun _ => 0)))), (q2, .inl (g.2 1, 6, .inl (fun _ => 0)))] := hD
  refine lv_aload_n hx hb dX3_init_21 rfl (lv_at hl 0 rfl) ?_
  refine lv_bipush (v := 48) hx hb dX3_init_22 (by decide) ?_
  refine fr_newaL (N' := 48) hx hb (hts _ tw31) hK hP hD hS hA (by decide) (by decide) (by decide) (Nat.le_of_ble_eq_true rfl) (Nat.le_of_ble_eq_true rfl) dX3_init_24 (fun q3 H hP hD hS => ?_)
  have hP : va_P g.1 vwCl [(ao, .inr (3, [.ref q1, .ref q2, .null, .int 0, .int 0])), (q1, .inl (g.2 0, 512, .inr (.inl (fun _ => 0)))), (q2, .inl (g.2 1, 6, .inl (fun _ => 0))), (q3, .inl (g.2 0, 48, .inr (.inl (fun _ => 0))))] H := hP
  have hD : va_D A [(ao, .inr (3, [.ref q1, .ref q2, .null, .int 0, .int 0])), (q1, .inl (g.2 0, 512, .inr (.inl (fun _ => 0)))), (q2, .inl (g.2 1, 6, .inl (fun _ => 0))), (q3, .inl (g.2 0, 48, .inr (.inl (fun _ => 0))))] := hD
  refine va_putF (D := g.1) (ci := 3) (v := .ref q3) (ty := .array .long) (C := RX3) (T := TX3) (N := 5) hx hb hts inX3 tyX3 tyX3_ok nmX3 hown hK hP hD hS 0 rfl rfl 2 (by decide) (hts _ tw40) (fun _ h9 => h9) rfl hin rfl (by decide +kernel) rfl rfl (Nat.le_of_ble_eq_true rfl) dX3_init_26 (fun H locs hP hD hS => ?_)
  have hP : va_P g.1 vwCl [(ao, .inr (3, [.ref q1, .ref q2, .ref q3, .int 0, .int 0])), (q1, .inl (g.2 0, 512, .inr (.inl (fun _ => 0)))), (q2, .inl (g.2 1, 6, .inl (fun _ => 0))), (q3, .inl (g.2 0, 48, .inr (.inl (fun _ => 0))))] H := hP
  have hD : va_D A [(ao, .inr (3, [.ref q1, .ref q2, .ref q3, .int 0, .int 0])), (q1, .inl (g.2 0, 512, .inr (.inl (fun _ => 0)))), (q2, .inl (g.2 1, 6, .inl (fun _ => 0))), (q3, .inl (g.2 0, 48, .inr (.inl (fun _ => 0))))] := hD
  refine lv_aload_n hx hb dX3_init_29 rfl (lv_at hl 0 rfl) ?_
  refine lv_iconst (v := 1) hx hb dX3_init_30 (by decide) ?_
  refine va_put (D := g.1) (ci := 3) (v := .int 1) (ty := .boolean) (C := RX3) (T := TX3) (N := 5) hx hb hts inX3 tyX3 tyX3_ok nmX3 hown hK hP hD hS 0 rfl rfl 4 (by decide) (hts _ tw42) (fun _ h9 => h9) rfl (by decide +kernel) rfl rfl (Nat.le_of_ble_eq_true rfl) dX3_init_31 (fun H locs hP hD hS => ?_)
  have hP : va_P g.1 vwCl [(ao, .inr (3, [.ref q1, .ref q2, .ref q3, .int 0, .int 1])), (q1, .inl (g.2 0, 512, .inr (.inl (fun _ => 0)))), (q2, .inl (g.2 1, 6, .inl (fun _ => 0))), (q3, .inl (g.2 0, 48, .inr (.inl (fun _ => 0))))] H := hP
  have hD : va_D A [(ao, .inr (3, [.ref q1, .ref q2, .ref q3, .int 0, .int 1])), (q1, .inl (g.2 0, 512, .inr (.inl (fun _ => 0)))), (q2, .inl (g.2 1, 6, .inl (fun _ => 0))), (q3, .inl (g.2 0, 48, .inr (.inl (fun _ => 0))))] := hD
  refine W.widen (k := 3) (n := 566) (by decide) (by decide) ?_
  exact W.vret hx hb hr (fun t ht _ => ⟨⟨[(ao, .inr (3, [.ref q1, .ref q2, .ref q3, .int 0, .int 1])), (q1, .inl (g.2 0, 512, .inr (.inl (fun _ => 0)))), (q2, .inl (g.2 1, 6, .inl (fun _ => 0))), (q3, .inl (g.2 0, 48, .inr (.inl (fun _ => 0))))], rfl, ⟨q1, q2, q3, rfl⟩, by rw [ht]; exact hP, hD⟩, hS.F ht⟩) hS.2.2 dX3_init_34
set_option maxHeartbeats 4000000 in
set_option maxRecDepth 100000 in
theorem kX2_init (l : Launch) (g : GG) (ao : Nat) : CtN l yX2_init cX2_init 1 ({ frames := 1, cells := 1, slots := 16, locals := 12 } : Room) g [.ref ao] [(ao, .inr (2, [.null, .int 0, .int 0]))] (fun w' => ∃ q1 : Nat, w' = [(ao, .inr (2, [.ref q1, .int 0, .int 0])), (q1, .inl (g.2 1, 16, .inl (fun _ => 0)))]) := by
  refine CtN.of (by decide) (Nat.le_of_ble_eq_true rfl) ?_
  intro p e s m below meth c A ls H locs hx hb hr hml hlocks hts hown hin hA hS hK hP hD hN hl
  have hown : s.vm.findClass RX2 = some m.cls := hown
  have hin : meth.name = "<init>" := hin
  have hl : lv_has ls 1 [(0, .ref ao)] := hl
  refine lv_aload_n hx hb dX2_init_0 rfl (lv_at hl 0 rfl) ?_
  refine W.objInit hx hb hown (hts _ tw172) (hts _ tw19) (hts _ twObj) rfl (by rw [hml]; exact hl.1) rfl dX2_init_1 (Nat.le_of_ble_eq_true rfl) (Nat.le_of_ble_eq_true rfl) ?_
  refine W.eq (g2 := F0 m 4 ls []) rfl ?_
  refine lv_aload_n hx hb dX2_init_4 rfl (lv_at hl 0 rfl) ?_
  refine lv_bipush (v := 16) hx hb dX2_init_5 (by decide) ?_
  refine fr_newaI (N' := 16) hx hb (hts _ tw54) hK hP hD hS hA (by decide) (by decide) (by decide) (Nat.le_of_ble_eq_true rfl) (Nat.le_of_ble_eq_true rfl) dX2_init_7 (fun q1 H hP hD hS => ?_)
  have hP : va_P g.1 vwCl [(ao, .inr (2, [.null, .int 0, .int 0])), (q1, .inl (g.2 1, 16, .inl (fun _ => 0)))] H := hP
  have hD : va_D A [(ao, .inr (2, [.null, .int 0, .int 0])), (q1, .inl (g.2 1, 16, .inl (fun _ => 0)))] := hD
  refine va_putF (D := g.1) (ci := 2) (v := .ref q1) (ty := .array .int) (C := RX2) (T := TX2) (N := 3) hx hb hts inX2 tyX2 tyX2_ok nmX2 hown hK hP hD hS 0 rfl rfl 0 (by decide) (hts _ tw173) (fun _ h9 => h9) rfl hin rfl (by decide +kernel) rfl rfl (Nat.le_of_ble_eq_true rfl) dX2_init_9 (fun H locs hP hD hS => ?_)
  have hP : va_P g.1 vwCl [(ao, .inr (2, [.ref q1, .int 0, .int 0])), (q1, .inl (g.2 1, 16, .inl (fun _ => 0)))] H := hP
  have hD : va_D A [(ao, .inr (2, [.ref q1, .int 0, .int 0])), (q1, .inl (g.2 1, 16, .inl (fun _ => 0)))] := hD
  refine W.widen (k := 1) (n := 16) (by decide) (by decide) ?_
  exact W.vret hx hb hr (fun t ht _ => ⟨⟨[(ao, .inr (2, [.ref q1, .int 0, .int 0])), (q1, .inl (g.2 1, 16, .inl (fun _ => 0)))], rfl, ⟨q1, rfl⟩, by rw [ht]; exact hP, hD⟩, hS.F ht⟩) hS.2.2 dX2_init_12
