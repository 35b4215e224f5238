set_option maxHeartbeats 4000000 in
set_option maxRecDepth 100000 in
/-- isBesideAdmin -/
theorem kX7_isBesideAdmin (l : Launch) (g : GG) (x : Int64) : Ct l yX7_isBesideAdmin cX7_isBesideAdmin 2 (some .boolean) ({ frames := 0, cells := 0, slots := 0, locals := 0 } : Room) g [.long x] [] (fun v w' => v = some (.int (bI (bes x))) ∧ w' = []) := by
  refine Ct.of (by decide) (Nat.le_of_ble_eq_true rfl) ?_
  intro p e s m below meth c A ls H locs hx hb hr hml hlocks hts hown hin hA hS hK hP hD hl
  have hown : s.vm.findClass RX7 = some m.cls := hown
  have hl : lv_has ls 2 [(0, .long x)] := hl
  refine lv_lload_n hx hb dX7_isBesideAdmin_0 rfl (lv_at hl 0 rfl) ?_
  refine lv_lconst (v := 1) hx hb dX7_isBesideAdmin_1 (by decide) ?_
  refine W.lcmp hx hb dX7_isBesideAdmin_2 ?_
  refine lv_if_lt (tgt := 18) hx hb dX7_isBesideAdmin_3 (by decide) (fun c3 => ?_) (fun c3 => ?_)
  · have c3 := (lg_cmp_lt x 1).mp c3
    refine lv_iconst (v := 0) hx hb dX7_isBesideAdmin_18 (by decide) ?_
    exact W.zret (v := 0) hx hb hr (by first | rfl | exact bz_n (by first | assumption | exact bI_z | decide)) (fun t ht _ => ⟨⟨(some (.int 0)), [], rfl, ⟨congrArg (fun z : Int32 => some (Value.int z)) (by first | exact bI_1 ⟨‹_›, ‹_›⟩ | exact bI_0 (fun q => q.1 ‹_›) | exact bI_0 (fun q => absurd q.1 ‹_›) | exact bI_0 (fun q => q.2 ‹_›) | exact bI_0 (fun q => absurd q.2 ‹_›)), rfl⟩, rfl, by rw [ht]; exact hP⟩, hS.F ht⟩) hS.2.2 dX7_isBesideAdmin_19
  · have c3 := (not_congr (lg_cmp_lt x 1)).mp c3
    refine lv_lload_n hx hb dX7_isBesideAdmin_6 rfl (lv_at hl 0 rfl) ?_
    refine lv_ldc2 hx hb hown (hts _ tw322) dX7_isBesideAdmin_7 ?_
    refine W.lcmp hx hb dX7_isBesideAdmin_10 ?_
    refine lv_if_ge (tgt := 18) hx hb dX7_isBesideAdmin_11 (by decide) (fun c11 => ?_) (fun c11 => ?_)
    · have c11 := (lg_cmp_ge x 4).mp c11
      refine lv_iconst (v := 0) hx hb dX7_isBesideAdmin_18 (by decide) ?_
      exact W.zret (v := 0) hx hb hr (by first | rfl | exact bz_n (by first | assumption | exact bI_z | decide)) (fun t ht _ => ⟨⟨(some (.int 0)), [], rfl, ⟨congrArg (fun z : Int32 => some (Value.int z)) (by first | exact bI_1 ⟨‹_›, ‹_›⟩ | exact bI_0 (fun q => q.1 ‹_›) | exact bI_0 (fun q => absurd q.1 ‹_›) | exact bI_0 (fun q => q.2 ‹_›) | exact bI_0 (fun q => absurd q.2 ‹_›)), rfl⟩, rfl, by rw [ht]; exact hP⟩, hS.F ht⟩) hS.2.2 dX7_isBesideAdmin_19
    · have c11 := (not_congr (lg_cmp_ge x 4)).mp c11
      refine lv_iconst (v := 1) hx hb dX7_isBesideAdmin_14 (by decide) ?_
      refine lv_goto (tgt := 19) hx hb dX7_isBesideAdmin_15 (by decide) ?_
      exact W.zret (v := 1) hx hb hr (by first | rfl | exact bz_n (by first | assumption | exact bI_z | decide)) (fun t ht _ => ⟨⟨(some (.int 1)), [], rfl, ⟨congrArg (fun z : Int32 => some (Value.int z)) (by first | exact bI_1 ⟨‹_›, ‹_›⟩ | exact bI_0 (fun q => q.1 ‹_›) | exact bI_0 (fun q => absurd q.1 ‹_›) | exact bI_0 (fun q => q.2 ‹_›) | exact bI_0 (fun q => absurd q.2 ‹_›)), rfl⟩, rfl, by rw [ht]; exact hP⟩, hS.F ht⟩) hS.2.2 dX7_isBesideAdmin_19
set_option maxHeartbeats 4000000 in
set_option maxRecDepth 100000 in
/-- tellOfSubmission -/
theorem kX7_tellOfSubmission (l : Launch) (g : GG) (ao : Nat) (th : Int32) (ba : Int32) (sz : Int32) (hd : Int32) (tl : Int32) (an : Int32) (p0 : Int32) : Ct l yX7_tellOfSubmission cX7_tellOfSubmission 2 (some .int) ({ frames := 2, cells := 0, slots := 0, locals := 41 } : Room) g [.ref ao, .int p0] [(ao, .inr (5, [.int th, .int ba, .int sz, .int hd, .int tl, .int an]))] (fun v w' => v = some (.int (telS hd tl sz an p0)) ∧ w' = [(ao, .inr (5, [.int th, .int ba, .int sz, .int hd, .int tl, .int an]))]) := by
  refine Ct.of (by decide) (Nat.le_of_ble_eq_true rfl) ?_
  intro p e s m below meth c A ls H locs hx hb hr hml hlocks hts hown hin hA hS hK hP hD hl
  have hown : s.vm.findClass RX7 = some m.cls := hown
  have hl : lv_has ls 2 [(0, .ref ao), (1, .int p0)] := hl
  refine lv_iload_n hx hb dX7_tellOfSubmission_0 rfl (lv_at hl 1 rfl) ?_
  by_cases w0 : p0 = 0
  · refine lv_tableIn (off := 31) (tgt := 32) hx hb dX7_tellOfSubmission_1 (by rw [w0]; decide) (by rw [w0]; decide) (by rw [w0]; decide) (by decide) ?_
    refine lv_aload_n hx hb dX7_tellOfSubmission_32 rfl (lv_at hl 0 rfl) ?_
    refine va_get (D := g.1) (ci := 5) (v := .int hd) (C := RX6) (T := TX6) (N := 6) hx hb hts inX6 hown hK hP 0 rfl rfl 3 (by decide) (hts _ tw90) (u_same (hts _ tw86)) rfl dX7_tellOfSubmission_33 ?_
    exact W.iret (v := hd) hx hb hr (fun t ht _ => ⟨⟨(some (.int hd)), [(ao, .inr (5, [.int th, .int ba, .int sz, .int hd, .int tl, .int an]))], rfl, ⟨congrArg (fun z : Int32 => some (Value.int z)) (by simp [telS, *]), rfl⟩, rfl, by rw [ht]; exact hP⟩, hS.F ht⟩) hS.2.2 dX7_tellOfSubmission_36
  · have z0 := lv_neT (a := 0) w0 (by decide)
    by_cases w1 : p0 = 1
    · refine lv_tableIn (off := 36) (tgt := 37) hx hb dX7_tellOfSubmission_1 (by rw [w1]; decide) (by rw [w1]; decide) (by rw [w1]; decide) (by decide) ?_
      refine lv_aload_n hx hb dX7_tellOfSubmission_37 rfl (lv_at hl 0 rfl) ?_
      refine va_get (D := g.1) (ci := 5) (v := .int tl) (C := RX6) (T := TX6) (N := 6) hx hb hts inX6 hown hK hP 0 rfl rfl 4 (by decide) (hts _ tw94) (u_same (hts _ tw95)) rfl dX7_tellOfSubmission_38 ?_
      exact W.iret (v := tl) hx hb hr (fun t ht _ => ⟨⟨(some (.int tl)), [(ao, .inr (5, [.int th, .int ba, .int sz, .int hd, .int tl, .int an]))], rfl, ⟨congrArg (fun z : Int32 => some (Value.int z)) (by simp [telS, *]), rfl⟩, rfl, by rw [ht]; exact hP⟩, hS.F ht⟩) hS.2.2 dX7_tellOfSubmission_41
    · have z1 := lv_neT (a := 1) w1 (by decide)
      by_cases w2 : p0 = 2
      · refine lv_tableIn (off := 41) (tgt := 42) hx hb dX7_tellOfSubmission_1 (by rw [w2]; decide) (by rw [w2]; decide) (by rw [w2]; decide) (by decide) ?_
        refine lv_aload_n hx hb dX7_tellOfSubmission_42 rfl (lv_at hl 0 rfl) ?_
        refine fr_go (va_runU (As := []) (rest := []) ⟨hx, hb, hml, hown, hts⟩ (kX5_held_X6 l g ao th ba sz hd tl an H.size) (va_cwU 0 hts (gdU (x := ⟨"DoorbellDrive$Submission", "held", "()I"⟩) (owner := RX5) tw329 tw330 tw332 tw333 tw4 tw334) rfl rfl rfl rfl (by decide +kernel) ⟨Nat.le_of_ble_eq_true rfl, Nat.le_of_ble_eq_true rfl⟩) ⟨Pst.blind, va_recv hK hP (ci := 5) (q0 := 0) rfl rfl, fr_pre hK hP hD [0] rfl rfl⟩ rfl rfl hl.1 rfl (lv_room (Nat.le_of_ble_eq_true rfl)) dX7_tellOfSubmission_43 ⟨Nat.le_of_ble_eq_true rfl, Nat.le_of_ble_eq_true rfl⟩) hP hD hS hA [0] rfl (fun v w9 H locs hq hP hD hS => ?_)
        obtain ⟨rfl, rfl⟩ := hq
        have hP : va_P g.1 vwCl [(ao, .inr (5, [.int th, .int ba, .int sz, .int hd, .int tl, .int an]))] H := hP
        have hD : va_D A [(ao, .inr (5, [.int th, .int ba, .int sz, .int hd, .int tl, .int an]))] := hD
        show W p l e _ s m _ below meth c H locs _ _ _ (F0 m (43 + 3) ls (.int (fht hd sz tl) :: []))
        exact W.iret (v := fht hd sz tl) hx hb hr (fun t ht _ => ⟨⟨(some (.int (fht hd sz tl))), [(ao, .inr (5, [.int th, .int ba, .int sz, .int hd, .int tl, .int an]))], rfl, ⟨congrArg (fun z : Int32 => some (Value.int z)) (by simp [telS, *]), rfl⟩, rfl, by rw [ht]; exact hP⟩, hS.F ht⟩) hS.2.2 dX7_tellOfSubmission_46
      · have z2 := lv_neT (a := 2) w2 (by decide)
        by_cases w3 : p0 = 3
        · refine lv_tableIn (off := 46) (tgt := 47) hx hb dX7_tellOfSubmission_1 (by rw [w3]; decide) (by rw [w3]; decide) (by rw [w3]; decide) (by decide) ?_
          refine lv_aload_n hx hb dX7_tellOfSubmission_47 rfl (lv_at hl 0 rfl) ?_
          refine va_get (D := g.1) (ci := 5) (v := .int sz) (C := RX6) (T := TX6) (N := 6) hx hb hts inX6 hown hK hP 0 rfl rfl 2 (by decide) (hts _ tw80) (u_same (hts _ tw81)) rfl dX7_tellOfSubmission_48 ?_
          exact W.iret (v := sz) hx hb hr (fun t ht _ => ⟨⟨(some (.int sz)), [(ao, .inr (5, [.int th, .int ba, .int sz, .int hd, .int tl, .int an]))], rfl, ⟨congrArg (fun z : Int32 => some (Value.int z)) (by simp [telS, *]), rfl⟩, rfl, by rw [ht]; exact hP⟩, hS.F ht⟩) hS.2.2 dX7_tellOfSubmission_51
        · have z3 := lv_neT (a := 3) w3 (by decide)
          refine lv_tableOut (tgt := 52) hx hb dX7_tellOfSubmission_1 (by omega) (by decide) ?_
          refine lv_aload_n hx hb dX7_tellOfSubmission_52 rfl (lv_at hl 0 rfl) ?_
          refine va_get (D := g.1) (ci := 5) (v := .int an) (C := RX6) (T := TX6) (N := 6) hx hb hts inX6 hown hK hP 0 rfl rfl 5 (by decide) (hts _ tw68) (fun _ h9 => h9) rfl dX7_tellOfSubmission_53 ?_
          exact W.iret (v := an) hx hb hr (fun t ht _ => ⟨⟨(some (.int an)), [(ao, .inr (5, [.int th, .int ba, .int sz, .int hd, .int tl, .int an]))], rfl, ⟨congrArg (fun z : Int32 => some (Value.int z)) (by simp [telS, *]), rfl⟩, rfl, by rw [ht]; exact hP⟩, hS.F ht⟩) hS.2.2 dX7_tellOfSubmission_56
set_option maxHeartbeats 4000000 in
set_option maxRecDepth 100000 in
/-- tellOfCompletion -/
theorem kX7_tellOfCompletion (l : Launch) (g : GG) (ao : Nat) (th : Int32) (ba : Int32) (sz : Int32) (hd : Int32) (tl : Int32) (ph : Int32) (it : Int32) (p0 : Int32) : Ct l yX7_tellOfCompletion cX7_tellOfCompletion 2 (some .int) ({ frames := 0, cells := 0, slots := 0, locals := 0 } : Room) g [.ref ao, .int p0] [(ao, .inr (1, [.int th, .int ba, .int sz, .int hd, .int tl, .int ph, .int it]))] (fun v w' => v = some (.int (telC hd tl ph sz p0)) ∧ w' = [(ao, .inr (1, [.int th, .int ba, .int sz, .int hd, .int tl, .int ph, .int it]))]) := by
  refine Ct.of (by decide) (Nat.le_of_ble_eq_true rfl) ?_
  intro p e s m below meth c A ls H locs hx hb hr hml hlocks hts hown hin hA hS hK hP hD hl
  have hown : s.vm.findClass RX7 = some m.cls := hown
  have hl : lv_has ls 2 [(0, .ref ao), (1, .int p0)] := hl
  refine lv_iload_n hx hb dX7_tellOfCompletion_0 rfl (lv_at hl 1 rfl) ?_
  by_cases w5 : p0 = 5
  · refine lv_tableIn (off := 27) (tgt := 28) hx hb dX7_tellOfCompletion_1 (by rw [w5]; decide) (by rw [w5]; decide) (by rw [w5]; decide) (by decide) ?_
    refine lv_aload_n hx hb dX7_tellOfCompletion_28 rfl (lv_at hl 0 rfl) ?_
    refine va_get (D := g.1) (ci := 1) (v := .int hd) (C := RX1) (T := TX1) (N := 7) hx hb hts inX1 hown hK hP 0 rfl rfl 3 (by decide) (hts _ tw89) (u_same (hts _ tw88)) rfl dX7_tellOfCompletion_29 ?_
    exact W.iret (v := hd) hx hb hr (fun t ht _ => ⟨⟨(some (.int hd)), [(ao, .inr (1, [.int th, .int ba, .int sz, .int hd, .int tl, .int ph, .int it]))], rfl, ⟨congrArg (fun z : Int32 => some (Value.int z)) (by simp [telC, *]), rfl⟩, rfl, by rw [ht]; exact hP⟩, hS.F ht⟩) hS.2.2 dX7_tellOfCompletion_32
  · have z5 := lv_neT (a := 5) w5 (by decide)
    by_cases w6 : p0 = 6
    · refine lv_tableIn (off := 32) (tgt := 33) hx hb dX7_tellOfCompletion_1 (by rw [w6]; decide) (by rw [w6]; decide) (by rw [w6]; decide) (by decide) ?_
      refine lv_aload_n hx hb dX7_tellOfCompletion_33 rfl (lv_at hl 0 rfl) ?_
      refine va_get (D := g.1) (ci := 1) (v := .int tl) (C := RX1) (T := TX1) (N := 7) hx hb hts inX1 hown hK hP 0 rfl rfl 4 (by decide) (hts _ tw96) (u_same (hts _ tw93)) rfl dX7_tellOfCompletion_34 ?_
      exact W.iret (v := tl) hx hb hr (fun t ht _ => ⟨⟨(some (.int tl)), [(ao, .inr (1, [.int th, .int ba, .int sz, .int hd, .int tl, .int ph, .int it]))], rfl, ⟨congrArg (fun z : Int32 => some (Value.int z)) (by simp [telC, *]), rfl⟩, rfl, by rw [ht]; exact hP⟩, hS.F ht⟩) hS.2.2 dX7_tellOfCompletion_37
    · have z6 := lv_neT (a := 6) w6 (by decide)
      by_cases w7 : p0 = 7
      · refine lv_tableIn (off := 37) (tgt := 38) hx hb dX7_tellOfCompletion_1 (by rw [w7]; decide) (by rw [w7]; decide) (by rw [w7]; decide) (by decide) ?_
        refine lv_aload_n hx hb dX7_tellOfCompletion_38 rfl (lv_at hl 0 rfl) ?_
        refine va_get (D := g.1) (ci := 1) (v := .int ph) (C := RX1) (T := TX1) (N := 7) hx hb hts inX1 hown hK hP 0 rfl rfl 5 (by decide) (hts _ tw116) (fun _ h9 => h9) rfl dX7_tellOfCompletion_39 ?_
        exact W.iret (v := ph) hx hb hr (fun t ht _ => ⟨⟨(some (.int ph)), [(ao, .inr (1, [.int th, .int ba, .int sz, .int hd, .int tl, .int ph, .int it]))], rfl, ⟨congrArg (fun z : Int32 => some (Value.int z)) (by simp [telC, *]), rfl⟩, rfl, by rw [ht]; exact hP⟩, hS.F ht⟩) hS.2.2 dX7_tellOfCompletion_42
      · have z7 := lv_neT (a := 7) w7 (by decide)
        refine lv_tableOut (tgt := 43) hx hb dX7_tellOfCompletion_1 (by omega) (by decide) ?_
        refine lv_aload_n hx hb dX7_tellOfCompletion_43 rfl (lv_at hl 0 rfl) ?_
        refine va_get (D := g.1) (ci := 1) (v := .int sz) (C := RX1) (T := TX1) (N := 7) hx hb hts inX1 hown hK hP 0 rfl rfl 2 (by decide) (hts _ tw82) (u_same (hts _ tw83)) rfl dX7_tellOfCompletion_44 ?_
        exact W.iret (v := sz) hx hb hr (fun t ht _ => ⟨⟨(some (.int sz)), [(ao, .inr (1, [.int th, .int ba, .int sz, .int hd, .int tl, .int ph, .int it]))], rfl, ⟨congrArg (fun z : Int32 => some (Value.int z)) (by simp [telC, *]), rfl⟩, rfl, by rw [ht]; exact hP⟩, hS.F ht⟩) hS.2.2 dX7_tellOfCompletion_47
set_option maxHeartbeats 4000000 in
set_option maxRecDepth 100000 in
/-- peek -/
theorem kX7_peek (l : Launch) (g : GG) (a : Nat → Nat) (σ : CS) (p0 : Int32) : Ct l yX7_peek cX7_peek 2 (some .long) ({ frames := 2, cells := 0, slots := 0, locals := 42 } : Room) g [.ref (a 0), .int p0] (dvW g a (x_mem σ) (x_med σ) (x_cb σ) (x_ca σ) (x_nc σ) (x_cg σ) (x_T σ) (x_op σ) (x_id σ) (x_fg σ) (x_n σ) (x_cp σ) (x_cq σ) (x_cx σ) (x_pg σ) (x_fi σ) (x_F σ) (x_rw σ) (x_on σ) (x_bi σ) (x_tu σ) (x_re σ) (x_dw σ) (x_dq σ) (x_br σ) (x_bs σ)) (fun v w' => v = some (.long (mAt (x_mem σ) p0)) ∧ w' = dvW g a (x_mem σ) (x_med σ) (x_cb σ) (x_ca σ) (x_nc σ) (x_cg σ) (x_T σ) (x_op σ) (x_id σ) (x_fg σ) (x_n σ) (x_cp σ) (x_cq σ) (x_cx σ) (x_pg σ) (x_fi σ) (x_F σ) (x_rw σ) (x_on σ) (x_bi σ) (x_tu σ) (x_re σ) (x_dw σ) (x_dq σ) (x_br σ) (x_bs σ)) := by
  refine Ct.of (by decide) (Nat.le_of_ble_eq_true rfl) ?_
  intro p e s m below meth c A ls H locs hx hb hr hml hlocks hts hown hin hA hS hK hP hD hl
  have hown : s.vm.findClass RX7 = some m.cls := hown
  have hl : lv_has ls 2 [(0, .ref (a 0)), (1, .int p0)] := hl
  refine lv_aload_n hx hb dX7_peek_0 rfl (lv_at hl 0 rfl) ?_
  refine va_get (D := g.1) (ci := 6) (v := .ref (a 1)) (C := RX7) (T := TX7) (N := 15) hx hb hts inX7 hown hK hP 0 rfl rfl 0 (by decide) (hts _ tw183) (fun _ h9 => h9) rfl dX7_peek_1 ?_
  refine lv_iload_n hx hb dX7_peek_4 rfl (lv_at hl 1 rfl) ?_
  refine fr_go (va_runV (As := [.int p0]) (rest := []) ⟨hx, hb, hml, hown, hts⟩ (kX4_at l g (a 1) (a 2) (x_mem σ) p0 H.size) (cwV 1 hts (gdV tw233 tw234 tw235 tw2 tw236) rfl rfl rfl (by decide +kernel) ⟨Nat.le_of_ble_eq_true rfl, Nat.le_of_ble_eq_true rfl⟩) ⟨Pst.blind, va_recv hK hP (ci := 4) (q0 := 1) rfl rfl, fr_pre hK hP hD [1, 2] (by decide) rfl⟩ rfl rfl hl.1 rfl (lv_room (Nat.le_of_ble_eq_true rfl)) dX7_peek_5 ⟨Nat.le_of_ble_eq_true rfl, Nat.le_of_ble_eq_true rfl⟩) hP hD hS hA [1, 2] rfl (fun v w9 H locs hq hP hD hS => ?_)
  obtain ⟨rfl, rfl⟩ := hq
  have hP : va_P g.1 vwCl (dvW g a (x_mem σ) (x_med σ) (x_cb σ) (x_ca σ) (x_nc σ) (x_cg σ) (x_T σ) (x_op σ) (x_id σ) (x_fg σ) (x_n σ) (x_cp σ) (x_cq σ) (x_cx σ) (x_pg σ) (x_fi σ) (x_F σ) (x_rw σ) (x_on σ) (x_bi σ) (x_tu σ) (x_re σ) (x_dw σ) (x_dq σ) (x_br σ) (x_bs σ)) H := hP
  have hD : va_D A (dvW g a (x_mem σ) (x_med σ) (x_cb σ) (x_ca σ) (x_nc σ) (x_cg σ) (x_T σ) (x_op σ) (x_id σ) (x_fg σ) (x_n σ) (x_cp σ) (x_cq σ) (x_cx σ) (x_pg σ) (x_fi σ) (x_F σ) (x_rw σ) (x_on σ) (x_bi σ) (x_tu σ) (x_re σ) (x_dw σ) (x_dq σ) (x_br σ) (x_bs σ)) := hD
  show W p l e _ s m _ below meth c H locs _ _ _ (F0 m (5 + 3) ls (.long (mAt (x_mem σ) p0) :: []))
  exact W.lret (v := mAt (x_mem σ) p0) hx hb hr (fun t ht _ => ⟨⟨(some (.long (mAt (x_mem σ) p0))), dvW g a (x_mem σ) (x_med σ) (x_cb σ) (x_ca σ) (x_nc σ) (x_cg σ) (x_T σ) (x_op σ) (x_id σ) (x_fg σ) (x_n σ) (x_cp σ) (x_cq σ) (x_cx σ) (x_pg σ) (x_fi σ) (x_F σ) (x_rw σ) (x_on σ) (x_bi σ) (x_tu σ) (x_re σ) (x_dw σ) (x_dq σ) (x_br σ) (x_bs σ), rfl, ⟨rfl, rfl⟩, rfl, by rw [ht]; exact hP⟩, hS.F ht⟩) hS.2.2 dX7_peek_8
set_option maxHeartbeats 4000000 in
set_option maxRecDepth 100000 in
/-- poke -/
theorem kX7_poke (l : Launch) (g : GG) (a : Nat → Nat) (σ : CS) (p0 : Int32) (v0 : Int64) : Ct l yX7_poke cX7_poke 4 (some .int) ({ frames := 2, cells := 0, slots := 0, locals := 44 } : Room) g [.ref (a 0), .int p0, .long v0] (dvW g a (x_mem σ) (x_med σ) (x_cb σ) (x_ca σ) (x_nc σ) (x_cg σ) (x_T σ) (x_op σ) (x_id σ) (x_fg σ) (x_n σ) (x_cp σ) (x_cq σ) (x_cx σ) (x_pg σ) (x_fi σ) (x_F σ) (x_rw σ) (x_on σ) (x_bi σ) (x_tu σ) (x_re σ) (x_dw σ) (x_dq σ) (x_br σ) (x_bs σ)) (fun v w' => v = some (.int (if hol p0.toInt64 then 0 else -1)) ∧ w' = dvW g a (mPut (x_mem σ) p0 v0) (x_med σ) (x_cb σ) (x_ca σ) (x_nc σ) (x_cg σ) (x_T σ) (x_op σ) (x_id σ) (x_fg σ) (x_n σ) (x_cp σ) (x_cq σ) (x_cx σ) (x_pg σ) (x_fi σ) (x_F σ) (x_rw σ) (x_on σ) (x_bi σ) (x_tu σ) (x_re σ) (x_dw σ) (x_dq σ) (x_br σ) (x_bs σ)) := by
  refine Ct.of (by decide) (Nat.le_of_ble_eq_true rfl) ?_
  intro p e s m below meth c A ls H locs hx hb hr hml hlocks hts hown hin hA hS hK hP hD hl
  have hown : s.vm.findClass RX7 = some m.cls := hown
  have hl : lv_has ls 4 [(0, .ref (a 0)), (1, .int p0), (2, .long v0)] := hl
  refine lv_iload_n hx hb dX7_poke_0 rfl (lv_at hl 1 rfl) ?_
  refine lv_i2l hx hb dX7_poke_1 rfl ?_
  refine fr_go (va_runS (As := [.long p0.toInt64]) (rest := []) ⟨hx, hb, hml, hown, hts⟩ (kX4_holds l g p0.toInt64 H.size) (va_cwS 1 hts (gdS tw245 tw238 tw2 tw239) rfl rfl rfl (by decide +kernel) ⟨Nat.le_of_ble_eq_true rfl, Nat.le_of_ble_eq_true rfl⟩) ⟨Pst.blind, fr_pre hK hP hD [] rfl rfl⟩ rfl rfl hl.1 rfl (lv_room (Nat.le_of_ble_eq_true rfl)) dX7_poke_2 ⟨Nat.le_of_ble_eq_true rfl, Nat.le_of_ble_eq_true rfl⟩) hP hD hS hA [] rfl (fun v w9 H locs hq hP hD hS => ?_)
  obtain ⟨rfl, rfl⟩ := hq
  have hP : va_P g.1 vwCl (dvW g a (x_mem σ) (x_med σ) (x_cb σ) (x_ca σ) (x_nc σ) (x_cg σ) (x_T σ) (x_op σ) (x_id σ) (x_fg σ) (x_n σ) (x_cp σ) (x_cq σ) (x_cx σ) (x_pg σ) (x_fi σ) (x_F σ) (x_rw σ) (x_on σ) (x_bi σ) (x_tu σ) (x_re σ) (x_dw σ) (x_dq σ) (x_br σ) (x_bs σ)) H := hP
  have hD : va_D A (dvW g a (x_mem σ) (x_med σ) (x_cb σ) (x_ca σ) (x_nc σ) (x_cg σ) (x_T σ) (x_op σ) (x_id σ) (x_fg σ) (x_n σ) (x_cp σ) (x_cq σ) (x_cx σ) (x_pg σ) (x_fi σ) (x_F σ) (x_rw σ) (x_on σ) (x_bi σ) (x_tu σ) (x_re σ) (x_dw σ) (x_dq σ) (x_br σ) (x_bs σ)) := hD
  show W p l e _ s m _ below meth c H locs _ _ _ (F0 m (2 + 3) ls (.int (bI (hol p0.toInt64)) :: []))
  refine lv_if_ne (tgt := 10) hx hb dX7_poke_5 (by decide) (fun c5 => ?_) (fun c5 => ?_)
  · have c5 := bI_t c5
    refine lv_aload_n hx hb dX7_poke_10 rfl (lv_at hl 0 rfl) ?_
    refine va_get (D := g.1) (ci := 6) (v := .ref (a 1)) (C := RX7) (T := TX7) (N := 15) hx hb hts inX7 hown hK hP 0 rfl rfl 0 (by decide) (hts _ tw183) (fun _ h9 => h9) rfl dX7_poke_11 ?_
    refine lv_iload_n hx hb dX7_poke_14 rfl (lv_at hl 1 rfl) ?_
    refine lv_lload_n hx hb dX7_poke_15 rfl (lv_at hl 2 rfl) ?_
    refine fr_go (va_runV (As := [.int p0, .long v0]) (rest := []) ⟨hx, hb, hml, hown, hts⟩ (kX4_put l g (a 1) (a 2) (x_mem σ) p0 v0 H.size) (cwV 2 hts (gdV tw246 tw247 tw248 tw2 tw249) rfl rfl rfl (by decide +kernel) ⟨Nat.le_of_ble_eq_true rfl, Nat.le_of_ble_eq_true rfl⟩) ⟨Pst.blind, va_recv hK hP (ci := 4) (q0 := 1) rfl rfl, fr_pre hK hP hD [1, 2] (by decide) rfl⟩ rfl rfl hl.1 rfl (lv_room (Nat.le_of_ble_eq_true rfl)) dX7_poke_16 ⟨Nat.le_of_ble_eq_true rfl, Nat.le_of_ble_eq_true rfl⟩) hP hD hS hA [1, 2] rfl (fun v w9 H locs hq hP hD hS => ?_)
    obtain ⟨rfl, rfl⟩ := hq
    have hP : va_P g.1 vwCl (dvW g a (mPut (x_mem σ) p0 v0) (x_med σ) (x_cb σ) (x_ca σ) (x_nc σ) (x_cg σ) (x_T σ) (x_op σ) (x_id σ) (x_fg σ) (x_n σ) (x_cp σ) (x_cq σ) (x_cx σ) (x_pg σ) (x_fi σ) (x_F σ) (x_rw σ) (x_on σ) (x_bi σ) (x_tu σ) (x_re σ) (x_dw σ) (x_dq σ) (x_br σ) (x_bs σ)) H := hP
    have hD : va_D A (dvW g a (mPut (x_mem σ) p0 v0) (x_med σ) (x_cb σ) (x_ca σ) (x_nc σ) (x_cg σ) (x_T σ) (x_op σ) (x_id σ) (x_fg σ) (x_n σ) (x_cp σ) (x_cq σ) (x_cx σ) (x_pg σ) (x_fi σ) (x_F σ) (x_rw σ) (x_on σ) (x_bi σ) (x_tu σ) (x_re σ) (x_dw σ) (x_dq σ) (x_br σ) (x_bs σ)) := hD
    show W p l e _ s m _ below meth c H locs _ _ _ (F0 m (16 + 3) ls ([]))
    refine lv_iconst (v := 0) hx hb dX7_poke_19 (by decide) ?_
    exact W.iret (v := 0) hx hb hr (fun t ht _ => ⟨⟨(some (.int 0)), dvW g a (mPut (x_mem σ) p0 v0) (x_med σ) (x_cb σ) (x_ca σ) (x_nc σ) (x_cg σ) (x_T σ) (x_op σ) (x_id σ) (x_fg σ) (x_n σ) (x_cp σ) (x_cq σ) (x_cx σ) (x_pg σ) (x_fi σ) (x_F σ) (x_rw σ) (x_on σ) (x_bi σ) (x_tu σ) (x_re σ) (x_dw σ) (x_dq σ) (x_br σ) (x_bs σ), rfl, ⟨congrArg (fun z : Int32 => some (Value.int z)) (if_pos c5).symm, rfl⟩, rfl, by rw [ht]; exact hP⟩, hS.F ht⟩) hS.2.2 dX7_poke_20
  · have c5 := bI_f c5
    refine lv_iconst (v := -1) hx hb dX7_poke_8 (by decide) ?_
    exact W.iret (v := -1) hx hb hr (fun t ht _ => ⟨⟨(some (.int (-1))), dvW g a (x_mem σ) (x_med σ) (x_cb σ) (x_ca σ) (x_nc σ) (x_cg σ) (x_T σ) (x_op σ) (x_id σ) (x_fg σ) (x_n σ) (x_cp σ) (x_cq σ) (x_cx σ) (x_pg σ) (x_fi σ) (x_F σ) (x_rw σ) (x_on σ) (x_bi σ) (x_tu σ) (x_re σ) (x_dw σ) (x_dq σ) (x_br σ) (x_bs σ), rfl, ⟨congrArg (fun z : Int32 => some (Value.int z)) (if_neg c5).symm, by rw [mPut, if_neg c5]⟩, rfl, by rw [ht]; exact hP⟩, hS.F ht⟩) hS.2.2 dX7_poke_9
set_option maxHeartbeats 4000000 in
set_option maxRecDepth 100000 in
/-- hasSubmission -/
theorem kX7_hasSubmission (l : Launch) (g : GG) (a : Nat → Nat) (σ : CS) (x : Int64) : Ct l yX7_hasSubmission cX7_hasSubmission 3 (some .boolean) ({ frames := 0, cells := 0, slots := 0, locals := 0 } : Room) g [.ref (a 0), .long x] (dvW g a (x_mem σ) (x_med σ) (x_cb σ) (x_ca σ) (x_nc σ) (x_cg σ) (x_T σ) (x_op σ) (x_id σ) (x_fg σ) (x_n σ) (x_cp σ) (x_cq σ) (x_cx σ) (x_pg σ) (x_fi σ) (x_F σ) (x_rw σ) (x_on σ) (x_bi σ) (x_tu σ) (x_re σ) (x_dw σ) (x_dq σ) (x_br σ) (x_bs σ)) (fun v w' => v = some (.int (bI (hasS (x_T σ) x))) ∧ w' = dvW g a (x_mem σ) (x_med σ) (x_cb σ) (x_ca σ) (x_nc σ) (x_cg σ) (x_T σ) (x_op σ) (x_id σ) (x_fg σ) (x_n σ) (x_cp σ) (x_cq σ) (x_cx σ) (x_pg σ) (x_fi σ) (x_F σ) (x_rw σ) (x_on σ) (x_bi σ) (x_tu σ) (x_re σ) (x_dw σ) (x_dq σ) (x_br σ) (x_bs σ)) := by
  refine Ct.of (by decide) (Nat.le_of_ble_eq_true rfl) ?_
  intro p e s m below meth c A ls H locs hx hb hr hml hlocks hts hown hin hA hS hK hP hD hl
  have hown : s.vm.findClass RX7 = some m.cls := hown
  have hl : lv_has ls 3 [(0, .ref (a 0)), (1, .long x)] := hl
  refine lv_lload_n hx hb dX7_hasSubmission_0 rfl (lv_at hl 1 rfl) ?_
  refine lv_lconst (v := 0) hx hb dX7_hasSubmission_1 (by decide) ?_
  refine W.lcmp hx hb dX7_hasSubmission_2 ?_
  refine lv_if_lt (tgt := 31) hx hb dX7_hasSubmission_3 (by decide) (fun c3 => ?_) (fun c3 => ?_)
  · have c3 := (lg_cmp_lt x 0).mp c3
    refine lv_iconst (v := 0) hx hb dX7_hasSubmission_31 (by decide) ?_
    exact W.zret (v := 0) hx hb hr (by first | rfl | exact bz_n (by first | assumption | exact bI_z | decide)) (fun t ht _ => ⟨⟨(some (.int 0)), dvW g a (x_mem σ) (x_med σ) (x_cb σ) (x_ca σ) (x_nc σ) (x_cg σ) (x_T σ) (x_op σ) (x_id σ) (x_fg σ) (x_n σ) (x_cp σ) (x_cq σ) (x_cx σ) (x_pg σ) (x_fi σ) (x_F σ) (x_rw σ) (x_on σ) (x_bi σ) (x_tu σ) (x_re σ) (x_dw σ) (x_dq σ) (x_br σ) (x_bs σ), rfl, ⟨congrArg (fun z : Int32 => some (Value.int z)) (by first | exact bI_0 (fun q => q.1 c3) | exact bI_0 (fun q => c3 q.1)), rfl⟩, rfl, by rw [ht]; exact hP⟩, hS.F ht⟩) hS.2.2 dX7_hasSubmission_32
  · have c3 := (not_congr (lg_cmp_lt x 0)).mp c3
    refine lv_lload_n hx hb dX7_hasSubmission_6 rfl (lv_at hl 1 rfl) ?_
    refine lv_ldc2 hx hb hown (hts _ tw322) dX7_hasSubmission_7 ?_
    refine W.lcmp hx hb dX7_hasSubmission_10 ?_
    refine lv_if_ge (tgt := 31) hx hb dX7_hasSubmission_11 (by decide) (fun c11 => ?_) (fun c11 => ?_)
    · have c11 := (lg_cmp_ge x 4).mp c11
      refine lv_iconst (v := 0) hx hb dX7_hasSubmission_31 (by decide) ?_
      exact W.zret (v := 0) hx hb hr (by first | rfl | exact bz_n (by first | assumption | exact bI_z | decide)) (fun t ht _ => ⟨⟨(some (.int 0)), dvW g a (x_mem σ) (x_med σ) (x_cb σ) (x_ca σ) (x_nc σ) (x_cg σ) (x_T σ) (x_op σ) (x_id σ) (x_fg σ) (x_n σ) (x_cp σ) (x_cq σ) (x_cx σ) (x_pg σ) (x_fi σ) (x_F σ) (x_rw σ) (x_on σ) (x_bi σ) (x_tu σ) (x_re σ) (x_dw σ) (x_dq σ) (x_br σ) (x_bs σ), rfl, ⟨congrArg (fun z : Int32 => some (Value.int z)) (by first | exact bI_0 (fun q => q.2.1 c11) | exact bI_0 (fun q => c11 q.2.1)), rfl⟩, rfl, by rw [ht]; exact hP⟩, hS.F ht⟩) hS.2.2 dX7_hasSubmission_32
    · have c11 := (not_congr (lg_cmp_ge x 4)).mp c11
      have hq := q4_n c3 c11
      have hq4 := hq.1
      refine lv_aload_n hx hb dX7_hasSubmission_14 rfl (lv_at hl 0 rfl) ?_
      refine va_get (D := g.1) (ci := 6) (v := .ref (a 7)) (C := RX7) (T := TX7) (N := 15) hx hb hts inX7 hown hK hP 0 rfl rfl 2 (by decide) (hts _ tw185) (fun _ h9 => h9) rfl dX7_hasSubmission_15 ?_
      refine lv_lload_n hx hb dX7_hasSubmission_18 rfl (lv_at hl 1 rfl) ?_
      refine lv_l2i hx hb dX7_hasSubmission_19 rfl ?_
      refine fr_topi (y := nI (pN x)) hq.2.1 ?_
      refine fr_aald (k := (pN x)) (b := (a (13 + (pN x)))) hx hb hK hP 7 3 rfl rfl rfl hq4 (by decide) (if_pos hq4) dX7_hasSubmission_20 ?_
      refine va_get (D := g.1) (ci := 5) (v := .int ((x_T σ) 0 (pN x))) (C := RX6) (T := TX6) (N := 6) hx hb hts inX6 hown hK hP (13 + (pN x)) (dvS (j := pN x) (by omega)) rfl 0 (by decide) (hts _ tw70) (u_same (hts _ tw71)) rfl dX7_hasSubmission_21 ?_
      refine lv_if_eq (tgt := 31) hx hb dX7_hasSubmission_24 (by decide) (fun c24 => ?_) (fun c24 => ?_)
      · refine lv_iconst (v := 0) hx hb dX7_hasSubmission_31 (by decide) ?_
        exact W.zret (v := 0) hx hb hr (by first | rfl | exact bz_n (by first | assumption | exact bI_z | decide)) (fun t ht _ => ⟨⟨(some (.int 0)), dvW g a (x_mem σ) (x_med σ) (x_cb σ) (x_ca σ) (x_nc σ) (x_cg σ) (x_T σ) (x_op σ) (x_id σ) (x_fg σ) (x_n σ) (x_cp σ) (x_cq σ) (x_cx σ) (x_pg σ) (x_fi σ) (x_F σ) (x_rw σ) (x_on σ) (x_bi σ) (x_tu σ) (x_re σ) (x_dw σ) (x_dq σ) (x_br σ) (x_bs σ), rfl, ⟨congrArg (fun z : Int32 => some (Value.int z)) (by first | exact bI_0 (fun q => q.2.2 c24) | exact bI_0 (fun q => c24 q.2.2)), rfl⟩, rfl, by rw [ht]; exact hP⟩, hS.F ht⟩) hS.2.2 dX7_hasSubmission_32
      · refine lv_iconst (v := 1) hx hb dX7_hasSubmission_27 (by decide) ?_
        refine lv_goto (tgt := 32) hx hb dX7_hasSubmission_28 (by decide) ?_
        exact W.zret (v := 1) hx hb hr (by first | rfl | exact bz_n (by first | assumption | exact bI_z | decide)) (fun t ht _ => ⟨⟨(some (.int 1)), dvW g a (x_mem σ) (x_med σ) (x_cb σ) (x_ca σ) (x_nc σ) (x_cg σ) (x_T σ) (x_op σ) (x_id σ) (x_fg σ) (x_n σ) (x_cp σ) (x_cq σ) (x_cx σ) (x_pg σ) (x_fi σ) (x_F σ) (x_rw σ) (x_on σ) (x_bi σ) (x_tu σ) (x_re σ) (x_dw σ) (x_dq σ) (x_br σ) (x_bs σ), rfl, ⟨congrArg (fun z : Int32 => some (Value.int z)) (bI_1 ⟨c3, c11, c24⟩), rfl⟩, rfl, by rw [ht]; exact hP⟩, hS.F ht⟩) hS.2.2 dX7_hasSubmission_32
set_option maxHeartbeats 4000000 in
set_option maxRecDepth 100000 in
/-- hasCompletion -/
theorem kX7_hasCompletion (l : Launch) (g : GG) (a : Nat → Nat) (σ : CS) (x : Int64) : Ct l yX7_hasCompletion cX7_hasCompletion 3 (some .boolean) ({ frames := 0, cells := 0, slots := 0, locals := 0 } : Room) g [.ref (a 0), .long x] (dvW g a (x_mem σ) (x_med σ) (x_cb σ) (x_ca σ) (x_nc σ) (x_cg σ) (x_T σ) (x_op σ) (x_id σ) (x_fg σ) (x_n σ) (x_cp σ) (x_cq σ) (x_cx σ) (x_pg σ) (x_fi σ) (x_F σ) (x_rw σ) (x_on σ) (x_bi σ) (x_tu σ) (x_re σ) (x_dw σ) (x_dq σ) (x_br σ) (x_bs σ)) (fun v w' => v = some (.int (bI (hasC (x_T σ) x))) ∧ w' = dvW g a (x_mem σ) (x_med σ) (x_cb σ) (x_ca σ) (x_nc σ) (x_cg σ) (x_T σ) (x_op σ) (x_id σ) (x_fg σ) (x_n σ) (x_cp σ) (x_cq σ) (x_cx σ) (x_pg σ) (x_fi σ) (x_F σ) (x_rw σ) (x_on σ) (x_bi σ) (x_tu σ) (x_re σ) (x_dw σ) (x_dq σ) (x_br σ) (x_bs σ)) := by
  refine Ct.of (by decide) (Nat.le_of_ble_eq_true rfl) ?_
  intro p e s m below meth c A ls H locs hx hb hr hml hlocks hts hown hin hA hS hK hP hD hl
  have hown : s.vm.findClass RX7 = some m.cls := hown
  have hl : lv_has ls 3 [(0, .ref (a 0)), (1, .long x)] := hl
  refine lv_lload_n hx hb dX7_hasCompletion_0 rfl (lv_at hl 1 rfl) ?_
  refine lv_lconst (v := 0) hx hb dX7_hasCompletion_1 (by decide) ?_
  refine W.lcmp hx hb dX7_hasCompletion_2 ?_
  refine lv_if_lt (tgt := 31) hx hb dX7_hasCompletion_3 (by decide) (fun c3 => ?_) (fun c3 => ?_)
  · have c3 := (lg_cmp_lt x 0).mp c3
    refine lv_iconst (v := 0) hx hb dX7_hasCompletion_31 (by decide) ?_
    exact W.zret (v := 0) hx hb hr (by first | rfl | exact bz_n (by first | assumption | exact bI_z | decide)) (fun t ht _ => ⟨⟨(some (.int 0)), dvW g a (x_mem σ) (x_med σ) (x_cb σ) (x_ca σ) (x_nc σ) (x_cg σ) (x_T σ) (x_op σ) (x_id σ) (x_fg σ) (x_n σ) (x_cp σ) (x_cq σ) (x_cx σ) (x_pg σ) (x_fi σ) (x_F σ) (x_rw σ) (x_on σ) (x_bi σ) (x_tu σ) (x_re σ) (x_dw σ) (x_dq σ) (x_br σ) (x_bs σ), rfl, ⟨congrArg (fun z : Int32 => some (Value.int z)) (by first | exact bI_0 (fun q => q.1 c3) | exact bI_0 (fun q => c3 q.1)), rfl⟩, rfl, by rw [ht]; exact hP⟩, hS.F ht⟩) hS.2.2 dX7_hasCompletion_32
  · have c3 := (not_congr (lg_cmp_lt x 0)).mp c3
    refine lv_lload_n hx hb dX7_hasCompletion_6 rfl (lv_at hl 1 rfl) ?_
    refine lv_ldc2 hx hb hown (hts _ tw322) dX7_hasCompletion_7 ?_
    refine W.lcmp hx hb dX7_hasCompletion_10 ?_
    refine lv_if_ge (tgt := 31) hx hb dX7_hasCompletion_11 (by decide) (fun c11 => ?_) (fun c11 => ?_)
    · have c11 := (lg_cmp_ge x 4).mp c11
      refine lv_iconst (v := 0) hx hb dX7_hasCompletion_31 (by decide) ?_
      exact W.zret (v := 0) hx hb hr (by first | rfl | exact bz_n (by first | assumption | exact bI_z | decide)) (fun t ht _ => ⟨⟨(some (.int 0)), dvW g a (x_mem σ) (x_med σ) (x_cb σ) (x_ca σ) (x_nc σ) (x_cg σ) (x_T σ) (x_op σ) (x_id σ) (x_fg σ) (x_n σ) (x_cp σ) (x_cq σ) (x_cx σ) (x_pg σ) (x_fi σ) (x_F σ) (x_rw σ) (x_on σ) (x_bi σ) (x_tu σ) (x_re σ) (x_dw σ) (x_dq σ) (x_br σ) (x_bs σ), rfl, ⟨congrArg (fun z : Int32 => some (Value.int z)) (by first | exact bI_0 (fun q => q.2.1 c11) | exact bI_0 (fun q => c11 q.2.1)), rfl⟩, rfl, by rw [ht]; exact hP⟩, hS.F ht⟩) hS.2.2 dX7_hasCompletion_32
    · have c11 := (not_congr (lg_cmp_ge x 4)).mp c11
      have hq := q4_n c3 c11
      have hq4 := hq.1
      refine lv_aload_n hx hb dX7_hasCompletion_14 rfl (lv_at hl 0 rfl) ?_
      refine va_get (D := g.1) (ci := 6) (v := .ref (a 8)) (C := RX7) (T := TX7) (N := 15) hx hb hts inX7 hown hK hP 0 rfl rfl 3 (by decide) (hts _ tw186) (fun _ h9 => h9) rfl dX7_hasCompletion_15 ?_
      refine lv_lload_n hx hb dX7_hasCompletion_18 rfl (lv_at hl 1 rfl) ?_
      refine lv_l2i hx hb dX7_hasCompletion_19 rfl ?_
      refine fr_topi (y := nI (pN x)) hq.2.1 ?_
      refine fr_aald (k := (pN x)) (b := (a (17 + (pN x)))) hx hb hK hP 8 4 rfl rfl rfl hq4 (by decide) (if_pos hq4) dX7_hasCompletion_20 ?_
      refine va_get (D := g.1) (ci := 1) (v := .int ((x_T σ) 0 (4 + (pN x)))) (C := RX1) (T := TX1) (N := 7) hx hb hts inX1 hown hK hP (17 + (pN x)) (dvC (j := pN x) (by omega)) rfl 0 (by decide) (hts _ tw72) (u_same (hts _ tw73)) rfl dX7_hasCompletion_21 ?_
      refine lv_if_eq (tgt := 31) hx hb dX7_hasCompletion_24 (by decide) (fun c24 => ?_) (fun c24 => ?_)
      · refine lv_iconst (v := 0) hx hb dX7_hasCompletion_31 (by decide) ?_
        exact W.zret (v := 0) hx hb hr (by first | rfl | exact bz_n (by first | assumption | exact bI_z | decide)) (fun t ht _ => ⟨⟨(some (.int 0)), dvW g a (x_mem σ) (x_med σ) (x_cb σ) (x_ca σ) (x_nc σ) (x_cg σ) (x_T σ) (x_op σ) (x_id σ) (x_fg σ) (x_n σ) (x_cp σ) (x_cq σ) (x_cx σ) (x_pg σ) (x_fi σ) (x_F σ) (x_rw σ) (x_on σ) (x_bi σ) (x_tu σ) (x_re σ) (x_dw σ) (x_dq σ) (x_br σ) (x_bs σ), rfl, ⟨congrArg (fun z : Int32 => some (Value.int z)) (by first | exact bI_0 (fun q => q.2.2 c24) | exact bI_0 (fun q => c24 q.2.2)), rfl⟩, rfl, by rw [ht]; exact hP⟩, hS.F ht⟩) hS.2.2 dX7_hasCompletion_32
      · refine lv_iconst (v := 1) hx hb dX7_hasCompletion_27 (by decide) ?_
        refine lv_goto (tgt := 32) hx hb dX7_hasCompletion_28 (by decide) ?_
        exact W.zret (v := 1) hx hb hr (by first | rfl | exact bz_n (by first | assumption | exact bI_z | decide)) (fun t ht _ => ⟨⟨(some (.int 1)), dvW g a (x_mem σ) (x_med σ) (x_cb σ) (x_ca σ) (x_nc σ) (x_cg σ) (x_T σ) (x_op σ) (x_id σ) (x_fg σ) (x_n σ) (x_cp σ) (x_cq σ) (x_cx σ) (x_pg σ) (x_fi σ) (x_F σ) (x_rw σ) (x_on σ) (x_bi σ) (x_tu σ) (x_re σ) (x_dw σ) (x_dq σ) (x_br σ) (x_bs σ), rfl, ⟨congrArg (fun z : Int32 => some (Value.int z)) (bI_1 ⟨c3, c11, c24⟩), rfl⟩, rfl, by rw [ht]; exact hP⟩, hS.F ht⟩) hS.2.2 dX7_hasCompletion_32
set_option maxHeartbeats 4000000 in
set_option maxRecDepth 100000 in
/-- interrupts -/
theorem kX7_interrupts (l : Launch) (g : GG) (a : Nat → Nat) (σ : CS) (p0 : Int32) : Ct l yX7_interrupts cX7_interrupts 3 (some .int) ({ frames := 0, cells := 0, slots := 0, locals := 0 } : Room) g [.ref (a 0), .int p0] (dvW g a (x_mem σ) (x_med σ) (x_cb σ) (x_ca σ) (x_nc σ) (x_cg σ) (x_T σ) (x_op σ) (x_id σ) (x_fg σ) (x_n σ) (x_cp σ) (x_cq σ) (x_cx σ) (x_pg σ) (x_fi σ) (x_F σ) (x_rw σ) (x_on σ) (x_bi σ) (x_tu σ) (x_re σ) (x_dw σ) (x_dq σ) (x_br σ) (x_bs σ)) (fun v w' => v = some (.int (x_bi σ)) ∧ w' = dvW g a (x_mem σ) (x_med σ) (x_cb σ) (x_ca σ) (x_nc σ) (x_cg σ) (x_T σ) (x_op σ) (x_id σ) (x_fg σ) (x_n σ) (x_cp σ) (x_cq σ) (x_cx σ) (x_pg σ) (x_fi σ) (x_F σ) (x_rw σ) (x_on σ) (x_bi σ &&& (p0 ^^^ -1)) (x_tu σ) (x_re σ) (x_dw σ) (x_dq σ) (x_br σ) (x_bs σ)) := by
  refine Ct.of (by decide) (Nat.le_of_ble_eq_true rfl) ?_
  intro p e s m below meth c A ls H locs hx hb hr hml hlocks hts hown hin hA hS hK hP hD hl
  have hown : s.vm.findClass RX7 = some m.cls := hown
  have hl : lv_has ls 3 [(0, .ref (a 0)), (1, .int p0)] := hl
  refine lv_aload_n hx hb dX7_interrupts_0 rfl (lv_at hl 0 rfl) ?_
  refine va_get (D := g.1) (ci := 6) (v := .int (x_bi σ)) (C := RX7) (T := TX7) (N := 15) hx hb hts inX7 hown hK hP 0 rfl rfl 8 (by decide) (hts _ tw191) (fun _ h9 => h9) rfl dX7_interrupts_1 ?_
  refine lv_istore_n (lv' := [(2, .int (x_bi σ)), (0, .ref (a 0)), (1, .int p0)]) hx hb dX7_interrupts_4 rfl hl (by decide) rfl (fun ls hl => ?_)
  refine lv_aload_n hx hb dX7_interrupts_5 rfl (lv_at hl 1 rfl) ?_
  refine lv_iload_n hx hb dX7_interrupts_6 rfl (lv_at hl 0 rfl) ?_
  refine lv_iload_n hx hb dX7_interrupts_7 rfl (lv_at hl 2 rfl) ?_
  refine lv_iconst (v := -1) hx hb dX7_interrupts_8 (by decide) ?_
  refine lv_ixor hx hb dX7_interrupts_9 ?_
  refine lv_iand hx hb dX7_interrupts_10 ?_
  refine va_put (D := g.1) (ci := 6) (v := .int ((x_bi σ) &&& (p0 ^^^ (-1)))) (ty := .int) (C := RX7) (T := TX7) (N := 15) hx hb hts inX7 tyX7 tyX7_ok nmX7 hown hK hP hD hS 0 rfl rfl 8 (by decide) (hts _ tw191) (fun _ h9 => h9) rfl (by decide +kernel) rfl rfl (Nat.le_of_ble_eq_true rfl) dX7_interrupts_11 (fun H locs hP hD hS => ?_)
  have hP : va_P g.1 vwCl (dvW g a (x_mem σ) (x_med σ) (x_cb σ) (x_ca σ) (x_nc σ) (x_cg σ) (x_T σ) (x_op σ) (x_id σ) (x_fg σ) (x_n σ) (x_cp σ) (x_cq σ) (x_cx σ) (x_pg σ) (x_fi σ) (x_F σ) (x_rw σ) (x_on σ) ((x_bi σ) &&& (p0 ^^^ (-1))) (x_tu σ) (x_re σ) (x_dw σ) (x_dq σ) (x_br σ) (x_bs σ)) H := hP
  have hD : va_D A (dvW g a (x_mem σ) (x_med σ) (x_cb σ) (x_ca σ) (x_nc σ) (x_cg σ) (x_T σ) (x_op σ) (x_id σ) (x_fg σ) (x_n σ) (x_cp σ) (x_cq σ) (x_cx σ) (x_pg σ) (x_fi σ) (x_F σ) (x_rw σ) (x_on σ) ((x_bi σ) &&& (p0 ^^^ (-1))) (x_tu σ) (x_re σ) (x_dw σ) (x_dq σ) (x_br σ) (x_bs σ)) := hD
  refine lv_iload_n hx hb dX7_interrupts_14 rfl (lv_at hl 0 rfl) ?_
  exact W.iret (v := (x_bi σ)) hx hb hr (fun t ht _ => ⟨⟨(some (.int (x_bi σ))), dvW g a (x_mem σ) (x_med σ) (x_cb σ) (x_ca σ) (x_nc σ) (x_cg σ) (x_T σ) (x_op σ) (x_id σ) (x_fg σ) (x_n σ) (x_cp σ) (x_cq σ) (x_cx σ) (x_pg σ) (x_fi σ) (x_F σ) (x_rw σ) (x_on σ) ((x_bi σ) &&& (p0 ^^^ (-1))) (x_tu σ) (x_re σ) (x_dw σ) (x_dq σ) (x_br σ) (x_bs σ), rfl, ⟨rfl, rfl⟩, rfl, by rw [ht]; exact hP⟩, hS.F ht⟩) hS.2.2 dX7_interrupts_15
set_option maxHeartbeats 4000000 in
set_option maxRecDepth 100000 in
/-- block -/
theorem kX7_block (l : Launch) (g : GG) (a : Nat → Nat) (σ : CS) (p0 : Int32) (p1 : Int32) (p2 : Int32) (hn : x_nc σ ≤ 6) : Ct l yX7_block cX7_block 4 (some .long) ({ frames := 4, cells := 0, slots := 0, locals := 87 } : Room) g [.ref (a 0), .int p0, .int p1, .int p2] (dvW g a (x_mem σ) (x_med σ) (x_cb σ) (x_ca σ) (x_nc σ) (x_cg σ) (x_T σ) (x_op σ) (x_id σ) (x_fg σ) (x_n σ) (x_cp σ) (x_cq σ) (x_cx σ) (x_pg σ) (x_fi σ) (x_F σ) (x_rw σ) (x_on σ) (x_bi σ) (x_tu σ) (x_re σ) (x_dw σ) (x_dq σ) (x_br σ) (x_bs σ)) (fun v w' => v = some (.long (if p2 = 0 then asR (x_med σ) (x_cb σ) (x_ca σ) (x_nc σ) p0 p1 else onM (x_med σ) p0 p1)) ∧ w' = dvW g a (x_mem σ) (x_med σ) (x_cb σ) (x_ca σ) (x_nc σ) (x_cg σ) (x_T σ) (x_op σ) (x_id σ) (x_fg σ) (x_n σ) (x_cp σ) (x_cq σ) (x_cx σ) (x_pg σ) (x_fi σ) (x_F σ) (x_rw σ) (x_on σ) (x_bi σ) (x_tu σ) (x_re σ) (x_dw σ) (x_dq σ) (x_br σ) (x_bs σ)) := by
  refine Ct.of (by decide) (Nat.le_of_ble_eq_true rfl) ?_
  intro p e s m below meth c A ls H locs hx hb hr hml hlocks hts hown hin hA hS hK hP hD hl
  have hown : s.vm.findClass RX7 = some m.cls := hown
  have hl : lv_has ls 4 [(0, .ref (a 0)), (1, .int p0), (2, .int p1), (3, .int p2)] := hl
  refine lv_iload_n hx hb dX7_block_0 rfl (lv_at hl 3 rfl) ?_
  refine lv_if_eq (tgt := 16) hx hb dX7_block_1 (by decide) (fun c1 => ?_) (fun c1 => ?_)
  · refine lv_aload_n hx hb dX7_block_16 rfl (lv_at hl 0 rfl) ?_
    refine va_get (D := g.1) (ci := 6) (v := .ref (a 3)) (C := RX7) (T := TX7) (N := 15) hx hb hts inX7 hown hK hP 0 rfl rfl 1 (by decide) (hts _ tw184) (fun _ h9 => h9) rfl dX7_block_17 ?_
    refine lv_iload_n hx hb dX7_block_20 rfl (lv_at hl 1 rfl) ?_
    refine lv_iload_n hx hb dX7_block_21 rfl (lv_at hl 2 rfl) ?_
    refine fr_go (va_runV (As := [.int p0, .int p1]) (rest := []) ⟨hx, hb, hml, hown, hts⟩ (kX3_asRead l g (a 3) (a 4) (a 5) (a 6) (x_med σ) (x_cb σ) (x_ca σ) (x_nc σ) (x_cg σ) p0 p1 (by first | assumption | omega) H.size) (cwV 2 hts (gdV tw576 tw577 tw578 tw3 tw579) rfl rfl rfl (by decide +kernel) ⟨Nat.le_of_ble_eq_true rfl, Nat.le_of_ble_eq_true rfl⟩) ⟨Pst.blind, va_recv hK hP (ci := 3) (q0 := 3) rfl rfl, fr_pre hK hP hD [3, 4, 5, 6] (by decide) rfl⟩ rfl rfl hl.1 rfl (lv_room (Nat.le_of_ble_eq_true rfl)) dX7_block_22 ⟨Nat.le_of_ble_eq_true rfl, Nat.le_of_ble_eq_true rfl⟩) hP hD hS hA [3, 4, 5, 6] rfl (fun v w9 H locs hq hP hD hS => ?_)
    obtain ⟨rfl, rfl⟩ := hq
    have hP : va_P g.1 vwCl (dvW g a (x_mem σ) (x_med σ) (x_cb σ) (x_ca σ) (x_nc σ) (x_cg σ) (x_T σ) (x_op σ) (x_id σ) (x_fg σ) (x_n σ) (x_cp σ) (x_cq σ) (x_cx σ) (x_pg σ) (x_fi σ) (x_F σ) (x_rw σ) (x_on σ) (x_bi σ) (x_tu σ) (x_re σ) (x_dw σ) (x_dq σ) (x_br σ) (x_bs σ)) H := hP
    have hD : va_D A (dvW g a (x_mem σ) (x_med σ) (x_cb σ) (x_ca σ) (x_nc σ) (x_cg σ) (x_T σ) (x_op σ) (x_id σ) (x_fg σ) (x_n σ) (x_cp σ) (x_cq σ) (x_cx σ) (x_pg σ) (x_fi σ) (x_F σ) (x_rw σ) (x_on σ) (x_bi σ) (x_tu σ) (x_re σ) (x_dw σ) (x_dq σ) (x_br σ) (x_bs σ)) := hD
    show W p l e _ s m _ below meth c H locs _ _ _ (F0 m (22 + 3) ls (.long (asR (x_med σ) (x_cb σ) (x_ca σ) (x_nc σ) p0 p1) :: []))
    exact W.lret (v := asR (x_med σ) (x_cb σ) (x_ca σ) (x_nc σ) p0 p1) hx hb hr (fun t ht _ => ⟨⟨(some (.long (asR (x_med σ) (x_cb σ) (x_ca σ) (x_nc σ) p0 p1))), dvW g a (x_mem σ) (x_med σ) (x_cb σ) (x_ca σ) (x_nc σ) (x_cg σ) (x_T σ) (x_op σ) (x_id σ) (x_fg σ) (x_n σ) (x_cp σ) (x_cq σ) (x_cx σ) (x_pg σ) (x_fi σ) (x_F σ) (x_rw σ) (x_on σ) (x_bi σ) (x_tu σ) (x_re σ) (x_dw σ) (x_dq σ) (x_br σ) (x_bs σ), rfl, ⟨congrArg (fun z : Int64 => some (Value.long z)) (by first | exact (if_pos ‹_›).symm | exact (if_neg ‹_›).symm), rfl⟩, rfl, by rw [ht]; exact hP⟩, hS.F ht⟩) hS.2.2 dX7_block_25
  · refine lv_aload_n hx hb dX7_block_4 rfl (lv_at hl 0 rfl) ?_
    refine va_get (D := g.1) (ci := 6) (v := .ref (a 3)) (C := RX7) (T := TX7) (N := 15) hx hb hts inX7 hown hK hP 0 rfl rfl 1 (by decide) (hts _ tw184) (fun _ h9 => h9) rfl dX7_block_5 ?_
    refine lv_iload_n hx hb dX7_block_8 rfl (lv_at hl 1 rfl) ?_
    refine lv_iload_n hx hb dX7_block_9 rfl (lv_at hl 2 rfl) ?_
    refine fr_go (va_runV (As := [.int p0, .int p1]) (rest := []) ⟨hx, hb, hml, hown, hts⟩ (kX3_onMedium l g (a 3) (a 4) (a 5) (a 6) (x_med σ) (x_cb σ) (x_ca σ) (x_nc σ) (x_cg σ) p0 p1 H.size) (cwV 2 hts (gdV tw569 tw570 tw571 tw3 tw572) rfl rfl rfl (by decide +kernel) ⟨Nat.le_of_ble_eq_true rfl, Nat.le_of_ble_eq_true rfl⟩) ⟨Pst.blind, va_recv hK hP (ci := 3) (q0 := 3) rfl rfl, fr_pre hK hP hD [3, 4, 5, 6] (by decide) rfl⟩ rfl rfl hl.1 rfl (lv_room (Nat.le_of_ble_eq_true rfl)) dX7_block_10 ⟨Nat.le_of_ble_eq_true rfl, Nat.le_of_ble_eq_true rfl⟩) hP hD hS hA [3, 4, 5, 6] rfl (fun v w9 H locs hq hP hD hS => ?_)
    obtain ⟨rfl, rfl⟩ := hq
    have hP : va_P g.1 vwCl (dvW g a (x_mem σ) (x_med σ) (x_cb σ) (x_ca σ) (x_nc σ) (x_cg σ) (x_T σ) (x_op σ) (x_id σ) (x_fg σ) (x_n σ) (x_cp σ) (x_cq σ) (x_cx σ) (x_pg σ) (x_fi σ) (x_F σ) (x_rw σ) (x_on σ) (x_bi σ) (x_tu σ) (x_re σ) (x_dw σ) (x_dq σ) (x_br σ) (x_bs σ)) H := hP
    have hD : va_D A (dvW g a (x_mem σ) (x_med σ) (x_cb σ) (x_ca σ) (x_nc σ) (x_cg σ) (x_T σ) (x_op σ) (x_id σ) (x_fg σ) (x_n σ) (x_cp σ) (x_cq σ) (x_cx σ) (x_pg σ) (x_fi σ) (x_F σ) (x_rw σ) (x_on σ) (x_bi σ) (x_tu σ) (x_re σ) (x_dw σ) (x_dq σ) (x_br σ) (x_bs σ)) := hD
    show W p l e _ s m _ below meth c H locs _ _ _ (F0 m (10 + 3) ls (.long (onM (x_med σ) p0 p1) :: []))
    refine lv_goto (tgt := 25) hx hb dX7_block_13 (by decide) ?_
    exact W.lret (v := onM (x_med σ) p0 p1) hx hb hr (fun t ht _ => ⟨⟨(some (.long (onM (x_med σ) p0 p1))), dvW g a (x_mem σ) (x_med σ) (x_cb σ) (x_ca σ) (x_nc σ) (x_cg σ) (x_T σ) (x_op σ) (x_id σ) (x_fg σ) (x_n σ) (x_cp σ) (x_cq σ) (x_cx σ) (x_pg σ) (x_fi σ) (x_F σ) (x_rw σ) (x_on σ) (x_bi σ) (x_tu σ) (x_re σ) (x_dw σ) (x_dq σ) (x_br σ) (x_bs σ), rfl, ⟨congrArg (fun z : Int64 => some (Value.long z)) (by first | exact (if_pos ‹_›).symm | exact (if_neg ‹_›).symm), rfl⟩, rfl, by rw [ht]; exact hP⟩, hS.F ht⟩) hS.2.2 dX7_block_25
