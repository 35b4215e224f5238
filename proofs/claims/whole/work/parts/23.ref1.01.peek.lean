set_option maxHeartbeats 4000000 in
set_option maxRecDepth 100000 in
/-- peek -/
theorem kX8_peek (l : Launch) (g : GG) (a : Nat → Nat) (ρ : RS) (p0 : Int32) : Ct l yX8_peek cX8_peek 2 (some .long) ({ frames := 1, cells := 0, slots := 0, locals := 25 } : Room) g [.ref (a 0), .int p0] (rfW g a (z_mem ρ) (z_R ρ) (z_cb ρ) (z_nc ρ) (z_tu ρ) (z_bi ρ) (z_cg ρ) (z_on ρ) (z_T ρ) (z_dn ρ) (z_fa ρ) (z_br ρ) (z_bs ρ) (z_cp ρ) (z_cq ρ) (z_cx ρ) (z_re ρ) (z_n ρ) (z_op ρ) (z_fg ρ) (z_sp ρ) (z_one ρ)) (fun v w' => v = some (.long (mAt (z_mem ρ) p0)) ∧ w' = rfW g a (z_mem ρ) (z_R ρ) (z_cb ρ) (z_nc ρ) (z_tu ρ) (z_bi ρ) (z_cg ρ) (z_on ρ) (z_T ρ) (z_dn ρ) (z_fa ρ) (z_br ρ) (z_bs ρ) (z_cp ρ) (z_cq ρ) (z_cx ρ) (z_re ρ) (z_n ρ) (z_op ρ) (z_fg ρ) (z_sp ρ) (z_one ρ)) := by
  refine Ct.of (by decide) (Nat.le_of_ble_eq_true rfl) ?_
  intro p e s m below meth c A ls H locs hx hb hr hml hlocks hts hown hin hA hS hK hP hD hl
  have hown : s.vm.findClass RX8 = some m.cls := hown
  have hl : lv_has ls 2 [(0, .ref (a 0)), (1, .int p0)] := hl
  refine lv_iload_n hx hb dX8_peek_0 rfl (lv_at hl 1 rfl) ?_
  refine lv_i2l hx hb dX8_peek_1 rfl ?_
  refine lv_lconst (v := 0) hx hb dX8_peek_2 (by decide) ?_
  refine lv_ldc2 hx hb hown (hts _ tw699) dX8_peek_3 ?_
  refine fr_go (va_runS (As := [.long p0.toInt64, .long 0, .long 1023]) (rest := []) ⟨hx, hb, hml, hown, hts⟩ (kX8_in l g p0.toInt64 0 1023 H.size) (va_cwS 3 hts (gdS tw700 tw701 tw9 tw702) rfl rfl rfl (by decide +kernel) ⟨Nat.le_of_ble_eq_true rfl, Nat.le_of_ble_eq_true rfl⟩) ⟨Pst.blind, fr_pre hK hP hD [] rfl rfl⟩ rfl rfl hl.1 rfl (lv_room (Nat.le_of_ble_eq_true rfl)) dX8_peek_6 ⟨Nat.le_of_ble_eq_true rfl, Nat.le_of_ble_eq_true rfl⟩) hP hD hS hA [] rfl (fun v w9 H locs hq hP hD hS => ?_)
  obtain ⟨rfl, rfl⟩ := hq
  have hP : va_P g.1 vwCl (rfW g a (z_mem ρ) (z_R ρ) (z_cb ρ) (z_nc ρ) (z_tu ρ) (z_bi ρ) (z_cg ρ) (z_on ρ) (z_T ρ) (z_dn ρ) (z_fa ρ) (z_br ρ) (z_bs ρ) (z_cp ρ) (z_cq ρ) (z_cx ρ) (z_re ρ) (z_n ρ) (z_op ρ) (z_fg ρ) (z_sp ρ) (z_one ρ)) H := hP
  have hD : va_D A (rfW g a (z_mem ρ) (z_R ρ) (z_cb ρ) (z_nc ρ) (z_tu ρ) (z_bi ρ) (z_cg ρ) (z_on ρ) (z_T ρ) (z_dn ρ) (z_fa ρ) (z_br ρ) (z_bs ρ) (z_cp ρ) (z_cq ρ) (z_cx ρ) (z_re ρ) (z_n ρ) (z_op ρ) (z_fg ρ) (z_sp ρ) (z_one ρ)) := hD
  show W p l e _ s m _ below meth c H locs _ _ _ (F0 m (6 + 3) ls (.int (bI (¬ p0.toInt64 < 0 ∧ ¬ 1023 < p0.toInt64)) :: []))
  refine lv_if_eq (tgt := 21) hx hb dX8_peek_9 (by decide) (fun c9 => ?_) (fun c9 => ?_)
  · have c9 := bI_f c9
    have d9 : ¬ hol p0.toInt64 := fun q => c9 ⟨q.1, fun z => q.2 (l1024 z)⟩
    refine lv_lconst (v := 0) hx hb dX8_peek_21 (by decide) ?_
    exact W.lret (v := 0) hx hb hr (fun t ht _ => ⟨⟨(some (.long 0)), rfW g a (z_mem ρ) (z_R ρ) (z_cb ρ) (z_nc ρ) (z_tu ρ) (z_bi ρ) (z_cg ρ) (z_on ρ) (z_T ρ) (z_dn ρ) (z_fa ρ) (z_br ρ) (z_bs ρ) (z_cp ρ) (z_cq ρ) (z_cx ρ) (z_re ρ) (z_n ρ) (z_op ρ) (z_fg ρ) (z_sp ρ) (z_one ρ), rfl, ⟨congrArg (fun z : Int64 => some (Value.long z)) (if_neg d9).symm, rfl⟩, rfl, by rw [ht]; exact hP⟩, hS.F ht⟩) hS.2.2 dX8_peek_22
  · have c9 := bI_t c9
    have d9 : hol p0.toInt64 := ⟨c9.1, fun q => c9.2 (l1023 q)⟩
    refine lv_aload_n hx hb dX8_peek_12 rfl (lv_at hl 0 rfl) ?_
    refine va_get (D := g.1) (ci := 7) (v := .ref (a 1)) (C := RX8) (T := TX8) (N := 30) hx hb hts inX8 hown hK hP 0 rfl rfl 0 (by decide) (hts _ tw603) (fun _ h9 => h9) rfl dX8_peek_13 ?_
    refine lv_iload_n hx hb dX8_peek_16 rfl (lv_at hl 1 rfl) ?_
    refine va_lald hx hb hK hP 1 0 rfl rfl (hol_in d9) dX8_peek_17 ?_
    refine lv_goto (tgt := 22) hx hb dX8_peek_18 (by decide) ?_
    exact W.lret (v := (z_mem ρ) p0.toNatClampNeg) hx hb hr (fun t ht _ => ⟨⟨(some (.long ((z_mem ρ) p0.toNatClampNeg))), rfW g a (z_mem ρ) (z_R ρ) (z_cb ρ) (z_nc ρ) (z_tu ρ) (z_bi ρ) (z_cg ρ) (z_on ρ) (z_T ρ) (z_dn ρ) (z_fa ρ) (z_br ρ) (z_bs ρ) (z_cp ρ) (z_cq ρ) (z_cx ρ) (z_re ρ) (z_n ρ) (z_op ρ) (z_fg ρ) (z_sp ρ) (z_one ρ), rfl, ⟨congrArg (fun z : Int64 => some (Value.long z)) (if_pos d9).symm, rfl⟩, rfl, by rw [ht]; exact hP⟩, hS.F ht⟩) hS.2.2 dX8_peek_22
