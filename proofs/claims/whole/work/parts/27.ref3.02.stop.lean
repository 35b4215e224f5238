set_option maxHeartbeats 4000000 in
set_option maxRecDepth 100000 in
/-- stop -/
theorem kX8_stop (l : Launch) (g : GG) (a : Nat → Nat) (ρ : RS) (p0 : Int32) (hn : z_nc ρ ≤ 7) (hR : RI (z_R ρ, z_cb ρ) (z_nc ρ)) : Ct l yX8_stop cX8_stop 3 (some .int) ({ frames := 3, cells := 0, slots := 0, locals := 81 } : Room) g [.ref (a 0), .int p0] (rfW g a (z_mem ρ) (z_R ρ) (z_cb ρ) (z_nc ρ) (z_tu ρ) (z_bi ρ) (z_cg ρ) (z_on ρ) (z_T ρ) (z_dn ρ) (z_fa ρ) (z_br ρ) (z_bs ρ) (z_cp ρ) (z_cq ρ) (z_cx ρ) (z_re ρ) (z_n ρ) (z_op ρ) (z_fg ρ) (z_sp ρ) (z_one ρ)) (fun v w' => v = some (.int (if z_on ρ = 0 then -3 else nI (z_nc ρ))) ∧ w' = rfW g a (z_mem ρ) (if z_on ρ = 0 ∨ ¬ p0 = 0 then z_R ρ else (flU (z_nc ρ) (z_R ρ, z_cb ρ)).1) (if z_on ρ = 0 ∨ ¬ p0 = 0 then z_cb ρ else (flU (z_nc ρ) (z_R ρ, z_cb ρ)).2) (if z_on ρ = 0 then z_nc ρ else 0) (z_tu ρ) (z_bi ρ) (z_cg ρ) 0 (if z_on ρ = 0 then z_T ρ else upr (z_T ρ) 0 (flI (z_T ρ 0) 0 8)) (z_dn ρ) (z_fa ρ) (z_br ρ) (z_bs ρ) (z_cp ρ) (z_cq ρ) (z_cx ρ) (z_re ρ) (z_n ρ) (z_op ρ) (z_fg ρ) (z_sp ρ) (z_one ρ)) := by
  refine Ct.of (by decide) (Nat.le_of_ble_eq_true rfl) ?_
  intro p e s m below meth c A ls H locs hx hb hr hml hlocks hts hown hin hA hS hK hP hD hl
  have hown : s.vm.findClass RX8 = some m.cls := hown
  have hl : lv_has ls 3 [(0, .ref (a 0)), (1, .int p0)] := hl
  refine lv_aload_n hx hb dX8_stop_0 rfl (lv_at hl 0 rfl) ?_
  refine va_get (D := g.1) (ci := 7) (v := .int (z_on ρ)) (C := RX8) (T := TX8) (N := 30) hx hb hts inX8 hown hK hP 0 rfl rfl 8 (by decide) (hts _ tw611) (fun _ h9 => h9) rfl dX8_stop_1 ?_
  refine lv_if_ne (tgt := 10) hx hb dX8_stop_4 (by decide) (fun c4 => ?_) (fun c4 => ?_)
  · refine lv_aload_n hx hb dX8_stop_10 rfl (lv_at hl 0 rfl) ?_
    refine va_get (D := g.1) (ci := 7) (v := .int (nI (z_nc ρ))) (C := RX8) (T := TX8) (N := 30) hx hb hts inX8 hown hK hP 0 rfl rfl 4 (by decide) (hts _ tw607) (fun _ h9 => h9) rfl dX8_stop_11 ?_
    refine lv_istore_n (lv' := [(2, .int (nI (z_nc ρ))), (0, .ref (a 0)), (1, .int p0)]) hx hb dX8_stop_14 rfl hl (by decide) rfl (fun ls hl => ?_)
    refine lv_iload_n hx hb dX8_stop_15 rfl (lv_at hl 2 rfl) ?_
    refine lv_if_eq (tgt := 27) hx hb dX8_stop_16 (by decide) (fun c16 => ?_) (fun c16 => ?_)
    · refine lv_aload_n hx hb dX8_stop_27 rfl (lv_at hl 1 rfl) ?_
      refine fr_goA (va_runV (As := []) (rest := []) ⟨hx, hb, hml, hown, hts⟩ (kX8_flush l g a ρ hn hR H.size) (cwV 0 hts (gdV tw729 tw731 tp29 tw9 tw732) rfl rfl rfl (by decide +kernel) ⟨Nat.le_of_ble_eq_true rfl, Nat.le_of_ble_eq_true rfl⟩) ⟨Pst.blind, va_recv hK hP (ci := 7) (q0 := 0) rfl rfl, fr_preA hK hP hD⟩ rfl rfl hl.1 rfl (lv_room (Nat.le_of_ble_eq_true rfl)) dX8_stop_28 ⟨Nat.le_of_ble_eq_true rfl, Nat.le_of_ble_eq_true rfl⟩) hD hS hA (fun v w9 H locs hq hP hD hS => ?_)
      obtain ⟨rfl, rfl⟩ := hq
      have hP : va_P g.1 vwCl (rfW g a (z_mem ρ) ((flU (z_nc ρ) (z_R ρ, z_cb ρ)).1) ((flU (z_nc ρ) (z_R ρ, z_cb ρ)).2) 0 (z_tu ρ) (z_bi ρ) (z_cg ρ) (z_on ρ) (z_T ρ) (z_dn ρ) (z_fa ρ) (z_br ρ) (z_bs ρ) (z_cp ρ) (z_cq ρ) (z_cx ρ) (z_re ρ) (z_n ρ) (z_op ρ) (z_fg ρ) (z_sp ρ) (z_one ρ)) H := hP
      have hD : va_D A (rfW g a (z_mem ρ) ((flU (z_nc ρ) (z_R ρ, z_cb ρ)).1) ((flU (z_nc ρ) (z_R ρ, z_cb ρ)).2) 0 (z_tu ρ) (z_bi ρ) (z_cg ρ) (z_on ρ) (z_T ρ) (z_dn ρ) (z_fa ρ) (z_br ρ) (z_bs ρ) (z_cp ρ) (z_cq ρ) (z_cx ρ) (z_re ρ) (z_n ρ) (z_op ρ) (z_fg ρ) (z_sp ρ) (z_one ρ)) := hD
      show W p l e _ s m _ below meth c H locs _ _ _ (F0 m (28 + 3) ls ([]))
      refine lv_aload_n hx hb dX8_stop_31 rfl (lv_at hl 1 rfl) ?_
      refine lv_iconst (v := 0) hx hb dX8_stop_32 (by decide) ?_
      refine va_put (D := g.1) (ci := 7) (v := .int 0) (ty := .boolean) (C := RX8) (T := TX8) (N := 30) hx hb hts inX8 tyX8 tyX8_ok nmX8 hown hK hP hD hS 0 rfl rfl 8 (by decide) (hts _ tw611) (fun _ h9 => h9) rfl (by decide +kernel) rfl rfl (Nat.le_of_ble_eq_true rfl) dX8_stop_33 (fun H locs hP hD hS => ?_)
      have hP : va_P g.1 vwCl (rfW g a (z_mem ρ) ((flU (z_nc ρ) (z_R ρ, z_cb ρ)).1) ((flU (z_nc ρ) (z_R ρ, z_cb ρ)).2) 0 (z_tu ρ) (z_bi ρ) (z_cg ρ) 0 (z_T ρ) (z_dn ρ) (z_fa ρ) (z_br ρ) (z_bs ρ) (z_cp ρ) (z_cq ρ) (z_cx ρ) (z_re ρ) (z_n ρ) (z_op ρ) (z_fg ρ) (z_sp ρ) (z_one ρ)) H := hP
      have hD : va_D A (rfW g a (z_mem ρ) ((flU (z_nc ρ) (z_R ρ, z_cb ρ)).1) ((flU (z_nc ρ) (z_R ρ, z_cb ρ)).2) 0 (z_tu ρ) (z_bi ρ) (z_cg ρ) 0 (z_T ρ) (z_dn ρ) (z_fa ρ) (z_br ρ) (z_bs ρ) (z_cp ρ) (z_cq ρ) (z_cx ρ) (z_re ρ) (z_n ρ) (z_op ρ) (z_fg ρ) (z_sp ρ) (z_one ρ)) := hD
      refine lv_aload_n hx hb dX8_stop_36 rfl (lv_at hl 1 rfl) ?_
      refine va_get (D := g.1) (ci := 7) (v := .ref (a 5)) (C := RX8) (T := TX8) (N := 30) hx hb hts inX8 hown hK hP 0 rfl rfl 9 (by decide) (hts _ tw612) (fun _ h9 => h9) rfl dX8_stop_37 ?_
      refine lv_iconst (v := 0) hx hb dX8_stop_40 (by decide) ?_
      refine fr_go (va_runS (As := [.ref (a 5), .int 0]) (rest := []) ⟨hx, hb, hml, hown, hts⟩ (kJ7_fill_Z l g (a 5) ((z_T ρ) 0) 0 (Or.inl rfl) H.size) (va_cwS 2 hts (gdS tw718 tw719 tw10 tw720) rfl rfl rfl (by decide +kernel) ⟨Nat.le_of_ble_eq_true rfl, Nat.le_of_ble_eq_true rfl⟩) ⟨Pst.blind, fr_pre hK hP hD [5] rfl rfl⟩ rfl rfl hl.1 rfl (lv_room (Nat.le_of_ble_eq_true rfl)) dX8_stop_41 ⟨Nat.le_of_ble_eq_true rfl, Nat.le_of_ble_eq_true rfl⟩) hP hD hS hA [5] rfl (fun v w9 H locs hq hP hD hS => ?_)
      obtain ⟨rfl, rfl⟩ := hq
      have hP : va_P g.1 vwCl (rfW g a (z_mem ρ) ((flU (z_nc ρ) (z_R ρ, z_cb ρ)).1) ((flU (z_nc ρ) (z_R ρ, z_cb ρ)).2) 0 (z_tu ρ) (z_bi ρ) (z_cg ρ) 0 (upr (z_T ρ) 0 (flI ((z_T ρ) 0) 0 8)) (z_dn ρ) (z_fa ρ) (z_br ρ) (z_bs ρ) (z_cp ρ) (z_cq ρ) (z_cx ρ) (z_re ρ) (z_n ρ) (z_op ρ) (z_fg ρ) (z_sp ρ) (z_one ρ)) H := fr_eqP rfU_0 hP
      have hD : va_D A (rfW g a (z_mem ρ) ((flU (z_nc ρ) (z_R ρ, z_cb ρ)).1) ((flU (z_nc ρ) (z_R ρ, z_cb ρ)).2) 0 (z_tu ρ) (z_bi ρ) (z_cg ρ) 0 (upr (z_T ρ) 0 (flI ((z_T ρ) 0) 0 8)) (z_dn ρ) (z_fa ρ) (z_br ρ) (z_bs ρ) (z_cp ρ) (z_cq ρ) (z_cx ρ) (z_re ρ) (z_n ρ) (z_op ρ) (z_fg ρ) (z_sp ρ) (z_one ρ)) := fr_eqD rfU_0 hD
      show W p l e _ s m _ below meth c H locs _ _ _ (F0 m (41 + 3) ls ([]))
      refine lv_iload_n hx hb dX8_stop_44 rfl (lv_at hl 0 rfl) ?_
      exact W.iret (v := nI (z_nc ρ)) hx hb hr (fun t ht _ => ⟨⟨(some (.int (nI (z_nc ρ)))), rfW g a (z_mem ρ) ((flU (z_nc ρ) (z_R ρ, z_cb ρ)).1) ((flU (z_nc ρ) (z_R ρ, z_cb ρ)).2) 0 (z_tu ρ) (z_bi ρ) (z_cg ρ) 0 (upr (z_T ρ) 0 (flI ((z_T ρ) 0) 0 8)) (z_dn ρ) (z_fa ρ) (z_br ρ) (z_bs ρ) (z_cp ρ) (z_cq ρ) (z_cx ρ) (z_re ρ) (z_n ρ) (z_op ρ) (z_fg ρ) (z_sp ρ) (z_one ρ), rfl, ⟨congrArg (fun z : Int32 => some (Value.int z)) (if_neg c4).symm, by rw [if_neg (fun q => q.elim c4 (fun z => z c16)), if_neg (fun q => q.elim c4 (fun z => z c16)), if_neg c4, if_neg c4]⟩, rfl, by rw [ht]; exact hP⟩, hS.F ht⟩) hS.2.2 dX8_stop_45
    · refine lv_aload_n hx hb dX8_stop_19 rfl (lv_at hl 1 rfl) ?_
      refine lv_iconst (v := 0) hx hb dX8_stop_20 (by decide) ?_
      refine fr_topi (y := nI 0) nI_0.symm ?_
      refine va_put (D := g.1) (ci := 7) (v := .int (nI 0)) (ty := .int) (C := RX8) (T := TX8) (N := 30) hx hb hts inX8 tyX8 tyX8_ok nmX8 hown hK hP hD hS 0 rfl rfl 4 (by decide) (hts _ tw607) (fun _ h9 => h9) rfl (by decide +kernel) rfl rfl (Nat.le_of_ble_eq_true rfl) dX8_stop_21 (fun H locs hP hD hS => ?_)
      have hP : va_P g.1 vwCl (rfW g a (z_mem ρ) (z_R ρ) (z_cb ρ) 0 (z_tu ρ) (z_bi ρ) (z_cg ρ) (z_on ρ) (z_T ρ) (z_dn ρ) (z_fa ρ) (z_br ρ) (z_bs ρ) (z_cp ρ) (z_cq ρ) (z_cx ρ) (z_re ρ) (z_n ρ) (z_op ρ) (z_fg ρ) (z_sp ρ) (z_one ρ)) H := hP
      have hD : va_D A (rfW g a (z_mem ρ) (z_R ρ) (z_cb ρ) 0 (z_tu ρ) (z_bi ρ) (z_cg ρ) (z_on ρ) (z_T ρ) (z_dn ρ) (z_fa ρ) (z_br ρ) (z_bs ρ) (z_cp ρ) (z_cq ρ) (z_cx ρ) (z_re ρ) (z_n ρ) (z_op ρ) (z_fg ρ) (z_sp ρ) (z_one ρ)) := hD
      refine lv_goto (tgt := 31) hx hb dX8_stop_24 (by decide) ?_
      refine lv_aload_n hx hb dX8_stop_31 rfl (lv_at hl 1 rfl) ?_
      refine lv_iconst (v := 0) hx hb dX8_stop_32 (by decide) ?_
      refine va_put (D := g.1) (ci := 7) (v := .int 0) (ty := .boolean) (C := RX8) (T := TX8) (N := 30) hx hb hts inX8 tyX8 tyX8_ok nmX8 hown hK hP hD hS 0 rfl rfl 8 (by decide) (hts _ tw611) (fun _ h9 => h9) rfl (by decide +kernel) rfl rfl (Nat.le_of_ble_eq_true rfl) dX8_stop_33 (fun H locs hP hD hS => ?_)
      have hP : va_P g.1 vwCl (rfW g a (z_mem ρ) (z_R ρ) (z_cb ρ) 0 (z_tu ρ) (z_bi ρ) (z_cg ρ) 0 (z_T ρ) (z_dn ρ) (z_fa ρ) (z_br ρ) (z_bs ρ) (z_cp ρ) (z_cq ρ) (z_cx ρ) (z_re ρ) (z_n ρ) (z_op ρ) (z_fg ρ) (z_sp ρ) (z_one ρ)) H := hP
      have hD : va_D A (rfW g a (z_mem ρ) (z_R ρ) (z_cb ρ) 0 (z_tu ρ) (z_bi ρ) (z_cg ρ) 0 (z_T ρ) (z_dn ρ) (z_fa ρ) (z_br ρ) (z_bs ρ) (z_cp ρ) (z_cq ρ) (z_cx ρ) (z_re ρ) (z_n ρ) (z_op ρ) (z_fg ρ) (z_sp ρ) (z_one ρ)) := hD
      refine lv_aload_n hx hb dX8_stop_36 rfl (lv_at hl 1 rfl) ?_
      refine va_get (D := g.1) (ci := 7) (v := .ref (a 5)) (C := RX8) (T := TX8) (N := 30) hx hb hts inX8 hown hK hP 0 rfl rfl 9 (by decide) (hts _ tw612) (fun _ h9 => h9) rfl dX8_stop_37 ?_
      refine lv_iconst (v := 0) hx hb dX8_stop_40 (by decide) ?_
      refine fr_go (va_runS (As := [.ref (a 5), .int 0]) (rest := []) ⟨hx, hb, hml, hown, hts⟩ (kJ7_fill_Z l g (a 5) ((z_T ρ) 0) 0 (Or.inl rfl) H.size) (va_cwS 2 hts (gdS tw718 tw719 tw10 tw720) rfl rfl rfl (by decide +kernel) ⟨Nat.le_of_ble_eq_true rfl, Nat.le_of_ble_eq_true rfl⟩) ⟨Pst.blind, fr_pre hK hP hD [5] rfl rfl⟩ rfl rfl hl.1 rfl (lv_room (Nat.le_of_ble_eq_true rfl)) dX8_stop_41 ⟨Nat.le_of_ble_eq_true rfl, Nat.le_of_ble_eq_true rfl⟩) hP hD hS hA [5] rfl (fun v w9 H locs hq hP hD hS => ?_)
      obtain ⟨rfl, rfl⟩ := hq
      have hP : va_P g.1 vwCl (rfW g a (z_mem ρ) (z_R ρ) (z_cb ρ) 0 (z_tu ρ) (z_bi ρ) (z_cg ρ) 0 (upr (z_T ρ) 0 (flI ((z_T ρ) 0) 0 8)) (z_dn ρ) (z_fa ρ) (z_br ρ) (z_bs ρ) (z_cp ρ) (z_cq ρ) (z_cx ρ) (z_re ρ) (z_n ρ) (z_op ρ) (z_fg ρ) (z_sp ρ) (z_one ρ)) H := fr_eqP rfU_0 hP
      have hD : va_D A (rfW g a (z_mem ρ) (z_R ρ) (z_cb ρ) 0 (z_tu ρ) (z_bi ρ) (z_cg ρ) 0 (upr (z_T ρ) 0 (flI ((z_T ρ) 0) 0 8)) (z_dn ρ) (z_fa ρ) (z_br ρ) (z_bs ρ) (z_cp ρ) (z_cq ρ) (z_cx ρ) (z_re ρ) (z_n ρ) (z_op ρ) (z_fg ρ) (z_sp ρ) (z_one ρ)) := fr_eqD rfU_0 hD
      show W p l e _ s m _ below meth c H locs _ _ _ (F0 m (41 + 3) ls ([]))
      refine lv_iload_n hx hb dX8_stop_44 rfl (lv_at hl 0 rfl) ?_
      exact W.iret (v := nI (z_nc ρ)) hx hb hr (fun t ht _ => ⟨⟨(some (.int (nI (z_nc ρ)))), rfW g a (z_mem ρ) (z_R ρ) (z_cb ρ) 0 (z_tu ρ) (z_bi ρ) (z_cg ρ) 0 (upr (z_T ρ) 0 (flI ((z_T ρ) 0) 0 8)) (z_dn ρ) (z_fa ρ) (z_br ρ) (z_bs ρ) (z_cp ρ) (z_cq ρ) (z_cx ρ) (z_re ρ) (z_n ρ) (z_op ρ) (z_fg ρ) (z_sp ρ) (z_one ρ), rfl, ⟨congrArg (fun z : Int32 => some (Value.int z)) (if_neg c4).symm, by rw [if_pos (Or.inr c16), if_pos (Or.inr c16), if_neg c4, if_neg c4]⟩, rfl, by rw [ht]; exact hP⟩, hS.F ht⟩) hS.2.2 dX8_stop_45
  · refine lv_bipush (v := -3) hx hb dX8_stop_7 (by decide) ?_
    exact W.iret (v := -3) hx hb hr (fun t ht _ => ⟨⟨(some (.int (-3))), rfW g a (z_mem ρ) (z_R ρ) (z_cb ρ) (z_nc ρ) (z_tu ρ) (z_bi ρ) (z_cg ρ) (z_on ρ) (z_T ρ) (z_dn ρ) (z_fa ρ) (z_br ρ) (z_bs ρ) (z_cp ρ) (z_cq ρ) (z_cx ρ) (z_re ρ) (z_n ρ) (z_op ρ) (z_fg ρ) (z_sp ρ) (z_one ρ), rfl, ⟨congrArg (fun z : Int32 => some (Value.int z)) (if_pos c4).symm, by rw [if_pos (Or.inl c4), if_pos (Or.inl c4), if_pos c4, if_pos c4, c4]⟩, rfl, by rw [ht]; exact hP⟩, hS.F ht⟩) hS.2.2 dX8_stop_9
