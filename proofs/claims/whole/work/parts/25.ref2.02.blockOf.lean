set_option maxHeartbeats 4000000 in
set_option maxRecDepth 100000 in
/-- blockOf -/
theorem kX8_blockOf (l : Launch) (g : GG) (a : Nat → Nat) (ρ : RS) (j : Nat) (hn : z_nc ρ ≤ 6) (hj : j < 64) : Ct l yX8_blockOf cX8_blockOf 3 (some (.array .long)) ({ frames := 1, cells := 0, slots := 0, locals := 22 } : Room) g [.ref (a 0), .int (nI j)] (rfW g a (z_mem ρ) (z_R ρ) (z_cb ρ) (z_nc ρ) (z_tu ρ) (z_bi ρ) (z_cg ρ) (z_on ρ) (z_T ρ) (z_dn ρ) (z_fa ρ) (z_br ρ) (z_bs ρ) (z_cp ρ) (z_cq ρ) (z_cx ρ) (z_re ρ) (z_n ρ) (z_op ρ) (z_fg ρ) (z_sp ρ) (z_one ρ)) (fun v w' => v = some (.ref (a (15 + bof (z_cb ρ) (z_nc ρ) j))) ∧ w' = rfW g a (z_mem ρ) (z_R ρ) (z_cb ρ) (z_nc ρ) (z_tu ρ) (z_bi ρ) (z_cg ρ) (z_on ρ) (z_T ρ) (z_dn ρ) (z_fa ρ) (z_br ρ) (z_bs ρ) (z_cp ρ) (z_cq ρ) (z_cx ρ) (z_re ρ) (z_n ρ) (z_op ρ) (z_fg ρ) (z_sp ρ) (z_one ρ)) := by
  refine Ct.of (by decide) (Nat.le_of_ble_eq_true rfl) ?_
  intro p e s m below meth c A ls H locs hx hb hr hml hlocks hts hown hin hA hS hK hP hD hl
  have hown : s.vm.findClass RX8 = some m.cls := hown
  have hl : lv_has ls 3 [(0, .ref (a 0)), (1, .int (nI j))] := hl
  rcases hf : fnd (z_cb ρ) (nI j) (z_nc ρ) with _ | k
  · refine lv_aload_n hx hb dX8_blockOf_0 rfl (lv_at hl 0 rfl) ?_
    refine lv_iload_n hx hb dX8_blockOf_1 rfl (lv_at hl 1 rfl) ?_
    refine fr_goA (va_runV (As := [.int (nI j)]) (rest := []) ⟨hx, hb, hml, hown, hts⟩ (kX8_find l g a ρ (nI j) (by omega) H.size) (cwV 1 hts (gdV tw786 tw788 tp38 tw9 tw789) rfl rfl rfl (by decide +kernel) ⟨Nat.le_of_ble_eq_true rfl, Nat.le_of_ble_eq_true rfl⟩) ⟨Pst.blind, va_recv hK hP (ci := 7) (q0 := 0) rfl rfl, fr_preA hK hP hD⟩ rfl rfl hl.1 rfl (lv_room (Nat.le_of_ble_eq_true rfl)) dX8_blockOf_2 ⟨Nat.le_of_ble_eq_true rfl, Nat.le_of_ble_eq_true rfl⟩) hD hS hA (fun v w9 H locs hq hP hD hS => ?_)
    obtain ⟨rfl, rfl⟩ := hq
    have hP : va_P g.1 vwCl (rfW g a (z_mem ρ) (z_R ρ) (z_cb ρ) (z_nc ρ) (z_tu ρ) (z_bi ρ) (z_cg ρ) (z_on ρ) (z_T ρ) (z_dn ρ) (z_fa ρ) (z_br ρ) (z_bs ρ) (z_cp ρ) (z_cq ρ) (z_cx ρ) (z_re ρ) (z_n ρ) (z_op ρ) (z_fg ρ) (z_sp ρ) (z_one ρ)) H := hP
    have hD : va_D A (rfW g a (z_mem ρ) (z_R ρ) (z_cb ρ) (z_nc ρ) (z_tu ρ) (z_bi ρ) (z_cg ρ) (z_on ρ) (z_T ρ) (z_dn ρ) (z_fa ρ) (z_br ρ) (z_bs ρ) (z_cp ρ) (z_cq ρ) (z_cx ρ) (z_re ρ) (z_n ρ) (z_op ρ) (z_fg ρ) (z_sp ρ) (z_one ρ)) := hD
    show W p l e _ s m _ below meth c H locs _ _ _ (F0 m (2 + 3) ls (.int (plc (z_cb ρ) (nI j) (z_nc ρ)) :: []))
    refine fr_topi (y := -1) (plc_n hf) ?_
    refine lv_istore_n (lv' := [(2, .int (-1)), (0, .ref (a 0)), (1, .int (nI j))]) hx hb dX8_blockOf_5 rfl hl (by decide) rfl (fun ls hl => ?_)
    refine lv_iload_n hx hb dX8_blockOf_6 rfl (lv_at hl 0 rfl) ?_
    refine lv_if_lt (tgt := 19) hx hb dX8_blockOf_7 (by decide) (fun _ => ?_) (fun q9 => absurd m1_lt q9)
    refine lv_aload_n hx hb dX8_blockOf_19 rfl (lv_at hl 1 rfl) ?_
    refine va_get (D := g.1) (ci := 7) (v := .ref (a 2)) (C := RX8) (T := TX8) (N := 30) hx hb hts inX8 hown hK hP 0 rfl rfl 1 (by decide) (hts _ tw604) (fun _ h9 => h9) rfl dX8_blockOf_20 ?_
    refine lv_iload_n hx hb dX8_blockOf_23 rfl (lv_at hl 2 rfl) ?_
    refine fr_aaldA (k := j) (b := (a (15 + j))) hx hb hK hP 2 5 rfl rfl rfl (by omega) (by decide) (if_pos (by omega)) dX8_blockOf_24 ?_
    exact W.aret (v := .ref (a (15 + j))) hx hb hr (Or.inr ⟨_, rfl⟩) (Or.inr ⟨_, rfl⟩) (fun t ht _ => ⟨⟨(some (.ref (a (15 + j)))), rfW g a (z_mem ρ) (z_R ρ) (z_cb ρ) (z_nc ρ) (z_tu ρ) (z_bi ρ) (z_cg ρ) (z_on ρ) (z_T ρ) (z_dn ρ) (z_fa ρ) (z_br ρ) (z_bs ρ) (z_cp ρ) (z_cq ρ) (z_cx ρ) (z_re ρ) (z_n ρ) (z_op ρ) (z_fg ρ) (z_sp ρ) (z_one ρ), rfl, ⟨by rw [bof, hf], rfl⟩, rfl, by rw [ht]; exact hP⟩, hS.F ht⟩) hS.2.2 dX8_blockOf_25
  · have hk := fnd_lt hf
    refine lv_aload_n hx hb dX8_blockOf_0 rfl (lv_at hl 0 rfl) ?_
    refine lv_iload_n hx hb dX8_blockOf_1 rfl (lv_at hl 1 rfl) ?_
    refine fr_goA (va_runV (As := [.int (nI j)]) (rest := []) ⟨hx, hb, hml, hown, hts⟩ (kX8_find l g a ρ (nI j) (by omega) H.size) (cwV 1 hts (gdV tw786 tw788 tp38 tw9 tw789) rfl rfl rfl (by decide +kernel) ⟨Nat.le_of_ble_eq_true rfl, Nat.le_of_ble_eq_true rfl⟩) ⟨Pst.blind, va_recv hK hP (ci := 7) (q0 := 0) rfl rfl, fr_preA hK hP hD⟩ rfl rfl hl.1 rfl (lv_room (Nat.le_of_ble_eq_true rfl)) dX8_blockOf_2 ⟨Nat.le_of_ble_eq_true rfl, Nat.le_of_ble_eq_true rfl⟩) hD hS hA (fun v w9 H locs hq hP hD hS => ?_)
    obtain ⟨rfl, rfl⟩ := hq
    have hP : va_P g.1 vwCl (rfW g a (z_mem ρ) (z_R ρ) (z_cb ρ) (z_nc ρ) (z_tu ρ) (z_bi ρ) (z_cg ρ) (z_on ρ) (z_T ρ) (z_dn ρ) (z_fa ρ) (z_br ρ) (z_bs ρ) (z_cp ρ) (z_cq ρ) (z_cx ρ) (z_re ρ) (z_n ρ) (z_op ρ) (z_fg ρ) (z_sp ρ) (z_one ρ)) H := hP
    have hD : va_D A (rfW g a (z_mem ρ) (z_R ρ) (z_cb ρ) (z_nc ρ) (z_tu ρ) (z_bi ρ) (z_cg ρ) (z_on ρ) (z_T ρ) (z_dn ρ) (z_fa ρ) (z_br ρ) (z_bs ρ) (z_cp ρ) (z_cq ρ) (z_cx ρ) (z_re ρ) (z_n ρ) (z_op ρ) (z_fg ρ) (z_sp ρ) (z_one ρ)) := hD
    show W p l e _ s m _ below meth c H locs _ _ _ (F0 m (2 + 3) ls (.int (plc (z_cb ρ) (nI j) (z_nc ρ)) :: []))
    refine fr_topi (y := nI k) (plc_s hf) ?_
    refine lv_istore_n (lv' := [(2, .int (nI k)), (0, .ref (a 0)), (1, .int (nI j))]) hx hb dX8_blockOf_5 rfl hl (by decide) rfl (fun ls hl => ?_)
    refine lv_iload_n hx hb dX8_blockOf_6 rfl (lv_at hl 0 rfl) ?_
    refine lv_if_lt (tgt := 19) hx hb dX8_blockOf_7 (by decide) (fun q9 => absurd q9 (nI_pos (by omega))) (fun _ => ?_)
    refine lv_aload_n hx hb dX8_blockOf_10 rfl (lv_at hl 1 rfl) ?_
    refine va_get (D := g.1) (ci := 7) (v := .ref (a 3)) (C := RX8) (T := TX8) (N := 30) hx hb hts inX8 hown hK hP 0 rfl rfl 2 (by decide) (hts _ tw605) (fun _ h9 => h9) rfl dX8_blockOf_11 ?_
    refine lv_iload_n hx hb dX8_blockOf_14 rfl (lv_at hl 0 rfl) ?_
    refine fr_aaldA (k := k) (b := (a (15 + (64 + k)))) hx hb hK hP 3 5 rfl rfl rfl (by omega) (by decide) (if_pos (by omega)) dX8_blockOf_15 ?_
    refine lv_goto (tgt := 25) hx hb dX8_blockOf_16 (by decide) ?_
    exact W.aret (v := .ref (a (15 + (64 + k)))) hx hb hr (Or.inr ⟨_, rfl⟩) (Or.inr ⟨_, rfl⟩) (fun t ht _ => ⟨⟨(some (.ref (a (15 + (64 + k))))), rfW g a (z_mem ρ) (z_R ρ) (z_cb ρ) (z_nc ρ) (z_tu ρ) (z_bi ρ) (z_cg ρ) (z_on ρ) (z_T ρ) (z_dn ρ) (z_fa ρ) (z_br ρ) (z_bs ρ) (z_cp ρ) (z_cq ρ) (z_cx ρ) (z_re ρ) (z_n ρ) (z_op ρ) (z_fg ρ) (z_sp ρ) (z_one ρ), rfl, ⟨by rw [bof, hf], rfl⟩, rfl, by rw [ht]; exact hP⟩, hS.F ht⟩) hS.2.2 dX8_blockOf_25
