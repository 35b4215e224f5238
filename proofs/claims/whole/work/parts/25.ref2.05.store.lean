set_option maxHeartbeats 4000000 in
set_option maxRecDepth 100000 in
/-- store -/
theorem kX8_store (l : Launch) (g : GG) (a : Nat → Nat) (ρ : RS) (j : Nat) (hn : z_nc ρ ≤ 6) (hR : RI (z_R ρ, z_cb ρ) (z_nc ρ)) (hj : j < 64) : Ct l yX8_store cX8_store 4 none ({ frames := 2, cells := 0, slots := 0, locals := 61 } : Room) g [.ref (a 0), .int (nI j), .ref (a 14)] (rfW g a (z_mem ρ) (z_R ρ) (z_cb ρ) (z_nc ρ) (z_tu ρ) (z_bi ρ) (z_cg ρ) (z_on ρ) (z_T ρ) (z_dn ρ) (z_fa ρ) (z_br ρ) (z_bs ρ) (z_cp ρ) (z_cq ρ) (z_cx ρ) (z_re ρ) (z_n ρ) (z_op ρ) (z_fg ρ) (z_sp ρ) (z_one ρ)) (fun v w' => v = none ∧ w' = rfW g a (z_mem ρ) ((stU (z_one ρ) (z_cg ρ) (z_R ρ, z_cb ρ) (z_nc ρ) j).1) ((stU (z_one ρ) (z_cg ρ) (z_R ρ, z_cb ρ) (z_nc ρ) j).2) (stV (z_cg ρ) (z_cb ρ) (z_nc ρ) j) (z_tu ρ) (z_bi ρ) (z_cg ρ) (z_on ρ) (z_T ρ) (z_dn ρ) (z_fa ρ) (z_br ρ) (z_bs ρ + 1) (z_cp ρ) (z_cq ρ) (z_cx ρ) (z_re ρ) (z_n ρ) (z_op ρ) (z_fg ρ) (z_sp ρ) (z_one ρ)) := by
  refine Ct.of (by decide) (Nat.le_of_ble_eq_true rfl) ?_
  intro p e s m below meth c A ls H locs hx hb hr hml hlocks hts hown hin hA hS hK hP hD hl
  have hown : s.vm.findClass RX8 = some m.cls := hown
  have hl : lv_has ls 4 [(0, .ref (a 0)), (1, .int (nI j)), (2, .ref (a 14))] := hl
  refine lv_aload_n hx hb dX8_store_0 rfl (lv_at hl 0 rfl) ?_
  refine lv_dup hx hb dX8_store_1 rfl ?_
  refine va_get (D := g.1) (ci := 7) (v := .long (lN (z_bs ρ))) (C := RX8) (T := TX8) (N := 30) hx hb hts inX8 hown hK hP 0 rfl rfl 20 (by decide) (hts _ tw623) (fun _ h9 => h9) rfl dX8_store_2 ?_
  refine lv_lconst (v := 1) hx hb dX8_store_5 (by decide) ?_
  refine lv_ladd hx hb dX8_store_6 ?_
  refine fr_topl (y := lN (z_bs ρ + 1)) (lN_1 _) ?_
  refine va_put (D := g.1) (ci := 7) (v := .long (lN (z_bs ρ + 1))) (ty := .long) (C := RX8) (T := TX8) (N := 30) hx hb hts inX8 tyX8 tyX8_ok nmX8 hown hK hP hD hS 0 rfl rfl 20 (by decide) (hts _ tw623) (fun _ h9 => h9) rfl (by decide +kernel) rfl rfl (Nat.le_of_ble_eq_true rfl) dX8_store_7 (fun H locs hP hD hS => ?_)
  have hP : va_P g.1 vwCl (rfW g a (z_mem ρ) (z_R ρ) (z_cb ρ) (z_nc ρ) (z_tu ρ) (z_bi ρ) (z_cg ρ) (z_on ρ) (z_T ρ) (z_dn ρ) (z_fa ρ) (z_br ρ) (z_bs ρ + 1) (z_cp ρ) (z_cq ρ) (z_cx ρ) (z_re ρ) (z_n ρ) (z_op ρ) (z_fg ρ) (z_sp ρ) (z_one ρ)) H := hP
  have hD : va_D A (rfW g a (z_mem ρ) (z_R ρ) (z_cb ρ) (z_nc ρ) (z_tu ρ) (z_bi ρ) (z_cg ρ) (z_on ρ) (z_T ρ) (z_dn ρ) (z_fa ρ) (z_br ρ) (z_bs ρ + 1) (z_cp ρ) (z_cq ρ) (z_cx ρ) (z_re ρ) (z_n ρ) (z_op ρ) (z_fg ρ) (z_sp ρ) (z_one ρ)) := hD
  refine lv_aload_n hx hb dX8_store_10 rfl (lv_at hl 0 rfl) ?_
  refine va_get (D := g.1) (ci := 7) (v := .int (z_cg ρ)) (C := RX8) (T := TX8) (N := 30) hx hb hts inX8 hown hK hP 0 rfl rfl 7 (by decide) (hts _ tw610) (fun _ h9 => h9) rfl dX8_store_11 ?_
  refine lv_if_ne (tgt := 32) hx hb dX8_store_14 (by decide) (fun c14 => ?_) (fun c14 => ?_)
  · rcases hf : fnd (z_cb ρ) (nI j) (z_nc ρ) with _ | k
    · refine lv_aload_n hx hb dX8_store_32 rfl (lv_at hl 0 rfl) ?_
      refine lv_iload_n hx hb dX8_store_33 rfl (lv_at hl 1 rfl) ?_
      refine fr_goA (va_runV (As := [.int (nI j)]) (rest := []) ⟨hx, hb, hml, hown, hts⟩ (kX8_find l g a (w_bs ρ (z_bs ρ + 1)) (nI j) (show z_nc ρ ≤ 7 by omega) H.size) (cwV 1 hts (gdV tw786 tw788 tp38 tw9 tw789) rfl rfl rfl (by decide +kernel) ⟨Nat.le_of_ble_eq_true rfl, Nat.le_of_ble_eq_true rfl⟩) ⟨Pst.blind, va_recv hK hP (ci := 7) (q0 := 0) rfl rfl, fr_preA hK hP hD⟩ rfl rfl hl.1 rfl (lv_room (Nat.le_of_ble_eq_true rfl)) dX8_store_34 ⟨Nat.le_of_ble_eq_true rfl, Nat.le_of_ble_eq_true rfl⟩) hD hS hA (fun v w9 H locs hq hP hD hS => ?_)
      obtain ⟨rfl, rfl⟩ := hq
      have hP : va_P g.1 vwCl (rfW g a (z_mem ρ) (z_R ρ) (z_cb ρ) (z_nc ρ) (z_tu ρ) (z_bi ρ) (z_cg ρ) (z_on ρ) (z_T ρ) (z_dn ρ) (z_fa ρ) (z_br ρ) (z_bs ρ + 1) (z_cp ρ) (z_cq ρ) (z_cx ρ) (z_re ρ) (z_n ρ) (z_op ρ) (z_fg ρ) (z_sp ρ) (z_one ρ)) H := hP
      have hD : va_D A (rfW g a (z_mem ρ) (z_R ρ) (z_cb ρ) (z_nc ρ) (z_tu ρ) (z_bi ρ) (z_cg ρ) (z_on ρ) (z_T ρ) (z_dn ρ) (z_fa ρ) (z_br ρ) (z_bs ρ + 1) (z_cp ρ) (z_cq ρ) (z_cx ρ) (z_re ρ) (z_n ρ) (z_op ρ) (z_fg ρ) (z_sp ρ) (z_one ρ)) := hD
      show W p l e _ s m _ below meth c H locs _ _ _ (F0 m (34 + 3) ls (.int (plc (z_cb (w_bs ρ (z_bs ρ + 1))) (nI j) (z_nc (w_bs ρ (z_bs ρ + 1)))) :: []))
      refine fr_topi (y := -1) (plc_n hf) ?_
      refine lv_istore_n (lv' := [(3, .int (-1)), (0, .ref (a 0)), (1, .int (nI j)), (2, .ref (a 14))]) hx hb dX8_store_37 rfl hl (by decide) rfl (fun ls hl => ?_)
      refine lv_iload_n hx hb dX8_store_38 rfl (lv_at hl 0 rfl) ?_
      refine lv_if_ge (tgt := 64) hx hb dX8_store_39 (by decide) (fun q9 => absurd q9 (by decide)) (fun _ => ?_)
      refine lv_aload_n hx hb dX8_store_42 rfl (lv_at hl 1 rfl) ?_
      refine va_get (D := g.1) (ci := 7) (v := .int (nI (z_nc ρ))) (C := RX8) (T := TX8) (N := 30) hx hb hts inX8 hown hK hP 0 rfl rfl 4 (by decide) (hts _ tw607) (fun _ h9 => h9) rfl dX8_store_43 ?_
      refine lv_istore_n (lv' := [(3, .int (nI (z_nc ρ))), (0, .ref (a 0)), (1, .int (nI j)), (2, .ref (a 14))]) hx hb dX8_store_46 rfl hl (by decide) rfl (fun ls hl => ?_)
      refine lv_aload_n hx hb dX8_store_47 rfl (lv_at hl 1 rfl) ?_
      refine va_get (D := g.1) (ci := 7) (v := .ref (a 4)) (C := RX8) (T := TX8) (N := 30) hx hb hts inX8 hown hK hP 0 rfl rfl 3 (by decide) (hts _ tw606) (fun _ h9 => h9) rfl dX8_store_48 ?_
      refine lv_iload_n hx hb dX8_store_51 rfl (lv_at hl 0 rfl) ?_
      refine lv_iload_n hx hb dX8_store_52 rfl (lv_at hl 2 rfl) ?_
      refine fr_iast (k := (z_nc ρ)) hx hb hK hP hD hS 4 1 rfl rfl (by omega) (by decide) dX8_store_53 (fun H locs hP hD hS => ?_)
      have hP : va_P g.1 vwCl (rfW g a (z_mem ρ) (z_R ρ) (upd (z_cb ρ) (z_nc ρ) (nI j)) (z_nc ρ) (z_tu ρ) (z_bi ρ) (z_cg ρ) (z_on ρ) (z_T ρ) (z_dn ρ) (z_fa ρ) (z_br ρ) (z_bs ρ + 1) (z_cp ρ) (z_cq ρ) (z_cx ρ) (z_re ρ) (z_n ρ) (z_op ρ) (z_fg ρ) (z_sp ρ) (z_one ρ)) H := hP
      have hD : va_D A (rfW g a (z_mem ρ) (z_R ρ) (upd (z_cb ρ) (z_nc ρ) (nI j)) (z_nc ρ) (z_tu ρ) (z_bi ρ) (z_cg ρ) (z_on ρ) (z_T ρ) (z_dn ρ) (z_fa ρ) (z_br ρ) (z_bs ρ + 1) (z_cp ρ) (z_cq ρ) (z_cx ρ) (z_re ρ) (z_n ρ) (z_op ρ) (z_fg ρ) (z_sp ρ) (z_one ρ)) := hD
      refine lv_aload_n hx hb dX8_store_54 rfl (lv_at hl 1 rfl) ?_
      refine lv_dup hx hb dX8_store_55 rfl ?_
      refine va_get (D := g.1) (ci := 7) (v := .int (nI (z_nc ρ))) (C := RX8) (T := TX8) (N := 30) hx hb hts inX8 hown hK hP 0 rfl rfl 4 (by decide) (hts _ tw607) (fun _ h9 => h9) rfl dX8_store_56 ?_
      refine lv_iconst (v := 1) hx hb dX8_store_59 (by decide) ?_
      refine lv_iadd hx hb dX8_store_60 ?_
      refine fr_topi (y := nI (z_nc ρ + 1)) (nI_1 _) ?_
      refine va_put (D := g.1) (ci := 7) (v := .int (nI (z_nc ρ + 1))) (ty := .int) (C := RX8) (T := TX8) (N := 30) hx hb hts inX8 tyX8 tyX8_ok nmX8 hown hK hP hD hS 0 rfl rfl 4 (by decide) (hts _ tw607) (fun _ h9 => h9) rfl (by decide +kernel) rfl rfl (Nat.le_of_ble_eq_true rfl) dX8_store_61 (fun H locs hP hD hS => ?_)
      have hP : va_P g.1 vwCl (rfW g a (z_mem ρ) (z_R ρ) (upd (z_cb ρ) (z_nc ρ) (nI j)) (z_nc ρ + 1) (z_tu ρ) (z_bi ρ) (z_cg ρ) (z_on ρ) (z_T ρ) (z_dn ρ) (z_fa ρ) (z_br ρ) (z_bs ρ + 1) (z_cp ρ) (z_cq ρ) (z_cx ρ) (z_re ρ) (z_n ρ) (z_op ρ) (z_fg ρ) (z_sp ρ) (z_one ρ)) H := hP
      have hD : va_D A (rfW g a (z_mem ρ) (z_R ρ) (upd (z_cb ρ) (z_nc ρ) (nI j)) (z_nc ρ + 1) (z_tu ρ) (z_bi ρ) (z_cg ρ) (z_on ρ) (z_T ρ) (z_dn ρ) (z_fa ρ) (z_br ρ) (z_bs ρ + 1) (z_cp ρ) (z_cq ρ) (z_cx ρ) (z_re ρ) (z_n ρ) (z_op ρ) (z_fg ρ) (z_sp ρ) (z_one ρ)) := hD
      refine lv_aload_n hx hb dX8_store_64 rfl (lv_at hl 3 rfl) ?_
      refine lv_iconst (v := 0) hx hb dX8_store_65 (by decide) ?_
      refine lv_aload_n hx hb dX8_store_66 rfl (lv_at hl 1 rfl) ?_
      refine va_get (D := g.1) (ci := 7) (v := .ref (a 3)) (C := RX8) (T := TX8) (N := 30) hx hb hts inX8 hown hK hP 0 rfl rfl 2 (by decide) (hts _ tw605) (fun _ h9 => h9) rfl dX8_store_67 ?_
      refine lv_iload_n hx hb dX8_store_70 rfl (lv_at hl 0 rfl) ?_
      refine fr_aaldA (k := (z_nc ρ)) (b := (a (15 + (64 + (z_nc ρ))))) hx hb hK hP 3 5 rfl rfl rfl (by omega) (by decide) (if_pos (by omega)) dX8_store_71 ?_
      refine lv_iconst (v := 0) hx hb dX8_store_72 (by decide) ?_
      refine lv_bipush (v := 8) hx hb dX8_store_73 (by decide) ?_
      refine fr_copyl hx hb (hml.trans hl.1.symm) hown (hts _ tw737) (hts _ tw304) (hts _ tw303) (hts _ tw11) hK hP hD hS 14 (15 + (64 + (z_nc ρ))) 0 0 rfl (rfR (i := 64 + (z_nc ρ)) (by omega)) rfl rfl 0 0 8 rfl rfl rfl (by omega) (by omega) (by decide) (by decide) (Nat.le_of_ble_eq_true rfl) (Nat.le_of_ble_eq_true rfl) dX8_store_75 (fun H locs hP hD hS => ?_)
      have hP : va_P g.1 vwCl (rfW g a (z_mem ρ) (va_up (z_R ρ) (64 + (z_nc ρ)) (va_cpy (z_one ρ) ((z_R ρ) (64 + (z_nc ρ))) 0 0 8)) (upd (z_cb ρ) (z_nc ρ) (nI j)) (z_nc ρ + 1) (z_tu ρ) (z_bi ρ) (z_cg ρ) (z_on ρ) (z_T ρ) (z_dn ρ) (z_fa ρ) (z_br ρ) (z_bs ρ + 1) (z_cp ρ) (z_cq ρ) (z_cx ρ) (z_re ρ) (z_n ρ) (z_op ρ) (z_fg ρ) (z_sp ρ) (z_one ρ)) H := fr_eqP (rfR_set (i := 64 + (z_nc ρ)) (by omega)) hP
      have hD : va_D A (rfW g a (z_mem ρ) (va_up (z_R ρ) (64 + (z_nc ρ)) (va_cpy (z_one ρ) ((z_R ρ) (64 + (z_nc ρ))) 0 0 8)) (upd (z_cb ρ) (z_nc ρ) (nI j)) (z_nc ρ + 1) (z_tu ρ) (z_bi ρ) (z_cg ρ) (z_on ρ) (z_T ρ) (z_dn ρ) (z_fa ρ) (z_br ρ) (z_bs ρ + 1) (z_cp ρ) (z_cq ρ) (z_cx ρ) (z_re ρ) (z_n ρ) (z_op ρ) (z_fg ρ) (z_sp ρ) (z_one ρ)) := fr_eqD (rfR_set (i := 64 + (z_nc ρ)) (by omega)) hD
      refine lv_aload_n hx hb dX8_store_78 rfl (lv_at hl 1 rfl) ?_
      refine va_get (D := g.1) (ci := 7) (v := .int (nI (z_nc ρ + 1))) (C := RX8) (T := TX8) (N := 30) hx hb hts inX8 hown hK hP 0 rfl rfl 4 (by decide) (hts _ tw607) (fun _ h9 => h9) rfl dX8_store_79 ?_
      refine lv_bipush (v := 6) hx hb dX8_store_82 (by decide) ?_
      refine lv_icmp_le (tgt := 91) hx hb dX8_store_84 (by decide) (fun c84 => ?_) (fun c84 => ?_)
      · have c84 := (nI_leI (a := (z_nc ρ + 1)) (b := 6) (by omega) (by omega)).mp c84
        exact W.vret hx hb hr (fun t ht _ => ⟨⟨none, rfW g a (z_mem ρ) (va_up (z_R ρ) (64 + (z_nc ρ)) (va_cpy (z_one ρ) ((z_R ρ) (64 + (z_nc ρ))) 0 0 8)) (upd (z_cb ρ) (z_nc ρ) (nI j)) (z_nc ρ + 1) (z_tu ρ) (z_bi ρ) (z_cg ρ) (z_on ρ) (z_T ρ) (z_dn ρ) (z_fa ρ) (z_br ρ) (z_bs ρ + 1) (z_cp ρ) (z_cq ρ) (z_cx ρ) (z_re ρ) (z_n ρ) (z_op ρ) (z_fg ρ) (z_sp ρ) (z_one ρ), rfl, ⟨rfl, by simp only [stU, stV, if_neg c14, hf, if_neg (show ¬ 6 < z_nc ρ + 1 by omega)]⟩, rfl, by rw [ht]; exact hP⟩, hS.F ht⟩) hS.2.2 dX8_store_91
      · have c84 := (not_congr (nI_leI (a := (z_nc ρ + 1)) (b := 6) (by omega) (by omega))).mp c84
        refine lv_aload_n hx hb dX8_store_87 rfl (lv_at hl 1 rfl) ?_
        refine fr_goA (va_runV (As := []) (rest := []) ⟨hx, hb, hml, hown, hts⟩ (kX8_giveUp l g a (w_bs (w_nc (w_cb (w_R ρ (va_up (z_R ρ) (64 + (z_nc ρ)) (va_cpy (z_one ρ) ((z_R ρ) (64 + (z_nc ρ))) 0 0 8))) (upd (z_cb ρ) (z_nc ρ) (nI j))) (z_nc ρ + 1)) (z_bs ρ + 1)) (z_nc ρ) rfl hn (RI_st hR hj) H.size) (cwV 0 hts (gdV tw733 tw735 tp30 tw9 tw736) rfl rfl rfl (by decide +kernel) ⟨Nat.le_of_ble_eq_true rfl, Nat.le_of_ble_eq_true rfl⟩) ⟨Pst.blind, va_recv hK hP (ci := 7) (q0 := 0) rfl rfl, fr_preA hK hP hD⟩ rfl rfl hl.1 rfl (lv_room (Nat.le_of_ble_eq_true rfl)) dX8_store_88 ⟨Nat.le_of_ble_eq_true rfl, Nat.le_of_ble_eq_true rfl⟩) hD hS hA (fun v w9 H locs hq hP hD hS => ?_)
        obtain ⟨rfl, rfl⟩ := hq
        have hP : va_P g.1 vwCl (rfW g a (z_mem ρ) ((gvU (z_R (w_bs (w_nc (w_cb (w_R ρ (va_up (z_R ρ) (64 + (z_nc ρ)) (va_cpy (z_one ρ) ((z_R ρ) (64 + (z_nc ρ))) 0 0 8))) (upd (z_cb ρ) (z_nc ρ) (nI j))) (z_nc ρ + 1)) (z_bs ρ + 1)), z_cb (w_bs (w_nc (w_cb (w_R ρ (va_up (z_R ρ) (64 + (z_nc ρ)) (va_cpy (z_one ρ) ((z_R ρ) (64 + (z_nc ρ))) 0 0 8))) (upd (z_cb ρ) (z_nc ρ) (nI j))) (z_nc ρ + 1)) (z_bs ρ + 1))) (z_nc ρ)).1) ((gvU (z_R (w_bs (w_nc (w_cb (w_R ρ (va_up (z_R ρ) (64 + (z_nc ρ)) (va_cpy (z_one ρ) ((z_R ρ) (64 + (z_nc ρ))) 0 0 8))) (upd (z_cb ρ) (z_nc ρ) (nI j))) (z_nc ρ + 1)) (z_bs ρ + 1)), z_cb (w_bs (w_nc (w_cb (w_R ρ (va_up (z_R ρ) (64 + (z_nc ρ)) (va_cpy (z_one ρ) ((z_R ρ) (64 + (z_nc ρ))) 0 0 8))) (upd (z_cb ρ) (z_nc ρ) (nI j))) (z_nc ρ + 1)) (z_bs ρ + 1))) (z_nc ρ)).2) (z_nc ρ) (z_tu ρ) (z_bi ρ) (z_cg ρ) (z_on ρ) (z_T ρ) (z_dn ρ) (z_fa ρ) (z_br ρ) (z_bs ρ + 1) (z_cp ρ) (z_cq ρ) (z_cx ρ) (z_re ρ) (z_n ρ) (z_op ρ) (z_fg ρ) (z_sp ρ) (z_one ρ)) H := hP
        have hD : va_D A (rfW g a (z_mem ρ) ((gvU (z_R (w_bs (w_nc (w_cb (w_R ρ (va_up (z_R ρ) (64 + (z_nc ρ)) (va_cpy (z_one ρ) ((z_R ρ) (64 + (z_nc ρ))) 0 0 8))) (upd (z_cb ρ) (z_nc ρ) (nI j))) (z_nc ρ + 1)) (z_bs ρ + 1)), z_cb (w_bs (w_nc (w_cb (w_R ρ (va_up (z_R ρ) (64 + (z_nc ρ)) (va_cpy (z_one ρ) ((z_R ρ) (64 + (z_nc ρ))) 0 0 8))) (upd (z_cb ρ) (z_nc ρ) (nI j))) (z_nc ρ + 1)) (z_bs ρ + 1))) (z_nc ρ)).1) ((gvU (z_R (w_bs (w_nc (w_cb (w_R ρ (va_up (z_R ρ) (64 + (z_nc ρ)) (va_cpy (z_one ρ) ((z_R ρ) (64 + (z_nc ρ))) 0 0 8))) (upd (z_cb ρ) (z_nc ρ) (nI j))) (z_nc ρ + 1)) (z_bs ρ + 1)), z_cb (w_bs (w_nc (w_cb (w_R ρ (va_up (z_R ρ) (64 + (z_nc ρ)) (va_cpy (z_one ρ) ((z_R ρ) (64 + (z_nc ρ))) 0 0 8))) (upd (z_cb ρ) (z_nc ρ) (nI j))) (z_nc ρ + 1)) (z_bs ρ + 1))) (z_nc ρ)).2) (z_nc ρ) (z_tu ρ) (z_bi ρ) (z_cg ρ) (z_on ρ) (z_T ρ) (z_dn ρ) (z_fa ρ) (z_br ρ) (z_bs ρ + 1) (z_cp ρ) (z_cq ρ) (z_cx ρ) (z_re ρ) (z_n ρ) (z_op ρ) (z_fg ρ) (z_sp ρ) (z_one ρ)) := hD
        show W p l e _ s m _ below meth c H locs _ _ _ (F0 m (88 + 3) ls ([]))
        exact W.vret hx hb hr (fun t ht _ => ⟨⟨none, rfW g a (z_mem ρ) ((gvU (z_R (w_bs (w_nc (w_cb (w_R ρ (va_up (z_R ρ) (64 + (z_nc ρ)) (va_cpy (z_one ρ) ((z_R ρ) (64 + (z_nc ρ))) 0 0 8))) (upd (z_cb ρ) (z_nc ρ) (nI j))) (z_nc ρ + 1)) (z_bs ρ + 1)), z_cb (w_bs (w_nc (w_cb (w_R ρ (va_up (z_R ρ) (64 + (z_nc ρ)) (va_cpy (z_one ρ) ((z_R ρ) (64 + (z_nc ρ))) 0 0 8))) (upd (z_cb ρ) (z_nc ρ) (nI j))) (z_nc ρ + 1)) (z_bs ρ + 1))) (z_nc ρ)).1) ((gvU (z_R (w_bs (w_nc (w_cb (w_R ρ (va_up (z_R ρ) (64 + (z_nc ρ)) (va_cpy (z_one ρ) ((z_R ρ) (64 + (z_nc ρ))) 0 0 8))) (upd (z_cb ρ) (z_nc ρ) (nI j))) (z_nc ρ + 1)) (z_bs ρ + 1)), z_cb (w_bs (w_nc (w_cb (w_R ρ (va_up (z_R ρ) (64 + (z_nc ρ)) (va_cpy (z_one ρ) ((z_R ρ) (64 + (z_nc ρ))) 0 0 8))) (upd (z_cb ρ) (z_nc ρ) (nI j))) (z_nc ρ + 1)) (z_bs ρ + 1))) (z_nc ρ)).2) (z_nc ρ) (z_tu ρ) (z_bi ρ) (z_cg ρ) (z_on ρ) (z_T ρ) (z_dn ρ) (z_fa ρ) (z_br ρ) (z_bs ρ + 1) (z_cp ρ) (z_cq ρ) (z_cx ρ) (z_re ρ) (z_n ρ) (z_op ρ) (z_fg ρ) (z_sp ρ) (z_one ρ), rfl, ⟨rfl, by simp only [stU, stV, if_neg c14, hf, if_pos (show 6 < z_nc ρ + 1 by omega)]⟩, rfl, by rw [ht]; exact hP⟩, hS.F ht⟩) hS.2.2 dX8_store_91
    · have hk := fnd_lt hf
      refine lv_aload_n hx hb dX8_store_32 rfl (lv_at hl 0 rfl) ?_
      refine lv_iload_n hx hb dX8_store_33 rfl (lv_at hl 1 rfl) ?_
      refine fr_goA (va_runV (As := [.int (nI j)]) (rest := []) ⟨hx, hb, hml, hown, hts⟩ (kX8_find l g a (w_bs ρ (z_bs ρ + 1)) (nI j) (show z_nc ρ ≤ 7 by omega) H.size) (cwV 1 hts (gdV tw786 tw788 tp38 tw9 tw789) rfl rfl rfl (by decide +kernel) ⟨Nat.le_of_ble_eq_true rfl, Nat.le_of_ble_eq_true rfl⟩) ⟨Pst.blind, va_recv hK hP (ci := 7) (q0 := 0) rfl rfl, fr_preA hK hP hD⟩ rfl rfl hl.1 rfl (lv_room (Nat.le_of_ble_eq_true rfl)) dX8_store_34 ⟨Nat.le_of_ble_eq_true rfl, Nat.le_of_ble_eq_true rfl⟩) hD hS hA (fun v w9 H locs hq hP hD hS => ?_)
      obtain ⟨rfl, rfl⟩ := hq
      have hP : va_P g.1 vwCl (rfW g a (z_mem ρ) (z_R ρ) (z_cb ρ) (z_nc ρ) (z_tu ρ) (z_bi ρ) (z_cg ρ) (z_on ρ) (z_T ρ) (z_dn ρ) (z_fa ρ) (z_br ρ) (z_bs ρ + 1) (z_cp ρ) (z_cq ρ) (z_cx ρ) (z_re ρ) (z_n ρ) (z_op ρ) (z_fg ρ) (z_sp ρ) (z_one ρ)) H := hP
      have hD : va_D A (rfW g a (z_mem ρ) (z_R ρ) (z_cb ρ) (z_nc ρ) (z_tu ρ) (z_bi ρ) (z_cg ρ) (z_on ρ) (z_T ρ) (z_dn ρ) (z_fa ρ) (z_br ρ) (z_bs ρ + 1) (z_cp ρ) (z_cq ρ) (z_cx ρ) (z_re ρ) (z_n ρ) (z_op ρ) (z_fg ρ) (z_sp ρ) (z_one ρ)) := hD
      show W p l e _ s m _ below meth c H locs _ _ _ (F0 m (34 + 3) ls (.int (plc (z_cb (w_bs ρ (z_bs ρ + 1))) (nI j) (z_nc (w_bs ρ (z_bs ρ + 1)))) :: []))
      refine fr_topi (y := nI k) (plc_s hf) ?_
      refine lv_istore_n (lv' := [(3, .int (nI k)), (0, .ref (a 0)), (1, .int (nI j)), (2, .ref (a 14))]) hx hb dX8_store_37 rfl hl (by decide) rfl (fun ls hl => ?_)
      refine lv_iload_n hx hb dX8_store_38 rfl (lv_at hl 0 rfl) ?_
      refine lv_if_ge (tgt := 64) hx hb dX8_store_39 (by decide) (fun _ => ?_) (fun q9 => absurd (nI_pos' (by omega)) q9)
      refine lv_aload_n hx hb dX8_store_64 rfl (lv_at hl 3 rfl) ?_
      refine lv_iconst (v := 0) hx hb dX8_store_65 (by decide) ?_
      refine lv_aload_n hx hb dX8_store_66 rfl (lv_at hl 1 rfl) ?_
      refine va_get (D := g.1) (ci := 7) (v := .ref (a 3)) (C := RX8) (T := TX8) (N := 30) hx hb hts inX8 hown hK hP 0 rfl rfl 2 (by decide) (hts _ tw605) (fun _ h9 => h9) rfl dX8_store_67 ?_
      refine lv_iload_n hx hb dX8_store_70 rfl (lv_at hl 0 rfl) ?_
      refine fr_aaldA (k := k) (b := (a (15 + (64 + k)))) hx hb hK hP 3 5 rfl rfl rfl (by omega) (by decide) (if_pos (by omega)) dX8_store_71 ?_
      refine lv_iconst (v := 0) hx hb dX8_store_72 (by decide) ?_
      refine lv_bipush (v := 8) hx hb dX8_store_73 (by decide) ?_
      refine fr_copyl hx hb (hml.trans hl.1.symm) hown (hts _ tw737) (hts _ tw304) (hts _ tw303) (hts _ tw11) hK hP hD hS 14 (15 + (64 + k)) 0 0 rfl (rfR (i := 64 + k) (by omega)) rfl rfl 0 0 8 rfl rfl rfl (by omega) (by omega) (by decide) (by decide) (Nat.le_of_ble_eq_true rfl) (Nat.le_of_ble_eq_true rfl) dX8_store_75 (fun H locs hP hD hS => ?_)
      have hP : va_P g.1 vwCl (rfW g a (z_mem ρ) (va_up (z_R ρ) (64 + k) (va_cpy (z_one ρ) ((z_R ρ) (64 + k)) 0 0 8)) (z_cb ρ) (z_nc ρ) (z_tu ρ) (z_bi ρ) (z_cg ρ) (z_on ρ) (z_T ρ) (z_dn ρ) (z_fa ρ) (z_br ρ) (z_bs ρ + 1) (z_cp ρ) (z_cq ρ) (z_cx ρ) (z_re ρ) (z_n ρ) (z_op ρ) (z_fg ρ) (z_sp ρ) (z_one ρ)) H := fr_eqP (rfR_set (i := 64 + k) (by omega)) hP
      have hD : va_D A (rfW g a (z_mem ρ) (va_up (z_R ρ) (64 + k) (va_cpy (z_one ρ) ((z_R ρ) (64 + k)) 0 0 8)) (z_cb ρ) (z_nc ρ) (z_tu ρ) (z_bi ρ) (z_cg ρ) (z_on ρ) (z_T ρ) (z_dn ρ) (z_fa ρ) (z_br ρ) (z_bs ρ + 1) (z_cp ρ) (z_cq ρ) (z_cx ρ) (z_re ρ) (z_n ρ) (z_op ρ) (z_fg ρ) (z_sp ρ) (z_one ρ)) := fr_eqD (rfR_set (i := 64 + k) (by omega)) hD
      refine lv_aload_n hx hb dX8_store_78 rfl (lv_at hl 1 rfl) ?_
      refine va_get (D := g.1) (ci := 7) (v := .int (nI (z_nc ρ))) (C := RX8) (T := TX8) (N := 30) hx hb hts inX8 hown hK hP 0 rfl rfl 4 (by decide) (hts _ tw607) (fun _ h9 => h9) rfl dX8_store_79 ?_
      refine lv_bipush (v := 6) hx hb dX8_store_82 (by decide) ?_
      refine lv_icmp_le (tgt := 91) hx hb dX8_store_84 (by decide) (fun _ => ?_) (fun q9 => absurd (nI_le (b := 6) (by omega) (by decide)) q9)
      exact W.vret hx hb hr (fun t ht _ => ⟨⟨none, rfW g a (z_mem ρ) (va_up (z_R ρ) (64 + k) (va_cpy (z_one ρ) ((z_R ρ) (64 + k)) 0 0 8)) (z_cb ρ) (z_nc ρ) (z_tu ρ) (z_bi ρ) (z_cg ρ) (z_on ρ) (z_T ρ) (z_dn ρ) (z_fa ρ) (z_br ρ) (z_bs ρ + 1) (z_cp ρ) (z_cq ρ) (z_cx ρ) (z_re ρ) (z_n ρ) (z_op ρ) (z_fg ρ) (z_sp ρ) (z_one ρ), rfl, ⟨rfl, by simp only [stU, stV, if_neg c14, hf]⟩, rfl, by rw [ht]; exact hP⟩, hS.F ht⟩) hS.2.2 dX8_store_91
  · refine lv_aload_n hx hb dX8_store_17 rfl (lv_at hl 2 rfl) ?_
    refine lv_iconst (v := 0) hx hb dX8_store_18 (by decide) ?_
    refine lv_aload_n hx hb dX8_store_19 rfl (lv_at hl 0 rfl) ?_
    refine va_get (D := g.1) (ci := 7) (v := .ref (a 2)) (C := RX8) (T := TX8) (N := 30) hx hb hts inX8 hown hK hP 0 rfl rfl 1 (by decide) (hts _ tw604) (fun _ h9 => h9) rfl dX8_store_20 ?_
    refine lv_iload_n hx hb dX8_store_23 rfl (lv_at hl 1 rfl) ?_
    refine fr_aaldA (k := j) (b := (a (15 + j))) hx hb hK hP 2 5 rfl rfl rfl (by omega) (by decide) (if_pos (by omega)) dX8_store_24 ?_
    refine lv_iconst (v := 0) hx hb dX8_store_25 (by decide) ?_
    refine lv_bipush (v := 8) hx hb dX8_store_26 (by decide) ?_
    refine fr_copyl hx hb (hml.trans hl.1.symm) hown (hts _ tw737) (hts _ tw304) (hts _ tw303) (hts _ tw11) hK hP hD hS 14 (15 + j) 0 0 rfl (rfR (i := j) (by omega)) rfl rfl 0 0 8 rfl rfl rfl (by omega) (by omega) (by decide) (by decide) (Nat.le_of_ble_eq_true rfl) (Nat.le_of_ble_eq_true rfl) dX8_store_28 (fun H locs hP hD hS => ?_)
    have hP : va_P g.1 vwCl (rfW g a (z_mem ρ) (va_up (z_R ρ) j (va_cpy (z_one ρ) ((z_R ρ) j) 0 0 8)) (z_cb ρ) (z_nc ρ) (z_tu ρ) (z_bi ρ) (z_cg ρ) (z_on ρ) (z_T ρ) (z_dn ρ) (z_fa ρ) (z_br ρ) (z_bs ρ + 1) (z_cp ρ) (z_cq ρ) (z_cx ρ) (z_re ρ) (z_n ρ) (z_op ρ) (z_fg ρ) (z_sp ρ) (z_one ρ)) H := fr_eqP (rfR_set (i := j) (by omega)) hP
    have hD : va_D A (rfW g a (z_mem ρ) (va_up (z_R ρ) j (va_cpy (z_one ρ) ((z_R ρ) j) 0 0 8)) (z_cb ρ) (z_nc ρ) (z_tu ρ) (z_bi ρ) (z_cg ρ) (z_on ρ) (z_T ρ) (z_dn ρ) (z_fa ρ) (z_br ρ) (z_bs ρ + 1) (z_cp ρ) (z_cq ρ) (z_cx ρ) (z_re ρ) (z_n ρ) (z_op ρ) (z_fg ρ) (z_sp ρ) (z_one ρ)) := fr_eqD (rfR_set (i := j) (by omega)) hD
    exact W.vret hx hb hr (fun t ht _ => ⟨⟨none, rfW g a (z_mem ρ) (va_up (z_R ρ) j (va_cpy (z_one ρ) ((z_R ρ) j) 0 0 8)) (z_cb ρ) (z_nc ρ) (z_tu ρ) (z_bi ρ) (z_cg ρ) (z_on ρ) (z_T ρ) (z_dn ρ) (z_fa ρ) (z_br ρ) (z_bs ρ + 1) (z_cp ρ) (z_cq ρ) (z_cx ρ) (z_re ρ) (z_n ρ) (z_op ρ) (z_fg ρ) (z_sp ρ) (z_one ρ), rfl, ⟨rfl, by simp only [stU, stV, if_pos c14]⟩, rfl, by rw [ht]; exact hP⟩, hS.F ht⟩) hS.2.2 dX8_store_31
