set_option maxHeartbeats 4000000 in
set_option maxRecDepth 100000 in
/-- admin -/
theorem kX8_admin (l : Launch) (g : GG) (a : Nat → Nat) (ρ : RS) (hn : z_nc ρ ≤ 7) (hR : RI (z_R ρ, z_cb ρ) (z_nc ρ)) (hn1 : 1 ≤ z_n ρ) (hn9 : z_n ρ ≤ 256) (hfg : z_fg ρ = 0 ∨ z_fg ρ = 1) : Ct l yX8_admin cX8_admin 5 (some .int) ({ frames := 3, cells := 1, slots := 8, locals := 81 } : Room) g [.ref (a 0)] (rfW g a (z_mem ρ) (z_R ρ) (z_cb ρ) (z_nc ρ) (z_tu ρ) (z_bi ρ) (z_cg ρ) (z_on ρ) (z_T ρ) (z_dn ρ) (z_fa ρ) (z_br ρ) (z_bs ρ) (z_cp ρ) (z_cq ρ) (z_cx ρ) (z_re ρ) (z_n ρ) (z_op ρ) (z_fg ρ) (z_sp ρ) (z_one ρ)) (fun v w' => ∃ (sp1 : Nat → Int32), True ∧ v = some (.int (q_adm ρ)) ∧ w' = rfW g a (z_mem (h_adm ρ)) (z_R (h_adm ρ)) (z_cb (h_adm ρ)) (z_nc (h_adm ρ)) (z_tu (h_adm ρ)) (z_bi (h_adm ρ)) (z_cg (h_adm ρ)) (z_on (h_adm ρ)) (z_T (h_adm ρ)) (z_dn (h_adm ρ)) (z_fa (h_adm ρ)) (z_br (h_adm ρ)) (z_bs (h_adm ρ)) (z_cp (h_adm ρ)) (z_cq (h_adm ρ)) (z_cx (h_adm ρ)) (z_re (h_adm ρ)) (z_n (h_adm ρ)) (z_op (h_adm ρ)) (z_fg (h_adm ρ)) sp1 (z_one (h_adm ρ))) := by
  refine Ct.of (by decide) (Nat.le_of_ble_eq_true rfl) ?_
  intro p e s m below meth c A ls H locs hx hb hr hml hlocks hts hown hin hA hS hK hP hD hl
  have hown : s.vm.findClass RX8 = some m.cls := hown
  have hl : lv_has ls 5 [(0, .ref (a 0))] := hl
  refine lv_aload_n hx hb dX8_admin_0 rfl (lv_at hl 0 rfl) ?_
  refine va_get (D := g.1) (ci := 7) (v := .long (z_cp ρ)) (C := RX8) (T := TX8) (N := 30) hx hb hts inX8 hown hK hP 0 rfl rfl 21 (by decide) (hts _ tw624) (fun _ h9 => h9) rfl dX8_admin_1 ?_
  refine lv_lconst (v := 1) hx hb dX8_admin_4 (by decide) ?_
  refine lv_ldc2 hx hb hown (hts _ tw742) dX8_admin_5 ?_
  refine fr_go (va_runS (As := [.long (z_cp ρ), .long 1, .long 3]) (rest := []) ⟨hx, hb, hml, hown, hts⟩ (kX8_in l g (z_cp ρ) 1 3 H.size) (va_cwS 3 hts (gdS tw700 tw701 tw9 tw702) rfl rfl rfl (by decide +kernel) ⟨Nat.le_of_ble_eq_true rfl, Nat.le_of_ble_eq_true rfl⟩) ⟨Pst.blind, fr_pre hK hP hD [] rfl rfl⟩ rfl rfl hl.1 rfl (lv_room (Nat.le_of_ble_eq_true rfl)) dX8_admin_8 ⟨Nat.le_of_ble_eq_true rfl, Nat.le_of_ble_eq_true rfl⟩) hP hD hS hA [] rfl (fun v w9 H locs hq hP hD hS => ?_)
  obtain ⟨rfl, rfl⟩ := hq
  have hP : va_P g.1 vwCl (rfW g a (z_mem ρ) (z_R ρ) (z_cb ρ) (z_nc ρ) (z_tu ρ) (z_bi ρ) (z_cg ρ) (z_on ρ) (z_T ρ) (z_dn ρ) (z_fa ρ) (z_br ρ) (z_bs ρ) (z_cp ρ) (z_cq ρ) (z_cx ρ) (z_re ρ) (z_n ρ) (z_op ρ) (z_fg ρ) (z_sp ρ) (z_one ρ)) H := hP
  have hD : va_D A (rfW g a (z_mem ρ) (z_R ρ) (z_cb ρ) (z_nc ρ) (z_tu ρ) (z_bi ρ) (z_cg ρ) (z_on ρ) (z_T ρ) (z_dn ρ) (z_fa ρ) (z_br ρ) (z_bs ρ) (z_cp ρ) (z_cq ρ) (z_cx ρ) (z_re ρ) (z_n ρ) (z_op ρ) (z_fg ρ) (z_sp ρ) (z_one ρ)) := hD
  show W p l e _ s m _ below meth c H locs _ _ _ (F0 m (8 + 3) ls (.int (bI (¬ (z_cp ρ) < 1 ∧ ¬ 3 < (z_cp ρ))) :: []))
  refine lv_istore_n (lv' := [(1, .int (bI (¬ (z_cp ρ) < 1 ∧ ¬ 3 < (z_cp ρ)))), (0, .ref (a 0))]) hx hb dX8_admin_11 rfl hl (by decide) rfl (fun ls hl => ?_)
  refine lv_aload_n hx hb dX8_admin_12 rfl (lv_at hl 1 rfl) ?_
  refine va_get (D := g.1) (ci := 7) (v := .long (z_cp ρ)) (C := RX8) (T := TX8) (N := 30) hx hb hts inX8 hown hK hP 0 rfl rfl 21 (by decide) (hts _ tw624) (fun _ h9 => h9) rfl dX8_admin_13 ?_
  refine lv_l2i hx hb dX8_admin_16 rfl ?_
  refine lv_istore_n (lv' := [(2, .int ((z_cp ρ).toInt32)), (1, .int (bI (¬ (z_cp ρ) < 1 ∧ ¬ 3 < (z_cp ρ)))), (0, .ref (a 0))]) hx hb dX8_admin_17 rfl hl (by decide) rfl (fun ls hl => ?_)
  refine lv_aload_n hx hb dX8_admin_18 rfl (lv_at hl 2 rfl) ?_
  refine va_get (D := g.1) (ci := 7) (v := .int (z_op ρ)) (C := RX8) (T := TX8) (N := 30) hx hb hts inX8 hown hK hP 0 rfl rfl 26 (by decide) (hts _ tw629) (fun _ h9 => h9) rfl dX8_admin_19 ?_
  by_cases w1 : (z_op ρ) = 1
  · refine lv_tableIn (off := 42) (tgt := 64) hx hb dX8_admin_22 (by rw [w1]; decide) (by rw [w1]; decide) (by rw [w1]; decide) (by decide) ?_
    refine lv_iload_n hx hb dX8_admin_64 rfl (lv_at hl 1 rfl) ?_
    refine lv_if_eq (tgt := 94) hx hb dX8_admin_65 (by decide) (fun c65 => ?_) (fun c65 => ?_)
    · have c65 := bI_f c65
      have d65 : ¬ bes (z_cp ρ) := fun q => c65 (bes_r.mp q)
      refine lv_iconst (v := 2) hx hb dX8_admin_94 (by decide) ?_
      refine W.widen (k := 1) (n := 8) (Nat.le_of_ble_eq_true rfl) (Nat.le_of_ble_eq_true rfl) ?_
      exact W.iret (v := 2) hx hb hr (fun t ht _ => ⟨⟨(some (.int 2)), rfW g a (z_mem ρ) (z_R ρ) (z_cb ρ) (z_nc ρ) (z_tu ρ) (z_bi ρ) (z_cg ρ) (z_on ρ) (z_T ρ) (z_dn ρ) (z_fa ρ) (z_br ρ) (z_bs ρ) (z_cp ρ) (z_cq ρ) (z_cx ρ) (z_re ρ) (z_n ρ) (z_op ρ) (z_fg ρ) (z_sp ρ) (z_one ρ), rfl, ⟨z_sp ρ, trivial, congrArg (fun z : Int32 => some (Value.int z)) (by rw [q_adm, if_pos w1, if_neg (show ¬ mcP ρ from fun q => d65 q.1)]), by rw [h_adm, if_pos w1, if_neg (show ¬ mcP ρ from fun q => d65 q.1)] <;> rfl⟩, rfl, by rw [ht]; exact hP⟩, hS.F ht⟩) hS.2.2 dX8_admin_95
    · have c65 := bI_t c65
      have d65 := bes_r.mpr c65
      have hb9 := bes_n d65
      have h4 := hb9.2.1
      refine lv_aload_n hx hb dX8_admin_68 rfl (lv_at hl 2 rfl) ?_
      refine va_get (D := g.1) (ci := 7) (v := .ref (a 5)) (C := RX8) (T := TX8) (N := 30) hx hb hts inX8 hown hK hP 0 rfl rfl 9 (by decide) (hts _ tw612) (fun _ h9 => h9) rfl dX8_admin_69 ?_
      refine lv_iconst (v := 4) hx hb dX8_admin_72 (by decide) ?_
      refine lv_iload_n hx hb dX8_admin_73 rfl (lv_at hl 0 rfl) ?_
      refine fr_topi (y := nI (pN (z_cp ρ))) hb9.2.2.1 ?_
      refine lv_iadd hx hb dX8_admin_74 ?_
      refine fr_topi (y := nI (4 + pN (z_cp ρ))) (nI_add 4 _) ?_
      refine fr_zald (k := (4 + pN (z_cp ρ))) hx hb hK hP 5 2 rfl rfl (by omega) (by decide) dX8_admin_75 ?_
      refine lv_if_ne (tgt := 94) hx hb dX8_admin_76 (by decide) (fun c76 => ?_) (fun c76 => ?_)
      · refine lv_iconst (v := 2) hx hb dX8_admin_94 (by decide) ?_
        refine W.widen (k := 1) (n := 8) (Nat.le_of_ble_eq_true rfl) (Nat.le_of_ble_eq_true rfl) ?_
        exact W.iret (v := 2) hx hb hr (fun t ht _ => ⟨⟨(some (.int 2)), rfW g a (z_mem ρ) (z_R ρ) (z_cb ρ) (z_nc ρ) (z_tu ρ) (z_bi ρ) (z_cg ρ) (z_on ρ) (z_T ρ) (z_dn ρ) (z_fa ρ) (z_br ρ) (z_bs ρ) (z_cp ρ) (z_cq ρ) (z_cx ρ) (z_re ρ) (z_n ρ) (z_op ρ) (z_fg ρ) (z_sp ρ) (z_one ρ), rfl, ⟨z_sp ρ, trivial, congrArg (fun z : Int32 => some (Value.int z)) (by rw [q_adm, if_pos w1, if_neg (show ¬ mcP ρ from fun q => q.2.1 (⟨(z_0 hb9.2.2.2), d_4 hb9, c76⟩ : hasC (z_T ρ) (z_cp ρ)))]), by rw [h_adm, if_pos w1, if_neg (show ¬ mcP ρ from fun q => q.2.1 (⟨(z_0 hb9.2.2.2), d_4 hb9, c76⟩ : hasC (z_T ρ) (z_cp ρ)))] <;> rfl⟩, rfl, by rw [ht]; exact hP⟩, hS.F ht⟩) hS.2.2 dX8_admin_95
      · refine lv_aload_n hx hb dX8_admin_79 rfl (lv_at hl 2 rfl) ?_
        refine va_get (D := g.1) (ci := 7) (v := .long (z_cq ρ)) (C := RX8) (T := TX8) (N := 30) hx hb hts inX8 hown hK hP 0 rfl rfl 22 (by decide) (hts _ tw625) (fun _ h9 => h9) rfl dX8_admin_80 ?_
        refine lv_aload_n hx hb dX8_admin_83 rfl (lv_at hl 2 rfl) ?_
        refine va_get (D := g.1) (ci := 7) (v := .long (z_cx ρ)) (C := RX8) (T := TX8) (N := 30) hx hb hts inX8 hown hK hP 0 rfl rfl 23 (by decide) (hts _ tw626) (fun _ h9 => h9) rfl dX8_admin_84 ?_
        refine lv_iconst (v := 1) hx hb dX8_admin_87 (by decide) ?_
        refine fr_go (va_runS (As := [.long (z_cq ρ), .long (z_cx ρ), .int 1]) (rest := []) ⟨hx, hb, hml, hown, hts⟩ (kX8_fits l g (z_cq ρ) (z_cx ρ) 1 H.size) (va_cwS 3 hts (gdS tw711 tw712 tw9 tw713) rfl rfl rfl (by decide +kernel) ⟨Nat.le_of_ble_eq_true rfl, Nat.le_of_ble_eq_true rfl⟩) ⟨Pst.blind, fr_pre hK hP hD [] rfl rfl⟩ rfl rfl hl.1 rfl (lv_room (Nat.le_of_ble_eq_true rfl)) dX8_admin_88 ⟨Nat.le_of_ble_eq_true rfl, Nat.le_of_ble_eq_true rfl⟩) hP hD hS hA [] rfl (fun v w9 H locs hq hP hD hS => ?_)
        obtain ⟨rfl, rfl⟩ := hq
        have hP : va_P g.1 vwCl (rfW g a (z_mem ρ) (z_R ρ) (z_cb ρ) (z_nc ρ) (z_tu ρ) (z_bi ρ) (z_cg ρ) (z_on ρ) (z_T ρ) (z_dn ρ) (z_fa ρ) (z_br ρ) (z_bs ρ) (z_cp ρ) (z_cq ρ) (z_cx ρ) (z_re ρ) (z_n ρ) (z_op ρ) (z_fg ρ) (z_sp ρ) (z_one ρ)) H := hP
        have hD : va_D A (rfW g a (z_mem ρ) (z_R ρ) (z_cb ρ) (z_nc ρ) (z_tu ρ) (z_bi ρ) (z_cg ρ) (z_on ρ) (z_T ρ) (z_dn ρ) (z_fa ρ) (z_br ρ) (z_bs ρ) (z_cp ρ) (z_cq ρ) (z_cx ρ) (z_re ρ) (z_n ρ) (z_op ρ) (z_fg ρ) (z_sp ρ) (z_one ρ)) := hD
        show W p l e _ s m _ below meth c H locs _ _ _ (F0 m (88 + 3) ls (.int (bI (fitR (z_cq ρ) (z_cx ρ) 1)) :: []))
        refine lv_if_ne (tgt := 96) hx hb dX8_admin_91 (by decide) (fun c91 => ?_) (fun c91 => ?_)
        · have c91 := bI_t c91
          refine lv_aload_n hx hb dX8_admin_96 rfl (lv_at hl 2 rfl) ?_
          refine lv_iconst (v := 4) hx hb dX8_admin_97 (by decide) ?_
          refine lv_iload_n hx hb dX8_admin_98 rfl (lv_at hl 0 rfl) ?_
          refine fr_topi (y := nI (pN (z_cp ρ))) hb9.2.2.1 ?_
          refine lv_iadd hx hb dX8_admin_99 ?_
          refine fr_topi (y := nI (4 + pN (z_cp ρ))) (nI_add 4 _) ?_
          refine lv_aload_n hx hb dX8_admin_100 rfl (lv_at hl 2 rfl) ?_
          refine va_get (D := g.1) (ci := 7) (v := .long (z_cq ρ)) (C := RX8) (T := TX8) (N := 30) hx hb hts inX8 hown hK hP 0 rfl rfl 22 (by decide) (hts _ tw625) (fun _ h9 => h9) rfl dX8_admin_101 ?_
          refine lv_aload_n hx hb dX8_admin_104 rfl (lv_at hl 2 rfl) ?_
          refine va_get (D := g.1) (ci := 7) (v := .long (z_cx ρ)) (C := RX8) (T := TX8) (N := 30) hx hb hts inX8 hown hK hP 0 rfl rfl 23 (by decide) (hts _ tw626) (fun _ h9 => h9) rfl dX8_admin_105 ?_
          refine fr_goA (va_runV (As := [.int (nI (4 + pN (z_cp ρ))), .long (z_cq ρ), .long (z_cx ρ)]) (rest := []) ⟨hx, hb, hml, hown, hts⟩ (kX8_make l g a ρ (4 + pN (z_cp ρ)) (z_cq ρ) (z_cx ρ) (by omega) H.size) (cwV 3 hts (gdV tw721 tw723 tp28 tw9 tw724) rfl rfl rfl (by decide +kernel) ⟨Nat.le_of_ble_eq_true rfl, Nat.le_of_ble_eq_true rfl⟩) ⟨Pst.blind, va_recv hK hP (ci := 7) (q0 := 0) rfl rfl, fr_preA hK hP hD⟩ rfl rfl hl.1 rfl (lv_room (Nat.le_of_ble_eq_true rfl)) dX8_admin_108 ⟨Nat.le_of_ble_eq_true rfl, Nat.le_of_ble_eq_true rfl⟩) hD hS hA (fun v w9 H locs hq hP hD hS => ?_)
          obtain ⟨rfl, rfl⟩ := hq
          have hP : va_P g.1 vwCl (rfW g a (z_mem ρ) (z_R ρ) (z_cb ρ) (z_nc ρ) (z_tu ρ) (z_bi ρ) (z_cg ρ) (z_on ρ) (mkQ (z_T ρ) (4 + pN (z_cp ρ)) (z_cq ρ).toInt32 (z_cx ρ).toInt32) (z_dn ρ) (z_fa ρ) (z_br ρ) (z_bs ρ) (z_cp ρ) (z_cq ρ) (z_cx ρ) (z_re ρ) (z_n ρ) (z_op ρ) (z_fg ρ) (z_sp ρ) (z_one ρ)) H := hP
          have hD : va_D A (rfW g a (z_mem ρ) (z_R ρ) (z_cb ρ) (z_nc ρ) (z_tu ρ) (z_bi ρ) (z_cg ρ) (z_on ρ) (mkQ (z_T ρ) (4 + pN (z_cp ρ)) (z_cq ρ).toInt32 (z_cx ρ).toInt32) (z_dn ρ) (z_fa ρ) (z_br ρ) (z_bs ρ) (z_cp ρ) (z_cq ρ) (z_cx ρ) (z_re ρ) (z_n ρ) (z_op ρ) (z_fg ρ) (z_sp ρ) (z_one ρ)) := hD
          show W p l e _ s m _ below meth c H locs _ _ _ (F0 m (108 + 3) ls ([]))
          refine lv_aload_n hx hb dX8_admin_111 rfl (lv_at hl 2 rfl) ?_
          refine va_get (D := g.1) (ci := 7) (v := .ref (a 6)) (C := RX8) (T := TX8) (N := 30) hx hb hts inX8 hown hK hP 0 rfl rfl 10 (by decide) (hts _ tw613) (fun _ h9 => h9) rfl dX8_admin_112 ?_
          refine lv_iload_n hx hb dX8_admin_115 rfl (lv_at hl 0 rfl) ?_
          refine fr_topi (y := nI (pN (z_cp ρ))) hb9.2.2.1 ?_
          refine lv_aload_n hx hb dX8_admin_116 rfl (lv_at hl 2 rfl) ?_
          refine va_get (D := g.1) (ci := 7) (v := .int (z_fg ρ)) (C := RX8) (T := TX8) (N := 30) hx hb hts inX8 hown hK hP 0 rfl rfl 27 (by decide) (hts _ tw630) (fun _ h9 => h9) rfl dX8_admin_117 ?_
          refine fr_zast (k := (pN (z_cp ρ))) hx hb hK hP hD hS 6 2 rfl rfl (by omega) (by decide) (bz_v hfg) dX8_admin_120 (fun H locs hP hD hS => ?_)
          have hP : va_P g.1 vwCl (rfW g a (z_mem ρ) (z_R ρ) (z_cb ρ) (z_nc ρ) (z_tu ρ) (z_bi ρ) (z_cg ρ) (z_on ρ) (up2 (mkQ (z_T ρ) (4 + pN (z_cp ρ)) (z_cq ρ).toInt32 (z_cx ρ).toInt32) 7 (pN (z_cp ρ)) (z_fg ρ)) (z_dn ρ) (z_fa ρ) (z_br ρ) (z_bs ρ) (z_cp ρ) (z_cq ρ) (z_cx ρ) (z_re ρ) (z_n ρ) (z_op ρ) (z_fg ρ) (z_sp ρ) (z_one ρ)) H := fr_eqP rfT_7 hP
          have hD : va_D A (rfW g a (z_mem ρ) (z_R ρ) (z_cb ρ) (z_nc ρ) (z_tu ρ) (z_bi ρ) (z_cg ρ) (z_on ρ) (up2 (mkQ (z_T ρ) (4 + pN (z_cp ρ)) (z_cq ρ).toInt32 (z_cx ρ).toInt32) 7 (pN (z_cp ρ)) (z_fg ρ)) (z_dn ρ) (z_fa ρ) (z_br ρ) (z_bs ρ) (z_cp ρ) (z_cq ρ) (z_cx ρ) (z_re ρ) (z_n ρ) (z_op ρ) (z_fg ρ) (z_sp ρ) (z_one ρ)) := fr_eqD rfT_7 hD
          refine lv_iconst (v := 0) hx hb dX8_admin_121 (by decide) ?_
          refine W.widen (k := 1) (n := 8) (Nat.le_of_ble_eq_true rfl) (Nat.le_of_ble_eq_true rfl) ?_
          exact W.iret (v := 0) hx hb hr (fun t ht _ => ⟨⟨(some (.int 0)), rfW g a (z_mem ρ) (z_R ρ) (z_cb ρ) (z_nc ρ) (z_tu ρ) (z_bi ρ) (z_cg ρ) (z_on ρ) (up2 (mkQ (z_T ρ) (4 + pN (z_cp ρ)) (z_cq ρ).toInt32 (z_cx ρ).toInt32) 7 (pN (z_cp ρ)) (z_fg ρ)) (z_dn ρ) (z_fa ρ) (z_br ρ) (z_bs ρ) (z_cp ρ) (z_cq ρ) (z_cx ρ) (z_re ρ) (z_n ρ) (z_op ρ) (z_fg ρ) (z_sp ρ) (z_one ρ), rfl, ⟨z_sp ρ, trivial, congrArg (fun z : Int32 => some (Value.int z)) (by rw [q_adm, if_pos w1, if_pos (show mcP ρ from ⟨d65, fun q => q.2.2 c76, c91⟩)]), by rw [mkQ_C h4, h_adm, if_pos w1, if_pos (show mcP ρ from ⟨d65, fun q => q.2.2 c76, c91⟩)] <;> rfl⟩, rfl, by rw [ht]; exact hP⟩, hS.F ht⟩) hS.2.2 dX8_admin_122
        · have c91 := bI_f c91
          refine lv_iconst (v := 2) hx hb dX8_admin_94 (by decide) ?_
          refine W.widen (k := 1) (n := 8) (Nat.le_of_ble_eq_true rfl) (Nat.le_of_ble_eq_true rfl) ?_
          exact W.iret (v := 2) hx hb hr (fun t ht _ => ⟨⟨(some (.int 2)), rfW g a (z_mem ρ) (z_R ρ) (z_cb ρ) (z_nc ρ) (z_tu ρ) (z_bi ρ) (z_cg ρ) (z_on ρ) (z_T ρ) (z_dn ρ) (z_fa ρ) (z_br ρ) (z_bs ρ) (z_cp ρ) (z_cq ρ) (z_cx ρ) (z_re ρ) (z_n ρ) (z_op ρ) (z_fg ρ) (z_sp ρ) (z_one ρ), rfl, ⟨z_sp ρ, trivial, congrArg (fun z : Int32 => some (Value.int z)) (by rw [q_adm, if_pos w1, if_neg (show ¬ mcP ρ from fun q => c91 q.2.2)]), by rw [h_adm, if_pos w1, if_neg (show ¬ mcP ρ from fun q => c91 q.2.2)] <;> rfl⟩, rfl, by rw [ht]; exact hP⟩, hS.F ht⟩) hS.2.2 dX8_admin_95
  · have z1 := lv_neT (a := 1) w1 (by decide)
    by_cases w2 : (z_op ρ) = 2
    · refine lv_tableIn (off := 101) (tgt := 123) hx hb dX8_admin_22 (by rw [w2]; decide) (by rw [w2]; decide) (by rw [w2]; decide) (by decide) ?_
      refine lv_iload_n hx hb dX8_admin_123 rfl (lv_at hl 1 rfl) ?_
      refine lv_if_eq (tgt := 184) hx hb dX8_admin_124 (by decide) (fun c124 => ?_) (fun c124 => ?_)
      · have c124 := bI_f c124
        have d124 : ¬ bes (z_cp ρ) := fun q => c124 (bes_r.mp q)
        refine lv_iconst (v := 2) hx hb dX8_admin_184 (by decide) ?_
        refine W.widen (k := 1) (n := 8) (Nat.le_of_ble_eq_true rfl) (Nat.le_of_ble_eq_true rfl) ?_
        exact W.iret (v := 2) hx hb hr (fun t ht _ => ⟨⟨(some (.int 2)), rfW g a (z_mem ρ) (z_R ρ) (z_cb ρ) (z_nc ρ) (z_tu ρ) (z_bi ρ) (z_cg ρ) (z_on ρ) (z_T ρ) (z_dn ρ) (z_fa ρ) (z_br ρ) (z_bs ρ) (z_cp ρ) (z_cq ρ) (z_cx ρ) (z_re ρ) (z_n ρ) (z_op ρ) (z_fg ρ) (z_sp ρ) (z_one ρ), rfl, ⟨z_sp ρ, trivial, congrArg (fun z : Int32 => some (Value.int z)) (by rw [q_adm, if_neg w1, if_pos w2, if_neg (show ¬ msP ρ from fun q => d124 q.1)]), by rw [h_adm, if_neg w1, if_pos w2, if_neg (show ¬ msP ρ from fun q => d124 q.1)] <;> rfl⟩, rfl, by rw [ht]; exact hP⟩, hS.F ht⟩) hS.2.2 dX8_admin_185
      · have c124 := bI_t c124
        have d124 := bes_r.mpr c124
        have hb9 := bes_n d124
        have h4 := hb9.2.1
        refine lv_aload_n hx hb dX8_admin_127 rfl (lv_at hl 2 rfl) ?_
        refine va_get (D := g.1) (ci := 7) (v := .ref (a 5)) (C := RX8) (T := TX8) (N := 30) hx hb hts inX8 hown hK hP 0 rfl rfl 9 (by decide) (hts _ tw612) (fun _ h9 => h9) rfl dX8_admin_128 ?_
        refine lv_iload_n hx hb dX8_admin_131 rfl (lv_at hl 0 rfl) ?_
        refine fr_topi (y := nI (pN (z_cp ρ))) hb9.2.2.1 ?_
        refine fr_zald (k := (pN (z_cp ρ))) hx hb hK hP 5 2 rfl rfl (by omega) (by decide) dX8_admin_132 ?_
        refine lv_if_ne (tgt := 184) hx hb dX8_admin_133 (by decide) (fun c133 => ?_) (fun c133 => ?_)
        · refine lv_iconst (v := 2) hx hb dX8_admin_184 (by decide) ?_
          refine W.widen (k := 1) (n := 8) (Nat.le_of_ble_eq_true rfl) (Nat.le_of_ble_eq_true rfl) ?_
          exact W.iret (v := 2) hx hb hr (fun t ht _ => ⟨⟨(some (.int 2)), rfW g a (z_mem ρ) (z_R ρ) (z_cb ρ) (z_nc ρ) (z_tu ρ) (z_bi ρ) (z_cg ρ) (z_on ρ) (z_T ρ) (z_dn ρ) (z_fa ρ) (z_br ρ) (z_bs ρ) (z_cp ρ) (z_cq ρ) (z_cx ρ) (z_re ρ) (z_n ρ) (z_op ρ) (z_fg ρ) (z_sp ρ) (z_one ρ), rfl, ⟨z_sp ρ, trivial, congrArg (fun z : Int32 => some (Value.int z)) (by rw [q_adm, if_neg w1, if_pos w2, if_neg (show ¬ msP ρ from fun q => q.2.1 (⟨(z_0 hb9.2.2.2), d_4 hb9, c133⟩ : hasS (z_T ρ) (z_cp ρ)))]), by rw [h_adm, if_neg w1, if_pos w2, if_neg (show ¬ msP ρ from fun q => q.2.1 (⟨(z_0 hb9.2.2.2), d_4 hb9, c133⟩ : hasS (z_T ρ) (z_cp ρ)))] <;> rfl⟩, rfl, by rw [ht]; exact hP⟩, hS.F ht⟩) hS.2.2 dX8_admin_185
        · refine lv_aload_n hx hb dX8_admin_136 rfl (lv_at hl 2 rfl) ?_
          refine va_get (D := g.1) (ci := 7) (v := .long (z_cq ρ)) (C := RX8) (T := TX8) (N := 30) hx hb hts inX8 hown hK hP 0 rfl rfl 22 (by decide) (hts _ tw625) (fun _ h9 => h9) rfl dX8_admin_137 ?_
          refine lv_aload_n hx hb dX8_admin_140 rfl (lv_at hl 2 rfl) ?_
          refine va_get (D := g.1) (ci := 7) (v := .long (z_cx ρ)) (C := RX8) (T := TX8) (N := 30) hx hb hts inX8 hown hK hP 0 rfl rfl 23 (by decide) (hts _ tw626) (fun _ h9 => h9) rfl dX8_admin_141 ?_
          refine lv_iconst (v := 4) hx hb dX8_admin_144 (by decide) ?_
          refine fr_go (va_runS (As := [.long (z_cq ρ), .long (z_cx ρ), .int 4]) (rest := []) ⟨hx, hb, hml, hown, hts⟩ (kX8_fits l g (z_cq ρ) (z_cx ρ) 4 H.size) (va_cwS 3 hts (gdS tw711 tw712 tw9 tw713) rfl rfl rfl (by decide +kernel) ⟨Nat.le_of_ble_eq_true rfl, Nat.le_of_ble_eq_true rfl⟩) ⟨Pst.blind, fr_pre hK hP hD [] rfl rfl⟩ rfl rfl hl.1 rfl (lv_room (Nat.le_of_ble_eq_true rfl)) dX8_admin_145 ⟨Nat.le_of_ble_eq_true rfl, Nat.le_of_ble_eq_true rfl⟩) hP hD hS hA [] rfl (fun v w9 H locs hq hP hD hS => ?_)
          obtain ⟨rfl, rfl⟩ := hq
          have hP : va_P g.1 vwCl (rfW g a (z_mem ρ) (z_R ρ) (z_cb ρ) (z_nc ρ) (z_tu ρ) (z_bi ρ) (z_cg ρ) (z_on ρ) (z_T ρ) (z_dn ρ) (z_fa ρ) (z_br ρ) (z_bs ρ) (z_cp ρ) (z_cq ρ) (z_cx ρ) (z_re ρ) (z_n ρ) (z_op ρ) (z_fg ρ) (z_sp ρ) (z_one ρ)) H := hP
          have hD : va_D A (rfW g a (z_mem ρ) (z_R ρ) (z_cb ρ) (z_nc ρ) (z_tu ρ) (z_bi ρ) (z_cg ρ) (z_on ρ) (z_T ρ) (z_dn ρ) (z_fa ρ) (z_br ρ) (z_bs ρ) (z_cp ρ) (z_cq ρ) (z_cx ρ) (z_re ρ) (z_n ρ) (z_op ρ) (z_fg ρ) (z_sp ρ) (z_one ρ)) := hD
          show W p l e _ s m _ below meth c H locs _ _ _ (F0 m (145 + 3) ls (.int (bI (fitR (z_cq ρ) (z_cx ρ) 4)) :: []))
          refine lv_if_eq (tgt := 184) hx hb dX8_admin_148 (by decide) (fun c148 => ?_) (fun c148 => ?_)
          · have c148 := bI_f c148
            refine lv_iconst (v := 2) hx hb dX8_admin_184 (by decide) ?_
            refine W.widen (k := 1) (n := 8) (Nat.le_of_ble_eq_true rfl) (Nat.le_of_ble_eq_true rfl) ?_
            exact W.iret (v := 2) hx hb hr (fun t ht _ => ⟨⟨(some (.int 2)), rfW g a (z_mem ρ) (z_R ρ) (z_cb ρ) (z_nc ρ) (z_tu ρ) (z_bi ρ) (z_cg ρ) (z_on ρ) (z_T ρ) (z_dn ρ) (z_fa ρ) (z_br ρ) (z_bs ρ) (z_cp ρ) (z_cq ρ) (z_cx ρ) (z_re ρ) (z_n ρ) (z_op ρ) (z_fg ρ) (z_sp ρ) (z_one ρ), rfl, ⟨z_sp ρ, trivial, congrArg (fun z : Int32 => some (Value.int z)) (by rw [q_adm, if_neg w1, if_pos w2, if_neg (show ¬ msP ρ from fun q => c148 q.2.2.1)]), by rw [h_adm, if_neg w1, if_pos w2, if_neg (show ¬ msP ρ from fun q => c148 q.2.2.1)] <;> rfl⟩, rfl, by rw [ht]; exact hP⟩, hS.F ht⟩) hS.2.2 dX8_admin_185
          · have c148 := bI_t c148
            refine lv_aload_n hx hb dX8_admin_151 rfl (lv_at hl 2 rfl) ?_
            refine va_get (D := g.1) (ci := 7) (v := .int (nI (z_n ρ))) (C := RX8) (T := TX8) (N := 30) hx hb hts inX8 hown hK hP 0 rfl rfl 25 (by decide) (hts _ tw628) (fun _ h9 => h9) rfl dX8_admin_152 ?_
            refine lv_iconst (v := 1) hx hb dX8_admin_155 (by decide) ?_
            refine lv_isub hx hb dX8_admin_156 ?_
            refine fr_topi (y := nI (z_n ρ - 1)) (pk_sub (b := 1) hn1) ?_
            refine lv_i2l hx hb dX8_admin_157 rfl ?_
            refine lv_lconst (v := 1) hx hb dX8_admin_158 (by decide) ?_
            refine lv_ldc2 hx hb hown (hts _ tw742) dX8_admin_159 ?_
            refine fr_go (va_runS (As := [.long ((nI (z_n ρ - 1)).toInt64), .long 1, .long 3]) (rest := []) ⟨hx, hb, hml, hown, hts⟩ (kX8_in l g ((nI (z_n ρ - 1)).toInt64) 1 3 H.size) (va_cwS 3 hts (gdS tw700 tw701 tw9 tw702) rfl rfl rfl (by decide +kernel) ⟨Nat.le_of_ble_eq_true rfl, Nat.le_of_ble_eq_true rfl⟩) ⟨Pst.blind, fr_pre hK hP hD [] rfl rfl⟩ rfl rfl hl.1 rfl (lv_room (Nat.le_of_ble_eq_true rfl)) dX8_admin_162 ⟨Nat.le_of_ble_eq_true rfl, Nat.le_of_ble_eq_true rfl⟩) hP hD hS hA [] rfl (fun v w9 H locs hq hP hD hS => ?_)
            obtain ⟨rfl, rfl⟩ := hq
            have hP : va_P g.1 vwCl (rfW g a (z_mem ρ) (z_R ρ) (z_cb ρ) (z_nc ρ) (z_tu ρ) (z_bi ρ) (z_cg ρ) (z_on ρ) (z_T ρ) (z_dn ρ) (z_fa ρ) (z_br ρ) (z_bs ρ) (z_cp ρ) (z_cq ρ) (z_cx ρ) (z_re ρ) (z_n ρ) (z_op ρ) (z_fg ρ) (z_sp ρ) (z_one ρ)) H := hP
            have hD : va_D A (rfW g a (z_mem ρ) (z_R ρ) (z_cb ρ) (z_nc ρ) (z_tu ρ) (z_bi ρ) (z_cg ρ) (z_on ρ) (z_T ρ) (z_dn ρ) (z_fa ρ) (z_br ρ) (z_bs ρ) (z_cp ρ) (z_cq ρ) (z_cx ρ) (z_re ρ) (z_n ρ) (z_op ρ) (z_fg ρ) (z_sp ρ) (z_one ρ)) := hD
            show W p l e _ s m _ below meth c H locs _ _ _ (F0 m (162 + 3) ls (.int (bI (¬ ((nI (z_n ρ - 1)).toInt64) < 1 ∧ ¬ 3 < ((nI (z_n ρ - 1)).toInt64))) :: []))
            refine lv_if_eq (tgt := 184) hx hb dX8_admin_165 (by decide) (fun c165 => ?_) (fun c165 => ?_)
            · have c165 := bI_f c165
              refine lv_iconst (v := 2) hx hb dX8_admin_184 (by decide) ?_
              refine W.widen (k := 1) (n := 8) (Nat.le_of_ble_eq_true rfl) (Nat.le_of_ble_eq_true rfl) ?_
              exact W.iret (v := 2) hx hb hr (fun t ht _ => ⟨⟨(some (.int 2)), rfW g a (z_mem ρ) (z_R ρ) (z_cb ρ) (z_nc ρ) (z_tu ρ) (z_bi ρ) (z_cg ρ) (z_on ρ) (z_T ρ) (z_dn ρ) (z_fa ρ) (z_br ρ) (z_bs ρ) (z_cp ρ) (z_cq ρ) (z_cx ρ) (z_re ρ) (z_n ρ) (z_op ρ) (z_fg ρ) (z_sp ρ) (z_one ρ), rfl, ⟨z_sp ρ, trivial, congrArg (fun z : Int32 => some (Value.int z)) (by rw [q_adm, if_neg w1, if_pos w2, if_neg (show ¬ msP ρ from fun q => c165 (bes_r.mp q.2.2.2.1))]), by rw [h_adm, if_neg w1, if_pos w2, if_neg (show ¬ msP ρ from fun q => c165 (bes_r.mp q.2.2.2.1))] <;> rfl⟩, rfl, by rw [ht]; exact hP⟩, hS.F ht⟩) hS.2.2 dX8_admin_185
            · have c165 := bI_t c165
              have d165 := bes_r.mpr c165
              have hm9 : 1 ≤ z_n ρ - 1 ∧ z_n ρ - 1 < 4 ∧ pN (nI (z_n ρ - 1)).toInt64 = z_n ρ - 1 ∧ ((nI (z_n ρ - 1)).toInt64 = lN (z_n ρ - 1)) ∧ bes (nI (z_n ρ - 1)).toInt64 := bes_m d165 (by omega)
              refine lv_aload_n hx hb dX8_admin_168 rfl (lv_at hl 2 rfl) ?_
              refine va_get (D := g.1) (ci := 7) (v := .ref (a 5)) (C := RX8) (T := TX8) (N := 30) hx hb hts inX8 hown hK hP 0 rfl rfl 9 (by decide) (hts _ tw612) (fun _ h9 => h9) rfl dX8_admin_169 ?_
              refine lv_iconst (v := 4) hx hb dX8_admin_172 (by decide) ?_
              refine lv_aload_n hx hb dX8_admin_173 rfl (lv_at hl 2 rfl) ?_
              refine va_get (D := g.1) (ci := 7) (v := .int (nI (z_n ρ))) (C := RX8) (T := TX8) (N := 30) hx hb hts inX8 hown hK hP 0 rfl rfl 25 (by decide) (hts _ tw628) (fun _ h9 => h9) rfl dX8_admin_174 ?_
              refine lv_iadd hx hb dX8_admin_177 ?_
              refine fr_topi (y := nI (4 + z_n ρ)) (nI_add 4 _) ?_
              refine lv_iconst (v := 1) hx hb dX8_admin_178 (by decide) ?_
              refine lv_isub hx hb dX8_admin_179 ?_
              refine fr_topi (y := nI (4 + (z_n ρ - 1))) (by rw [show 4 + (z_n ρ - 1) = 4 + z_n ρ - 1 by omega]; exact pk_sub (b := 1) (by omega)) ?_
              refine fr_zald (k := (4 + (z_n ρ - 1))) hx hb hK hP 5 2 rfl rfl (by omega) (by decide) dX8_admin_180 ?_
              refine lv_if_ne (tgt := 186) hx hb dX8_admin_181 (by decide) (fun c181 => ?_) (fun c181 => ?_)
              · refine lv_aload_n hx hb dX8_admin_186 rfl (lv_at hl 2 rfl) ?_
                refine lv_iload_n hx hb dX8_admin_187 rfl (lv_at hl 0 rfl) ?_
                refine fr_topi (y := nI (pN (z_cp ρ))) hb9.2.2.1 ?_
                refine lv_aload_n hx hb dX8_admin_188 rfl (lv_at hl 2 rfl) ?_
                refine va_get (D := g.1) (ci := 7) (v := .long (z_cq ρ)) (C := RX8) (T := TX8) (N := 30) hx hb hts inX8 hown hK hP 0 rfl rfl 22 (by decide) (hts _ tw625) (fun _ h9 => h9) rfl dX8_admin_189 ?_
                refine lv_aload_n hx hb dX8_admin_192 rfl (lv_at hl 2 rfl) ?_
                refine va_get (D := g.1) (ci := 7) (v := .long (z_cx ρ)) (C := RX8) (T := TX8) (N := 30) hx hb hts inX8 hown hK hP 0 rfl rfl 23 (by decide) (hts _ tw626) (fun _ h9 => h9) rfl dX8_admin_193 ?_
                refine fr_goA (va_runV (As := [.int (nI (pN (z_cp ρ))), .long (z_cq ρ), .long (z_cx ρ)]) (rest := []) ⟨hx, hb, hml, hown, hts⟩ (kX8_make l g a ρ (pN (z_cp ρ)) (z_cq ρ) (z_cx ρ) (by omega) H.size) (cwV 3 hts (gdV tw721 tw723 tp28 tw9 tw724) rfl rfl rfl (by decide +kernel) ⟨Nat.le_of_ble_eq_true rfl, Nat.le_of_ble_eq_true rfl⟩) ⟨Pst.blind, va_recv hK hP (ci := 7) (q0 := 0) rfl rfl, fr_preA hK hP hD⟩ rfl rfl hl.1 rfl (lv_room (Nat.le_of_ble_eq_true rfl)) dX8_admin_196 ⟨Nat.le_of_ble_eq_true rfl, Nat.le_of_ble_eq_true rfl⟩) hD hS hA (fun v w9 H locs hq hP hD hS => ?_)
                obtain ⟨rfl, rfl⟩ := hq
                have hP : va_P g.1 vwCl (rfW g a (z_mem ρ) (z_R ρ) (z_cb ρ) (z_nc ρ) (z_tu ρ) (z_bi ρ) (z_cg ρ) (z_on ρ) (mkQ (z_T ρ) (pN (z_cp ρ)) (z_cq ρ).toInt32 (z_cx ρ).toInt32) (z_dn ρ) (z_fa ρ) (z_br ρ) (z_bs ρ) (z_cp ρ) (z_cq ρ) (z_cx ρ) (z_re ρ) (z_n ρ) (z_op ρ) (z_fg ρ) (z_sp ρ) (z_one ρ)) H := hP
                have hD : va_D A (rfW g a (z_mem ρ) (z_R ρ) (z_cb ρ) (z_nc ρ) (z_tu ρ) (z_bi ρ) (z_cg ρ) (z_on ρ) (mkQ (z_T ρ) (pN (z_cp ρ)) (z_cq ρ).toInt32 (z_cx ρ).toInt32) (z_dn ρ) (z_fa ρ) (z_br ρ) (z_bs ρ) (z_cp ρ) (z_cq ρ) (z_cx ρ) (z_re ρ) (z_n ρ) (z_op ρ) (z_fg ρ) (z_sp ρ) (z_one ρ)) := hD
                show W p l e _ s m _ below meth c H locs _ _ _ (F0 m (196 + 3) ls ([]))
                refine lv_aload_n hx hb dX8_admin_199 rfl (lv_at hl 2 rfl) ?_
                refine va_get (D := g.1) (ci := 7) (v := .ref (a 11)) (C := RX8) (T := TX8) (N := 30) hx hb hts inX8 hown hK hP 0 rfl rfl 15 (by decide) (hts _ tw618) (fun _ h9 => h9) rfl dX8_admin_200 ?_
                refine lv_iload_n hx hb dX8_admin_203 rfl (lv_at hl 0 rfl) ?_
                refine fr_topi (y := nI (pN (z_cp ρ))) hb9.2.2.1 ?_
                refine lv_aload_n hx hb dX8_admin_204 rfl (lv_at hl 2 rfl) ?_
                refine va_get (D := g.1) (ci := 7) (v := .int (nI (z_n ρ))) (C := RX8) (T := TX8) (N := 30) hx hb hts inX8 hown hK hP 0 rfl rfl 25 (by decide) (hts _ tw628) (fun _ h9 => h9) rfl dX8_admin_205 ?_
                refine lv_iconst (v := 1) hx hb dX8_admin_208 (by decide) ?_
                refine lv_isub hx hb dX8_admin_209 ?_
                refine fr_topi (y := nI (z_n ρ - 1)) (pk_sub (b := 1) hn1) ?_
                refine fr_iast (k := (pN (z_cp ρ))) hx hb hK hP hD hS 11 1 rfl rfl (by omega) (by decide) dX8_admin_210 (fun H locs hP hD hS => ?_)
                have hP : va_P g.1 vwCl (rfW g a (z_mem ρ) (z_R ρ) (z_cb ρ) (z_nc ρ) (z_tu ρ) (z_bi ρ) (z_cg ρ) (z_on ρ) (up2 (mkQ (z_T ρ) (pN (z_cp ρ)) (z_cq ρ).toInt32 (z_cx ρ).toInt32) 5 (pN (z_cp ρ)) (nI (z_n ρ - 1))) (z_dn ρ) (z_fa ρ) (z_br ρ) (z_bs ρ) (z_cp ρ) (z_cq ρ) (z_cx ρ) (z_re ρ) (z_n ρ) (z_op ρ) (z_fg ρ) (z_sp ρ) (z_one ρ)) H := fr_eqP rfT_5 hP
                have hD : va_D A (rfW g a (z_mem ρ) (z_R ρ) (z_cb ρ) (z_nc ρ) (z_tu ρ) (z_bi ρ) (z_cg ρ) (z_on ρ) (up2 (mkQ (z_T ρ) (pN (z_cp ρ)) (z_cq ρ).toInt32 (z_cx ρ).toInt32) 5 (pN (z_cp ρ)) (nI (z_n ρ - 1))) (z_dn ρ) (z_fa ρ) (z_br ρ) (z_bs ρ) (z_cp ρ) (z_cq ρ) (z_cx ρ) (z_re ρ) (z_n ρ) (z_op ρ) (z_fg ρ) (z_sp ρ) (z_one ρ)) := fr_eqD rfT_5 hD
                refine lv_iconst (v := 0) hx hb dX8_admin_211 (by decide) ?_
                refine W.widen (k := 1) (n := 8) (Nat.le_of_ble_eq_true rfl) (Nat.le_of_ble_eq_true rfl) ?_
                exact W.iret (v := 0) hx hb hr (fun t ht _ => ⟨⟨(some (.int 0)), rfW g a (z_mem ρ) (z_R ρ) (z_cb ρ) (z_nc ρ) (z_tu ρ) (z_bi ρ) (z_cg ρ) (z_on ρ) (up2 (mkQ (z_T ρ) (pN (z_cp ρ)) (z_cq ρ).toInt32 (z_cx ρ).toInt32) 5 (pN (z_cp ρ)) (nI (z_n ρ - 1))) (z_dn ρ) (z_fa ρ) (z_br ρ) (z_bs ρ) (z_cp ρ) (z_cq ρ) (z_cx ρ) (z_re ρ) (z_n ρ) (z_op ρ) (z_fg ρ) (z_sp ρ) (z_one ρ), rfl, ⟨z_sp ρ, trivial, congrArg (fun z : Int32 => some (Value.int z)) (by rw [q_adm, if_neg w1, if_pos w2, if_pos (show msP ρ from ⟨d124, fun q => q.2.2 c133, c148, d165, z_0 hm9.2.2.2.1, d165.2, by rw [hm9.2.2.1]; exact c181⟩)]), by rw [mkQ_S h4, h_adm, if_neg w1, if_pos w2, if_pos (show msP ρ from ⟨d124, fun q => q.2.2 c133, c148, d165, z_0 hm9.2.2.2.1, d165.2, by rw [hm9.2.2.1]; exact c181⟩)] <;> rfl⟩, rfl, by rw [ht]; exact hP⟩, hS.F ht⟩) hS.2.2 dX8_admin_212
              · refine lv_iconst (v := 2) hx hb dX8_admin_184 (by decide) ?_
                refine W.widen (k := 1) (n := 8) (Nat.le_of_ble_eq_true rfl) (Nat.le_of_ble_eq_true rfl) ?_
                exact W.iret (v := 2) hx hb hr (fun t ht _ => ⟨⟨(some (.int 2)), rfW g a (z_mem ρ) (z_R ρ) (z_cb ρ) (z_nc ρ) (z_tu ρ) (z_bi ρ) (z_cg ρ) (z_on ρ) (z_T ρ) (z_dn ρ) (z_fa ρ) (z_br ρ) (z_bs ρ) (z_cp ρ) (z_cq ρ) (z_cx ρ) (z_re ρ) (z_n ρ) (z_op ρ) (z_fg ρ) (z_sp ρ) (z_one ρ), rfl, ⟨z_sp ρ, trivial, congrArg (fun z : Int32 => some (Value.int z)) (by rw [q_adm, if_neg w1, if_pos w2, if_neg (show ¬ msP ρ from fun q => q.2.2.2.2.2.2 (by rw [hm9.2.2.1]; exact c181))]), by rw [h_adm, if_neg w1, if_pos w2, if_neg (show ¬ msP ρ from fun q => q.2.2.2.2.2.2 (by rw [hm9.2.2.1]; exact c181))] <;> rfl⟩, rfl, by rw [ht]; exact hP⟩, hS.F ht⟩) hS.2.2 dX8_admin_185
    · have z2 := lv_neT (a := 2) w2 (by decide)
      by_cases w3 : (z_op ρ) = 3
      · refine lv_tableIn (off := 191) (tgt := 213) hx hb dX8_admin_22 (by rw [w3]; decide) (by rw [w3]; decide) (by rw [w3]; decide) (by decide) ?_
        refine lv_iload_n hx hb dX8_admin_213 rfl (lv_at hl 1 rfl) ?_
        refine lv_if_eq (tgt := 228) hx hb dX8_admin_214 (by decide) (fun c214 => ?_) (fun c214 => ?_)
        · have c214 := bI_f c214
          have d214 : ¬ bes (z_cp ρ) := fun q => c214 (bes_r.mp q)
          refine lv_iconst (v := 2) hx hb dX8_admin_228 (by decide) ?_
          refine W.widen (k := 1) (n := 8) (Nat.le_of_ble_eq_true rfl) (Nat.le_of_ble_eq_true rfl) ?_
          exact W.iret (v := 2) hx hb hr (fun t ht _ => ⟨⟨(some (.int 2)), rfW g a (z_mem ρ) (z_R ρ) (z_cb ρ) (z_nc ρ) (z_tu ρ) (z_bi ρ) (z_cg ρ) (z_on ρ) (z_T ρ) (z_dn ρ) (z_fa ρ) (z_br ρ) (z_bs ρ) (z_cp ρ) (z_cq ρ) (z_cx ρ) (z_re ρ) (z_n ρ) (z_op ρ) (z_fg ρ) (z_sp ρ) (z_one ρ), rfl, ⟨z_sp ρ, trivial, congrArg (fun z : Int32 => some (Value.int z)) (by rw [q_adm, if_neg w1, if_neg w2, if_pos w3, if_neg (show ¬ dcP ρ from fun q => d214 q.1)]), by rw [h_adm, if_neg w1, if_neg w2, if_pos w3, if_neg (show ¬ dcP ρ from fun q => d214 q.1)] <;> rfl⟩, rfl, by rw [ht]; exact hP⟩, hS.F ht⟩) hS.2.2 dX8_admin_229
        · have c214 := bI_t c214
          have d214 := bes_r.mpr c214
          have hb9 := bes_n d214
          have h4 := hb9.2.1
          refine lv_aload_n hx hb dX8_admin_217 rfl (lv_at hl 2 rfl) ?_
          refine va_get (D := g.1) (ci := 7) (v := .ref (a 5)) (C := RX8) (T := TX8) (N := 30) hx hb hts inX8 hown hK hP 0 rfl rfl 9 (by decide) (hts _ tw612) (fun _ h9 => h9) rfl dX8_admin_218 ?_
          refine lv_iconst (v := 4) hx hb dX8_admin_221 (by decide) ?_
          refine lv_iload_n hx hb dX8_admin_222 rfl (lv_at hl 0 rfl) ?_
          refine fr_topi (y := nI (pN (z_cp ρ))) hb9.2.2.1 ?_
          refine lv_iadd hx hb dX8_admin_223 ?_
          refine fr_topi (y := nI (4 + pN (z_cp ρ))) (nI_add 4 _) ?_
          refine fr_zald (k := (4 + pN (z_cp ρ))) hx hb hK hP 5 2 rfl rfl (by omega) (by decide) dX8_admin_224 ?_
          refine lv_if_ne (tgt := 230) hx hb dX8_admin_225 (by decide) (fun c225 => ?_) (fun c225 => ?_)
          · refine lv_iconst (v := 0) hx hb dX8_admin_230 (by decide) ?_
            refine fr_topi (y := nI 0) nI_0.symm ?_
            refine lv_istore_n (lv' := [(3, .int (nI 0)), (2, .int ((z_cp ρ).toInt32)), (1, .int (bI (¬ (z_cp ρ) < 1 ∧ ¬ 3 < (z_cp ρ)))), (0, .ref (a 0))]) hx hb dX8_admin_231 rfl hl (by decide) rfl (fun ls hl => ?_)
            have lp232 : ∀ (n9 : Nat) (i : Nat) , 4 - i < n9 → (i ≤ 4) → (ansB (z_T ρ) (z_cp ρ) i = false) → ∀ (H : Heap) (locs : List Loc) (ls : Array Slot), va_P g.1 vwCl (rfW g a (z_mem ρ) (z_R ρ) (z_cb ρ) (z_nc ρ) (z_tu ρ) (z_bi ρ) (z_cg ρ) (z_on ρ) (z_T ρ) (z_dn ρ) (z_fa ρ) (z_br ρ) (z_bs ρ) (z_cp ρ) (z_cq ρ) (z_cx ρ) (z_re ρ) (z_n ρ) (z_op ρ) (z_fg ρ) (z_sp ρ) (z_one ρ)) H → va_D A (rfW g a (z_mem ρ) (z_R ρ) (z_cb ρ) (z_nc ρ) (z_tu ρ) (z_bi ρ) (z_cg ρ) (z_on ρ) (z_T ρ) (z_dn ρ) (z_fa ρ) (z_br ρ) (z_bs ρ) (z_cp ρ) (z_cq ρ) (z_cx ρ) (z_re ρ) (z_n ρ) (z_op ρ) (z_fg ρ) (z_sp ρ) (z_one ρ)) → va_S A s.heap H locs → lv_has ls 5 [(3, .int (nI i)), (0, .ref (a 0)), (2, .int ((z_cp ρ).toInt32))] → W p l e ({ frames := 3, cells := 1, slots := 8, locals := 81 } : Room) s m ([.ref (a 0)].toArray) below meth c H locs 0 0 (MQ below (Qst g (rfW g a (z_mem ρ) (z_R ρ) (z_cb ρ) (z_nc ρ) (z_tu ρ) (z_bi ρ) (z_cg ρ) (z_on ρ) (z_T ρ) (z_dn ρ) (z_fa ρ) (z_br ρ) (z_bs ρ) (z_cp ρ) (z_cq ρ) (z_cx ρ) (z_re ρ) (z_n ρ) (z_op ρ) (z_fg ρ) (z_sp ρ) (z_one ρ)) (fun v w' => ∃ (sp1 : Nat → Int32), True ∧ v = some (.int (q_adm ρ)) ∧ w' = rfW g a (z_mem (h_adm ρ)) (z_R (h_adm ρ)) (z_cb (h_adm ρ)) (z_nc (h_adm ρ)) (z_tu (h_adm ρ)) (z_bi (h_adm ρ)) (z_cg (h_adm ρ)) (z_on (h_adm ρ)) (z_T (h_adm ρ)) (z_dn (h_adm ρ)) (z_fa (h_adm ρ)) (z_br (h_adm ρ)) (z_bs (h_adm ρ)) (z_cp (h_adm ρ)) (z_cq (h_adm ρ)) (z_cx (h_adm ρ)) (z_re (h_adm ρ)) (z_n (h_adm ρ)) (z_op (h_adm ρ)) (z_fg (h_adm ρ)) sp1 (z_one (h_adm ρ))) A) ([.ref (a 0)].toArray) s 1 8 A) (F0 m 232 ls []) := by
              intro n9
              induction n9 with
              | zero => intro i q9; exact absurd q9 (Nat.not_lt_zero _)
              | succ n9 ih232 =>
                intro i hn9 hi hf H locs ls hP hD hS hl
                refine lv_iload_n hx hb dX8_admin_232 rfl (lv_at hl 0 rfl) ?_
                refine lv_iconst (v := 4) hx hb dX8_admin_233 (by decide) ?_
                refine lv_icmp_ge (tgt := 264) hx hb dX8_admin_234 (by decide) (fun c234 => ?_) (fun c234 => ?_)
                · have c234 := (nI_leI (a := 4) (b := i) (by omega) (by omega)).mp c234
                  refine lv_aload_n hx hb dX8_admin_264 rfl (lv_at hl 1 rfl) ?_
                  refine va_get (D := g.1) (ci := 7) (v := .ref (a 5)) (C := RX8) (T := TX8) (N := 30) hx hb hts inX8 hown hK hP 0 rfl rfl 9 (by decide) (hts _ tw612) (fun _ h9 => h9) rfl dX8_admin_265 ?_
                  refine lv_iconst (v := 4) hx hb dX8_admin_268 (by decide) ?_
                  refine lv_iload_n hx hb dX8_admin_269 rfl (lv_at hl 2 rfl) ?_
                  refine fr_topi (y := nI (pN (z_cp ρ))) hb9.2.2.1 ?_
                  refine lv_iadd hx hb dX8_admin_270 ?_
                  refine fr_topi (y := nI (4 + pN (z_cp ρ))) (nI_add 4 _) ?_
                  refine lv_iconst (v := 0) hx hb dX8_admin_271 (by decide) ?_
                  refine fr_zast (k := (4 + pN (z_cp ρ))) hx hb hK hP hD hS 5 2 rfl rfl (by omega) (by decide) rfl dX8_admin_272 (fun H locs hP hD hS => ?_)
                  have hP : va_P g.1 vwCl (rfW g a (z_mem ρ) (z_R ρ) (z_cb ρ) (z_nc ρ) (z_tu ρ) (z_bi ρ) (z_cg ρ) (z_on ρ) (up2 (z_T ρ) 0 (4 + pN (z_cp ρ)) 0) (z_dn ρ) (z_fa ρ) (z_br ρ) (z_bs ρ) (z_cp ρ) (z_cq ρ) (z_cx ρ) (z_re ρ) (z_n ρ) (z_op ρ) (z_fg ρ) (z_sp ρ) (z_one ρ)) H := fr_eqP rfT_0 hP
                  have hD : va_D A (rfW g a (z_mem ρ) (z_R ρ) (z_cb ρ) (z_nc ρ) (z_tu ρ) (z_bi ρ) (z_cg ρ) (z_on ρ) (up2 (z_T ρ) 0 (4 + pN (z_cp ρ)) 0) (z_dn ρ) (z_fa ρ) (z_br ρ) (z_bs ρ) (z_cp ρ) (z_cq ρ) (z_cx ρ) (z_re ρ) (z_n ρ) (z_op ρ) (z_fg ρ) (z_sp ρ) (z_one ρ)) := fr_eqD rfT_0 hD
                  refine lv_iconst (v := 0) hx hb dX8_admin_273 (by decide) ?_
                  refine W.widen (k := 1) (n := 8) (Nat.le_of_ble_eq_true rfl) (Nat.le_of_ble_eq_true rfl) ?_
                  exact W.iret (v := 0) hx hb hr (fun t ht _ => ⟨⟨(some (.int 0)), rfW g a (z_mem ρ) (z_R ρ) (z_cb ρ) (z_nc ρ) (z_tu ρ) (z_bi ρ) (z_cg ρ) (z_on ρ) (up2 (z_T ρ) 0 (4 + pN (z_cp ρ)) 0) (z_dn ρ) (z_fa ρ) (z_br ρ) (z_bs ρ) (z_cp ρ) (z_cq ρ) (z_cx ρ) (z_re ρ) (z_n ρ) (z_op ρ) (z_fg ρ) (z_sp ρ) (z_one ρ), rfl, ⟨z_sp ρ, trivial, congrArg (fun z : Int32 => some (Value.int z)) (by rw [q_adm, if_neg w1, if_neg w2, if_pos w3, if_pos (show dcP ρ from ⟨d214, (⟨(z_0 hb9.2.2.2), d_4 hb9, c225⟩ : hasC (z_T ρ) (z_cp ρ)), by rw [show 4 = i by omega, hf]; decide⟩)]), by rw [h_adm, if_neg w1, if_neg w2, if_pos w3, if_pos (show dcP ρ from ⟨d214, (⟨(z_0 hb9.2.2.2), d_4 hb9, c225⟩ : hasC (z_T ρ) (z_cp ρ)), by rw [show 4 = i by omega, hf]; decide⟩)] <;> rfl⟩, rfl, by rw [ht]; exact hP⟩, hS.F ht⟩) hS.2.2 dX8_admin_274
                · have c234 := (not_congr (nI_leI (a := 4) (b := i) (by omega) (by omega))).mp c234
                  refine lv_aload_n hx hb dX8_admin_237 rfl (lv_at hl 1 rfl) ?_
                  refine va_get (D := g.1) (ci := 7) (v := .ref (a 5)) (C := RX8) (T := TX8) (N := 30) hx hb hts inX8 hown hK hP 0 rfl rfl 9 (by decide) (hts _ tw612) (fun _ h9 => h9) rfl dX8_admin_238 ?_
                  refine lv_iload_n hx hb dX8_admin_241 rfl (lv_at hl 0 rfl) ?_
                  refine fr_zald (k := i) hx hb hK hP 5 2 rfl rfl (by omega) (by decide) dX8_admin_242 ?_
                  refine lv_if_eq (tgt := 258) hx hb dX8_admin_243 (by decide) (fun c243 => ?_) (fun c243 => ?_)
                  · refine lv_iinc (v := nI (i + 1)) (lv' := [(3, .int (nI (i + 1))), (0, .ref (a 0)), (2, .int ((z_cp ρ).toInt32))]) hx hb dX8_admin_258 hl (k := 0) rfl (nI_1 _) (by decide) rfl (fun ls hl => ?_)
                    refine lv_goto (tgt := 232) hx hb dX8_admin_261 (by decide) ?_
                    exact ih232 (i + 1) (by omega) (by omega) (ansB_no hf (fun q => q.1 c243)) H locs ls hP hD hS (lv_sub hl [0, 1, 2] rfl)
                  · refine lv_aload_n hx hb dX8_admin_246 rfl (lv_at hl 1 rfl) ?_
                    refine va_get (D := g.1) (ci := 7) (v := .ref (a 11)) (C := RX8) (T := TX8) (N := 30) hx hb hts inX8 hown hK hP 0 rfl rfl 15 (by decide) (hts _ tw618) (fun _ h9 => h9) rfl dX8_admin_247 ?_
                    refine lv_iload_n hx hb dX8_admin_250 rfl (lv_at hl 0 rfl) ?_
                    refine fr_iald (k := i) hx hb hK hP 11 1 rfl rfl (by omega) (by decide) dX8_admin_251 ?_
                    refine lv_iload_n hx hb dX8_admin_252 rfl (lv_at hl 2 rfl) ?_
                    refine fr_topi (y := nI (pN (z_cp ρ))) hb9.2.2.1 ?_
                    refine lv_icmp_ne (tgt := 258) hx hb dX8_admin_253 (by decide) (fun c253 => ?_) (fun c253 => ?_)
                    · refine lv_iinc (v := nI (i + 1)) (lv' := [(3, .int (nI (i + 1))), (0, .ref (a 0)), (2, .int ((z_cp ρ).toInt32))]) hx hb dX8_admin_258 hl (k := 0) rfl (nI_1 _) (by decide) rfl (fun ls hl => ?_)
                      refine lv_goto (tgt := 232) hx hb dX8_admin_261 (by decide) ?_
                      exact ih232 (i + 1) (by omega) (by omega) (ansB_no hf (fun q => c253 (by have q2 := q.2; rw [hb9.2.2.2] at q2; have := congrArg Int64.toInt32 q2; simpa [lN_i] using this))) H locs ls hP hD hS (lv_sub hl [0, 1, 2] rfl)
                    · refine lv_iconst (v := 2) hx hb dX8_admin_256 (by decide) ?_
                      refine W.widen (k := 1) (n := 8) (Nat.le_of_ble_eq_true rfl) (Nat.le_of_ble_eq_true rfl) ?_
                      exact W.iret (v := 2) hx hb hr (fun t ht _ => ⟨⟨(some (.int 2)), rfW g a (z_mem ρ) (z_R ρ) (z_cb ρ) (z_nc ρ) (z_tu ρ) (z_bi ρ) (z_cg ρ) (z_on ρ) (z_T ρ) (z_dn ρ) (z_fa ρ) (z_br ρ) (z_bs ρ) (z_cp ρ) (z_cq ρ) (z_cx ρ) (z_re ρ) (z_n ρ) (z_op ρ) (z_fg ρ) (z_sp ρ) (z_one ρ), rfl, ⟨z_sp ρ, trivial, congrArg (fun z : Int32 => some (Value.int z)) (by rw [q_adm, if_neg w1, if_neg w2, if_pos w3, if_neg (show ¬ dcP ρ from fun q => q.2.2 (ansB_hit ⟨c243, by rw [c253, nI_l (by omega)]; exact hb9.2.2.2.symm⟩ (by omega)))]), by rw [h_adm, if_neg w1, if_neg w2, if_pos w3, if_neg (show ¬ dcP ρ from fun q => q.2.2 (ansB_hit ⟨c243, by rw [c253, nI_l (by omega)]; exact hb9.2.2.2.symm⟩ (by omega)))] <;> rfl⟩, rfl, by rw [ht]; exact hP⟩, hS.F ht⟩) hS.2.2 dX8_admin_257
            exact lp232 _ 0 (Nat.lt_succ_self _) (by decide) rfl H locs ls hP hD hS (lv_sub hl [0, 3, 1] rfl)
          · refine lv_iconst (v := 2) hx hb dX8_admin_228 (by decide) ?_
            refine W.widen (k := 1) (n := 8) (Nat.le_of_ble_eq_true rfl) (Nat.le_of_ble_eq_true rfl) ?_
            exact W.iret (v := 2) hx hb hr (fun t ht _ => ⟨⟨(some (.int 2)), rfW g a (z_mem ρ) (z_R ρ) (z_cb ρ) (z_nc ρ) (z_tu ρ) (z_bi ρ) (z_cg ρ) (z_on ρ) (z_T ρ) (z_dn ρ) (z_fa ρ) (z_br ρ) (z_bs ρ) (z_cp ρ) (z_cq ρ) (z_cx ρ) (z_re ρ) (z_n ρ) (z_op ρ) (z_fg ρ) (z_sp ρ) (z_one ρ), rfl, ⟨z_sp ρ, trivial, congrArg (fun z : Int32 => some (Value.int z)) (by rw [q_adm, if_neg w1, if_neg w2, if_pos w3, if_neg (show ¬ dcP ρ from fun q => q.2.1.2.2 c225)]), by rw [h_adm, if_neg w1, if_neg w2, if_pos w3, if_neg (show ¬ dcP ρ from fun q => q.2.1.2.2 c225)] <;> rfl⟩, rfl, by rw [ht]; exact hP⟩, hS.F ht⟩) hS.2.2 dX8_admin_229
      · have z3 := lv_neT (a := 3) w3 (by decide)
        by_cases w4 : (z_op ρ) = 4
        · refine lv_tableIn (off := 253) (tgt := 275) hx hb dX8_admin_22 (by rw [w4]; decide) (by rw [w4]; decide) (by rw [w4]; decide) (by decide) ?_
          refine lv_iload_n hx hb dX8_admin_275 rfl (lv_at hl 1 rfl) ?_
          refine lv_if_eq (tgt := 288) hx hb dX8_admin_276 (by decide) (fun c276 => ?_) (fun c276 => ?_)
          · have c276 := bI_f c276
            have d276 : ¬ bes (z_cp ρ) := fun q => c276 (bes_r.mp q)
            refine lv_iconst (v := 2) hx hb dX8_admin_288 (by decide) ?_
            refine W.widen (k := 1) (n := 8) (Nat.le_of_ble_eq_true rfl) (Nat.le_of_ble_eq_true rfl) ?_
            exact W.iret (v := 2) hx hb hr (fun t ht _ => ⟨⟨(some (.int 2)), rfW g a (z_mem ρ) (z_R ρ) (z_cb ρ) (z_nc ρ) (z_tu ρ) (z_bi ρ) (z_cg ρ) (z_on ρ) (z_T ρ) (z_dn ρ) (z_fa ρ) (z_br ρ) (z_bs ρ) (z_cp ρ) (z_cq ρ) (z_cx ρ) (z_re ρ) (z_n ρ) (z_op ρ) (z_fg ρ) (z_sp ρ) (z_one ρ), rfl, ⟨z_sp ρ, trivial, congrArg (fun z : Int32 => some (Value.int z)) (by rw [q_adm, if_neg w1, if_neg w2, if_neg w3, if_pos w4, if_neg (show ¬ dsP ρ from fun q => d276 q.1)]), by rw [h_adm, if_neg w1, if_neg w2, if_neg w3, if_pos w4, if_neg (show ¬ dsP ρ from fun q => d276 q.1)] <;> rfl⟩, rfl, by rw [ht]; exact hP⟩, hS.F ht⟩) hS.2.2 dX8_admin_289
          · have c276 := bI_t c276
            have d276 := bes_r.mpr c276
            have hb9 := bes_n d276
            have h4 := hb9.2.1
            refine lv_aload_n hx hb dX8_admin_279 rfl (lv_at hl 2 rfl) ?_
            refine va_get (D := g.1) (ci := 7) (v := .ref (a 5)) (C := RX8) (T := TX8) (N := 30) hx hb hts inX8 hown hK hP 0 rfl rfl 9 (by decide) (hts _ tw612) (fun _ h9 => h9) rfl dX8_admin_280 ?_
            refine lv_iload_n hx hb dX8_admin_283 rfl (lv_at hl 0 rfl) ?_
            refine fr_topi (y := nI (pN (z_cp ρ))) hb9.2.2.1 ?_
            refine fr_zald (k := (pN (z_cp ρ))) hx hb hK hP 5 2 rfl rfl (by omega) (by decide) dX8_admin_284 ?_
            refine lv_if_ne (tgt := 290) hx hb dX8_admin_285 (by decide) (fun c285 => ?_) (fun c285 => ?_)
            · refine lv_aload_n hx hb dX8_admin_290 rfl (lv_at hl 2 rfl) ?_
              refine va_get (D := g.1) (ci := 7) (v := .ref (a 5)) (C := RX8) (T := TX8) (N := 30) hx hb hts inX8 hown hK hP 0 rfl rfl 9 (by decide) (hts _ tw612) (fun _ h9 => h9) rfl dX8_admin_291 ?_
              refine lv_iload_n hx hb dX8_admin_294 rfl (lv_at hl 0 rfl) ?_
              refine fr_topi (y := nI (pN (z_cp ρ))) hb9.2.2.1 ?_
              refine lv_iconst (v := 0) hx hb dX8_admin_295 (by decide) ?_
              refine fr_zast (k := (pN (z_cp ρ))) hx hb hK hP hD hS 5 2 rfl rfl (by omega) (by decide) rfl dX8_admin_296 (fun H locs hP hD hS => ?_)
              have hP : va_P g.1 vwCl (rfW g a (z_mem ρ) (z_R ρ) (z_cb ρ) (z_nc ρ) (z_tu ρ) (z_bi ρ) (z_cg ρ) (z_on ρ) (up2 (z_T ρ) 0 (pN (z_cp ρ)) 0) (z_dn ρ) (z_fa ρ) (z_br ρ) (z_bs ρ) (z_cp ρ) (z_cq ρ) (z_cx ρ) (z_re ρ) (z_n ρ) (z_op ρ) (z_fg ρ) (z_sp ρ) (z_one ρ)) H := fr_eqP rfT_0 hP
              have hD : va_D A (rfW g a (z_mem ρ) (z_R ρ) (z_cb ρ) (z_nc ρ) (z_tu ρ) (z_bi ρ) (z_cg ρ) (z_on ρ) (up2 (z_T ρ) 0 (pN (z_cp ρ)) 0) (z_dn ρ) (z_fa ρ) (z_br ρ) (z_bs ρ) (z_cp ρ) (z_cq ρ) (z_cx ρ) (z_re ρ) (z_n ρ) (z_op ρ) (z_fg ρ) (z_sp ρ) (z_one ρ)) := fr_eqD rfT_0 hD
              refine lv_iconst (v := 0) hx hb dX8_admin_297 (by decide) ?_
              refine W.widen (k := 1) (n := 8) (Nat.le_of_ble_eq_true rfl) (Nat.le_of_ble_eq_true rfl) ?_
              exact W.iret (v := 0) hx hb hr (fun t ht _ => ⟨⟨(some (.int 0)), rfW g a (z_mem ρ) (z_R ρ) (z_cb ρ) (z_nc ρ) (z_tu ρ) (z_bi ρ) (z_cg ρ) (z_on ρ) (up2 (z_T ρ) 0 (pN (z_cp ρ)) 0) (z_dn ρ) (z_fa ρ) (z_br ρ) (z_bs ρ) (z_cp ρ) (z_cq ρ) (z_cx ρ) (z_re ρ) (z_n ρ) (z_op ρ) (z_fg ρ) (z_sp ρ) (z_one ρ), rfl, ⟨z_sp ρ, trivial, congrArg (fun z : Int32 => some (Value.int z)) (by rw [q_adm, if_neg w1, if_neg w2, if_neg w3, if_pos w4, if_pos (show dsP ρ from ⟨d276, (⟨(z_0 hb9.2.2.2), d_4 hb9, c285⟩ : hasS (z_T ρ) (z_cp ρ))⟩)]), by rw [h_adm, if_neg w1, if_neg w2, if_neg w3, if_pos w4, if_pos (show dsP ρ from ⟨d276, (⟨(z_0 hb9.2.2.2), d_4 hb9, c285⟩ : hasS (z_T ρ) (z_cp ρ))⟩)] <;> rfl⟩, rfl, by rw [ht]; exact hP⟩, hS.F ht⟩) hS.2.2 dX8_admin_298
            · refine lv_iconst (v := 2) hx hb dX8_admin_288 (by decide) ?_
              refine W.widen (k := 1) (n := 8) (Nat.le_of_ble_eq_true rfl) (Nat.le_of_ble_eq_true rfl) ?_
              exact W.iret (v := 2) hx hb hr (fun t ht _ => ⟨⟨(some (.int 2)), rfW g a (z_mem ρ) (z_R ρ) (z_cb ρ) (z_nc ρ) (z_tu ρ) (z_bi ρ) (z_cg ρ) (z_on ρ) (z_T ρ) (z_dn ρ) (z_fa ρ) (z_br ρ) (z_bs ρ) (z_cp ρ) (z_cq ρ) (z_cx ρ) (z_re ρ) (z_n ρ) (z_op ρ) (z_fg ρ) (z_sp ρ) (z_one ρ), rfl, ⟨z_sp ρ, trivial, congrArg (fun z : Int32 => some (Value.int z)) (by rw [q_adm, if_neg w1, if_neg w2, if_neg w3, if_pos w4, if_neg (show ¬ dsP ρ from fun q => q.2.2.2 c285)]), by rw [h_adm, if_neg w1, if_neg w2, if_neg w3, if_pos w4, if_neg (show ¬ dsP ρ from fun q => q.2.2.2 c285)] <;> rfl⟩, rfl, by rw [ht]; exact hP⟩, hS.F ht⟩) hS.2.2 dX8_admin_289
        · have z4 := lv_neT (a := 4) w4 (by decide)
          by_cases w5 : (z_op ρ) = 5
          · refine lv_tableIn (off := 277) (tgt := 299) hx hb dX8_admin_22 (by rw [w5]; decide) (by rw [w5]; decide) (by rw [w5]; decide) (by decide) ?_
            refine lv_aload_n hx hb dX8_admin_299 rfl (lv_at hl 2 rfl) ?_
            refine va_get (D := g.1) (ci := 7) (v := .long (z_cp ρ)) (C := RX8) (T := TX8) (N := 30) hx hb hts inX8 hown hK hP 0 rfl rfl 21 (by decide) (hts _ tw624) (fun _ h9 => h9) rfl dX8_admin_300 ?_
            refine lv_lconst (v := 0) hx hb dX8_admin_303 (by decide) ?_
            refine lv_lconst (v := 1) hx hb dX8_admin_304 (by decide) ?_
            refine fr_go (va_runS (As := [.long (z_cp ρ), .long 0, .long 1]) (rest := []) ⟨hx, hb, hml, hown, hts⟩ (kX8_in l g (z_cp ρ) 0 1 H.size) (va_cwS 3 hts (gdS tw700 tw701 tw9 tw702) rfl rfl rfl (by decide +kernel) ⟨Nat.le_of_ble_eq_true rfl, Nat.le_of_ble_eq_true rfl⟩) ⟨Pst.blind, fr_pre hK hP hD [] rfl rfl⟩ rfl rfl hl.1 rfl (lv_room (Nat.le_of_ble_eq_true rfl)) dX8_admin_305 ⟨Nat.le_of_ble_eq_true rfl, Nat.le_of_ble_eq_true rfl⟩) hP hD hS hA [] rfl (fun v w9 H locs hq hP hD hS => ?_)
            obtain ⟨rfl, rfl⟩ := hq
            have hP : va_P g.1 vwCl (rfW g a (z_mem ρ) (z_R ρ) (z_cb ρ) (z_nc ρ) (z_tu ρ) (z_bi ρ) (z_cg ρ) (z_on ρ) (z_T ρ) (z_dn ρ) (z_fa ρ) (z_br ρ) (z_bs ρ) (z_cp ρ) (z_cq ρ) (z_cx ρ) (z_re ρ) (z_n ρ) (z_op ρ) (z_fg ρ) (z_sp ρ) (z_one ρ)) H := hP
            have hD : va_D A (rfW g a (z_mem ρ) (z_R ρ) (z_cb ρ) (z_nc ρ) (z_tu ρ) (z_bi ρ) (z_cg ρ) (z_on ρ) (z_T ρ) (z_dn ρ) (z_fa ρ) (z_br ρ) (z_bs ρ) (z_cp ρ) (z_cq ρ) (z_cx ρ) (z_re ρ) (z_n ρ) (z_op ρ) (z_fg ρ) (z_sp ρ) (z_one ρ)) := hD
            show W p l e _ s m _ below meth c H locs _ _ _ (F0 m (305 + 3) ls (.int (bI (¬ (z_cp ρ) < 0 ∧ ¬ 1 < (z_cp ρ))) :: []))
            refine lv_if_ne (tgt := 313) hx hb dX8_admin_308 (by decide) (fun c308 => ?_) (fun c308 => ?_)
            · have c308 := bI_t c308
              have d308 := l01 c308
              refine lv_aload_n hx hb dX8_admin_313 rfl (lv_at hl 2 rfl) ?_
              refine lv_aload_n hx hb dX8_admin_314 rfl (lv_at hl 2 rfl) ?_
              refine va_get (D := g.1) (ci := 7) (v := .int (z_cg ρ)) (C := RX8) (T := TX8) (N := 30) hx hb hts inX8 hown hK hP 0 rfl rfl 7 (by decide) (hts _ tw610) (fun _ h9 => h9) rfl dX8_admin_315 ?_
              refine lv_if_eq (tgt := 325) hx hb dX8_admin_318 (by decide) (fun c318 => ?_) (fun c318 => ?_)
              · refine lv_lconst (v := 0) hx hb dX8_admin_325 (by decide) ?_
                refine va_put (D := g.1) (ci := 7) (v := .long 0) (ty := .long) (C := RX8) (T := TX8) (N := 30) hx hb hts inX8 tyX8 tyX8_ok nmX8 hown hK hP hD hS 0 rfl rfl 24 (by decide) (hts _ tw627) (fun _ h9 => h9) rfl (by decide +kernel) rfl rfl (Nat.le_of_ble_eq_true rfl) dX8_admin_326 (fun H locs hP hD hS => ?_)
                have hP : va_P g.1 vwCl (rfW g a (z_mem ρ) (z_R ρ) (z_cb ρ) (z_nc ρ) (z_tu ρ) (z_bi ρ) (z_cg ρ) (z_on ρ) (z_T ρ) (z_dn ρ) (z_fa ρ) (z_br ρ) (z_bs ρ) (z_cp ρ) (z_cq ρ) (z_cx ρ) 0 (z_n ρ) (z_op ρ) (z_fg ρ) (z_sp ρ) (z_one ρ)) H := hP
                have hD : va_D A (rfW g a (z_mem ρ) (z_R ρ) (z_cb ρ) (z_nc ρ) (z_tu ρ) (z_bi ρ) (z_cg ρ) (z_on ρ) (z_T ρ) (z_dn ρ) (z_fa ρ) (z_br ρ) (z_bs ρ) (z_cp ρ) (z_cq ρ) (z_cx ρ) 0 (z_n ρ) (z_op ρ) (z_fg ρ) (z_sp ρ) (z_one ρ)) := hD
                refine lv_aload_n hx hb dX8_admin_329 rfl (lv_at hl 2 rfl) ?_
                refine lv_aload_n hx hb dX8_admin_330 rfl (lv_at hl 2 rfl) ?_
                refine va_get (D := g.1) (ci := 7) (v := .long (z_cp ρ)) (C := RX8) (T := TX8) (N := 30) hx hb hts inX8 hown hK hP 0 rfl rfl 21 (by decide) (hts _ tw624) (fun _ h9 => h9) rfl dX8_admin_331 ?_
                refine lv_lconst (v := 1) hx hb dX8_admin_334 (by decide) ?_
                refine W.lcmp hx hb dX8_admin_335 ?_
                refine lv_if_ne (tgt := 343) hx hb dX8_admin_336 (by decide) (fun c336 => ?_) (fun c336 => ?_)
                · have c336 := (not_congr (lg_cmp_eq (z_cp ρ) 1)).mp c336
                  have d336 : z_cp ρ = 0 := d308.elim id (fun q => absurd q c336)
                  refine lv_iconst (v := 0) hx hb dX8_admin_343 (by decide) ?_
                  refine va_put (D := g.1) (ci := 7) (v := .int 0) (ty := .boolean) (C := RX8) (T := TX8) (N := 30) hx hb hts inX8 tyX8 tyX8_ok nmX8 hown hK hP hD hS 0 rfl rfl 7 (by decide) (hts _ tw610) (fun _ h9 => h9) rfl (by decide +kernel) rfl rfl (Nat.le_of_ble_eq_true rfl) dX8_admin_344 (fun H locs hP hD hS => ?_)
                  have hP : va_P g.1 vwCl (rfW g a (z_mem ρ) (z_R ρ) (z_cb ρ) (z_nc ρ) (z_tu ρ) (z_bi ρ) 0 (z_on ρ) (z_T ρ) (z_dn ρ) (z_fa ρ) (z_br ρ) (z_bs ρ) (z_cp ρ) (z_cq ρ) (z_cx ρ) 0 (z_n ρ) (z_op ρ) (z_fg ρ) (z_sp ρ) (z_one ρ)) H := hP
                  have hD : va_D A (rfW g a (z_mem ρ) (z_R ρ) (z_cb ρ) (z_nc ρ) (z_tu ρ) (z_bi ρ) 0 (z_on ρ) (z_T ρ) (z_dn ρ) (z_fa ρ) (z_br ρ) (z_bs ρ) (z_cp ρ) (z_cq ρ) (z_cx ρ) 0 (z_n ρ) (z_op ρ) (z_fg ρ) (z_sp ρ) (z_one ρ)) := hD
                  refine lv_aload_n hx hb dX8_admin_347 rfl (lv_at hl 2 rfl) ?_
                  refine va_get (D := g.1) (ci := 7) (v := .int 0) (C := RX8) (T := TX8) (N := 30) hx hb hts inX8 hown hK hP 0 rfl rfl 7 (by decide) (hts _ tw610) (fun _ h9 => h9) rfl dX8_admin_348 ?_
                  refine lv_if_ne (tgt := 358) hx hb dX8_admin_351 (by decide) (fun q9 => absurd rfl q9) (fun _ => ?_)
                  refine lv_aload_n hx hb dX8_admin_354 rfl (lv_at hl 2 rfl) ?_
                  refine fr_goA (va_runV (As := []) (rest := []) ⟨hx, hb, hml, hown, hts⟩ (kX8_flush l g a (w_re (w_cg ρ 0) 0) hn hR H.size) (cwV 0 hts (gdV tw729 tw731 tp29 tw9 tw732) rfl rfl rfl (by decide +kernel) ⟨Nat.le_of_ble_eq_true rfl, Nat.le_of_ble_eq_true rfl⟩) ⟨Pst.blind, va_recv hK hP (ci := 7) (q0 := 0) rfl rfl, fr_preA hK hP hD⟩ rfl rfl hl.1 rfl (lv_room (Nat.le_of_ble_eq_true rfl)) dX8_admin_355 ⟨Nat.le_of_ble_eq_true rfl, Nat.le_of_ble_eq_true rfl⟩) hD hS hA (fun v w9 H locs hq hP hD hS => ?_)
                  obtain ⟨rfl, rfl⟩ := hq
                  have hP : va_P g.1 vwCl (rfW g a (z_mem ρ) ((flU (z_nc (w_re (w_cg ρ 0) 0)) (z_R (w_re (w_cg ρ 0) 0), z_cb (w_re (w_cg ρ 0) 0))).1) ((flU (z_nc (w_re (w_cg ρ 0) 0)) (z_R (w_re (w_cg ρ 0) 0), z_cb (w_re (w_cg ρ 0) 0))).2) 0 (z_tu ρ) (z_bi ρ) 0 (z_on ρ) (z_T ρ) (z_dn ρ) (z_fa ρ) (z_br ρ) (z_bs ρ) (z_cp ρ) (z_cq ρ) (z_cx ρ) 0 (z_n ρ) (z_op ρ) (z_fg ρ) (z_sp ρ) (z_one ρ)) H := hP
                  have hD : va_D A (rfW g a (z_mem ρ) ((flU (z_nc (w_re (w_cg ρ 0) 0)) (z_R (w_re (w_cg ρ 0) 0), z_cb (w_re (w_cg ρ 0) 0))).1) ((flU (z_nc (w_re (w_cg ρ 0) 0)) (z_R (w_re (w_cg ρ 0) 0), z_cb (w_re (w_cg ρ 0) 0))).2) 0 (z_tu ρ) (z_bi ρ) 0 (z_on ρ) (z_T ρ) (z_dn ρ) (z_fa ρ) (z_br ρ) (z_bs ρ) (z_cp ρ) (z_cq ρ) (z_cx ρ) 0 (z_n ρ) (z_op ρ) (z_fg ρ) (z_sp ρ) (z_one ρ)) := hD
                  show W p l e _ s m _ below meth c H locs _ _ _ (F0 m (355 + 3) ls ([]))
                  refine lv_iconst (v := 0) hx hb dX8_admin_358 (by decide) ?_
                  refine W.widen (k := 1) (n := 8) (Nat.le_of_ble_eq_true rfl) (Nat.le_of_ble_eq_true rfl) ?_
                  exact W.iret (v := 0) hx hb hr (fun t ht _ => ⟨⟨(some (.int 0)), rfW g a (z_mem ρ) ((flU (z_nc (w_re (w_cg ρ 0) 0)) (z_R (w_re (w_cg ρ 0) 0), z_cb (w_re (w_cg ρ 0) 0))).1) ((flU (z_nc (w_re (w_cg ρ 0) 0)) (z_R (w_re (w_cg ρ 0) 0), z_cb (w_re (w_cg ρ 0) 0))).2) 0 (z_tu ρ) (z_bi ρ) 0 (z_on ρ) (z_T ρ) (z_dn ρ) (z_fa ρ) (z_br ρ) (z_bs ρ) (z_cp ρ) (z_cq ρ) (z_cx ρ) 0 (z_n ρ) (z_op ρ) (z_fg ρ) (z_sp ρ) (z_one ρ), rfl, ⟨z_sp ρ, trivial, congrArg (fun z : Int32 => some (Value.int z)) (by rw [q_adm, if_neg w1, if_neg w2, if_neg w3, if_neg w4, if_pos w5, if_pos d336]), by rw [h_adm, if_neg w1, if_neg w2, if_neg w3, if_neg w4, if_pos w5, if_pos d336, if_pos c318] <;> rfl⟩, rfl, by rw [ht]; exact hP⟩, hS.F ht⟩) hS.2.2 dX8_admin_359
                · have c336 := (lg_cmp_eq (z_cp ρ) 1).mp c336
                  refine lv_iconst (v := 1) hx hb dX8_admin_339 (by decide) ?_
                  refine lv_goto (tgt := 344) hx hb dX8_admin_340 (by decide) ?_
                  refine va_put (D := g.1) (ci := 7) (v := .int 1) (ty := .boolean) (C := RX8) (T := TX8) (N := 30) hx hb hts inX8 tyX8 tyX8_ok nmX8 hown hK hP hD hS 0 rfl rfl 7 (by decide) (hts _ tw610) (fun _ h9 => h9) rfl (by decide +kernel) rfl rfl (Nat.le_of_ble_eq_true rfl) dX8_admin_344 (fun H locs hP hD hS => ?_)
                  have hP : va_P g.1 vwCl (rfW g a (z_mem ρ) (z_R ρ) (z_cb ρ) (z_nc ρ) (z_tu ρ) (z_bi ρ) 1 (z_on ρ) (z_T ρ) (z_dn ρ) (z_fa ρ) (z_br ρ) (z_bs ρ) (z_cp ρ) (z_cq ρ) (z_cx ρ) 0 (z_n ρ) (z_op ρ) (z_fg ρ) (z_sp ρ) (z_one ρ)) H := hP
                  have hD : va_D A (rfW g a (z_mem ρ) (z_R ρ) (z_cb ρ) (z_nc ρ) (z_tu ρ) (z_bi ρ) 1 (z_on ρ) (z_T ρ) (z_dn ρ) (z_fa ρ) (z_br ρ) (z_bs ρ) (z_cp ρ) (z_cq ρ) (z_cx ρ) 0 (z_n ρ) (z_op ρ) (z_fg ρ) (z_sp ρ) (z_one ρ)) := hD
                  refine lv_aload_n hx hb dX8_admin_347 rfl (lv_at hl 2 rfl) ?_
                  refine va_get (D := g.1) (ci := 7) (v := .int 1) (C := RX8) (T := TX8) (N := 30) hx hb hts inX8 hown hK hP 0 rfl rfl 7 (by decide) (hts _ tw610) (fun _ h9 => h9) rfl dX8_admin_348 ?_
                  refine lv_if_ne (tgt := 358) hx hb dX8_admin_351 (by decide) (fun _ => ?_) (fun q9 => absurd q9 (by decide))
                  refine lv_iconst (v := 0) hx hb dX8_admin_358 (by decide) ?_
                  refine W.widen (k := 1) (n := 8) (Nat.le_of_ble_eq_true rfl) (Nat.le_of_ble_eq_true rfl) ?_
                  exact W.iret (v := 0) hx hb hr (fun t ht _ => ⟨⟨(some (.int 0)), rfW g a (z_mem ρ) (z_R ρ) (z_cb ρ) (z_nc ρ) (z_tu ρ) (z_bi ρ) 1 (z_on ρ) (z_T ρ) (z_dn ρ) (z_fa ρ) (z_br ρ) (z_bs ρ) (z_cp ρ) (z_cq ρ) (z_cx ρ) 0 (z_n ρ) (z_op ρ) (z_fg ρ) (z_sp ρ) (z_one ρ), rfl, ⟨z_sp ρ, trivial, congrArg (fun z : Int32 => some (Value.int z)) (by rw [q_adm, if_neg w1, if_neg w2, if_neg w3, if_neg w4, if_pos w5, if_neg (by rw [c336]; decide), if_pos c336]), by rw [h_adm, if_neg w1, if_neg w2, if_neg w3, if_neg w4, if_pos w5, if_neg (by rw [c336]; decide), if_pos c336, if_pos c318] <;> rfl⟩, rfl, by rw [ht]; exact hP⟩, hS.F ht⟩) hS.2.2 dX8_admin_359
              · refine lv_lconst (v := 1) hx hb dX8_admin_321 (by decide) ?_
                refine lv_goto (tgt := 326) hx hb dX8_admin_322 (by decide) ?_
                refine va_put (D := g.1) (ci := 7) (v := .long 1) (ty := .long) (C := RX8) (T := TX8) (N := 30) hx hb hts inX8 tyX8 tyX8_ok nmX8 hown hK hP hD hS 0 rfl rfl 24 (by decide) (hts _ tw627) (fun _ h9 => h9) rfl (by decide +kernel) rfl rfl (Nat.le_of_ble_eq_true rfl) dX8_admin_326 (fun H locs hP hD hS => ?_)
                have hP : va_P g.1 vwCl (rfW g a (z_mem ρ) (z_R ρ) (z_cb ρ) (z_nc ρ) (z_tu ρ) (z_bi ρ) (z_cg ρ) (z_on ρ) (z_T ρ) (z_dn ρ) (z_fa ρ) (z_br ρ) (z_bs ρ) (z_cp ρ) (z_cq ρ) (z_cx ρ) 1 (z_n ρ) (z_op ρ) (z_fg ρ) (z_sp ρ) (z_one ρ)) H := hP
                have hD : va_D A (rfW g a (z_mem ρ) (z_R ρ) (z_cb ρ) (z_nc ρ) (z_tu ρ) (z_bi ρ) (z_cg ρ) (z_on ρ) (z_T ρ) (z_dn ρ) (z_fa ρ) (z_br ρ) (z_bs ρ) (z_cp ρ) (z_cq ρ) (z_cx ρ) 1 (z_n ρ) (z_op ρ) (z_fg ρ) (z_sp ρ) (z_one ρ)) := hD
                refine lv_aload_n hx hb dX8_admin_329 rfl (lv_at hl 2 rfl) ?_
                refine lv_aload_n hx hb dX8_admin_330 rfl (lv_at hl 2 rfl) ?_
                refine va_get (D := g.1) (ci := 7) (v := .long (z_cp ρ)) (C := RX8) (T := TX8) (N := 30) hx hb hts inX8 hown hK hP 0 rfl rfl 21 (by decide) (hts _ tw624) (fun _ h9 => h9) rfl dX8_admin_331 ?_
                refine lv_lconst (v := 1) hx hb dX8_admin_334 (by decide) ?_
                refine W.lcmp hx hb dX8_admin_335 ?_
                refine lv_if_ne (tgt := 343) hx hb dX8_admin_336 (by decide) (fun c336 => ?_) (fun c336 => ?_)
                · have c336 := (not_congr (lg_cmp_eq (z_cp ρ) 1)).mp c336
                  have d336 : z_cp ρ = 0 := d308.elim id (fun q => absurd q c336)
                  refine lv_iconst (v := 0) hx hb dX8_admin_343 (by decide) ?_
                  refine va_put (D := g.1) (ci := 7) (v := .int 0) (ty := .boolean) (C := RX8) (T := TX8) (N := 30) hx hb hts inX8 tyX8 tyX8_ok nmX8 hown hK hP hD hS 0 rfl rfl 7 (by decide) (hts _ tw610) (fun _ h9 => h9) rfl (by decide +kernel) rfl rfl (Nat.le_of_ble_eq_true rfl) dX8_admin_344 (fun H locs hP hD hS => ?_)
                  have hP : va_P g.1 vwCl (rfW g a (z_mem ρ) (z_R ρ) (z_cb ρ) (z_nc ρ) (z_tu ρ) (z_bi ρ) 0 (z_on ρ) (z_T ρ) (z_dn ρ) (z_fa ρ) (z_br ρ) (z_bs ρ) (z_cp ρ) (z_cq ρ) (z_cx ρ) 1 (z_n ρ) (z_op ρ) (z_fg ρ) (z_sp ρ) (z_one ρ)) H := hP
                  have hD : va_D A (rfW g a (z_mem ρ) (z_R ρ) (z_cb ρ) (z_nc ρ) (z_tu ρ) (z_bi ρ) 0 (z_on ρ) (z_T ρ) (z_dn ρ) (z_fa ρ) (z_br ρ) (z_bs ρ) (z_cp ρ) (z_cq ρ) (z_cx ρ) 1 (z_n ρ) (z_op ρ) (z_fg ρ) (z_sp ρ) (z_one ρ)) := hD
                  refine lv_aload_n hx hb dX8_admin_347 rfl (lv_at hl 2 rfl) ?_
                  refine va_get (D := g.1) (ci := 7) (v := .int 0) (C := RX8) (T := TX8) (N := 30) hx hb hts inX8 hown hK hP 0 rfl rfl 7 (by decide) (hts _ tw610) (fun _ h9 => h9) rfl dX8_admin_348 ?_
                  refine lv_if_ne (tgt := 358) hx hb dX8_admin_351 (by decide) (fun q9 => absurd rfl q9) (fun _ => ?_)
                  refine lv_aload_n hx hb dX8_admin_354 rfl (lv_at hl 2 rfl) ?_
                  refine fr_goA (va_runV (As := []) (rest := []) ⟨hx, hb, hml, hown, hts⟩ (kX8_flush l g a (w_re (w_cg ρ 0) 1) hn hR H.size) (cwV 0 hts (gdV tw729 tw731 tp29 tw9 tw732) rfl rfl rfl (by decide +kernel) ⟨Nat.le_of_ble_eq_true rfl, Nat.le_of_ble_eq_true rfl⟩) ⟨Pst.blind, va_recv hK hP (ci := 7) (q0 := 0) rfl rfl, fr_preA hK hP hD⟩ rfl rfl hl.1 rfl (lv_room (Nat.le_of_ble_eq_true rfl)) dX8_admin_355 ⟨Nat.le_of_ble_eq_true rfl, Nat.le_of_ble_eq_true rfl⟩) hD hS hA (fun v w9 H locs hq hP hD hS => ?_)
                  obtain ⟨rfl, rfl⟩ := hq
                  have hP : va_P g.1 vwCl (rfW g a (z_mem ρ) ((flU (z_nc (w_re (w_cg ρ 0) 1)) (z_R (w_re (w_cg ρ 0) 1), z_cb (w_re (w_cg ρ 0) 1))).1) ((flU (z_nc (w_re (w_cg ρ 0) 1)) (z_R (w_re (w_cg ρ 0) 1), z_cb (w_re (w_cg ρ 0) 1))).2) 0 (z_tu ρ) (z_bi ρ) 0 (z_on ρ) (z_T ρ) (z_dn ρ) (z_fa ρ) (z_br ρ) (z_bs ρ) (z_cp ρ) (z_cq ρ) (z_cx ρ) 1 (z_n ρ) (z_op ρ) (z_fg ρ) (z_sp ρ) (z_one ρ)) H := hP
                  have hD : va_D A (rfW g a (z_mem ρ) ((flU (z_nc (w_re (w_cg ρ 0) 1)) (z_R (w_re (w_cg ρ 0) 1), z_cb (w_re (w_cg ρ 0) 1))).1) ((flU (z_nc (w_re (w_cg ρ 0) 1)) (z_R (w_re (w_cg ρ 0) 1), z_cb (w_re (w_cg ρ 0) 1))).2) 0 (z_tu ρ) (z_bi ρ) 0 (z_on ρ) (z_T ρ) (z_dn ρ) (z_fa ρ) (z_br ρ) (z_bs ρ) (z_cp ρ) (z_cq ρ) (z_cx ρ) 1 (z_n ρ) (z_op ρ) (z_fg ρ) (z_sp ρ) (z_one ρ)) := hD
                  show W p l e _ s m _ below meth c H locs _ _ _ (F0 m (355 + 3) ls ([]))
                  refine lv_iconst (v := 0) hx hb dX8_admin_358 (by decide) ?_
                  refine W.widen (k := 1) (n := 8) (Nat.le_of_ble_eq_true rfl) (Nat.le_of_ble_eq_true rfl) ?_
                  exact W.iret (v := 0) hx hb hr (fun t ht _ => ⟨⟨(some (.int 0)), rfW g a (z_mem ρ) ((flU (z_nc (w_re (w_cg ρ 0) 1)) (z_R (w_re (w_cg ρ 0) 1), z_cb (w_re (w_cg ρ 0) 1))).1) ((flU (z_nc (w_re (w_cg ρ 0) 1)) (z_R (w_re (w_cg ρ 0) 1), z_cb (w_re (w_cg ρ 0) 1))).2) 0 (z_tu ρ) (z_bi ρ) 0 (z_on ρ) (z_T ρ) (z_dn ρ) (z_fa ρ) (z_br ρ) (z_bs ρ) (z_cp ρ) (z_cq ρ) (z_cx ρ) 1 (z_n ρ) (z_op ρ) (z_fg ρ) (z_sp ρ) (z_one ρ), rfl, ⟨z_sp ρ, trivial, congrArg (fun z : Int32 => some (Value.int z)) (by rw [q_adm, if_neg w1, if_neg w2, if_neg w3, if_neg w4, if_pos w5, if_pos d336]), by rw [h_adm, if_neg w1, if_neg w2, if_neg w3, if_neg w4, if_pos w5, if_pos d336, if_neg c318] <;> rfl⟩, rfl, by rw [ht]; exact hP⟩, hS.F ht⟩) hS.2.2 dX8_admin_359
                · have c336 := (lg_cmp_eq (z_cp ρ) 1).mp c336
                  refine lv_iconst (v := 1) hx hb dX8_admin_339 (by decide) ?_
                  refine lv_goto (tgt := 344) hx hb dX8_admin_340 (by decide) ?_
                  refine va_put (D := g.1) (ci := 7) (v := .int 1) (ty := .boolean) (C := RX8) (T := TX8) (N := 30) hx hb hts inX8 tyX8 tyX8_ok nmX8 hown hK hP hD hS 0 rfl rfl 7 (by decide) (hts _ tw610) (fun _ h9 => h9) rfl (by decide +kernel) rfl rfl (Nat.le_of_ble_eq_true rfl) dX8_admin_344 (fun H locs hP hD hS => ?_)
                  have hP : va_P g.1 vwCl (rfW g a (z_mem ρ) (z_R ρ) (z_cb ρ) (z_nc ρ) (z_tu ρ) (z_bi ρ) 1 (z_on ρ) (z_T ρ) (z_dn ρ) (z_fa ρ) (z_br ρ) (z_bs ρ) (z_cp ρ) (z_cq ρ) (z_cx ρ) 1 (z_n ρ) (z_op ρ) (z_fg ρ) (z_sp ρ) (z_one ρ)) H := hP
                  have hD : va_D A (rfW g a (z_mem ρ) (z_R ρ) (z_cb ρ) (z_nc ρ) (z_tu ρ) (z_bi ρ) 1 (z_on ρ) (z_T ρ) (z_dn ρ) (z_fa ρ) (z_br ρ) (z_bs ρ) (z_cp ρ) (z_cq ρ) (z_cx ρ) 1 (z_n ρ) (z_op ρ) (z_fg ρ) (z_sp ρ) (z_one ρ)) := hD
                  refine lv_aload_n hx hb dX8_admin_347 rfl (lv_at hl 2 rfl) ?_
                  refine va_get (D := g.1) (ci := 7) (v := .int 1) (C := RX8) (T := TX8) (N := 30) hx hb hts inX8 hown hK hP 0 rfl rfl 7 (by decide) (hts _ tw610) (fun _ h9 => h9) rfl dX8_admin_348 ?_
                  refine lv_if_ne (tgt := 358) hx hb dX8_admin_351 (by decide) (fun _ => ?_) (fun q9 => absurd q9 (by decide))
                  refine lv_iconst (v := 0) hx hb dX8_admin_358 (by decide) ?_
                  refine W.widen (k := 1) (n := 8) (Nat.le_of_ble_eq_true rfl) (Nat.le_of_ble_eq_true rfl) ?_
                  exact W.iret (v := 0) hx hb hr (fun t ht _ => ⟨⟨(some (.int 0)), rfW g a (z_mem ρ) (z_R ρ) (z_cb ρ) (z_nc ρ) (z_tu ρ) (z_bi ρ) 1 (z_on ρ) (z_T ρ) (z_dn ρ) (z_fa ρ) (z_br ρ) (z_bs ρ) (z_cp ρ) (z_cq ρ) (z_cx ρ) 1 (z_n ρ) (z_op ρ) (z_fg ρ) (z_sp ρ) (z_one ρ), rfl, ⟨z_sp ρ, trivial, congrArg (fun z : Int32 => some (Value.int z)) (by rw [q_adm, if_neg w1, if_neg w2, if_neg w3, if_neg w4, if_pos w5, if_neg (by rw [c336]; decide), if_pos c336]), by rw [h_adm, if_neg w1, if_neg w2, if_neg w3, if_neg w4, if_pos w5, if_neg (by rw [c336]; decide), if_pos c336, if_neg c318] <;> rfl⟩, rfl, by rw [ht]; exact hP⟩, hS.F ht⟩) hS.2.2 dX8_admin_359
            · have c308 := bI_f c308
              have d308a : ¬ z_cp ρ = 0 := fun q => c308 (by rw [q]; decide)
              have d308b : ¬ z_cp ρ = 1 := fun q => c308 (by rw [q]; decide)
              refine lv_iconst (v := 2) hx hb dX8_admin_311 (by decide) ?_
              refine W.widen (k := 1) (n := 8) (Nat.le_of_ble_eq_true rfl) (Nat.le_of_ble_eq_true rfl) ?_
              exact W.iret (v := 2) hx hb hr (fun t ht _ => ⟨⟨(some (.int 2)), rfW g a (z_mem ρ) (z_R ρ) (z_cb ρ) (z_nc ρ) (z_tu ρ) (z_bi ρ) (z_cg ρ) (z_on ρ) (z_T ρ) (z_dn ρ) (z_fa ρ) (z_br ρ) (z_bs ρ) (z_cp ρ) (z_cq ρ) (z_cx ρ) (z_re ρ) (z_n ρ) (z_op ρ) (z_fg ρ) (z_sp ρ) (z_one ρ), rfl, ⟨z_sp ρ, trivial, congrArg (fun z : Int32 => some (Value.int z)) (by rw [q_adm, if_neg w1, if_neg w2, if_neg w3, if_neg w4, if_pos w5, if_neg d308a, if_neg d308b]), by rw [h_adm, if_neg w1, if_neg w2, if_neg w3, if_neg w4, if_pos w5, if_neg d308a, if_neg d308b] <;> rfl⟩, rfl, by rw [ht]; exact hP⟩, hS.F ht⟩) hS.2.2 dX8_admin_312
          · have z5 := lv_neT (a := 5) w5 (by decide)
            by_cases w6 : (z_op ρ) = 6
            · refine lv_tableIn (off := 338) (tgt := 360) hx hb dX8_admin_22 (by rw [w6]; decide) (by rw [w6]; decide) (by rw [w6]; decide) (by decide) ?_
              refine lv_aload_n hx hb dX8_admin_360 rfl (lv_at hl 2 rfl) ?_
              refine va_get (D := g.1) (ci := 7) (v := .int (nI (z_n ρ))) (C := RX8) (T := TX8) (N := 30) hx hb hts inX8 hown hK hP 0 rfl rfl 25 (by decide) (hts _ tw628) (fun _ h9 => h9) rfl dX8_admin_361 ?_
              refine lv_iconst (v := 1) hx hb dX8_admin_364 (by decide) ?_
              refine lv_icmp_eq (tgt := 370) hx hb dX8_admin_365 (by decide) (fun c365 => ?_) (fun c365 => ?_)
              · have c365 := (nI_eq (a := (z_n ρ)) (b := 1) (by omega) (by omega)).mp c365
                refine lv_aload_n hx hb dX8_admin_370 rfl (lv_at hl 2 rfl) ?_
                refine fr_goA (va_runV (As := []) (rest := []) ⟨hx, hb, hml, hown, hts⟩ (kX8_place l g a ρ hn9 H.size) (cwV 0 hts (gdV tw769 tw771 tp35 tw9 tw772) rfl rfl rfl (by decide +kernel) ⟨Nat.le_of_ble_eq_true rfl, Nat.le_of_ble_eq_true rfl⟩) ⟨Pst.blind, va_recv hK hP (ci := 7) (q0 := 0) rfl rfl, fr_preA hK hP hD⟩ rfl rfl hl.1 rfl (lv_room (Nat.le_of_ble_eq_true rfl)) dX8_admin_371 ⟨Nat.le_of_ble_eq_true rfl, Nat.le_of_ble_eq_true rfl⟩) hD hS hA (fun v w9 H locs hq hP hD hS => ?_)
                obtain ⟨sp1_371, hsp_371, rfl, rfl⟩ := hq
                have hP : va_P g.1 vwCl (rfW g a (z_mem ρ) (z_R ρ) (z_cb ρ) (z_nc ρ) (z_tu ρ) (z_bi ρ) (z_cg ρ) (z_on ρ) (z_T ρ) (z_dn ρ) (z_fa ρ) (z_br ρ) (z_bs ρ) (z_cp ρ) (z_cq ρ) (z_cx ρ) (z_re ρ) (z_n ρ) (z_op ρ) (z_fg ρ) sp1_371 (z_one ρ)) H := hP
                have hD : va_D A (rfW g a (z_mem ρ) (z_R ρ) (z_cb ρ) (z_nc ρ) (z_tu ρ) (z_bi ρ) (z_cg ρ) (z_on ρ) (z_T ρ) (z_dn ρ) (z_fa ρ) (z_br ρ) (z_bs ρ) (z_cp ρ) (z_cq ρ) (z_cx ρ) (z_re ρ) (z_n ρ) (z_op ρ) (z_fg ρ) sp1_371 (z_one ρ)) := hD
                show W p l e _ s m _ below meth c H locs _ _ _ (F0 m (371 + 3) ls (.int (bI (lyOk (z_mem ρ) (z_cp ρ) (z_cq ρ) (z_n ρ))) :: []))
                refine lv_if_ne (tgt := 379) hx hb dX8_admin_374 (by decide) (fun c374 => ?_) (fun c374 => ?_)
                · have c374 := bI_t c374
                  refine lv_bipush (v := 8) hx hb dX8_admin_379 (by decide) ?_
                  refine fr_newaL (N' := 8) hx hb (hts _ tw31) hK hP hD hS hA (by decide) (by decide) (by decide) (Nat.le_of_ble_eq_true rfl) (Nat.le_of_ble_eq_true rfl) dX8_admin_381 (fun qx H hP hD hS => ?_)
                  have hP : va_P g.1 vwCl ((rfW g a (z_mem ρ) (z_R ρ) (z_cb ρ) (z_nc ρ) (z_tu ρ) (z_bi ρ) (z_cg ρ) (z_on ρ) (z_T ρ) (z_dn ρ) (z_fa ρ) (z_br ρ) (z_bs ρ) (z_cp ρ) (z_cq ρ) (z_cx ρ) (z_re ρ) (z_n ρ) (z_op ρ) (z_fg ρ) sp1_371 (z_one ρ)) ++ [(qx, .inl (g.2 0, 8, .inr (.inl (fun _ => 0))))]) H := hP
                  have hD : va_D A ((rfW g a (z_mem ρ) (z_R ρ) (z_cb ρ) (z_nc ρ) (z_tu ρ) (z_bi ρ) (z_cg ρ) (z_on ρ) (z_T ρ) (z_dn ρ) (z_fa ρ) (z_br ρ) (z_bs ρ) (z_cp ρ) (z_cq ρ) (z_cx ρ) (z_re ρ) (z_n ρ) (z_op ρ) (z_fg ρ) sp1_371 (z_one ρ)) ++ [(qx, .inl (g.2 0, 8, .inr (.inl (fun _ => 0))))]) := hD
                  refine lv_dup hx hb dX8_admin_383 rfl ?_
                  refine lv_iconst (v := 0) hx hb dX8_admin_384 (by decide) ?_
                  refine lv_ldc2 hx hb hown (hts _ tw776) dX8_admin_385 ?_
                  refine fr_last (k := 0) hx hb hK hP hD hS 86 0 rfX rfl (by decide) (by decide) dX8_admin_388 (fun H locs hP hD hS => ?_)
                  have hP : va_P g.1 vwCl ((rfW g a (z_mem ρ) (z_R ρ) (z_cb ρ) (z_nc ρ) (z_tu ρ) (z_bi ρ) (z_cg ρ) (z_on ρ) (z_T ρ) (z_dn ρ) (z_fa ρ) (z_br ρ) (z_bs ρ) (z_cp ρ) (z_cq ρ) (z_cx ρ) (z_re ρ) (z_n ρ) (z_op ρ) (z_fg ρ) sp1_371 (z_one ρ)) ++ [(qx, .inl (g.2 0, 8, .inr (.inl (vp_updL (fun _ => 0) 0 64))))]) H := fr_eqP rfX_set hP
                  have hD : va_D A ((rfW g a (z_mem ρ) (z_R ρ) (z_cb ρ) (z_nc ρ) (z_tu ρ) (z_bi ρ) (z_cg ρ) (z_on ρ) (z_T ρ) (z_dn ρ) (z_fa ρ) (z_br ρ) (z_bs ρ) (z_cp ρ) (z_cq ρ) (z_cx ρ) (z_re ρ) (z_n ρ) (z_op ρ) (z_fg ρ) sp1_371 (z_one ρ)) ++ [(qx, .inl (g.2 0, 8, .inr (.inl (vp_updL (fun _ => 0) 0 64))))]) := fr_eqD rfX_set hD
                  refine lv_dup hx hb dX8_admin_389 rfl ?_
                  refine lv_iconst (v := 1) hx hb dX8_admin_390 (by decide) ?_
                  refine lv_aload_n hx hb dX8_admin_391 rfl (lv_at hl 2 rfl) ?_
                  refine va_get (D := g.1) (ci := 7) (v := .long (lN (z_dn ρ))) (C := RX8) (T := TX8) (N := 30) hx hb hts inX8 hown hK hP 0 rfl rfl 17 (by decide) (hts _ tw620) (fun _ h9 => h9) rfl dX8_admin_392 ?_
                  refine fr_last (k := 1) hx hb hK hP hD hS 86 0 rfX rfl (by decide) (by decide) dX8_admin_395 (fun H locs hP hD hS => ?_)
                  have hP : va_P g.1 vwCl ((rfW g a (z_mem ρ) (z_R ρ) (z_cb ρ) (z_nc ρ) (z_tu ρ) (z_bi ρ) (z_cg ρ) (z_on ρ) (z_T ρ) (z_dn ρ) (z_fa ρ) (z_br ρ) (z_bs ρ) (z_cp ρ) (z_cq ρ) (z_cx ρ) (z_re ρ) (z_n ρ) (z_op ρ) (z_fg ρ) sp1_371 (z_one ρ)) ++ [(qx, .inl (g.2 0, 8, .inr (.inl (vp_updL (vp_updL (fun _ => 0) 0 64) 1 (lN (z_dn ρ))))))]) H := fr_eqP rfX_set hP
                  have hD : va_D A ((rfW g a (z_mem ρ) (z_R ρ) (z_cb ρ) (z_nc ρ) (z_tu ρ) (z_bi ρ) (z_cg ρ) (z_on ρ) (z_T ρ) (z_dn ρ) (z_fa ρ) (z_br ρ) (z_bs ρ) (z_cp ρ) (z_cq ρ) (z_cx ρ) (z_re ρ) (z_n ρ) (z_op ρ) (z_fg ρ) sp1_371 (z_one ρ)) ++ [(qx, .inl (g.2 0, 8, .inr (.inl (vp_updL (vp_updL (fun _ => 0) 0 64) 1 (lN (z_dn ρ))))))]) := fr_eqD rfX_set hD
                  refine lv_dup hx hb dX8_admin_396 rfl ?_
                  refine lv_iconst (v := 2) hx hb dX8_admin_397 (by decide) ?_
                  refine lv_aload_n hx hb dX8_admin_398 rfl (lv_at hl 2 rfl) ?_
                  refine va_get (D := g.1) (ci := 7) (v := .long (lN (z_fa ρ))) (C := RX8) (T := TX8) (N := 30) hx hb hts inX8 hown hK hP 0 rfl rfl 18 (by decide) (hts _ tw621) (fun _ h9 => h9) rfl dX8_admin_399 ?_
                  refine fr_last (k := 2) hx hb hK hP hD hS 86 0 rfX rfl (by decide) (by decide) dX8_admin_402 (fun H locs hP hD hS => ?_)
                  have hP : va_P g.1 vwCl ((rfW g a (z_mem ρ) (z_R ρ) (z_cb ρ) (z_nc ρ) (z_tu ρ) (z_bi ρ) (z_cg ρ) (z_on ρ) (z_T ρ) (z_dn ρ) (z_fa ρ) (z_br ρ) (z_bs ρ) (z_cp ρ) (z_cq ρ) (z_cx ρ) (z_re ρ) (z_n ρ) (z_op ρ) (z_fg ρ) sp1_371 (z_one ρ)) ++ [(qx, .inl (g.2 0, 8, .inr (.inl (vp_updL (vp_updL (vp_updL (fun _ => 0) 0 64) 1 (lN (z_dn ρ))) 2 (lN (z_fa ρ))))))]) H := fr_eqP rfX_set hP
                  have hD : va_D A ((rfW g a (z_mem ρ) (z_R ρ) (z_cb ρ) (z_nc ρ) (z_tu ρ) (z_bi ρ) (z_cg ρ) (z_on ρ) (z_T ρ) (z_dn ρ) (z_fa ρ) (z_br ρ) (z_bs ρ) (z_cp ρ) (z_cq ρ) (z_cx ρ) (z_re ρ) (z_n ρ) (z_op ρ) (z_fg ρ) sp1_371 (z_one ρ)) ++ [(qx, .inl (g.2 0, 8, .inr (.inl (vp_updL (vp_updL (vp_updL (fun _ => 0) 0 64) 1 (lN (z_dn ρ))) 2 (lN (z_fa ρ))))))]) := fr_eqD rfX_set hD
                  refine lv_dup hx hb dX8_admin_403 rfl ?_
                  refine lv_iconst (v := 3) hx hb dX8_admin_404 (by decide) ?_
                  refine lv_aload_n hx hb dX8_admin_405 rfl (lv_at hl 2 rfl) ?_
                  refine va_get (D := g.1) (ci := 7) (v := .long (lN (z_br ρ))) (C := RX8) (T := TX8) (N := 30) hx hb hts inX8 hown hK hP 0 rfl rfl 19 (by decide) (hts _ tw622) (fun _ h9 => h9) rfl dX8_admin_406 ?_
                  refine fr_last (k := 3) hx hb hK hP hD hS 86 0 rfX rfl (by decide) (by decide) dX8_admin_409 (fun H locs hP hD hS => ?_)
                  have hP : va_P g.1 vwCl ((rfW g a (z_mem ρ) (z_R ρ) (z_cb ρ) (z_nc ρ) (z_tu ρ) (z_bi ρ) (z_cg ρ) (z_on ρ) (z_T ρ) (z_dn ρ) (z_fa ρ) (z_br ρ) (z_bs ρ) (z_cp ρ) (z_cq ρ) (z_cx ρ) (z_re ρ) (z_n ρ) (z_op ρ) (z_fg ρ) sp1_371 (z_one ρ)) ++ [(qx, .inl (g.2 0, 8, .inr (.inl (vp_updL (vp_updL (vp_updL (vp_updL (fun _ => 0) 0 64) 1 (lN (z_dn ρ))) 2 (lN (z_fa ρ))) 3 (lN (z_br ρ))))))]) H := fr_eqP rfX_set hP
                  have hD : va_D A ((rfW g a (z_mem ρ) (z_R ρ) (z_cb ρ) (z_nc ρ) (z_tu ρ) (z_bi ρ) (z_cg ρ) (z_on ρ) (z_T ρ) (z_dn ρ) (z_fa ρ) (z_br ρ) (z_bs ρ) (z_cp ρ) (z_cq ρ) (z_cx ρ) (z_re ρ) (z_n ρ) (z_op ρ) (z_fg ρ) sp1_371 (z_one ρ)) ++ [(qx, .inl (g.2 0, 8, .inr (.inl (vp_updL (vp_updL (vp_updL (vp_updL (fun _ => 0) 0 64) 1 (lN (z_dn ρ))) 2 (lN (z_fa ρ))) 3 (lN (z_br ρ))))))]) := fr_eqD rfX_set hD
                  refine lv_dup hx hb dX8_admin_410 rfl ?_
                  refine lv_iconst (v := 4) hx hb dX8_admin_411 (by decide) ?_
                  refine lv_aload_n hx hb dX8_admin_412 rfl (lv_at hl 2 rfl) ?_
                  refine va_get (D := g.1) (ci := 7) (v := .long (lN (z_bs ρ))) (C := RX8) (T := TX8) (N := 30) hx hb hts inX8 hown hK hP 0 rfl rfl 20 (by decide) (hts _ tw623) (fun _ h9 => h9) rfl dX8_admin_413 ?_
                  refine fr_last (k := 4) hx hb hK hP hD hS 86 0 rfX rfl (by decide) (by decide) dX8_admin_416 (fun H locs hP hD hS => ?_)
                  have hP : va_P g.1 vwCl ((rfW g a (z_mem ρ) (z_R ρ) (z_cb ρ) (z_nc ρ) (z_tu ρ) (z_bi ρ) (z_cg ρ) (z_on ρ) (z_T ρ) (z_dn ρ) (z_fa ρ) (z_br ρ) (z_bs ρ) (z_cp ρ) (z_cq ρ) (z_cx ρ) (z_re ρ) (z_n ρ) (z_op ρ) (z_fg ρ) sp1_371 (z_one ρ)) ++ [(qx, .inl (g.2 0, 8, .inr (.inl (vp_updL (vp_updL (vp_updL (vp_updL (vp_updL (fun _ => 0) 0 64) 1 (lN (z_dn ρ))) 2 (lN (z_fa ρ))) 3 (lN (z_br ρ))) 4 (lN (z_bs ρ))))))]) H := fr_eqP rfX_set hP
                  have hD : va_D A ((rfW g a (z_mem ρ) (z_R ρ) (z_cb ρ) (z_nc ρ) (z_tu ρ) (z_bi ρ) (z_cg ρ) (z_on ρ) (z_T ρ) (z_dn ρ) (z_fa ρ) (z_br ρ) (z_bs ρ) (z_cp ρ) (z_cq ρ) (z_cx ρ) (z_re ρ) (z_n ρ) (z_op ρ) (z_fg ρ) sp1_371 (z_one ρ)) ++ [(qx, .inl (g.2 0, 8, .inr (.inl (vp_updL (vp_updL (vp_updL (vp_updL (vp_updL (fun _ => 0) 0 64) 1 (lN (z_dn ρ))) 2 (lN (z_fa ρ))) 3 (lN (z_br ρ))) 4 (lN (z_bs ρ))))))]) := fr_eqD rfX_set hD
                  refine lv_dup hx hb dX8_admin_417 rfl ?_
                  refine lv_iconst (v := 5) hx hb dX8_admin_418 (by decide) ?_
                  refine lv_lconst (v := 0) hx hb dX8_admin_419 (by decide) ?_
                  refine fr_last (k := 5) hx hb hK hP hD hS 86 0 rfX rfl (by decide) (by decide) dX8_admin_420 (fun H locs hP hD hS => ?_)
                  have hP : va_P g.1 vwCl ((rfW g a (z_mem ρ) (z_R ρ) (z_cb ρ) (z_nc ρ) (z_tu ρ) (z_bi ρ) (z_cg ρ) (z_on ρ) (z_T ρ) (z_dn ρ) (z_fa ρ) (z_br ρ) (z_bs ρ) (z_cp ρ) (z_cq ρ) (z_cx ρ) (z_re ρ) (z_n ρ) (z_op ρ) (z_fg ρ) sp1_371 (z_one ρ)) ++ [(qx, .inl (g.2 0, 8, .inr (.inl (vp_updL (vp_updL (vp_updL (vp_updL (vp_updL (vp_updL (fun _ => 0) 0 64) 1 (lN (z_dn ρ))) 2 (lN (z_fa ρ))) 3 (lN (z_br ρ))) 4 (lN (z_bs ρ))) 5 0))))]) H := fr_eqP rfX_set hP
                  have hD : va_D A ((rfW g a (z_mem ρ) (z_R ρ) (z_cb ρ) (z_nc ρ) (z_tu ρ) (z_bi ρ) (z_cg ρ) (z_on ρ) (z_T ρ) (z_dn ρ) (z_fa ρ) (z_br ρ) (z_bs ρ) (z_cp ρ) (z_cq ρ) (z_cx ρ) (z_re ρ) (z_n ρ) (z_op ρ) (z_fg ρ) sp1_371 (z_one ρ)) ++ [(qx, .inl (g.2 0, 8, .inr (.inl (vp_updL (vp_updL (vp_updL (vp_updL (vp_updL (vp_updL (fun _ => 0) 0 64) 1 (lN (z_dn ρ))) 2 (lN (z_fa ρ))) 3 (lN (z_br ρ))) 4 (lN (z_bs ρ))) 5 0))))]) := fr_eqD rfX_set hD
                  refine lv_dup hx hb dX8_admin_421 rfl ?_
                  refine lv_bipush (v := 6) hx hb dX8_admin_422 (by decide) ?_
                  refine lv_lconst (v := 0) hx hb dX8_admin_424 (by decide) ?_
                  refine fr_last (k := 6) hx hb hK hP hD hS 86 0 rfX rfl (by decide) (by decide) dX8_admin_425 (fun H locs hP hD hS => ?_)
                  have hP : va_P g.1 vwCl ((rfW g a (z_mem ρ) (z_R ρ) (z_cb ρ) (z_nc ρ) (z_tu ρ) (z_bi ρ) (z_cg ρ) (z_on ρ) (z_T ρ) (z_dn ρ) (z_fa ρ) (z_br ρ) (z_bs ρ) (z_cp ρ) (z_cq ρ) (z_cx ρ) (z_re ρ) (z_n ρ) (z_op ρ) (z_fg ρ) sp1_371 (z_one ρ)) ++ [(qx, .inl (g.2 0, 8, .inr (.inl (vp_updL (vp_updL (vp_updL (vp_updL (vp_updL (vp_updL (vp_updL (fun _ => 0) 0 64) 1 (lN (z_dn ρ))) 2 (lN (z_fa ρ))) 3 (lN (z_br ρ))) 4 (lN (z_bs ρ))) 5 0) 6 0))))]) H := fr_eqP rfX_set hP
                  have hD : va_D A ((rfW g a (z_mem ρ) (z_R ρ) (z_cb ρ) (z_nc ρ) (z_tu ρ) (z_bi ρ) (z_cg ρ) (z_on ρ) (z_T ρ) (z_dn ρ) (z_fa ρ) (z_br ρ) (z_bs ρ) (z_cp ρ) (z_cq ρ) (z_cx ρ) (z_re ρ) (z_n ρ) (z_op ρ) (z_fg ρ) sp1_371 (z_one ρ)) ++ [(qx, .inl (g.2 0, 8, .inr (.inl (vp_updL (vp_updL (vp_updL (vp_updL (vp_updL (vp_updL (vp_updL (fun _ => 0) 0 64) 1 (lN (z_dn ρ))) 2 (lN (z_fa ρ))) 3 (lN (z_br ρ))) 4 (lN (z_bs ρ))) 5 0) 6 0))))]) := fr_eqD rfX_set hD
                  refine lv_dup hx hb dX8_admin_426 rfl ?_
                  refine lv_bipush (v := 7) hx hb dX8_admin_427 (by decide) ?_
                  refine lv_lconst (v := 0) hx hb dX8_admin_429 (by decide) ?_
                  refine fr_last (k := 7) hx hb hK hP hD hS 86 0 rfX rfl (by decide) (by decide) dX8_admin_430 (fun H locs hP hD hS => ?_)
                  have hP : va_P g.1 vwCl ((rfW g a (z_mem ρ) (z_R ρ) (z_cb ρ) (z_nc ρ) (z_tu ρ) (z_bi ρ) (z_cg ρ) (z_on ρ) (z_T ρ) (z_dn ρ) (z_fa ρ) (z_br ρ) (z_bs ρ) (z_cp ρ) (z_cq ρ) (z_cx ρ) (z_re ρ) (z_n ρ) (z_op ρ) (z_fg ρ) sp1_371 (z_one ρ)) ++ [(qx, .inl (g.2 0, 8, .inr (.inl (vp_updL (vp_updL (vp_updL (vp_updL (vp_updL (vp_updL (vp_updL (vp_updL (fun _ => 0) 0 64) 1 (lN (z_dn ρ))) 2 (lN (z_fa ρ))) 3 (lN (z_br ρ))) 4 (lN (z_bs ρ))) 5 0) 6 0) 7 0))))]) H := fr_eqP rfX_set hP
                  have hD : va_D A ((rfW g a (z_mem ρ) (z_R ρ) (z_cb ρ) (z_nc ρ) (z_tu ρ) (z_bi ρ) (z_cg ρ) (z_on ρ) (z_T ρ) (z_dn ρ) (z_fa ρ) (z_br ρ) (z_bs ρ) (z_cp ρ) (z_cq ρ) (z_cx ρ) (z_re ρ) (z_n ρ) (z_op ρ) (z_fg ρ) sp1_371 (z_one ρ)) ++ [(qx, .inl (g.2 0, 8, .inr (.inl (vp_updL (vp_updL (vp_updL (vp_updL (vp_updL (vp_updL (vp_updL (vp_updL (fun _ => 0) 0 64) 1 (lN (z_dn ρ))) 2 (lN (z_fa ρ))) 3 (lN (z_br ρ))) 4 (lN (z_bs ρ))) 5 0) 6 0) 7 0))))]) := fr_eqD rfX_set hD
                  refine lv_astore_n (lv' := [(3, .ref qx), (2, .int ((z_cp ρ).toInt32)), (1, .int (bI (¬ (z_cp ρ) < 1 ∧ ¬ 3 < (z_cp ρ)))), (0, .ref (a 0))]) hx hb dX8_admin_431 rfl hl (by decide) rfl (fun ls hl => ?_)
                  refine lv_iconst (v := 0) hx hb dX8_admin_432 (by decide) ?_
                  refine fr_topi (y := nI 0) nI_0.symm ?_
                  refine lv_istore (lv' := [(4, .int (nI 0)), (3, .ref qx), (2, .int ((z_cp ρ).toInt32)), (1, .int (bI (¬ (z_cp ρ) < 1 ∧ ¬ 3 < (z_cp ρ)))), (0, .ref (a 0))]) hx hb dX8_admin_433 hl (by decide) rfl (fun ls hl => ?_)
                  have lp435 : ∀ (n9 : Nat) (i : Nat) , 8 - i < n9 → (i ≤ 8) → ∀ (H : Heap) (locs : List Loc) (ls : Array Slot), va_P g.1 vwCl ((rfW g a (rpM (z_mem ρ) (adN (z_mem ρ) (z_cp ρ) (z_cq ρ) (z_n ρ)) (tldQ ρ) i) (z_R ρ) (z_cb ρ) (z_nc ρ) (z_tu ρ) (z_bi ρ) (z_cg ρ) (z_on ρ) (z_T ρ) (z_dn ρ) (z_fa ρ) (z_br ρ) (z_bs ρ) (z_cp ρ) (z_cq ρ) (z_cx ρ) (z_re ρ) (z_n ρ) (z_op ρ) (z_fg ρ) sp1_371 (z_one ρ)) ++ [(qx, .inl (g.2 0, 8, .inr (.inl (tldQ ρ))))]) H → va_D A ((rfW g a (rpM (z_mem ρ) (adN (z_mem ρ) (z_cp ρ) (z_cq ρ) (z_n ρ)) (tldQ ρ) i) (z_R ρ) (z_cb ρ) (z_nc ρ) (z_tu ρ) (z_bi ρ) (z_cg ρ) (z_on ρ) (z_T ρ) (z_dn ρ) (z_fa ρ) (z_br ρ) (z_bs ρ) (z_cp ρ) (z_cq ρ) (z_cx ρ) (z_re ρ) (z_n ρ) (z_op ρ) (z_fg ρ) sp1_371 (z_one ρ)) ++ [(qx, .inl (g.2 0, 8, .inr (.inl (tldQ ρ))))]) → va_S A s.heap H locs → lv_has ls 5 [(4, .int (nI i)), (3, .ref qx), (0, .ref (a 0))] → W p l e ({ frames := 3, cells := 1, slots := 8, locals := 81 } : Room) s m ([.ref (a 0)].toArray) below meth c H locs 1 8 (MQ below (Qst g (rfW g a (z_mem ρ) (z_R ρ) (z_cb ρ) (z_nc ρ) (z_tu ρ) (z_bi ρ) (z_cg ρ) (z_on ρ) (z_T ρ) (z_dn ρ) (z_fa ρ) (z_br ρ) (z_bs ρ) (z_cp ρ) (z_cq ρ) (z_cx ρ) (z_re ρ) (z_n ρ) (z_op ρ) (z_fg ρ) (z_sp ρ) (z_one ρ)) (fun v w' => ∃ (sp1 : Nat → Int32), True ∧ v = some (.int (q_adm ρ)) ∧ w' = rfW g a (z_mem (h_adm ρ)) (z_R (h_adm ρ)) (z_cb (h_adm ρ)) (z_nc (h_adm ρ)) (z_tu (h_adm ρ)) (z_bi (h_adm ρ)) (z_cg (h_adm ρ)) (z_on (h_adm ρ)) (z_T (h_adm ρ)) (z_dn (h_adm ρ)) (z_fa (h_adm ρ)) (z_br (h_adm ρ)) (z_bs (h_adm ρ)) (z_cp (h_adm ρ)) (z_cq (h_adm ρ)) (z_cx (h_adm ρ)) (z_re (h_adm ρ)) (z_n (h_adm ρ)) (z_op (h_adm ρ)) (z_fg (h_adm ρ)) sp1 (z_one (h_adm ρ))) A) ([.ref (a 0)].toArray) s 1 8 A) (F0 m 435 ls []) := by
                    intro n9
                    induction n9 with
                    | zero => intro i q9; exact absurd q9 (Nat.not_lt_zero _)
                    | succ n9 ih435 =>
                      intro i hn9 hi H locs ls hP hD hS hl
                      refine lv_iload hx hb dX8_admin_435 (lv_at hl 0 rfl) ?_
                      refine lv_bipush (v := 8) hx hb dX8_admin_437 (by decide) ?_
                      refine lv_icmp_ge (tgt := 464) hx hb dX8_admin_439 (by decide) (fun c439 => ?_) (fun c439 => ?_)
                      · have c439 := (nI_leI (a := 8) (b := i) (by omega) (by omega)).mp c439
                        have hP := fr_dropP hP
                        have hD := fr_dropD hD
                        have e8 : i = 8 := by omega
                        rw [e8] at hP hD
                        refine lv_iconst (v := 0) hx hb dX8_admin_464 (by decide) ?_
                        refine W.widen (k := 1) (n := 8) (Nat.le_of_ble_eq_true rfl) (Nat.le_of_ble_eq_true rfl) ?_
                        exact W.iret (v := 0) hx hb hr (fun t ht _ => ⟨⟨(some (.int 0)), rfW g a (rpM (z_mem ρ) (adN (z_mem ρ) (z_cp ρ) (z_cq ρ) (z_n ρ)) (tldQ ρ) 8) (z_R ρ) (z_cb ρ) (z_nc ρ) (z_tu ρ) (z_bi ρ) (z_cg ρ) (z_on ρ) (z_T ρ) (z_dn ρ) (z_fa ρ) (z_br ρ) (z_bs ρ) (z_cp ρ) (z_cq ρ) (z_cx ρ) (z_re ρ) (z_n ρ) (z_op ρ) (z_fg ρ) sp1_371 (z_one ρ), rfl, ⟨sp1_371, trivial, congrArg (fun z : Int32 => some (Value.int z)) (by rw [q_adm, if_neg w1, if_neg w2, if_neg w3, if_neg w4, if_neg w5, if_pos w6, if_pos c365, if_pos c374]), by rw [h_adm, if_neg w1, if_neg w2, if_neg w3, if_neg w4, if_neg w5, if_pos w6, if_pos (⟨c365, c374⟩ : z_n ρ = 1 ∧ lyOk (z_mem ρ) (z_cp ρ) (z_cq ρ) (z_n ρ))] <;> rfl⟩, rfl, by rw [ht]; exact hP⟩, hS.F ht⟩) hS.2.2 dX8_admin_465
                      · have c439 := (not_congr (nI_leI (a := 8) (b := i) (by omega) (by omega))).mp c439
                        refine lv_aload_n hx hb dX8_admin_442 rfl (lv_at hl 2 rfl) ?_
                        refine va_get (D := g.1) (ci := 7) (v := .ref (a 1)) (C := RX8) (T := TX8) (N := 30) hx hb hts inX8 hown hK hP 0 rfl rfl 0 (by decide) (hts _ tw603) (fun _ h9 => h9) rfl dX8_admin_443 ?_
                        refine lv_aload_n hx hb dX8_admin_446 rfl (lv_at hl 2 rfl) ?_
                        refine va_get (D := g.1) (ci := 7) (v := .ref (a 13)) (C := RX8) (T := TX8) (N := 30) hx hb hts inX8 hown hK hP 0 rfl rfl 28 (by decide) (hts _ tw631) (fun _ h9 => h9) rfl dX8_admin_447 ?_
                        refine lv_iload hx hb dX8_admin_450 (lv_at hl 0 rfl) ?_
                        refine fr_iald (k := i) hx hb hK hP 13 1 rfl rfl (by omega) (by decide) dX8_admin_452 ?_
                        refine fr_topi (y := nI (adN (z_mem ρ) (z_cp ρ) (z_cq ρ) (z_n ρ) i).toNatClampNeg) ((hsp_371 c374 i (by omega)).trans (adN_n c374 (by omega)).2) ?_
                        refine lv_aload_n hx hb dX8_admin_453 rfl (lv_at hl 1 rfl) ?_
                        refine lv_iload hx hb dX8_admin_454 (lv_at hl 0 rfl) ?_
                        refine fr_lald (k := i) hx hb hK hP 86 0 rfX rfl (by omega) (by decide) dX8_admin_456 ?_
                        refine fr_last (k := (adN (z_mem ρ) (z_cp ρ) (z_cq ρ) (z_n ρ) i).toNatClampNeg) hx hb hK hP hD hS 1 0 rfl rfl (adN_n c374 (by omega)).1 (by decide) dX8_admin_457 (fun H locs hP hD hS => ?_)
                        have hP : va_P g.1 vwCl ((rfW g a (vp_updL (rpM (z_mem ρ) (adN (z_mem ρ) (z_cp ρ) (z_cq ρ) (z_n ρ)) (tldQ ρ) i) ((adN (z_mem ρ) (z_cp ρ) (z_cq ρ) (z_n ρ) i).toNatClampNeg) ((tldQ ρ) i)) (z_R ρ) (z_cb ρ) (z_nc ρ) (z_tu ρ) (z_bi ρ) (z_cg ρ) (z_on ρ) (z_T ρ) (z_dn ρ) (z_fa ρ) (z_br ρ) (z_bs ρ) (z_cp ρ) (z_cq ρ) (z_cx ρ) (z_re ρ) (z_n ρ) (z_op ρ) (z_fg ρ) sp1_371 (z_one ρ)) ++ [(qx, .inl (g.2 0, 8, .inr (.inl (tldQ ρ))))]) H := hP
                        have hD : va_D A ((rfW g a (vp_updL (rpM (z_mem ρ) (adN (z_mem ρ) (z_cp ρ) (z_cq ρ) (z_n ρ)) (tldQ ρ) i) ((adN (z_mem ρ) (z_cp ρ) (z_cq ρ) (z_n ρ) i).toNatClampNeg) ((tldQ ρ) i)) (z_R ρ) (z_cb ρ) (z_nc ρ) (z_tu ρ) (z_bi ρ) (z_cg ρ) (z_on ρ) (z_T ρ) (z_dn ρ) (z_fa ρ) (z_br ρ) (z_bs ρ) (z_cp ρ) (z_cq ρ) (z_cx ρ) (z_re ρ) (z_n ρ) (z_op ρ) (z_fg ρ) sp1_371 (z_one ρ)) ++ [(qx, .inl (g.2 0, 8, .inr (.inl (tldQ ρ))))]) := hD
                        refine lv_iinc (v := nI (i + 1)) (lv' := [(4, .int (nI (i + 1))), (3, .ref qx), (0, .ref (a 0))]) hx hb dX8_admin_458 hl (k := 0) rfl (nI_1 _) (by decide) rfl (fun ls hl => ?_)
                        refine lv_goto (tgt := 435) hx hb dX8_admin_461 (by decide) ?_
                        exact ih435 (i + 1) (by omega) (by omega) H locs ls hP hD hS (lv_sub hl [0, 1, 2] rfl)
                  exact lp435 _ 0 (Nat.lt_succ_self _) (by decide) H locs ls hP hD hS (lv_sub hl [0, 1, 4] rfl)
                · have c374 := bI_f c374
                  refine lv_iconst (v := 4) hx hb dX8_admin_377 (by decide) ?_
                  refine W.widen (k := 1) (n := 8) (Nat.le_of_ble_eq_true rfl) (Nat.le_of_ble_eq_true rfl) ?_
                  exact W.iret (v := 4) hx hb hr (fun t ht _ => ⟨⟨(some (.int 4)), rfW g a (z_mem ρ) (z_R ρ) (z_cb ρ) (z_nc ρ) (z_tu ρ) (z_bi ρ) (z_cg ρ) (z_on ρ) (z_T ρ) (z_dn ρ) (z_fa ρ) (z_br ρ) (z_bs ρ) (z_cp ρ) (z_cq ρ) (z_cx ρ) (z_re ρ) (z_n ρ) (z_op ρ) (z_fg ρ) sp1_371 (z_one ρ), rfl, ⟨sp1_371, trivial, congrArg (fun z : Int32 => some (Value.int z)) (by rw [q_adm, if_neg w1, if_neg w2, if_neg w3, if_neg w4, if_neg w5, if_pos w6, if_pos c365, if_neg c374]), by rw [h_adm, if_neg w1, if_neg w2, if_neg w3, if_neg w4, if_neg w5, if_pos w6, if_neg (fun q => c374 q.2)] <;> rfl⟩, rfl, by rw [ht]; exact hP⟩, hS.F ht⟩) hS.2.2 dX8_admin_378
              · have c365 := (not_congr (nI_eq (a := (z_n ρ)) (b := 1) (by omega) (by omega))).mp c365
                refine lv_iconst (v := 2) hx hb dX8_admin_368 (by decide) ?_
                refine W.widen (k := 1) (n := 8) (Nat.le_of_ble_eq_true rfl) (Nat.le_of_ble_eq_true rfl) ?_
                exact W.iret (v := 2) hx hb hr (fun t ht _ => ⟨⟨(some (.int 2)), rfW g a (z_mem ρ) (z_R ρ) (z_cb ρ) (z_nc ρ) (z_tu ρ) (z_bi ρ) (z_cg ρ) (z_on ρ) (z_T ρ) (z_dn ρ) (z_fa ρ) (z_br ρ) (z_bs ρ) (z_cp ρ) (z_cq ρ) (z_cx ρ) (z_re ρ) (z_n ρ) (z_op ρ) (z_fg ρ) (z_sp ρ) (z_one ρ), rfl, ⟨z_sp ρ, trivial, congrArg (fun z : Int32 => some (Value.int z)) (by rw [q_adm, if_neg w1, if_neg w2, if_neg w3, if_neg w4, if_neg w5, if_pos w6, if_neg c365]), by rw [h_adm, if_neg w1, if_neg w2, if_neg w3, if_neg w4, if_neg w5, if_pos w6, if_neg (fun q => c365 q.1)] <;> rfl⟩, rfl, by rw [ht]; exact hP⟩, hS.F ht⟩) hS.2.2 dX8_admin_369
            · have z6 := lv_neT (a := 6) w6 (by decide)
              by_cases w7 : (z_op ρ) = 7
              · refine lv_tableIn (off := 444) (tgt := 466) hx hb dX8_admin_22 (by rw [w7]; decide) (by rw [w7]; decide) (by rw [w7]; decide) (by decide) ?_
                refine lv_aload_n hx hb dX8_admin_466 rfl (lv_at hl 2 rfl) ?_
                refine lv_aload_n hx hb dX8_admin_467 rfl (lv_at hl 2 rfl) ?_
                refine va_get (D := g.1) (ci := 7) (v := .int (nI (z_nc ρ))) (C := RX8) (T := TX8) (N := 30) hx hb hts inX8 hown hK hP 0 rfl rfl 4 (by decide) (hts _ tw607) (fun _ h9 => h9) rfl dX8_admin_468 ?_
                refine lv_i2l hx hb dX8_admin_471 rfl ?_
                refine va_put (D := g.1) (ci := 7) (v := .long ((nI (z_nc ρ)).toInt64)) (ty := .long) (C := RX8) (T := TX8) (N := 30) hx hb hts inX8 tyX8 tyX8_ok nmX8 hown hK hP hD hS 0 rfl rfl 24 (by decide) (hts _ tw627) (fun _ h9 => h9) rfl (by decide +kernel) rfl rfl (Nat.le_of_ble_eq_true rfl) dX8_admin_472 (fun H locs hP hD hS => ?_)
                have hP : va_P g.1 vwCl (rfW g a (z_mem ρ) (z_R ρ) (z_cb ρ) (z_nc ρ) (z_tu ρ) (z_bi ρ) (z_cg ρ) (z_on ρ) (z_T ρ) (z_dn ρ) (z_fa ρ) (z_br ρ) (z_bs ρ) (z_cp ρ) (z_cq ρ) (z_cx ρ) ((nI (z_nc ρ)).toInt64) (z_n ρ) (z_op ρ) (z_fg ρ) (z_sp ρ) (z_one ρ)) H := hP
                have hD : va_D A (rfW g a (z_mem ρ) (z_R ρ) (z_cb ρ) (z_nc ρ) (z_tu ρ) (z_bi ρ) (z_cg ρ) (z_on ρ) (z_T ρ) (z_dn ρ) (z_fa ρ) (z_br ρ) (z_bs ρ) (z_cp ρ) (z_cq ρ) (z_cx ρ) ((nI (z_nc ρ)).toInt64) (z_n ρ) (z_op ρ) (z_fg ρ) (z_sp ρ) (z_one ρ)) := hD
                refine lv_iconst (v := 0) hx hb dX8_admin_475 (by decide) ?_
                refine W.widen (k := 1) (n := 8) (Nat.le_of_ble_eq_true rfl) (Nat.le_of_ble_eq_true rfl) ?_
                exact W.iret (v := 0) hx hb hr (fun t ht _ => ⟨⟨(some (.int 0)), rfW g a (z_mem ρ) (z_R ρ) (z_cb ρ) (z_nc ρ) (z_tu ρ) (z_bi ρ) (z_cg ρ) (z_on ρ) (z_T ρ) (z_dn ρ) (z_fa ρ) (z_br ρ) (z_bs ρ) (z_cp ρ) (z_cq ρ) (z_cx ρ) ((nI (z_nc ρ)).toInt64) (z_n ρ) (z_op ρ) (z_fg ρ) (z_sp ρ) (z_one ρ), rfl, ⟨z_sp ρ, trivial, congrArg (fun z : Int32 => some (Value.int z)) (by rw [q_adm, if_neg w1, if_neg w2, if_neg w3, if_neg w4, if_neg w5, if_neg w6, if_pos w7]), by rw [h_adm, if_neg w1, if_neg w2, if_neg w3, if_neg w4, if_neg w5, if_neg w6, if_pos w7] <;> rfl⟩, rfl, by rw [ht]; exact hP⟩, hS.F ht⟩) hS.2.2 dX8_admin_476
              · have z7 := lv_neT (a := 7) w7 (by decide)
                refine lv_tableOut (tgt := 477) hx hb dX8_admin_22 (by omega) (by decide) ?_
                refine lv_iconst (v := 1) hx hb dX8_admin_477 (by decide) ?_
                refine W.widen (k := 1) (n := 8) (Nat.le_of_ble_eq_true rfl) (Nat.le_of_ble_eq_true rfl) ?_
                exact W.iret (v := 1) hx hb hr (fun t ht _ => ⟨⟨(some (.int 1)), rfW g a (z_mem ρ) (z_R ρ) (z_cb ρ) (z_nc ρ) (z_tu ρ) (z_bi ρ) (z_cg ρ) (z_on ρ) (z_T ρ) (z_dn ρ) (z_fa ρ) (z_br ρ) (z_bs ρ) (z_cp ρ) (z_cq ρ) (z_cx ρ) (z_re ρ) (z_n ρ) (z_op ρ) (z_fg ρ) (z_sp ρ) (z_one ρ), rfl, ⟨z_sp ρ, trivial, congrArg (fun z : Int32 => some (Value.int z)) (by rw [q_adm, if_neg w1, if_neg w2, if_neg w3, if_neg w4, if_neg w5, if_neg w6, if_neg w7]), by rw [h_adm, if_neg w1, if_neg w2, if_neg w3, if_neg w4, if_neg w5, if_neg w6, if_neg w7] <;> rfl⟩, rfl, by rw [ht]; exact hP⟩, hS.F ht⟩) hS.2.2 dX8_admin_478
