set_option maxHeartbeats 4000000 in
set_option maxRecDepth 100000 in
/-- count -/
theorem kX8_count (l : Launch) (g : GG) (a : Nat → Nat) (ρ : RS) (p0 : Int32) : Ct l yX8_count cX8_count 2 (some .int) ({ frames := 0, cells := 0, slots := 0, locals := 0 } : Room) g [.ref (a 0), .int p0] (rfW g a (z_mem ρ) (z_R ρ) (z_cb ρ) (z_nc ρ) (z_tu ρ) (z_bi ρ) (z_cg ρ) (z_on ρ) (z_T ρ) (z_dn ρ) (z_fa ρ) (z_br ρ) (z_bs ρ) (z_cp ρ) (z_cq ρ) (z_cx ρ) (z_re ρ) (z_n ρ) (z_op ρ) (z_fg ρ) (z_sp ρ) (z_one ρ)) (fun v w' => v = some (.int (countR (z_nc ρ) (z_cg ρ) (z_dn ρ) (z_fa ρ) (z_br ρ) (z_bs ρ) p0)) ∧ w' = rfW g a (z_mem ρ) (z_R ρ) (z_cb ρ) (z_nc ρ) (z_tu ρ) (z_bi ρ) (z_cg ρ) (z_on ρ) (z_T ρ) (z_dn ρ) (z_fa ρ) (z_br ρ) (z_bs ρ) (z_cp ρ) (z_cq ρ) (z_cx ρ) (z_re ρ) (z_n ρ) (z_op ρ) (z_fg ρ) (z_sp ρ) (z_one ρ)) := by
  refine Ct.of (by decide) (Nat.le_of_ble_eq_true rfl) ?_
  intro p e s m below meth c A ls H locs hx hb hr hml hlocks hts hown hin hA hS hK hP hD hl
  have hown : s.vm.findClass RX8 = some m.cls := hown
  have hl : lv_has ls 2 [(0, .ref (a 0)), (1, .int p0)] := hl
  refine lv_iload_n hx hb dX8_count_0 rfl (lv_at hl 1 rfl) ?_
  by_cases w0 : p0 = 0
  · refine lv_tableIn (off := 39) (tgt := 40) hx hb dX8_count_1 (by rw [w0]; decide) (by rw [w0]; decide) (by rw [w0]; decide) (by decide) ?_
    refine lv_aload_n hx hb dX8_count_40 rfl (lv_at hl 0 rfl) ?_
    refine va_get (D := g.1) (ci := 7) (v := .int (nI (z_nc ρ))) (C := RX8) (T := TX8) (N := 30) hx hb hts inX8 hown hK hP 0 rfl rfl 4 (by decide) (hts _ tw607) (fun _ h9 => h9) rfl dX8_count_41 ?_
    exact W.iret (v := nI (z_nc ρ)) hx hb hr (fun t ht _ => ⟨⟨(some (.int (nI (z_nc ρ)))), rfW g a (z_mem ρ) (z_R ρ) (z_cb ρ) (z_nc ρ) (z_tu ρ) (z_bi ρ) (z_cg ρ) (z_on ρ) (z_T ρ) (z_dn ρ) (z_fa ρ) (z_br ρ) (z_bs ρ) (z_cp ρ) (z_cq ρ) (z_cx ρ) (z_re ρ) (z_n ρ) (z_op ρ) (z_fg ρ) (z_sp ρ) (z_one ρ), rfl, ⟨congrArg (fun z : Int32 => some (Value.int z)) (by simp [countR, *]), rfl⟩, rfl, by rw [ht]; exact hP⟩, hS.F ht⟩) hS.2.2 dX8_count_44
  · have z0 := lv_neT (a := 0) w0 (by decide)
    by_cases w1 : p0 = 1
    · refine lv_tableIn (off := 44) (tgt := 45) hx hb dX8_count_1 (by rw [w1]; decide) (by rw [w1]; decide) (by rw [w1]; decide) (by decide) ?_
      refine lv_aload_n hx hb dX8_count_45 rfl (lv_at hl 0 rfl) ?_
      refine va_get (D := g.1) (ci := 7) (v := .int (z_cg ρ)) (C := RX8) (T := TX8) (N := 30) hx hb hts inX8 hown hK hP 0 rfl rfl 7 (by decide) (hts _ tw610) (fun _ h9 => h9) rfl dX8_count_46 ?_
      refine lv_if_eq (tgt := 56) hx hb dX8_count_49 (by decide) (fun c49 => ?_) (fun c49 => ?_)
      · refine lv_iconst (v := 0) hx hb dX8_count_56 (by decide) ?_
        exact W.iret (v := 0) hx hb hr (fun t ht _ => ⟨⟨(some (.int 0)), rfW g a (z_mem ρ) (z_R ρ) (z_cb ρ) (z_nc ρ) (z_tu ρ) (z_bi ρ) (z_cg ρ) (z_on ρ) (z_T ρ) (z_dn ρ) (z_fa ρ) (z_br ρ) (z_bs ρ) (z_cp ρ) (z_cq ρ) (z_cx ρ) (z_re ρ) (z_n ρ) (z_op ρ) (z_fg ρ) (z_sp ρ) (z_one ρ), rfl, ⟨congrArg (fun z : Int32 => some (Value.int z)) (by simp [countR, *]), rfl⟩, rfl, by rw [ht]; exact hP⟩, hS.F ht⟩) hS.2.2 dX8_count_57
      · refine lv_iconst (v := 1) hx hb dX8_count_52 (by decide) ?_
        refine lv_goto (tgt := 57) hx hb dX8_count_53 (by decide) ?_
        exact W.iret (v := 1) hx hb hr (fun t ht _ => ⟨⟨(some (.int 1)), rfW g a (z_mem ρ) (z_R ρ) (z_cb ρ) (z_nc ρ) (z_tu ρ) (z_bi ρ) (z_cg ρ) (z_on ρ) (z_T ρ) (z_dn ρ) (z_fa ρ) (z_br ρ) (z_bs ρ) (z_cp ρ) (z_cq ρ) (z_cx ρ) (z_re ρ) (z_n ρ) (z_op ρ) (z_fg ρ) (z_sp ρ) (z_one ρ), rfl, ⟨congrArg (fun z : Int32 => some (Value.int z)) (by simp [countR, *]), rfl⟩, rfl, by rw [ht]; exact hP⟩, hS.F ht⟩) hS.2.2 dX8_count_57
    · have z1 := lv_neT (a := 1) w1 (by decide)
      by_cases w2 : p0 = 2
      · refine lv_tableIn (off := 57) (tgt := 58) hx hb dX8_count_1 (by rw [w2]; decide) (by rw [w2]; decide) (by rw [w2]; decide) (by decide) ?_
        refine lv_aload_n hx hb dX8_count_58 rfl (lv_at hl 0 rfl) ?_
        refine va_get (D := g.1) (ci := 7) (v := .long (lN (z_dn ρ))) (C := RX8) (T := TX8) (N := 30) hx hb hts inX8 hown hK hP 0 rfl rfl 17 (by decide) (hts _ tw620) (fun _ h9 => h9) rfl dX8_count_59 ?_
        refine lv_l2i hx hb dX8_count_62 rfl ?_
        refine fr_topi (y := nI (z_dn ρ)) (lN_i _) ?_
        exact W.iret (v := nI (z_dn ρ)) hx hb hr (fun t ht _ => ⟨⟨(some (.int (nI (z_dn ρ)))), rfW g a (z_mem ρ) (z_R ρ) (z_cb ρ) (z_nc ρ) (z_tu ρ) (z_bi ρ) (z_cg ρ) (z_on ρ) (z_T ρ) (z_dn ρ) (z_fa ρ) (z_br ρ) (z_bs ρ) (z_cp ρ) (z_cq ρ) (z_cx ρ) (z_re ρ) (z_n ρ) (z_op ρ) (z_fg ρ) (z_sp ρ) (z_one ρ), rfl, ⟨congrArg (fun z : Int32 => some (Value.int z)) (by simp [countR, *]), rfl⟩, rfl, by rw [ht]; exact hP⟩, hS.F ht⟩) hS.2.2 dX8_count_63
      · have z2 := lv_neT (a := 2) w2 (by decide)
        by_cases w3 : p0 = 3
        · refine lv_tableIn (off := 63) (tgt := 64) hx hb dX8_count_1 (by rw [w3]; decide) (by rw [w3]; decide) (by rw [w3]; decide) (by decide) ?_
          refine lv_aload_n hx hb dX8_count_64 rfl (lv_at hl 0 rfl) ?_
          refine va_get (D := g.1) (ci := 7) (v := .long (lN (z_fa ρ))) (C := RX8) (T := TX8) (N := 30) hx hb hts inX8 hown hK hP 0 rfl rfl 18 (by decide) (hts _ tw621) (fun _ h9 => h9) rfl dX8_count_65 ?_
          refine lv_l2i hx hb dX8_count_68 rfl ?_
          refine fr_topi (y := nI (z_fa ρ)) (lN_i _) ?_
          exact W.iret (v := nI (z_fa ρ)) hx hb hr (fun t ht _ => ⟨⟨(some (.int (nI (z_fa ρ)))), rfW g a (z_mem ρ) (z_R ρ) (z_cb ρ) (z_nc ρ) (z_tu ρ) (z_bi ρ) (z_cg ρ) (z_on ρ) (z_T ρ) (z_dn ρ) (z_fa ρ) (z_br ρ) (z_bs ρ) (z_cp ρ) (z_cq ρ) (z_cx ρ) (z_re ρ) (z_n ρ) (z_op ρ) (z_fg ρ) (z_sp ρ) (z_one ρ), rfl, ⟨congrArg (fun z : Int32 => some (Value.int z)) (by simp [countR, *]), rfl⟩, rfl, by rw [ht]; exact hP⟩, hS.F ht⟩) hS.2.2 dX8_count_69
        · have z3 := lv_neT (a := 3) w3 (by decide)
          by_cases w4 : p0 = 4
          · refine lv_tableIn (off := 69) (tgt := 70) hx hb dX8_count_1 (by rw [w4]; decide) (by rw [w4]; decide) (by rw [w4]; decide) (by decide) ?_
            refine lv_aload_n hx hb dX8_count_70 rfl (lv_at hl 0 rfl) ?_
            refine va_get (D := g.1) (ci := 7) (v := .long (lN (z_br ρ))) (C := RX8) (T := TX8) (N := 30) hx hb hts inX8 hown hK hP 0 rfl rfl 19 (by decide) (hts _ tw622) (fun _ h9 => h9) rfl dX8_count_71 ?_
            refine lv_l2i hx hb dX8_count_74 rfl ?_
            refine fr_topi (y := nI (z_br ρ)) (lN_i _) ?_
            exact W.iret (v := nI (z_br ρ)) hx hb hr (fun t ht _ => ⟨⟨(some (.int (nI (z_br ρ)))), rfW g a (z_mem ρ) (z_R ρ) (z_cb ρ) (z_nc ρ) (z_tu ρ) (z_bi ρ) (z_cg ρ) (z_on ρ) (z_T ρ) (z_dn ρ) (z_fa ρ) (z_br ρ) (z_bs ρ) (z_cp ρ) (z_cq ρ) (z_cx ρ) (z_re ρ) (z_n ρ) (z_op ρ) (z_fg ρ) (z_sp ρ) (z_one ρ), rfl, ⟨congrArg (fun z : Int32 => some (Value.int z)) (by simp [countR, *]), rfl⟩, rfl, by rw [ht]; exact hP⟩, hS.F ht⟩) hS.2.2 dX8_count_75
          · have z4 := lv_neT (a := 4) w4 (by decide)
            by_cases w5 : p0 = 5
            · refine lv_tableIn (off := 75) (tgt := 76) hx hb dX8_count_1 (by rw [w5]; decide) (by rw [w5]; decide) (by rw [w5]; decide) (by decide) ?_
              refine lv_aload_n hx hb dX8_count_76 rfl (lv_at hl 0 rfl) ?_
              refine va_get (D := g.1) (ci := 7) (v := .long (lN (z_bs ρ))) (C := RX8) (T := TX8) (N := 30) hx hb hts inX8 hown hK hP 0 rfl rfl 20 (by decide) (hts _ tw623) (fun _ h9 => h9) rfl dX8_count_77 ?_
              refine lv_l2i hx hb dX8_count_80 rfl ?_
              refine fr_topi (y := nI (z_bs ρ)) (lN_i _) ?_
              exact W.iret (v := nI (z_bs ρ)) hx hb hr (fun t ht _ => ⟨⟨(some (.int (nI (z_bs ρ)))), rfW g a (z_mem ρ) (z_R ρ) (z_cb ρ) (z_nc ρ) (z_tu ρ) (z_bi ρ) (z_cg ρ) (z_on ρ) (z_T ρ) (z_dn ρ) (z_fa ρ) (z_br ρ) (z_bs ρ) (z_cp ρ) (z_cq ρ) (z_cx ρ) (z_re ρ) (z_n ρ) (z_op ρ) (z_fg ρ) (z_sp ρ) (z_one ρ), rfl, ⟨congrArg (fun z : Int32 => some (Value.int z)) (by simp [countR, *]), rfl⟩, rfl, by rw [ht]; exact hP⟩, hS.F ht⟩) hS.2.2 dX8_count_81
            · have z5 := lv_neT (a := 5) w5 (by decide)
              refine lv_tableOut (tgt := 82) hx hb dX8_count_1 (by omega) (by decide) ?_
              refine lv_iconst (v := -1) hx hb dX8_count_82 (by decide) ?_
              exact W.iret (v := -1) hx hb hr (fun t ht _ => ⟨⟨(some (.int (-1))), rfW g a (z_mem ρ) (z_R ρ) (z_cb ρ) (z_nc ρ) (z_tu ρ) (z_bi ρ) (z_cg ρ) (z_on ρ) (z_T ρ) (z_dn ρ) (z_fa ρ) (z_br ρ) (z_bs ρ) (z_cp ρ) (z_cq ρ) (z_cx ρ) (z_re ρ) (z_n ρ) (z_op ρ) (z_fg ρ) (z_sp ρ) (z_one ρ), rfl, ⟨congrArg (fun z : Int32 => some (Value.int z)) (by simp [countR, *]), rfl⟩, rfl, by rw [ht]; exact hP⟩, hS.F ht⟩) hS.2.2 dX8_count_83
