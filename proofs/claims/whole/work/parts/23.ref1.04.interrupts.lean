set_option maxHeartbeats 4000000 in
set_option maxRecDepth 100000 in
/-- interrupts -/
theorem kX8_interrupts (l : Launch) (g : GG) (a : Nat → Nat) (ρ : RS) (p0 : Int32) : Ct l yX8_interrupts cX8_interrupts 3 (some .int) ({ frames := 0, cells := 0, slots := 0, locals := 0 } : Room) g [.ref (a 0), .int p0] (rfW g a (z_mem ρ) (z_R ρ) (z_cb ρ) (z_nc ρ) (z_tu ρ) (z_bi ρ) (z_cg ρ) (z_on ρ) (z_T ρ) (z_dn ρ) (z_fa ρ) (z_br ρ) (z_bs ρ) (z_cp ρ) (z_cq ρ) (z_cx ρ) (z_re ρ) (z_n ρ) (z_op ρ) (z_fg ρ) (z_sp ρ) (z_one ρ)) (fun v w' => v = some (.int (z_bi ρ)) ∧ w' = rfW g a (z_mem ρ) (z_R ρ) (z_cb ρ) (z_nc ρ) (z_tu ρ) (z_bi ρ &&& (p0 ^^^ -1)) (z_cg ρ) (z_on ρ) (z_T ρ) (z_dn ρ) (z_fa ρ) (z_br ρ) (z_bs ρ) (z_cp ρ) (z_cq ρ) (z_cx ρ) (z_re ρ) (z_n ρ) (z_op ρ) (z_fg ρ) (z_sp ρ) (z_one ρ)) := by
  refine Ct.of (by decide) (Nat.le_of_ble_eq_true rfl) ?_
  intro p e s m below meth c A ls H locs hx hb hr hml hlocks hts hown hin hA hS hK hP hD hl
  have hown : s.vm.findClass RX8 = some m.cls := hown
  have hl : lv_has ls 3 [(0, .ref (a 0)), (1, .int p0)] := hl
  refine lv_aload_n hx hb dX8_interrupts_0 rfl (lv_at hl 0 rfl) ?_
  refine va_get (D := g.1) (ci := 7) (v := .int (z_bi ρ)) (C := RX8) (T := TX8) (N := 30) hx hb hts inX8 hown hK hP 0 rfl rfl 6 (by decide) (hts _ tw609) (fun _ h9 => h9) rfl dX8_interrupts_1 ?_
  refine lv_istore_n (lv' := [(2, .int (z_bi ρ)), (0, .ref (a 0)), (1, .int p0)]) hx hb dX8_interrupts_4 rfl hl (by decide) rfl (fun ls hl => ?_)
  refine lv_aload_n hx hb dX8_interrupts_5 rfl (lv_at hl 1 rfl) ?_
  refine lv_dup hx hb dX8_interrupts_6 rfl ?_
  refine va_get (D := g.1) (ci := 7) (v := .int (z_bi ρ)) (C := RX8) (T := TX8) (N := 30) hx hb hts inX8 hown hK hP 0 rfl rfl 6 (by decide) (hts _ tw609) (fun _ h9 => h9) rfl dX8_interrupts_7 ?_
  refine lv_iload_n hx hb dX8_interrupts_10 rfl (lv_at hl 2 rfl) ?_
  refine lv_iconst (v := -1) hx hb dX8_interrupts_11 (by decide) ?_
  refine lv_ixor hx hb dX8_interrupts_12 ?_
  refine lv_iand hx hb dX8_interrupts_13 ?_
  refine va_put (D := g.1) (ci := 7) (v := .int ((z_bi ρ) &&& (p0 ^^^ (-1)))) (ty := .int) (C := RX8) (T := TX8) (N := 30) hx hb hts inX8 tyX8 tyX8_ok nmX8 hown hK hP hD hS 0 rfl rfl 6 (by decide) (hts _ tw609) (fun _ h9 => h9) rfl (by decide +kernel) rfl rfl (Nat.le_of_ble_eq_true rfl) dX8_interrupts_14 (fun H locs hP hD hS => ?_)
  have hP : va_P g.1 vwCl (rfW g a (z_mem ρ) (z_R ρ) (z_cb ρ) (z_nc ρ) (z_tu ρ) ((z_bi ρ) &&& (p0 ^^^ (-1))) (z_cg ρ) (z_on ρ) (z_T ρ) (z_dn ρ) (z_fa ρ) (z_br ρ) (z_bs ρ) (z_cp ρ) (z_cq ρ) (z_cx ρ) (z_re ρ) (z_n ρ) (z_op ρ) (z_fg ρ) (z_sp ρ) (z_one ρ)) H := hP
  have hD : va_D A (rfW g a (z_mem ρ) (z_R ρ) (z_cb ρ) (z_nc ρ) (z_tu ρ) ((z_bi ρ) &&& (p0 ^^^ (-1))) (z_cg ρ) (z_on ρ) (z_T ρ) (z_dn ρ) (z_fa ρ) (z_br ρ) (z_bs ρ) (z_cp ρ) (z_cq ρ) (z_cx ρ) (z_re ρ) (z_n ρ) (z_op ρ) (z_fg ρ) (z_sp ρ) (z_one ρ)) := hD
  refine lv_iload_n hx hb dX8_interrupts_17 rfl (lv_at hl 0 rfl) ?_
  exact W.iret (v := (z_bi ρ)) hx hb hr (fun t ht _ => ⟨⟨(some (.int (z_bi ρ))), rfW g a (z_mem ρ) (z_R ρ) (z_cb ρ) (z_nc ρ) (z_tu ρ) ((z_bi ρ) &&& (p0 ^^^ (-1))) (z_cg ρ) (z_on ρ) (z_T ρ) (z_dn ρ) (z_fa ρ) (z_br ρ) (z_bs ρ) (z_cp ρ) (z_cq ρ) (z_cx ρ) (z_re ρ) (z_n ρ) (z_op ρ) (z_fg ρ) (z_sp ρ) (z_one ρ), rfl, ⟨rfl, rfl⟩, rfl, by rw [ht]; exact hP⟩, hS.F ht⟩) hS.2.2 dX8_interrupts_18
