set_option maxHeartbeats 4000000 in
set_option maxRecDepth 100000 in
/-- many -/
theorem kX8_many (l : Launch) (g : GG) (a : Nat → Nat) (ρ : RS) (q : Nat) (w : Nat) (hq : q < 8) (hQ : QI (z_T ρ) q w) : Ct l yX8_many cX8_many 2 (some .int) ({ frames := 0, cells := 0, slots := 0, locals := 0 } : Room) g [.ref (a 0), .int (nI q)] (rfW g a (z_mem ρ) (z_R ρ) (z_cb ρ) (z_nc ρ) (z_tu ρ) (z_bi ρ) (z_cg ρ) (z_on ρ) (z_T ρ) (z_dn ρ) (z_fa ρ) (z_br ρ) (z_bs ρ) (z_cp ρ) (z_cq ρ) (z_cx ρ) (z_re ρ) (z_n ρ) (z_op ρ) (z_fg ρ) (z_sp ρ) (z_one ρ)) (fun v w' => v = some (.int (fht (z_T ρ 3 q) (z_T ρ 2 q) (z_T ρ 4 q))) ∧ w' = rfW g a (z_mem ρ) (z_R ρ) (z_cb ρ) (z_nc ρ) (z_tu ρ) (z_bi ρ) (z_cg ρ) (z_on ρ) (z_T ρ) (z_dn ρ) (z_fa ρ) (z_br ρ) (z_bs ρ) (z_cp ρ) (z_cq ρ) (z_cx ρ) (z_re ρ) (z_n ρ) (z_op ρ) (z_fg ρ) (z_sp ρ) (z_one ρ)) := by
  refine Ct.of (by decide) (Nat.le_of_ble_eq_true rfl) ?_
  intro p e s m below meth c A ls H locs hx hb hr hml hlocks hts hown hin hA hS hK hP hD hl
  have hown : s.vm.findClass RX8 = some m.cls := hown
  have hl : lv_has ls 2 [(0, .ref (a 0)), (1, .int (nI q))] := hl
  refine lv_aload_n hx hb dX8_many_0 rfl (lv_at hl 0 rfl) ?_
  refine va_get (D := g.1) (ci := 7) (v := .ref (a 10)) (C := RX8) (T := TX8) (N := 30) hx hb hts inX8 hown hK hP 0 rfl rfl 14 (by decide) (hts _ tw617) (fun _ h9 => h9) rfl dX8_many_1 ?_
  refine lv_iload_n hx hb dX8_many_4 rfl (lv_at hl 1 rfl) ?_
  refine fr_iald (k := q) hx hb hK hP 10 1 rfl rfl (by omega) (by decide) dX8_many_5 ?_
  refine lv_aload_n hx hb dX8_many_6 rfl (lv_at hl 0 rfl) ?_
  refine va_get (D := g.1) (ci := 7) (v := .ref (a 9)) (C := RX8) (T := TX8) (N := 30) hx hb hts inX8 hown hK hP 0 rfl rfl 13 (by decide) (hts _ tw616) (fun _ h9 => h9) rfl dX8_many_7 ?_
  refine lv_iload_n hx hb dX8_many_10 rfl (lv_at hl 1 rfl) ?_
  refine fr_iald (k := q) hx hb hK hP 9 1 rfl rfl (by omega) (by decide) dX8_many_11 ?_
  refine lv_isub hx hb dX8_many_12 ?_
  refine lv_aload_n hx hb dX8_many_13 rfl (lv_at hl 0 rfl) ?_
  refine va_get (D := g.1) (ci := 7) (v := .ref (a 8)) (C := RX8) (T := TX8) (N := 30) hx hb hts inX8 hown hK hP 0 rfl rfl 12 (by decide) (hts _ tw615) (fun _ h9 => h9) rfl dX8_many_14 ?_
  refine lv_iload_n hx hb dX8_many_17 rfl (lv_at hl 1 rfl) ?_
  refine fr_iald (k := q) hx hb hK hP 8 1 rfl rfl (by omega) (by decide) dX8_many_18 ?_
  refine lv_iadd hx hb dX8_many_19 ?_
  refine lv_aload_n hx hb dX8_many_20 rfl (lv_at hl 0 rfl) ?_
  refine va_get (D := g.1) (ci := 7) (v := .ref (a 8)) (C := RX8) (T := TX8) (N := 30) hx hb hts inX8 hown hK hP 0 rfl rfl 12 (by decide) (hts _ tw615) (fun _ h9 => h9) rfl dX8_many_21 ?_
  refine lv_iload_n hx hb dX8_many_24 rfl (lv_at hl 1 rfl) ?_
  refine fr_iald (k := q) hx hb hK hP 8 1 rfl rfl (by omega) (by decide) dX8_many_25 ?_
  refine lv_irem hx hb dX8_many_26 (QI_nz hQ) ?_
  refine fr_topi (y := fht (z_T ρ 3 q) (z_T ρ 2 q) (z_T ρ 4 q)) (QI_fht hQ) ?_
  exact W.iret (v := fht (z_T ρ 3 q) (z_T ρ 2 q) (z_T ρ 4 q)) hx hb hr (fun t ht _ => ⟨⟨(some (.int (fht (z_T ρ 3 q) (z_T ρ 2 q) (z_T ρ 4 q)))), rfW g a (z_mem ρ) (z_R ρ) (z_cb ρ) (z_nc ρ) (z_tu ρ) (z_bi ρ) (z_cg ρ) (z_on ρ) (z_T ρ) (z_dn ρ) (z_fa ρ) (z_br ρ) (z_bs ρ) (z_cp ρ) (z_cq ρ) (z_cx ρ) (z_re ρ) (z_n ρ) (z_op ρ) (z_fg ρ) (z_sp ρ) (z_one ρ), rfl, ⟨rfl, rfl⟩, rfl, by rw [ht]; exact hP⟩, hS.F ht⟩) hS.2.2 dX8_many_27
