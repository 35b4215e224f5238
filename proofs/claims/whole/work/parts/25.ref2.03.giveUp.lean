set_option maxHeartbeats 4000000 in
set_option maxRecDepth 100000 in
/-- giveUp -/
theorem kX8_giveUp (l : Launch) (g : GG) (a : Nat → Nat) (ρ : RS) (u9 : Nat) (hm : z_nc ρ = u9 + 1) (hm6 : u9 ≤ 6) (hR : RI (z_R ρ, z_cb ρ) (z_nc ρ)) : Ct l yX8_giveUp cX8_giveUp 2 none ({ frames := 1, cells := 0, slots := 0, locals := 40 } : Room) g [.ref (a 0)] (rfW g a (z_mem ρ) (z_R ρ) (z_cb ρ) (z_nc ρ) (z_tu ρ) (z_bi ρ) (z_cg ρ) (z_on ρ) (z_T ρ) (z_dn ρ) (z_fa ρ) (z_br ρ) (z_bs ρ) (z_cp ρ) (z_cq ρ) (z_cx ρ) (z_re ρ) (z_n ρ) (z_op ρ) (z_fg ρ) (z_sp ρ) (z_one ρ)) (fun v w' => v = none ∧ w' = rfW g a (z_mem ρ) ((gvU (z_R ρ, z_cb ρ) u9).1) ((gvU (z_R ρ, z_cb ρ) u9).2) u9 (z_tu ρ) (z_bi ρ) (z_cg ρ) (z_on ρ) (z_T ρ) (z_dn ρ) (z_fa ρ) (z_br ρ) (z_bs ρ) (z_cp ρ) (z_cq ρ) (z_cx ρ) (z_re ρ) (z_n ρ) (z_op ρ) (z_fg ρ) (z_sp ρ) (z_one ρ)) := by
  refine Ct.of (by decide) (Nat.le_of_ble_eq_true rfl) ?_
  intro p e s m below meth c A ls H locs hx hb hr hml hlocks hts hown hin hA hS hK hP hD hl
  have hown : s.vm.findClass RX8 = some m.cls := hown
  have hl : lv_has ls 2 [(0, .ref (a 0))] := hl
  obtain ⟨j, hj, ej⟩ := hR 0 (by omega)
  have ej : z_cb ρ 0 = nI j := ej
  have e8 : (z_cb ρ 0).toNatClampNeg = j := by rw [ej]; exact nI_clamp (by omega)
  refine lv_aload_n hx hb dX8_giveUp_0 rfl (lv_at hl 0 rfl) ?_
  refine va_get (D := g.1) (ci := 7) (v := .ref (a 3)) (C := RX8) (T := TX8) (N := 30) hx hb hts inX8 hown hK hP 0 rfl rfl 2 (by decide) (hts _ tw605) (fun _ h9 => h9) rfl dX8_giveUp_1 ?_
  refine lv_iconst (v := 0) hx hb dX8_giveUp_4 (by decide) ?_
  refine fr_topi (y := nI 0) nI_0.symm ?_
  refine fr_aaldA (k := 0) (b := (a (15 + (64 + 0)))) hx hb hK hP 3 5 rfl rfl rfl (by omega) (by decide) (if_pos (by omega)) dX8_giveUp_5 ?_
  refine lv_iconst (v := 0) hx hb dX8_giveUp_6 (by decide) ?_
  refine lv_aload_n hx hb dX8_giveUp_7 rfl (lv_at hl 0 rfl) ?_
  refine va_get (D := g.1) (ci := 7) (v := .ref (a 2)) (C := RX8) (T := TX8) (N := 30) hx hb hts inX8 hown hK hP 0 rfl rfl 1 (by decide) (hts _ tw604) (fun _ h9 => h9) rfl dX8_giveUp_8 ?_
  refine lv_aload_n hx hb dX8_giveUp_11 rfl (lv_at hl 0 rfl) ?_
  refine va_get (D := g.1) (ci := 7) (v := .ref (a 4)) (C := RX8) (T := TX8) (N := 30) hx hb hts inX8 hown hK hP 0 rfl rfl 3 (by decide) (hts _ tw606) (fun _ h9 => h9) rfl dX8_giveUp_12 ?_
  refine lv_iconst (v := 0) hx hb dX8_giveUp_15 (by decide) ?_
  refine fr_iald (k := 0) hx hb hK hP 4 1 rfl rfl (by decide) (by decide) dX8_giveUp_16 ?_
  refine fr_topi (y := nI j) ej ?_
  refine fr_aaldA (k := j) (b := (a (15 + j))) hx hb hK hP 2 5 rfl rfl rfl (by omega) (by decide) (if_pos (by omega)) dX8_giveUp_17 ?_
  refine lv_iconst (v := 0) hx hb dX8_giveUp_18 (by decide) ?_
  refine lv_bipush (v := 8) hx hb dX8_giveUp_19 (by decide) ?_
  refine fr_copyl hx hb (hml.trans hl.1.symm) hown (hts _ tw737) (hts _ tw304) (hts _ tw303) (hts _ tw11) hK hP hD hS (15 + (64 + 0)) (15 + j) 0 0 (rfR (i := 64 + 0) (by omega)) (rfR (i := j) (by omega)) rfl rfl 0 0 8 rfl rfl rfl (by omega) (by omega) (by decide) (by decide) (Nat.le_of_ble_eq_true rfl) (Nat.le_of_ble_eq_true rfl) dX8_giveUp_21 (fun H locs hP hD hS => ?_)
  have hP : va_P g.1 vwCl (rfW g a (z_mem ρ) (va_up (z_R ρ) j (va_cpy ((z_R ρ) (64 + 0)) ((z_R ρ) j) 0 0 8)) (z_cb ρ) (z_nc ρ) (z_tu ρ) (z_bi ρ) (z_cg ρ) (z_on ρ) (z_T ρ) (z_dn ρ) (z_fa ρ) (z_br ρ) (z_bs ρ) (z_cp ρ) (z_cq ρ) (z_cx ρ) (z_re ρ) (z_n ρ) (z_op ρ) (z_fg ρ) (z_sp ρ) (z_one ρ)) H := fr_eqP (rfR_set (i := j) (by omega)) hP
  have hD : va_D A (rfW g a (z_mem ρ) (va_up (z_R ρ) j (va_cpy ((z_R ρ) (64 + 0)) ((z_R ρ) j) 0 0 8)) (z_cb ρ) (z_nc ρ) (z_tu ρ) (z_bi ρ) (z_cg ρ) (z_on ρ) (z_T ρ) (z_dn ρ) (z_fa ρ) (z_br ρ) (z_bs ρ) (z_cp ρ) (z_cq ρ) (z_cx ρ) (z_re ρ) (z_n ρ) (z_op ρ) (z_fg ρ) (z_sp ρ) (z_one ρ)) := fr_eqD (rfR_set (i := j) (by omega)) hD
  refine lv_aload_n hx hb dX8_giveUp_24 rfl (lv_at hl 0 rfl) ?_
  refine lv_dup hx hb dX8_giveUp_25 rfl ?_
  refine va_get (D := g.1) (ci := 7) (v := .int (nI (z_nc ρ))) (C := RX8) (T := TX8) (N := 30) hx hb hts inX8 hown hK hP 0 rfl rfl 4 (by decide) (hts _ tw607) (fun _ h9 => h9) rfl dX8_giveUp_26 ?_
  refine lv_iconst (v := 1) hx hb dX8_giveUp_29 (by decide) ?_
  refine lv_isub hx hb dX8_giveUp_30 ?_
  refine fr_topi (y := nI u9) (by rw [hm]; exact nI_pred u9) ?_
  refine va_put (D := g.1) (ci := 7) (v := .int (nI u9)) (ty := .int) (C := RX8) (T := TX8) (N := 30) hx hb hts inX8 tyX8 tyX8_ok nmX8 hown hK hP hD hS 0 rfl rfl 4 (by decide) (hts _ tw607) (fun _ h9 => h9) rfl (by decide +kernel) rfl rfl (Nat.le_of_ble_eq_true rfl) dX8_giveUp_31 (fun H locs hP hD hS => ?_)
  have hP : va_P g.1 vwCl (rfW g a (z_mem ρ) (va_up (z_R ρ) j (va_cpy ((z_R ρ) (64 + 0)) ((z_R ρ) j) 0 0 8)) (z_cb ρ) u9 (z_tu ρ) (z_bi ρ) (z_cg ρ) (z_on ρ) (z_T ρ) (z_dn ρ) (z_fa ρ) (z_br ρ) (z_bs ρ) (z_cp ρ) (z_cq ρ) (z_cx ρ) (z_re ρ) (z_n ρ) (z_op ρ) (z_fg ρ) (z_sp ρ) (z_one ρ)) H := hP
  have hD : va_D A (rfW g a (z_mem ρ) (va_up (z_R ρ) j (va_cpy ((z_R ρ) (64 + 0)) ((z_R ρ) j) 0 0 8)) (z_cb ρ) u9 (z_tu ρ) (z_bi ρ) (z_cg ρ) (z_on ρ) (z_T ρ) (z_dn ρ) (z_fa ρ) (z_br ρ) (z_bs ρ) (z_cp ρ) (z_cq ρ) (z_cx ρ) (z_re ρ) (z_n ρ) (z_op ρ) (z_fg ρ) (z_sp ρ) (z_one ρ)) := hD
  refine lv_iconst (v := 0) hx hb dX8_giveUp_34 (by decide) ?_
  refine fr_topi (y := nI 0) nI_0.symm ?_
  refine lv_istore_n (lv' := [(1, .int (nI 0)), (0, .ref (a 0))]) hx hb dX8_giveUp_35 rfl hl (by decide) rfl (fun ls hl => ?_)
  have lp36 : ∀ (n9 : Nat) (k : Nat) , u9 - k < n9 → (k ≤ u9) → ∀ (H : Heap) (locs : List Loc) (ls : Array Slot), va_P g.1 vwCl (rfW g a (z_mem ρ) (gsR (va_up (z_R ρ) j (va_cpy (z_R ρ (64 + 0)) (z_R ρ j) 0 0 8)) k) (gsB (z_cb ρ) k) u9 (z_tu ρ) (z_bi ρ) (z_cg ρ) (z_on ρ) (z_T ρ) (z_dn ρ) (z_fa ρ) (z_br ρ) (z_bs ρ) (z_cp ρ) (z_cq ρ) (z_cx ρ) (z_re ρ) (z_n ρ) (z_op ρ) (z_fg ρ) (z_sp ρ) (z_one ρ)) H → va_D A (rfW g a (z_mem ρ) (gsR (va_up (z_R ρ) j (va_cpy (z_R ρ (64 + 0)) (z_R ρ j) 0 0 8)) k) (gsB (z_cb ρ) k) u9 (z_tu ρ) (z_bi ρ) (z_cg ρ) (z_on ρ) (z_T ρ) (z_dn ρ) (z_fa ρ) (z_br ρ) (z_bs ρ) (z_cp ρ) (z_cq ρ) (z_cx ρ) (z_re ρ) (z_n ρ) (z_op ρ) (z_fg ρ) (z_sp ρ) (z_one ρ)) → va_S A s.heap H locs → lv_has ls 2 [(1, .int (nI k)), (0, .ref (a 0))] → W p l e ({ frames := 1, cells := 0, slots := 0, locals := 40 } : Room) s m ([.ref (a 0)].toArray) below meth c H locs 0 0 (MQ below (Qst g (rfW g a (z_mem ρ) (z_R ρ) (z_cb ρ) (z_nc ρ) (z_tu ρ) (z_bi ρ) (z_cg ρ) (z_on ρ) (z_T ρ) (z_dn ρ) (z_fa ρ) (z_br ρ) (z_bs ρ) (z_cp ρ) (z_cq ρ) (z_cx ρ) (z_re ρ) (z_n ρ) (z_op ρ) (z_fg ρ) (z_sp ρ) (z_one ρ)) (fun v w' => v = none ∧ w' = rfW g a (z_mem ρ) ((gvU (z_R ρ, z_cb ρ) u9).1) ((gvU (z_R ρ, z_cb ρ) u9).2) u9 (z_tu ρ) (z_bi ρ) (z_cg ρ) (z_on ρ) (z_T ρ) (z_dn ρ) (z_fa ρ) (z_br ρ) (z_bs ρ) (z_cp ρ) (z_cq ρ) (z_cx ρ) (z_re ρ) (z_n ρ) (z_op ρ) (z_fg ρ) (z_sp ρ) (z_one ρ)) A) ([.ref (a 0)].toArray) s 0 0 A) (F0 m 36 ls []) := by
    intro n9
    induction n9 with
    | zero => intro k q9; exact absurd q9 (Nat.not_lt_zero _)
    | succ n9 ih36 =>
      intro k hn9 hk H locs ls hP hD hS hl
      refine lv_iload_n hx hb dX8_giveUp_36 rfl (lv_at hl 0 rfl) ?_
      refine lv_aload_n hx hb dX8_giveUp_37 rfl (lv_at hl 1 rfl) ?_
      refine va_get (D := g.1) (ci := 7) (v := .int (nI u9)) (C := RX8) (T := TX8) (N := 30) hx hb hts inX8 hown hK hP 0 rfl rfl 4 (by decide) (hts _ tw607) (fun _ h9 => h9) rfl dX8_giveUp_38 ?_
      refine lv_icmp_ge (tgt := 85) hx hb dX8_giveUp_41 (by decide) (fun c41 => ?_) (fun c41 => ?_)
      · have c41 := (nI_leI (a := u9) (b := k) (by omega) (by omega)).mp c41
        exact W.vret hx hb hr (fun t ht _ => ⟨⟨none, rfW g a (z_mem ρ) (gsR (va_up (z_R ρ) j (va_cpy (z_R ρ (64 + 0)) (z_R ρ j) 0 0 8)) k) (gsB (z_cb ρ) k) u9 (z_tu ρ) (z_bi ρ) (z_cg ρ) (z_on ρ) (z_T ρ) (z_dn ρ) (z_fa ρ) (z_br ρ) (z_bs ρ) (z_cp ρ) (z_cq ρ) (z_cx ρ) (z_re ρ) (z_n ρ) (z_op ρ) (z_fg ρ) (z_sp ρ) (z_one ρ), rfl, ⟨rfl, (fun (e9 : k = u9) => by subst e9; simp only [gvU, e8]) (by omega)⟩, rfl, by rw [ht]; exact hP⟩, hS.F ht⟩) hS.2.2 dX8_giveUp_85
      · have c41 := (not_congr (nI_leI (a := u9) (b := k) (by omega) (by omega))).mp c41
        refine lv_aload_n hx hb dX8_giveUp_44 rfl (lv_at hl 1 rfl) ?_
        refine va_get (D := g.1) (ci := 7) (v := .ref (a 4)) (C := RX8) (T := TX8) (N := 30) hx hb hts inX8 hown hK hP 0 rfl rfl 3 (by decide) (hts _ tw606) (fun _ h9 => h9) rfl dX8_giveUp_45 ?_
        refine lv_iload_n hx hb dX8_giveUp_48 rfl (lv_at hl 0 rfl) ?_
        refine lv_aload_n hx hb dX8_giveUp_49 rfl (lv_at hl 1 rfl) ?_
        refine va_get (D := g.1) (ci := 7) (v := .ref (a 4)) (C := RX8) (T := TX8) (N := 30) hx hb hts inX8 hown hK hP 0 rfl rfl 3 (by decide) (hts _ tw606) (fun _ h9 => h9) rfl dX8_giveUp_50 ?_
        refine lv_iload_n hx hb dX8_giveUp_53 rfl (lv_at hl 0 rfl) ?_
        refine lv_iconst (v := 1) hx hb dX8_giveUp_54 (by decide) ?_
        refine lv_iadd hx hb dX8_giveUp_55 ?_
        refine fr_topi (y := nI (k + 1)) (nI_1 _) ?_
        refine fr_iald (k := (k + 1)) hx hb hK hP 4 1 rfl rfl (by omega) (by decide) dX8_giveUp_56 ?_
        refine fr_iast (k := k) hx hb hK hP hD hS 4 1 rfl rfl (by omega) (by decide) dX8_giveUp_57 (fun H locs hP hD hS => ?_)
        have hP : va_P g.1 vwCl (rfW g a (z_mem ρ) (gsR (va_up (z_R ρ) j (va_cpy (z_R ρ (64 + 0)) (z_R ρ j) 0 0 8)) k) (upd (gsB (z_cb ρ) k) k ((gsB (z_cb ρ) k) (k + 1))) u9 (z_tu ρ) (z_bi ρ) (z_cg ρ) (z_on ρ) (z_T ρ) (z_dn ρ) (z_fa ρ) (z_br ρ) (z_bs ρ) (z_cp ρ) (z_cq ρ) (z_cx ρ) (z_re ρ) (z_n ρ) (z_op ρ) (z_fg ρ) (z_sp ρ) (z_one ρ)) H := hP
        have hD : va_D A (rfW g a (z_mem ρ) (gsR (va_up (z_R ρ) j (va_cpy (z_R ρ (64 + 0)) (z_R ρ j) 0 0 8)) k) (upd (gsB (z_cb ρ) k) k ((gsB (z_cb ρ) k) (k + 1))) u9 (z_tu ρ) (z_bi ρ) (z_cg ρ) (z_on ρ) (z_T ρ) (z_dn ρ) (z_fa ρ) (z_br ρ) (z_bs ρ) (z_cp ρ) (z_cq ρ) (z_cx ρ) (z_re ρ) (z_n ρ) (z_op ρ) (z_fg ρ) (z_sp ρ) (z_one ρ)) := hD
        refine lv_aload_n hx hb dX8_giveUp_58 rfl (lv_at hl 1 rfl) ?_
        refine va_get (D := g.1) (ci := 7) (v := .ref (a 3)) (C := RX8) (T := TX8) (N := 30) hx hb hts inX8 hown hK hP 0 rfl rfl 2 (by decide) (hts _ tw605) (fun _ h9 => h9) rfl dX8_giveUp_59 ?_
        refine lv_iload_n hx hb dX8_giveUp_62 rfl (lv_at hl 0 rfl) ?_
        refine lv_iconst (v := 1) hx hb dX8_giveUp_63 (by decide) ?_
        refine lv_iadd hx hb dX8_giveUp_64 ?_
        refine fr_topi (y := nI (k + 1)) (nI_1 _) ?_
        refine fr_aaldA (k := (k + 1)) (b := (a (15 + (64 + (k + 1))))) hx hb hK hP 3 5 rfl rfl rfl (by omega) (by decide) (if_pos (by omega)) dX8_giveUp_65 ?_
        refine lv_iconst (v := 0) hx hb dX8_giveUp_66 (by decide) ?_
        refine lv_aload_n hx hb dX8_giveUp_67 rfl (lv_at hl 1 rfl) ?_
        refine va_get (D := g.1) (ci := 7) (v := .ref (a 3)) (C := RX8) (T := TX8) (N := 30) hx hb hts inX8 hown hK hP 0 rfl rfl 2 (by decide) (hts _ tw605) (fun _ h9 => h9) rfl dX8_giveUp_68 ?_
        refine lv_iload_n hx hb dX8_giveUp_71 rfl (lv_at hl 0 rfl) ?_
        refine fr_aaldA (k := k) (b := (a (15 + (64 + k)))) hx hb hK hP 3 5 rfl rfl rfl (by omega) (by decide) (if_pos (by omega)) dX8_giveUp_72 ?_
        refine lv_iconst (v := 0) hx hb dX8_giveUp_73 (by decide) ?_
        refine lv_bipush (v := 8) hx hb dX8_giveUp_74 (by decide) ?_
        refine fr_copyl hx hb (hml.trans hl.1.symm) hown (hts _ tw737) (hts _ tw304) (hts _ tw303) (hts _ tw11) hK hP hD hS (15 + (64 + (k + 1))) (15 + (64 + k)) 0 0 (rfR (i := 64 + (k + 1)) (by omega)) (rfR (i := 64 + k) (by omega)) rfl rfl 0 0 8 rfl rfl rfl (by omega) (by omega) (by decide) (by decide) (Nat.le_of_ble_eq_true rfl) (Nat.le_of_ble_eq_true rfl) dX8_giveUp_76 (fun H locs hP hD hS => ?_)
        have hP : va_P g.1 vwCl (rfW g a (z_mem ρ) (va_up (gsR (va_up (z_R ρ) j (va_cpy (z_R ρ (64 + 0)) (z_R ρ j) 0 0 8)) k) (64 + k) (va_cpy ((gsR (va_up (z_R ρ) j (va_cpy (z_R ρ (64 + 0)) (z_R ρ j) 0 0 8)) k) (64 + (k + 1))) ((gsR (va_up (z_R ρ) j (va_cpy (z_R ρ (64 + 0)) (z_R ρ j) 0 0 8)) k) (64 + k)) 0 0 8)) (upd (gsB (z_cb ρ) k) k ((gsB (z_cb ρ) k) (k + 1))) u9 (z_tu ρ) (z_bi ρ) (z_cg ρ) (z_on ρ) (z_T ρ) (z_dn ρ) (z_fa ρ) (z_br ρ) (z_bs ρ) (z_cp ρ) (z_cq ρ) (z_cx ρ) (z_re ρ) (z_n ρ) (z_op ρ) (z_fg ρ) (z_sp ρ) (z_one ρ)) H := fr_eqP (rfR_set (i := 64 + k) (by omega)) hP
        have hD : va_D A (rfW g a (z_mem ρ) (va_up (gsR (va_up (z_R ρ) j (va_cpy (z_R ρ (64 + 0)) (z_R ρ j) 0 0 8)) k) (64 + k) (va_cpy ((gsR (va_up (z_R ρ) j (va_cpy (z_R ρ (64 + 0)) (z_R ρ j) 0 0 8)) k) (64 + (k + 1))) ((gsR (va_up (z_R ρ) j (va_cpy (z_R ρ (64 + 0)) (z_R ρ j) 0 0 8)) k) (64 + k)) 0 0 8)) (upd (gsB (z_cb ρ) k) k ((gsB (z_cb ρ) k) (k + 1))) u9 (z_tu ρ) (z_bi ρ) (z_cg ρ) (z_on ρ) (z_T ρ) (z_dn ρ) (z_fa ρ) (z_br ρ) (z_bs ρ) (z_cp ρ) (z_cq ρ) (z_cx ρ) (z_re ρ) (z_n ρ) (z_op ρ) (z_fg ρ) (z_sp ρ) (z_one ρ)) := fr_eqD (rfR_set (i := 64 + k) (by omega)) hD
        refine lv_iinc (v := nI (k + 1)) (lv' := [(1, .int (nI (k + 1))), (0, .ref (a 0))]) hx hb dX8_giveUp_79 hl (k := 0) rfl (nI_1 _) (by decide) rfl (fun ls hl => ?_)
        refine lv_goto (tgt := 36) hx hb dX8_giveUp_82 (by decide) ?_
        exact ih36 (k + 1) (by omega) (by omega) H locs ls hP hD hS (lv_sub hl [0, 1] rfl)
  exact lp36 _ 0 (Nat.lt_succ_self _) (Nat.zero_le _) H locs ls hP hD hS (lv_sub hl [0, 1] rfl)
