set_option maxHeartbeats 4000000 in
set_option maxRecDepth 100000 in
/-- wrongOfBlockOp -/
theorem kX7_wrongOfBlockOp (l : Launch) (g : GG) (a : Nat → Nat) (σ : CS) (hn9 : x_n σ ≤ 256) : Ct l yX7_wrongOfBlockOp cX7_wrongOfBlockOp 2 (some .int) ({ frames := 4, cells := 0, slots := 0, locals := 93 } : Room) g [.ref (a 0)] (dvW g a (x_mem σ) (x_med σ) (x_cb σ) (x_ca σ) (x_nc σ) (x_cg σ) (x_T σ) (x_op σ) (x_id σ) (x_fg σ) (x_n σ) (x_cp σ) (x_cq σ) (x_cx σ) (x_pg σ) (x_fi σ) (x_F σ) (x_rw σ) (x_on σ) (x_bi σ) (x_tu σ) (x_re σ) (x_dw σ) (x_dq σ) (x_br σ) (x_bs σ)) (fun v w' => v = some (.int (r_wr σ)) ∧ w' = dvW g a (x_mem (g_wr σ)) (x_med (g_wr σ)) (x_cb (g_wr σ)) (x_ca (g_wr σ)) (x_nc (g_wr σ)) (x_cg (g_wr σ)) (x_T (g_wr σ)) (x_op (g_wr σ)) (x_id (g_wr σ)) (x_fg (g_wr σ)) (x_n (g_wr σ)) (x_cp (g_wr σ)) (x_cq (g_wr σ)) (x_cx (g_wr σ)) (x_pg (g_wr σ)) (x_fi (g_wr σ)) (x_F (g_wr σ)) (x_rw (g_wr σ)) (x_on (g_wr σ)) (x_bi (g_wr σ)) (x_tu (g_wr σ)) (x_re (g_wr σ)) (x_dw (g_wr σ)) (x_dq (g_wr σ)) (x_br (g_wr σ)) (x_bs (g_wr σ))) := by
  refine Ct.of (by decide) (Nat.le_of_ble_eq_true rfl) ?_
  intro p e s m below meth c A ls H locs hx hb hr hml hlocks hts hown hin hA hS hK hP hD hl
  have hown : s.vm.findClass RX7 = some m.cls := hown
  have hl : lv_has ls 2 [(0, .ref (a 0))] := hl
  refine lv_aload_n hx hb dX7_wrongOfBlockOp_0 rfl (lv_at hl 0 rfl) ?_
  refine va_get (D := g.1) (ci := 6) (v := .ref (a 9)) (C := RX7) (T := TX7) (N := 15) hx hb hts inX7 hown hK hP 0 rfl rfl 4 (by decide) (hts _ tw187) (fun _ h9 => h9) rfl dX7_wrongOfBlockOp_1 ?_
  refine va_get (D := g.1) (ci := 0) (v := .int (x_op σ)) (C := RX0) (T := TX0) (N := 7) hx hb hts inX0 hown hK hP 9 rfl rfl 0 (by decide) (hts _ tw136) (fun _ h9 => h9) rfl dX7_wrongOfBlockOp_4 ?_
  refine lv_bipush (v := 16) hx hb dX7_wrongOfBlockOp_7 (by decide) ?_
  refine lv_icmp_lt (tgt := 24) hx hb dX7_wrongOfBlockOp_9 (by decide) (fun c9 => ?_) (fun c9 => ?_)
  · refine lv_iconst (v := 1) hx hb dX7_wrongOfBlockOp_24 (by decide) ?_
    exact W.iret (v := 1) hx hb hr (fun t ht _ => ⟨⟨(some (.int 1)), dvW g a (x_mem σ) (x_med σ) (x_cb σ) (x_ca σ) (x_nc σ) (x_cg σ) (x_T σ) (x_op σ) (x_id σ) (x_fg σ) (x_n σ) (x_cp σ) (x_cq σ) (x_cx σ) (x_pg σ) (x_fi σ) (x_F σ) (x_rw σ) (x_on σ) (x_bi σ) (x_tu σ) (x_re σ) (x_dw σ) (x_dq σ) (x_br σ) (x_bs σ), rfl, ⟨congrArg (fun z : Int32 => some (Value.int z)) (by rw [r_wr, if_pos c9]), by rw [g_wr, if_pos c9] <;> rfl⟩, rfl, by rw [ht]; exact hP⟩, hS.F ht⟩) hS.2.2 dX7_wrongOfBlockOp_25
  · refine lv_aload_n hx hb dX7_wrongOfBlockOp_12 rfl (lv_at hl 0 rfl) ?_
    refine va_get (D := g.1) (ci := 6) (v := .ref (a 9)) (C := RX7) (T := TX7) (N := 15) hx hb hts inX7 hown hK hP 0 rfl rfl 4 (by decide) (hts _ tw187) (fun _ h9 => h9) rfl dX7_wrongOfBlockOp_13 ?_
    refine va_get (D := g.1) (ci := 0) (v := .int (x_op σ)) (C := RX0) (T := TX0) (N := 7) hx hb hts inX0 hown hK hP 9 rfl rfl 0 (by decide) (hts _ tw136) (fun _ h9 => h9) rfl dX7_wrongOfBlockOp_16 ?_
    refine lv_bipush (v := 21) hx hb dX7_wrongOfBlockOp_19 (by decide) ?_
    refine lv_icmp_le (tgt := 26) hx hb dX7_wrongOfBlockOp_21 (by decide) (fun c21 => ?_) (fun c21 => ?_)
    · refine lv_aload_n hx hb dX7_wrongOfBlockOp_26 rfl (lv_at hl 0 rfl) ?_
      refine va_get (D := g.1) (ci := 6) (v := .ref (a 9)) (C := RX7) (T := TX7) (N := 15) hx hb hts inX7 hown hK hP 0 rfl rfl 4 (by decide) (hts _ tw187) (fun _ h9 => h9) rfl dX7_wrongOfBlockOp_27 ?_
      refine va_get (D := g.1) (ci := 0) (v := .int (x_op σ)) (C := RX0) (T := TX0) (N := 7) hx hb hts inX0 hown hK hP 9 rfl rfl 0 (by decide) (hts _ tw136) (fun _ h9 => h9) rfl dX7_wrongOfBlockOp_30 ?_
      refine lv_bipush (v := 16) hx hb dX7_wrongOfBlockOp_33 (by decide) ?_
      refine lv_icmp_ne (tgt := 40) hx hb dX7_wrongOfBlockOp_35 (by decide) (fun c35 => ?_) (fun c35 => ?_)
      · refine lv_aload_n hx hb dX7_wrongOfBlockOp_40 rfl (lv_at hl 0 rfl) ?_
        refine va_get (D := g.1) (ci := 6) (v := .ref (a 9)) (C := RX7) (T := TX7) (N := 15) hx hb hts inX7 hown hK hP 0 rfl rfl 4 (by decide) (hts _ tw187) (fun _ h9 => h9) rfl dX7_wrongOfBlockOp_41 ?_
        refine va_get (D := g.1) (ci := 0) (v := .long (x_cx σ)) (C := RX0) (T := TX0) (N := 7) hx hb hts inX0 hown hK hP 9 rfl rfl 6 (by decide) (hts _ tw151) (fun _ h9 => h9) rfl dX7_wrongOfBlockOp_44 ?_
        refine fr_go (va_runS (As := [.long (x_cx σ)]) (rest := []) ⟨hx, hb, hml, hown, hts⟩ (kX3_isBlock l g (x_cx σ) H.size) (va_cwS 1 hts (gdS tw496 tw497 tw3 tw498) rfl rfl rfl (by decide +kernel) ⟨Nat.le_of_ble_eq_true rfl, Nat.le_of_ble_eq_true rfl⟩) ⟨Pst.blind, fr_pre hK hP hD [] rfl rfl⟩ rfl rfl hl.1 rfl (lv_room (Nat.le_of_ble_eq_true rfl)) dX7_wrongOfBlockOp_47 ⟨Nat.le_of_ble_eq_true rfl, Nat.le_of_ble_eq_true rfl⟩) hP hD hS hA [] rfl (fun v w9 H locs hq hP hD hS => ?_)
        obtain ⟨rfl, rfl⟩ := hq
        have hP : va_P g.1 vwCl (dvW g a (x_mem σ) (x_med σ) (x_cb σ) (x_ca σ) (x_nc σ) (x_cg σ) (x_T σ) (x_op σ) (x_id σ) (x_fg σ) (x_n σ) (x_cp σ) (x_cq σ) (x_cx σ) (x_pg σ) (x_fi σ) (x_F σ) (x_rw σ) (x_on σ) (x_bi σ) (x_tu σ) (x_re σ) (x_dw σ) (x_dq σ) (x_br σ) (x_bs σ)) H := hP
        have hD : va_D A (dvW g a (x_mem σ) (x_med σ) (x_cb σ) (x_ca σ) (x_nc σ) (x_cg σ) (x_T σ) (x_op σ) (x_id σ) (x_fg σ) (x_n σ) (x_cp σ) (x_cq σ) (x_cx σ) (x_pg σ) (x_fi σ) (x_F σ) (x_rw σ) (x_on σ) (x_bi σ) (x_tu σ) (x_re σ) (x_dw σ) (x_dq σ) (x_br σ) (x_bs σ)) := hD
        show W p l e _ s m _ below meth c H locs _ _ _ (F0 m (47 + 3) ls (.int (bI (isb (x_cx σ))) :: []))
        refine lv_if_eq (tgt := 77) hx hb dX7_wrongOfBlockOp_50 (by decide) (fun c50 => ?_) (fun c50 => ?_)
        · have c50 := bI_f c50
          refine lv_iconst (v := 3) hx hb dX7_wrongOfBlockOp_77 (by decide) ?_
          exact W.iret (v := 3) hx hb hr (fun t ht _ => ⟨⟨(some (.int 3)), dvW g a (x_mem σ) (x_med σ) (x_cb σ) (x_ca σ) (x_nc σ) (x_cg σ) (x_T σ) (x_op σ) (x_id σ) (x_fg σ) (x_n σ) (x_cp σ) (x_cq σ) (x_cx σ) (x_pg σ) (x_fi σ) (x_F σ) (x_rw σ) (x_on σ) (x_bi σ) (x_tu σ) (x_re σ) (x_dw σ) (x_dq σ) (x_br σ) (x_bs σ), rfl, ⟨congrArg (fun z : Int32 => some (Value.int z)) (by rw [r_wr, if_neg c9, if_neg (show ¬ 21 < x_op σ from Int32.not_lt.mpr c21), if_neg c35, if_neg (show ¬ blO σ from fun q => c50 q.1)]), by rw [g_wr, if_neg c9, if_neg (show ¬ 21 < x_op σ from Int32.not_lt.mpr c21), if_neg c35, if_neg (show ¬ blO σ from fun q => c50 q.1)] <;> rfl⟩, rfl, by rw [ht]; exact hP⟩, hS.F ht⟩) hS.2.2 dX7_wrongOfBlockOp_78
        · have c50 := bI_t c50
          refine lv_aload_n hx hb dX7_wrongOfBlockOp_53 rfl (lv_at hl 0 rfl) ?_
          refine va_get (D := g.1) (ci := 6) (v := .ref (a 9)) (C := RX7) (T := TX7) (N := 15) hx hb hts inX7 hown hK hP 0 rfl rfl 4 (by decide) (hts _ tw187) (fun _ h9 => h9) rfl dX7_wrongOfBlockOp_54 ?_
          refine va_get (D := g.1) (ci := 0) (v := .long (x_cx σ)) (C := RX0) (T := TX0) (N := 7) hx hb hts inX0 hown hK hP 9 rfl rfl 6 (by decide) (hts _ tw151) (fun _ h9 => h9) rfl dX7_wrongOfBlockOp_57 ?_
          refine lv_aload_n hx hb dX7_wrongOfBlockOp_60 rfl (lv_at hl 0 rfl) ?_
          refine va_get (D := g.1) (ci := 6) (v := .ref (a 9)) (C := RX7) (T := TX7) (N := 15) hx hb hts inX7 hown hK hP 0 rfl rfl 4 (by decide) (hts _ tw187) (fun _ h9 => h9) rfl dX7_wrongOfBlockOp_61 ?_
          refine va_get (D := g.1) (ci := 0) (v := .int (nI (x_n σ))) (C := RX0) (T := TX0) (N := 7) hx hb hts inX0 hown hK hP 9 rfl rfl 3 (by decide) (hts _ tw143) (fun _ h9 => h9) rfl dX7_wrongOfBlockOp_64 ?_
          refine lv_i2l hx hb dX7_wrongOfBlockOp_67 rfl ?_
          refine lv_ladd hx hb dX7_wrongOfBlockOp_68 ?_
          refine lv_lconst (v := 1) hx hb dX7_wrongOfBlockOp_69 (by decide) ?_
          refine lv_lsub hx hb dX7_wrongOfBlockOp_70 ?_
          refine fr_go (va_runS (As := [.long (((x_cx σ) + ((nI (x_n σ)).toInt64)) - 1)]) (rest := []) ⟨hx, hb, hml, hown, hts⟩ (kX3_isBlock l g (((x_cx σ) + ((nI (x_n σ)).toInt64)) - 1) H.size) (va_cwS 1 hts (gdS tw496 tw497 tw3 tw498) rfl rfl rfl (by decide +kernel) ⟨Nat.le_of_ble_eq_true rfl, Nat.le_of_ble_eq_true rfl⟩) ⟨Pst.blind, fr_pre hK hP hD [] rfl rfl⟩ rfl rfl hl.1 rfl (lv_room (Nat.le_of_ble_eq_true rfl)) dX7_wrongOfBlockOp_71 ⟨Nat.le_of_ble_eq_true rfl, Nat.le_of_ble_eq_true rfl⟩) hP hD hS hA [] rfl (fun v w9 H locs hq hP hD hS => ?_)
          obtain ⟨rfl, rfl⟩ := hq
          have hP : va_P g.1 vwCl (dvW g a (x_mem σ) (x_med σ) (x_cb σ) (x_ca σ) (x_nc σ) (x_cg σ) (x_T σ) (x_op σ) (x_id σ) (x_fg σ) (x_n σ) (x_cp σ) (x_cq σ) (x_cx σ) (x_pg σ) (x_fi σ) (x_F σ) (x_rw σ) (x_on σ) (x_bi σ) (x_tu σ) (x_re σ) (x_dw σ) (x_dq σ) (x_br σ) (x_bs σ)) H := hP
          have hD : va_D A (dvW g a (x_mem σ) (x_med σ) (x_cb σ) (x_ca σ) (x_nc σ) (x_cg σ) (x_T σ) (x_op σ) (x_id σ) (x_fg σ) (x_n σ) (x_cp σ) (x_cq σ) (x_cx σ) (x_pg σ) (x_fi σ) (x_F σ) (x_rw σ) (x_on σ) (x_bi σ) (x_tu σ) (x_re σ) (x_dw σ) (x_dq σ) (x_br σ) (x_bs σ)) := hD
          show W p l e _ s m _ below meth c H locs _ _ _ (F0 m (71 + 3) ls (.int (bI (isb (((x_cx σ) + ((nI (x_n σ)).toInt64)) - 1))) :: []))
          refine lv_if_ne (tgt := 79) hx hb dX7_wrongOfBlockOp_74 (by decide) (fun c74 => ?_) (fun c74 => ?_)
          · have c74 := bI_t c74
            refine lv_aload_n hx hb dX7_wrongOfBlockOp_79 rfl (lv_at hl 0 rfl) ?_
            refine va_get (D := g.1) (ci := 6) (v := .ref (a 9)) (C := RX7) (T := TX7) (N := 15) hx hb hts inX7 hown hK hP 0 rfl rfl 4 (by decide) (hts _ tw187) (fun _ h9 => h9) rfl dX7_wrongOfBlockOp_80 ?_
            refine va_get (D := g.1) (ci := 0) (v := .int (x_op σ)) (C := RX0) (T := TX0) (N := 7) hx hb hts inX0 hown hK hP 9 rfl rfl 0 (by decide) (hts _ tw136) (fun _ h9 => h9) rfl dX7_wrongOfBlockOp_83 ?_
            refine lv_bipush (v := 20) hx hb dX7_wrongOfBlockOp_86 (by decide) ?_
            refine lv_icmp_ne (tgt := 93) hx hb dX7_wrongOfBlockOp_88 (by decide) (fun c88 => ?_) (fun c88 => ?_)
            · refine lv_aload_n hx hb dX7_wrongOfBlockOp_93 rfl (lv_at hl 0 rfl) ?_
              refine va_get (D := g.1) (ci := 6) (v := .ref (a 9)) (C := RX7) (T := TX7) (N := 15) hx hb hts inX7 hown hK hP 0 rfl rfl 4 (by decide) (hts _ tw187) (fun _ h9 => h9) rfl dX7_wrongOfBlockOp_94 ?_
              refine va_get (D := g.1) (ci := 0) (v := .int (x_op σ)) (C := RX0) (T := TX0) (N := 7) hx hb hts inX0 hown hK hP 9 rfl rfl 0 (by decide) (hts _ tw136) (fun _ h9 => h9) rfl dX7_wrongOfBlockOp_97 ?_
              refine lv_bipush (v := 21) hx hb dX7_wrongOfBlockOp_100 (by decide) ?_
              refine lv_icmp_ne (tgt := 153) hx hb dX7_wrongOfBlockOp_102 (by decide) (fun c102 => ?_) (fun c102 => ?_)
              · refine lv_aload_n hx hb dX7_wrongOfBlockOp_153 rfl (lv_at hl 0 rfl) ?_
                refine va_get (D := g.1) (ci := 6) (v := .ref (a 10)) (C := RX7) (T := TX7) (N := 15) hx hb hts inX7 hown hK hP 0 rfl rfl 5 (by decide) (hts _ tw188) (fun _ h9 => h9) rfl dX7_wrongOfBlockOp_154 ?_
                refine lv_aload_n hx hb dX7_wrongOfBlockOp_157 rfl (lv_at hl 0 rfl) ?_
                refine va_get (D := g.1) (ci := 6) (v := .ref (a 1)) (C := RX7) (T := TX7) (N := 15) hx hb hts inX7 hown hK hP 0 rfl rfl 0 (by decide) (hts _ tw183) (fun _ h9 => h9) rfl dX7_wrongOfBlockOp_158 ?_
                refine lv_aload_n hx hb dX7_wrongOfBlockOp_161 rfl (lv_at hl 0 rfl) ?_
                refine va_get (D := g.1) (ci := 6) (v := .ref (a 9)) (C := RX7) (T := TX7) (N := 15) hx hb hts inX7 hown hK hP 0 rfl rfl 4 (by decide) (hts _ tw187) (fun _ h9 => h9) rfl dX7_wrongOfBlockOp_162 ?_
                refine fr_go (va_runV (As := [.ref (a 1), .ref (a 9)]) (rest := []) ⟨hx, hb, hml, hown, hts⟩ (kX2_layByPages l g (a 10) (a 11) (x_fi σ) (x_F σ) (x_pg σ) (a 1) (a 2) (x_mem σ) (a 9) (x_op σ) (x_id σ) (x_fg σ) (x_n σ) (x_cp σ) (x_cq σ) (x_cx σ) hn9 H.size) (cwV 2 hts (gdV tw448 tw449 tw450 tw8 tw451) rfl rfl rfl (by decide +kernel) ⟨Nat.le_of_ble_eq_true rfl, Nat.le_of_ble_eq_true rfl⟩) ⟨Pst.blind, va_recv hK hP (ci := 2) (q0 := 10) rfl rfl, fr_pre hK hP hD [10, 11, 1, 2, 9] (by decide) rfl⟩ rfl rfl hl.1 rfl (lv_room (Nat.le_of_ble_eq_true rfl)) dX7_wrongOfBlockOp_165 ⟨Nat.le_of_ble_eq_true rfl, Nat.le_of_ble_eq_true rfl⟩) hP hD hS hA [10, 11, 1, 2, 9] rfl (fun v w9 H locs hq hP hD hS => ?_)
                obtain ⟨rfl, rfl⟩ := hq
                have hP : va_P g.1 vwCl (dvW g a (x_mem σ) (x_med σ) (x_cb σ) (x_ca σ) (x_nc σ) (x_cg σ) (x_T σ) (x_op σ) (x_id σ) (x_fg σ) (x_n σ) (x_cp σ) (x_cq σ) (x_cx σ) (lyP (x_pg σ) (x_mem σ) (x_cp σ) (x_cq σ) (x_n σ)) (if hol (x_cp σ) then nI (pN (x_cp σ)) else (x_fi σ)) (if hol (x_cp σ) then fsN (x_n σ) (pN (x_cp σ)) else (x_F σ)) (x_rw σ) (x_on σ) (x_bi σ) (x_tu σ) (x_re σ) (x_dw σ) (x_dq σ) (x_br σ) (x_bs σ)) H := hP
                have hD : va_D A (dvW g a (x_mem σ) (x_med σ) (x_cb σ) (x_ca σ) (x_nc σ) (x_cg σ) (x_T σ) (x_op σ) (x_id σ) (x_fg σ) (x_n σ) (x_cp σ) (x_cq σ) (x_cx σ) (lyP (x_pg σ) (x_mem σ) (x_cp σ) (x_cq σ) (x_n σ)) (if hol (x_cp σ) then nI (pN (x_cp σ)) else (x_fi σ)) (if hol (x_cp σ) then fsN (x_n σ) (pN (x_cp σ)) else (x_F σ)) (x_rw σ) (x_on σ) (x_bi σ) (x_tu σ) (x_re σ) (x_dw σ) (x_dq σ) (x_br σ) (x_bs σ)) := hD
                show W p l e _ s m _ below meth c H locs _ _ _ (F0 m (165 + 3) ls (.int (bI (lyOk (x_mem σ) (x_cp σ) (x_cq σ) (x_n σ))) :: []))
                refine lv_istore_n (lv' := [(1, .int (bI (lyOk (x_mem σ) (x_cp σ) (x_cq σ) (x_n σ)))), (0, .ref (a 0))]) hx hb dX7_wrongOfBlockOp_168 rfl hl (by decide) rfl (fun ls hl => ?_)
                refine lv_iload_n hx hb dX7_wrongOfBlockOp_169 rfl (lv_at hl 0 rfl) ?_
                refine lv_if_eq (tgt := 177) hx hb dX7_wrongOfBlockOp_170 (by decide) (fun c170 => ?_) (fun c170 => ?_)
                · have c170 := bI_f c170
                  refine lv_iconst (v := 4) hx hb dX7_wrongOfBlockOp_177 (by decide) ?_
                  exact W.iret (v := 4) hx hb hr (fun t ht _ => ⟨⟨(some (.int 4)), dvW g a (x_mem σ) (x_med σ) (x_cb σ) (x_ca σ) (x_nc σ) (x_cg σ) (x_T σ) (x_op σ) (x_id σ) (x_fg σ) (x_n σ) (x_cp σ) (x_cq σ) (x_cx σ) (lyP (x_pg σ) (x_mem σ) (x_cp σ) (x_cq σ) (x_n σ)) (if hol (x_cp σ) then nI (pN (x_cp σ)) else (x_fi σ)) (if hol (x_cp σ) then fsN (x_n σ) (pN (x_cp σ)) else (x_F σ)) (x_rw σ) (x_on σ) (x_bi σ) (x_tu σ) (x_re σ) (x_dw σ) (x_dq σ) (x_br σ) (x_bs σ), rfl, ⟨congrArg (fun z : Int32 => some (Value.int z)) (by rw [r_wr, if_neg c9, if_neg (show ¬ 21 < x_op σ from Int32.not_lt.mpr c21), if_neg c35, if_pos (show blO σ from ⟨c50, c74⟩), if_neg c88, if_neg c102, if_neg c170]), by rw [g_wr, if_neg c9, if_neg (show ¬ 21 < x_op σ from Int32.not_lt.mpr c21), if_neg c35, if_pos (show blO σ from ⟨c50, c74⟩), if_neg c88, if_neg c102] <;> rfl⟩, rfl, by rw [ht]; exact hP⟩, hS.F ht⟩) hS.2.2 dX7_wrongOfBlockOp_178
                · have c170 := bI_t c170
                  refine lv_iconst (v := 0) hx hb dX7_wrongOfBlockOp_173 (by decide) ?_
                  refine lv_goto (tgt := 178) hx hb dX7_wrongOfBlockOp_174 (by decide) ?_
                  exact W.iret (v := 0) hx hb hr (fun t ht _ => ⟨⟨(some (.int 0)), dvW g a (x_mem σ) (x_med σ) (x_cb σ) (x_ca σ) (x_nc σ) (x_cg σ) (x_T σ) (x_op σ) (x_id σ) (x_fg σ) (x_n σ) (x_cp σ) (x_cq σ) (x_cx σ) (lyP (x_pg σ) (x_mem σ) (x_cp σ) (x_cq σ) (x_n σ)) (if hol (x_cp σ) then nI (pN (x_cp σ)) else (x_fi σ)) (if hol (x_cp σ) then fsN (x_n σ) (pN (x_cp σ)) else (x_F σ)) (x_rw σ) (x_on σ) (x_bi σ) (x_tu σ) (x_re σ) (x_dw σ) (x_dq σ) (x_br σ) (x_bs σ), rfl, ⟨congrArg (fun z : Int32 => some (Value.int z)) (by rw [r_wr, if_neg c9, if_neg (show ¬ 21 < x_op σ from Int32.not_lt.mpr c21), if_neg c35, if_pos (show blO σ from ⟨c50, c74⟩), if_neg c88, if_neg c102, if_pos c170]), by rw [g_wr, if_neg c9, if_neg (show ¬ 21 < x_op σ from Int32.not_lt.mpr c21), if_neg c35, if_pos (show blO σ from ⟨c50, c74⟩), if_neg c88, if_neg c102] <;> rfl⟩, rfl, by rw [ht]; exact hP⟩, hS.F ht⟩) hS.2.2 dX7_wrongOfBlockOp_178
              · refine lv_aload_n hx hb dX7_wrongOfBlockOp_105 rfl (lv_at hl 0 rfl) ?_
                refine va_get (D := g.1) (ci := 6) (v := .ref (a 9)) (C := RX7) (T := TX7) (N := 15) hx hb hts inX7 hown hK hP 0 rfl rfl 4 (by decide) (hts _ tw187) (fun _ h9 => h9) rfl dX7_wrongOfBlockOp_106 ?_
                refine va_get (D := g.1) (ci := 0) (v := .long (x_cp σ)) (C := RX0) (T := TX0) (N := 7) hx hb hts inX0 hown hK hP 9 rfl rfl 4 (by decide) (hts _ tw146) (fun _ h9 => h9) rfl dX7_wrongOfBlockOp_109 ?_
                refine lv_aload_n hx hb dX7_wrongOfBlockOp_112 rfl (lv_at hl 0 rfl) ?_
                refine va_get (D := g.1) (ci := 6) (v := .ref (a 9)) (C := RX7) (T := TX7) (N := 15) hx hb hts inX7 hown hK hP 0 rfl rfl 4 (by decide) (hts _ tw187) (fun _ h9 => h9) rfl dX7_wrongOfBlockOp_113 ?_
                refine va_get (D := g.1) (ci := 0) (v := .int (nI (x_n σ))) (C := RX0) (T := TX0) (N := 7) hx hb hts inX0 hown hK hP 9 rfl rfl 3 (by decide) (hts _ tw143) (fun _ h9 => h9) rfl dX7_wrongOfBlockOp_116 ?_
                refine fr_go (va_runS (As := [.long (x_cp σ), .int (nI (x_n σ))]) (rest := []) ⟨hx, hb, hml, hown, hts⟩ (kX2_fitsStraight l g (x_cp σ) (x_n σ) H.size) (va_cwS 2 hts (gdS tw500 tw501 tw8 tw502) rfl rfl rfl (by decide +kernel) ⟨Nat.le_of_ble_eq_true rfl, Nat.le_of_ble_eq_true rfl⟩) ⟨Pst.blind, fr_pre hK hP hD [] rfl rfl⟩ rfl rfl hl.1 rfl (lv_room (Nat.le_of_ble_eq_true rfl)) dX7_wrongOfBlockOp_119 ⟨Nat.le_of_ble_eq_true rfl, Nat.le_of_ble_eq_true rfl⟩) hP hD hS hA [] rfl (fun v w9 H locs hq hP hD hS => ?_)
                obtain ⟨rfl, rfl⟩ := hq
                have hP : va_P g.1 vwCl (dvW g a (x_mem σ) (x_med σ) (x_cb σ) (x_ca σ) (x_nc σ) (x_cg σ) (x_T σ) (x_op σ) (x_id σ) (x_fg σ) (x_n σ) (x_cp σ) (x_cq σ) (x_cx σ) (x_pg σ) (x_fi σ) (x_F σ) (x_rw σ) (x_on σ) (x_bi σ) (x_tu σ) (x_re σ) (x_dw σ) (x_dq σ) (x_br σ) (x_bs σ)) H := hP
                have hD : va_D A (dvW g a (x_mem σ) (x_med σ) (x_cb σ) (x_ca σ) (x_nc σ) (x_cg σ) (x_T σ) (x_op σ) (x_id σ) (x_fg σ) (x_n σ) (x_cp σ) (x_cq σ) (x_cx σ) (x_pg σ) (x_fi σ) (x_F σ) (x_rw σ) (x_on σ) (x_bi σ) (x_tu σ) (x_re σ) (x_dw σ) (x_dq σ) (x_br σ) (x_bs σ)) := hD
                show W p l e _ s m _ below meth c H locs _ _ _ (F0 m (119 + 3) ls (.int (bI (hpg (x_cp σ) ∧ ¬ 1024 < (x_cp σ) + (nI ((x_n σ) * 8)).toInt64)) :: []))
                refine lv_if_eq (tgt := 149) hx hb dX7_wrongOfBlockOp_122 (by decide) (fun c122 => ?_) (fun c122 => ?_)
                · have c122 := bI_f c122
                  refine lv_iconst (v := 0) hx hb dX7_wrongOfBlockOp_149 (by decide) ?_
                  refine lv_goto (tgt := 168) hx hb dX7_wrongOfBlockOp_150 (by decide) ?_
                  refine lv_istore_n (lv' := [(1, .int 0), (0, .ref (a 0))]) hx hb dX7_wrongOfBlockOp_168 rfl hl (by decide) rfl (fun ls hl => ?_)
                  refine lv_iload_n hx hb dX7_wrongOfBlockOp_169 rfl (lv_at hl 0 rfl) ?_
                  refine lv_if_eq (tgt := 177) hx hb dX7_wrongOfBlockOp_170 (by decide) (fun _ => ?_) (fun q9 => absurd rfl q9)
                  refine lv_iconst (v := 4) hx hb dX7_wrongOfBlockOp_177 (by decide) ?_
                  exact W.iret (v := 4) hx hb hr (fun t ht _ => ⟨⟨(some (.int 4)), dvW g a (x_mem σ) (x_med σ) (x_cb σ) (x_ca σ) (x_nc σ) (x_cg σ) (x_T σ) (x_op σ) (x_id σ) (x_fg σ) (x_n σ) (x_cp σ) (x_cq σ) (x_cx σ) (x_pg σ) (x_fi σ) (x_F σ) (x_rw σ) (x_on σ) (x_bi σ) (x_tu σ) (x_re σ) (x_dw σ) (x_dq σ) (x_br σ) (x_bs σ), rfl, ⟨congrArg (fun z : Int32 => some (Value.int z)) (by rw [r_wr, if_neg c9, if_neg (show ¬ 21 < x_op σ from Int32.not_lt.mpr c21), if_neg c35, if_pos (show blO σ from ⟨c50, c74⟩), if_neg c88, if_pos c102, if_neg (fun q => c122 q.1)]), by rw [g_wr, if_neg c9, if_neg (show ¬ 21 < x_op σ from Int32.not_lt.mpr c21), if_neg c35, if_pos (show blO σ from ⟨c50, c74⟩), if_neg c88, if_pos c102] <;> rfl⟩, rfl, by rw [ht]; exact hP⟩, hS.F ht⟩) hS.2.2 dX7_wrongOfBlockOp_178
                · have c122 := bI_t c122
                  refine lv_aload_n hx hb dX7_wrongOfBlockOp_125 rfl (lv_at hl 0 rfl) ?_
                  refine va_get (D := g.1) (ci := 6) (v := .ref (a 9)) (C := RX7) (T := TX7) (N := 15) hx hb hts inX7 hown hK hP 0 rfl rfl 4 (by decide) (hts _ tw187) (fun _ h9 => h9) rfl dX7_wrongOfBlockOp_126 ?_
                  refine va_get (D := g.1) (ci := 0) (v := .long (x_cq σ)) (C := RX0) (T := TX0) (N := 7) hx hb hts inX0 hown hK hP 9 rfl rfl 5 (by decide) (hts _ tw149) (fun _ h9 => h9) rfl dX7_wrongOfBlockOp_129 ?_
                  refine lv_aload_n hx hb dX7_wrongOfBlockOp_132 rfl (lv_at hl 0 rfl) ?_
                  refine va_get (D := g.1) (ci := 6) (v := .ref (a 9)) (C := RX7) (T := TX7) (N := 15) hx hb hts inX7 hown hK hP 0 rfl rfl 4 (by decide) (hts _ tw187) (fun _ h9 => h9) rfl dX7_wrongOfBlockOp_133 ?_
                  refine va_get (D := g.1) (ci := 0) (v := .int (nI (x_n σ))) (C := RX0) (T := TX0) (N := 7) hx hb hts inX0 hown hK hP 9 rfl rfl 3 (by decide) (hts _ tw143) (fun _ h9 => h9) rfl dX7_wrongOfBlockOp_136 ?_
                  refine fr_go (va_runS (As := [.long (x_cq σ), .int (nI (x_n σ))]) (rest := []) ⟨hx, hb, hml, hown, hts⟩ (kX2_fitsStraight l g (x_cq σ) (x_n σ) H.size) (va_cwS 2 hts (gdS tw500 tw501 tw8 tw502) rfl rfl rfl (by decide +kernel) ⟨Nat.le_of_ble_eq_true rfl, Nat.le_of_ble_eq_true rfl⟩) ⟨Pst.blind, fr_pre hK hP hD [] rfl rfl⟩ rfl rfl hl.1 rfl (lv_room (Nat.le_of_ble_eq_true rfl)) dX7_wrongOfBlockOp_139 ⟨Nat.le_of_ble_eq_true rfl, Nat.le_of_ble_eq_true rfl⟩) hP hD hS hA [] rfl (fun v w9 H locs hq hP hD hS => ?_)
                  obtain ⟨rfl, rfl⟩ := hq
                  have hP : va_P g.1 vwCl (dvW g a (x_mem σ) (x_med σ) (x_cb σ) (x_ca σ) (x_nc σ) (x_cg σ) (x_T σ) (x_op σ) (x_id σ) (x_fg σ) (x_n σ) (x_cp σ) (x_cq σ) (x_cx σ) (x_pg σ) (x_fi σ) (x_F σ) (x_rw σ) (x_on σ) (x_bi σ) (x_tu σ) (x_re σ) (x_dw σ) (x_dq σ) (x_br σ) (x_bs σ)) H := hP
                  have hD : va_D A (dvW g a (x_mem σ) (x_med σ) (x_cb σ) (x_ca σ) (x_nc σ) (x_cg σ) (x_T σ) (x_op σ) (x_id σ) (x_fg σ) (x_n σ) (x_cp σ) (x_cq σ) (x_cx σ) (x_pg σ) (x_fi σ) (x_F σ) (x_rw σ) (x_on σ) (x_bi σ) (x_tu σ) (x_re σ) (x_dw σ) (x_dq σ) (x_br σ) (x_bs σ)) := hD
                  show W p l e _ s m _ below meth c H locs _ _ _ (F0 m (139 + 3) ls (.int (bI (hpg (x_cq σ) ∧ ¬ 1024 < (x_cq σ) + (nI ((x_n σ) * 8)).toInt64)) :: []))
                  refine lv_if_eq (tgt := 149) hx hb dX7_wrongOfBlockOp_142 (by decide) (fun c142 => ?_) (fun c142 => ?_)
                  · have c142 := bI_f c142
                    refine lv_iconst (v := 0) hx hb dX7_wrongOfBlockOp_149 (by decide) ?_
                    refine lv_goto (tgt := 168) hx hb dX7_wrongOfBlockOp_150 (by decide) ?_
                    refine lv_istore_n (lv' := [(1, .int 0), (0, .ref (a 0))]) hx hb dX7_wrongOfBlockOp_168 rfl hl (by decide) rfl (fun ls hl => ?_)
                    refine lv_iload_n hx hb dX7_wrongOfBlockOp_169 rfl (lv_at hl 0 rfl) ?_
                    refine lv_if_eq (tgt := 177) hx hb dX7_wrongOfBlockOp_170 (by decide) (fun _ => ?_) (fun q9 => absurd rfl q9)
                    refine lv_iconst (v := 4) hx hb dX7_wrongOfBlockOp_177 (by decide) ?_
                    exact W.iret (v := 4) hx hb hr (fun t ht _ => ⟨⟨(some (.int 4)), dvW g a (x_mem σ) (x_med σ) (x_cb σ) (x_ca σ) (x_nc σ) (x_cg σ) (x_T σ) (x_op σ) (x_id σ) (x_fg σ) (x_n σ) (x_cp σ) (x_cq σ) (x_cx σ) (x_pg σ) (x_fi σ) (x_F σ) (x_rw σ) (x_on σ) (x_bi σ) (x_tu σ) (x_re σ) (x_dw σ) (x_dq σ) (x_br σ) (x_bs σ), rfl, ⟨congrArg (fun z : Int32 => some (Value.int z)) (by rw [r_wr, if_neg c9, if_neg (show ¬ 21 < x_op σ from Int32.not_lt.mpr c21), if_neg c35, if_pos (show blO σ from ⟨c50, c74⟩), if_neg c88, if_pos c102, if_neg (fun q => c142 q.2)]), by rw [g_wr, if_neg c9, if_neg (show ¬ 21 < x_op σ from Int32.not_lt.mpr c21), if_neg c35, if_pos (show blO σ from ⟨c50, c74⟩), if_neg c88, if_pos c102] <;> rfl⟩, rfl, by rw [ht]; exact hP⟩, hS.F ht⟩) hS.2.2 dX7_wrongOfBlockOp_178
                  · have c142 := bI_t c142
                    refine lv_iconst (v := 1) hx hb dX7_wrongOfBlockOp_145 (by decide) ?_
                    refine lv_goto (tgt := 168) hx hb dX7_wrongOfBlockOp_146 (by decide) ?_
                    refine lv_istore_n (lv' := [(1, .int 1), (0, .ref (a 0))]) hx hb dX7_wrongOfBlockOp_168 rfl hl (by decide) rfl (fun ls hl => ?_)
                    refine lv_iload_n hx hb dX7_wrongOfBlockOp_169 rfl (lv_at hl 0 rfl) ?_
                    refine lv_if_eq (tgt := 177) hx hb dX7_wrongOfBlockOp_170 (by decide) (fun q9 => absurd q9 (by decide)) (fun _ => ?_)
                    refine lv_iconst (v := 0) hx hb dX7_wrongOfBlockOp_173 (by decide) ?_
                    refine lv_goto (tgt := 178) hx hb dX7_wrongOfBlockOp_174 (by decide) ?_
                    exact W.iret (v := 0) hx hb hr (fun t ht _ => ⟨⟨(some (.int 0)), dvW g a (x_mem σ) (x_med σ) (x_cb σ) (x_ca σ) (x_nc σ) (x_cg σ) (x_T σ) (x_op σ) (x_id σ) (x_fg σ) (x_n σ) (x_cp σ) (x_cq σ) (x_cx σ) (x_pg σ) (x_fi σ) (x_F σ) (x_rw σ) (x_on σ) (x_bi σ) (x_tu σ) (x_re σ) (x_dw σ) (x_dq σ) (x_br σ) (x_bs σ), rfl, ⟨congrArg (fun z : Int32 => some (Value.int z)) (by rw [r_wr, if_neg c9, if_neg (show ¬ 21 < x_op σ from Int32.not_lt.mpr c21), if_neg c35, if_pos (show blO σ from ⟨c50, c74⟩), if_neg c88, if_pos c102, if_pos ⟨c122, c142⟩]), by rw [g_wr, if_neg c9, if_neg (show ¬ 21 < x_op σ from Int32.not_lt.mpr c21), if_neg c35, if_pos (show blO σ from ⟨c50, c74⟩), if_neg c88, if_pos c102] <;> rfl⟩, rfl, by rw [ht]; exact hP⟩, hS.F ht⟩) hS.2.2 dX7_wrongOfBlockOp_178
            · refine lv_iconst (v := 0) hx hb dX7_wrongOfBlockOp_91 (by decide) ?_
              exact W.iret (v := 0) hx hb hr (fun t ht _ => ⟨⟨(some (.int 0)), dvW g a (x_mem σ) (x_med σ) (x_cb σ) (x_ca σ) (x_nc σ) (x_cg σ) (x_T σ) (x_op σ) (x_id σ) (x_fg σ) (x_n σ) (x_cp σ) (x_cq σ) (x_cx σ) (x_pg σ) (x_fi σ) (x_F σ) (x_rw σ) (x_on σ) (x_bi σ) (x_tu σ) (x_re σ) (x_dw σ) (x_dq σ) (x_br σ) (x_bs σ), rfl, ⟨congrArg (fun z : Int32 => some (Value.int z)) (by rw [r_wr, if_neg c9, if_neg (show ¬ 21 < x_op σ from Int32.not_lt.mpr c21), if_neg c35, if_pos (show blO σ from ⟨c50, c74⟩), if_pos c88]), by rw [g_wr, if_neg c9, if_neg (show ¬ 21 < x_op σ from Int32.not_lt.mpr c21), if_neg c35, if_pos (show blO σ from ⟨c50, c74⟩), if_pos c88] <;> rfl⟩, rfl, by rw [ht]; exact hP⟩, hS.F ht⟩) hS.2.2 dX7_wrongOfBlockOp_92
          · have c74 := bI_f c74
            refine lv_iconst (v := 3) hx hb dX7_wrongOfBlockOp_77 (by decide) ?_
            exact W.iret (v := 3) hx hb hr (fun t ht _ => ⟨⟨(some (.int 3)), dvW g a (x_mem σ) (x_med σ) (x_cb σ) (x_ca σ) (x_nc σ) (x_cg σ) (x_T σ) (x_op σ) (x_id σ) (x_fg σ) (x_n σ) (x_cp σ) (x_cq σ) (x_cx σ) (x_pg σ) (x_fi σ) (x_F σ) (x_rw σ) (x_on σ) (x_bi σ) (x_tu σ) (x_re σ) (x_dw σ) (x_dq σ) (x_br σ) (x_bs σ), rfl, ⟨congrArg (fun z : Int32 => some (Value.int z)) (by rw [r_wr, if_neg c9, if_neg (show ¬ 21 < x_op σ from Int32.not_lt.mpr c21), if_neg c35, if_neg (show ¬ blO σ from fun q => c74 q.2)]), by rw [g_wr, if_neg c9, if_neg (show ¬ 21 < x_op σ from Int32.not_lt.mpr c21), if_neg c35, if_neg (show ¬ blO σ from fun q => c74 q.2)] <;> rfl⟩, rfl, by rw [ht]; exact hP⟩, hS.F ht⟩) hS.2.2 dX7_wrongOfBlockOp_78
      · refine lv_iconst (v := 0) hx hb dX7_wrongOfBlockOp_38 (by decide) ?_
        exact W.iret (v := 0) hx hb hr (fun t ht _ => ⟨⟨(some (.int 0)), dvW g a (x_mem σ) (x_med σ) (x_cb σ) (x_ca σ) (x_nc σ) (x_cg σ) (x_T σ) (x_op σ) (x_id σ) (x_fg σ) (x_n σ) (x_cp σ) (x_cq σ) (x_cx σ) (x_pg σ) (x_fi σ) (x_F σ) (x_rw σ) (x_on σ) (x_bi σ) (x_tu σ) (x_re σ) (x_dw σ) (x_dq σ) (x_br σ) (x_bs σ), rfl, ⟨congrArg (fun z : Int32 => some (Value.int z)) (by rw [r_wr, if_neg c9, if_neg (show ¬ 21 < x_op σ from Int32.not_lt.mpr c21), if_pos c35]), by rw [g_wr, if_neg c9, if_neg (show ¬ 21 < x_op σ from Int32.not_lt.mpr c21), if_pos c35] <;> rfl⟩, rfl, by rw [ht]; exact hP⟩, hS.F ht⟩) hS.2.2 dX7_wrongOfBlockOp_39
    · refine lv_iconst (v := 1) hx hb dX7_wrongOfBlockOp_24 (by decide) ?_
      exact W.iret (v := 1) hx hb hr (fun t ht _ => ⟨⟨(some (.int 1)), dvW g a (x_mem σ) (x_med σ) (x_cb σ) (x_ca σ) (x_nc σ) (x_cg σ) (x_T σ) (x_op σ) (x_id σ) (x_fg σ) (x_n σ) (x_cp σ) (x_cq σ) (x_cx σ) (x_pg σ) (x_fi σ) (x_F σ) (x_rw σ) (x_on σ) (x_bi σ) (x_tu σ) (x_re σ) (x_dw σ) (x_dq σ) (x_br σ) (x_bs σ), rfl, ⟨congrArg (fun z : Int32 => some (Value.int z)) (by rw [r_wr, if_neg c9, if_pos (show 21 < x_op σ from Int32.not_le.mp c21)]), by rw [g_wr, if_neg c9, if_pos (show 21 < x_op σ from Int32.not_le.mp c21)] <;> rfl⟩, rfl, by rw [ht]; exact hP⟩, hS.F ht⟩) hS.2.2 dX7_wrongOfBlockOp_25
