set_option maxHeartbeats 4000000 in
set_option maxRecDepth 100000 in
/-- run -/
theorem kX7_run (l : Launch) (g : GG) (a : Nat → Nat) (σ : CS) (p0 : Int32) (hI : CInv σ) : Ct l yX7_run cX7_run 4 (some .int) ({ frames := 7, cells := 0, slots := 0, locals := 171 } : Room) g [.ref (a 0), .int p0] (dvW g a (x_mem σ) (x_med σ) (x_cb σ) (x_ca σ) (x_nc σ) (x_cg σ) (x_T σ) (x_op σ) (x_id σ) (x_fg σ) (x_n σ) (x_cp σ) (x_cq σ) (x_cx σ) (x_pg σ) (x_fi σ) (x_F σ) (x_rw σ) (x_on σ) (x_bi σ) (x_tu σ) (x_re σ) (x_dw σ) (x_dq σ) (x_br σ) (x_bs σ)) (fun v w' => v = some (.int (runR σ p0)) ∧ w' = dvW g a (x_mem (g_run σ p0)) (x_med (g_run σ p0)) (x_cb (g_run σ p0)) (x_ca (g_run σ p0)) (x_nc (g_run σ p0)) (x_cg (g_run σ p0)) (x_T (g_run σ p0)) (x_op (g_run σ p0)) (x_id (g_run σ p0)) (x_fg (g_run σ p0)) (x_n (g_run σ p0)) (x_cp (g_run σ p0)) (x_cq (g_run σ p0)) (x_cx (g_run σ p0)) (x_pg (g_run σ p0)) (x_fi (g_run σ p0)) (x_F (g_run σ p0)) (x_rw (g_run σ p0)) (x_on (g_run σ p0)) (x_bi (g_run σ p0)) (x_tu (g_run σ p0)) (x_re (g_run σ p0)) (x_dw (g_run σ p0)) (x_dq (g_run σ p0)) (x_br (g_run σ p0)) (x_bs (g_run σ p0))) := by
  refine Ct.of (by decide) (Nat.le_of_ble_eq_true rfl) ?_
  intro p e s m below meth c A ls H locs hx hb hr hml hlocks hts hown hin hA hS hK hP hD hl
  have hown : s.vm.findClass RX7 = some m.cls := hown
  have hl : lv_has ls 4 [(0, .ref (a 0)), (1, .int p0)] := hl
  refine lv_aload_n hx hb dX7_run_0 rfl (lv_at hl 0 rfl) ?_
  refine va_get (D := g.1) (ci := 6) (v := .int (x_on σ)) (C := RX7) (T := TX7) (N := 15) hx hb hts inX7 hown hK hP 0 rfl rfl 7 (by decide) (hts _ tw190) (fun _ h9 => h9) rfl dX7_run_1 ?_
  refine lv_if_ne (tgt := 10) hx hb dX7_run_4 (by decide) (fun c4 => ?_) (fun c4 => ?_)
  · refine lv_iload_n hx hb dX7_run_10 rfl (lv_at hl 1 rfl) ?_
    refine lv_if_lt (tgt := 21) hx hb dX7_run_11 (by decide) (fun c11 => ?_) (fun c11 => ?_)
    · refine lv_iconst (v := -1) hx hb dX7_run_21 (by decide) ?_
      exact W.iret (v := -1) hx hb hr (fun t ht _ => ⟨⟨(some (.int (-1))), dvW g a (x_mem σ) (x_med σ) (x_cb σ) (x_ca σ) (x_nc σ) (x_cg σ) (x_T σ) (x_op σ) (x_id σ) (x_fg σ) (x_n σ) (x_cp σ) (x_cq σ) (x_cx σ) (x_pg σ) (x_fi σ) (x_F σ) (x_rw σ) (x_on σ) (x_bi σ) (x_tu σ) (x_re σ) (x_dw σ) (x_dq σ) (x_br σ) (x_bs σ), rfl, ⟨congrArg (fun z : Int32 => some (Value.int z)) (by rw [runR, if_neg c4, if_pos (Or.inl c11)]), by rw [g_run, if_neg c4, if_pos (Or.inl c11)]⟩, rfl, by rw [ht]; exact hP⟩, hS.F ht⟩) hS.2.2 dX7_run_22
    · refine lv_iload_n hx hb dX7_run_14 rfl (lv_at hl 1 rfl) ?_
      refine lv_sipush (v := 200) hx hb dX7_run_15 (by decide) ?_
      refine lv_icmp_le (tgt := 23) hx hb dX7_run_18 (by decide) (fun c18 => ?_) (fun c18 => ?_)
      · obtain ⟨h200, e4⟩ := p200 c11 c18
        refine lv_iconst (v := 0) hx hb dX7_run_23 (by decide) ?_
        refine fr_topi (y := nI 0) nI_0.symm ?_
        refine lv_istore_n (lv' := [(2, .int (nI 0)), (0, .ref (a 0)), (1, .int p0)]) hx hb dX7_run_24 rfl hl (by decide) rfl (fun ls hl => ?_)
        have lp25 : ∀ (n9 : Nat) (i : Nat) (τ : CS) , p0.toNatClampNeg - i < n9 → (i ≤ p0.toNatClampNeg) → (CInv τ) → (runN p0.toNatClampNeg σ = (i + (runN (p0.toNatClampNeg - i) τ).1, (runN (p0.toNatClampNeg - i) τ).2)) → ∀ (H : Heap) (locs : List Loc) (ls : Array Slot), va_P g.1 vwCl (dvW g a (x_mem τ) (x_med τ) (x_cb τ) (x_ca τ) (x_nc τ) (x_cg τ) (x_T τ) (x_op τ) (x_id τ) (x_fg τ) (x_n τ) (x_cp τ) (x_cq τ) (x_cx τ) (x_pg τ) (x_fi τ) (x_F τ) (x_rw τ) (x_on τ) (x_bi τ) (x_tu τ) (x_re τ) (x_dw τ) (x_dq τ) (x_br τ) (x_bs τ)) H → va_D A (dvW g a (x_mem τ) (x_med τ) (x_cb τ) (x_ca τ) (x_nc τ) (x_cg τ) (x_T τ) (x_op τ) (x_id τ) (x_fg τ) (x_n τ) (x_cp τ) (x_cq τ) (x_cx τ) (x_pg τ) (x_fi τ) (x_F τ) (x_rw τ) (x_on τ) (x_bi τ) (x_tu τ) (x_re τ) (x_dw τ) (x_dq τ) (x_br τ) (x_bs τ)) → va_S A s.heap H locs → lv_has ls 4 [(2, .int (nI i)), (0, .ref (a 0)), (1, .int p0)] → W p l e ({ frames := 7, cells := 0, slots := 0, locals := 171 } : Room) s m ([.ref (a 0), .int p0].toArray) below meth c H locs 0 0 (MQ below (Qst g (dvW g a (x_mem σ) (x_med σ) (x_cb σ) (x_ca σ) (x_nc σ) (x_cg σ) (x_T σ) (x_op σ) (x_id σ) (x_fg σ) (x_n σ) (x_cp σ) (x_cq σ) (x_cx σ) (x_pg σ) (x_fi σ) (x_F σ) (x_rw σ) (x_on σ) (x_bi σ) (x_tu σ) (x_re σ) (x_dw σ) (x_dq σ) (x_br σ) (x_bs σ)) (fun v w' => v = some (.int (runR σ p0)) ∧ w' = dvW g a (x_mem (g_run σ p0)) (x_med (g_run σ p0)) (x_cb (g_run σ p0)) (x_ca (g_run σ p0)) (x_nc (g_run σ p0)) (x_cg (g_run σ p0)) (x_T (g_run σ p0)) (x_op (g_run σ p0)) (x_id (g_run σ p0)) (x_fg (g_run σ p0)) (x_n (g_run σ p0)) (x_cp (g_run σ p0)) (x_cq (g_run σ p0)) (x_cx (g_run σ p0)) (x_pg (g_run σ p0)) (x_fi (g_run σ p0)) (x_F (g_run σ p0)) (x_rw (g_run σ p0)) (x_on (g_run σ p0)) (x_bi (g_run σ p0)) (x_tu (g_run σ p0)) (x_re (g_run σ p0)) (x_dw (g_run σ p0)) (x_dq (g_run σ p0)) (x_br (g_run σ p0)) (x_bs (g_run σ p0))) A) ([.ref (a 0), .int p0].toArray) s 0 0 A) (F0 m 25 ls []) := by
          intro n9
          induction n9 with
          | zero => intro i τ q9; exact absurd q9 (Nat.not_lt_zero _)
          | succ n9 ih25 =>
            intro i τ hn9 hi hI he H locs ls hP hD hS hl
            refine lv_iload_n hx hb dX7_run_25 rfl (lv_at hl 0 rfl) ?_
            refine lv_iload_n hx hb dX7_run_26 rfl (lv_at hl 2 rfl) ?_
            refine fr_topi (y := nI p0.toNatClampNeg) e4 ?_
            refine lv_icmp_ge (tgt := 54) hx hb dX7_run_27 (by decide) (fun c27 => ?_) (fun c27 => ?_)
            · have c27 := (nI_leI (a := p0.toNatClampNeg) (b := i) (by omega) (by omega)).mp c27
              refine lv_iload_n hx hb dX7_run_54 rfl (lv_at hl 2 rfl) ?_
              refine fr_topi (y := nI p0.toNatClampNeg) e4 ?_
              exact W.iret (v := nI p0.toNatClampNeg) hx hb hr (fun t ht _ => ⟨⟨(some (.int (nI p0.toNatClampNeg))), dvW g a (x_mem τ) (x_med τ) (x_cb τ) (x_ca τ) (x_nc τ) (x_cg τ) (x_T τ) (x_op τ) (x_id τ) (x_fg τ) (x_n τ) (x_cp τ) (x_cq τ) (x_cx τ) (x_pg τ) (x_fi τ) (x_F τ) (x_rw τ) (x_on τ) (x_bi τ) (x_tu τ) (x_re τ) (x_dw τ) (x_dq τ) (x_br τ) (x_bs τ), rfl, ⟨congrArg (fun z : Int32 => some (Value.int z)) (by rw [runR, if_neg c4, if_neg (or_n c11 (Int32.not_lt.mpr c18)), runN_end he (by omega), show i = p0.toNatClampNeg by omega]), by rw [g_run, if_neg c4, if_neg (or_n c11 (Int32.not_lt.mpr c18)), runN_end he (by omega)]⟩, rfl, by rw [ht]; exact hP⟩, hS.F ht⟩) hS.2.2 dX7_run_55
            · have c27 := (not_congr (nI_leI (a := p0.toNatClampNeg) (b := i) (by omega) (by omega))).mp c27
              rcases hf : nxr (x_T τ) (x_tu τ) 4 with _ | q
              · refine lv_aload_n hx hb dX7_run_30 rfl (lv_at hl 1 rfl) ?_
                refine fr_goA (va_runV (As := []) (rest := []) ⟨hx, hb, hml, hown, hts⟩ (kX7_nextReady l g a τ hI.2.2.2 H.size) (cwV 0 hts (gdV tw368 tw370 tp2 tw1 tw371) rfl rfl rfl (by decide +kernel) ⟨Nat.le_of_ble_eq_true rfl, Nat.le_of_ble_eq_true rfl⟩) ⟨Pst.blind, va_recv hK hP (ci := 6) (q0 := 0) rfl rfl, fr_preA hK hP hD⟩ rfl rfl hl.1 rfl (lv_room (Nat.le_of_ble_eq_true rfl)) dX7_run_31 ⟨Nat.le_of_ble_eq_true rfl, Nat.le_of_ble_eq_true rfl⟩) hD hS hA (fun v w9 H locs hq hP hD hS => ?_)
                obtain ⟨rfl, rfl⟩ := hq
                have hP : va_P g.1 vwCl (dvW g a (x_mem τ) (x_med τ) (x_cb τ) (x_ca τ) (x_nc τ) (x_cg τ) (x_T τ) (x_op τ) (x_id τ) (x_fg τ) (x_n τ) (x_cp τ) (x_cq τ) (x_cx τ) (x_pg τ) (x_fi τ) (x_F τ) (x_rw τ) (x_on τ) (x_bi τ) (x_tu τ) (x_re τ) (x_dw τ) (x_dq τ) (x_br τ) (x_bs τ)) H := hP
                have hD : va_D A (dvW g a (x_mem τ) (x_med τ) (x_cb τ) (x_ca τ) (x_nc τ) (x_cg τ) (x_T τ) (x_op τ) (x_id τ) (x_fg τ) (x_n τ) (x_cp τ) (x_cq τ) (x_cx τ) (x_pg τ) (x_fi τ) (x_F τ) (x_rw τ) (x_on τ) (x_bi τ) (x_tu τ) (x_re τ) (x_dw τ) (x_dq τ) (x_br τ) (x_bs τ)) := hD
                show W p l e _ s m _ below meth c H locs _ _ _ (F0 m (31 + 3) ls (.int (nxtR (x_T τ) (x_tu τ)) :: []))
                refine fr_topi (y := -2) (nxtR_n hf) ?_
                refine lv_istore_n (lv' := [(3, .int (-2)), (2, .int (nI i)), (0, .ref (a 0)), (1, .int p0)]) hx hb dX7_run_34 rfl hl (by decide) rfl (fun ls hl => ?_)
                refine lv_iload_n hx hb dX7_run_35 rfl (lv_at hl 0 rfl) ?_
                refine lv_bipush (v := -2) hx hb dX7_run_36 (by decide) ?_
                refine lv_icmp_ne (tgt := 43) hx hb dX7_run_38 (by decide) (fun q9 => absurd rfl q9) (fun _ => ?_)
                refine lv_iload_n hx hb dX7_run_41 rfl (lv_at hl 1 rfl) ?_
                exact W.iret (v := nI i) hx hb hr (fun t ht _ => ⟨⟨(some (.int (nI i))), dvW g a (x_mem τ) (x_med τ) (x_cb τ) (x_ca τ) (x_nc τ) (x_cg τ) (x_T τ) (x_op τ) (x_id τ) (x_fg τ) (x_n τ) (x_cp τ) (x_cq τ) (x_cx τ) (x_pg τ) (x_fi τ) (x_F τ) (x_rw τ) (x_on τ) (x_bi τ) (x_tu τ) (x_re τ) (x_dw τ) (x_dq τ) (x_br τ) (x_bs τ), rfl, ⟨congrArg (fun z : Int32 => some (Value.int z)) (by rw [runR, if_neg c4, if_neg (or_n c11 (Int32.not_lt.mpr c18)), runN_halt he hf]), by rw [g_run, if_neg c4, if_neg (or_n c11 (Int32.not_lt.mpr c18)), runN_halt he hf]⟩, rfl, by rw [ht]; exact hP⟩, hS.F ht⟩) hS.2.2 dX7_run_42
              · have hq9 := nxr_rdy hf
                have hq4 := hq9.2
                refine lv_aload_n hx hb dX7_run_30 rfl (lv_at hl 1 rfl) ?_
                refine fr_goA (va_runV (As := []) (rest := []) ⟨hx, hb, hml, hown, hts⟩ (kX7_nextReady l g a τ hI.2.2.2 H.size) (cwV 0 hts (gdV tw368 tw370 tp2 tw1 tw371) rfl rfl rfl (by decide +kernel) ⟨Nat.le_of_ble_eq_true rfl, Nat.le_of_ble_eq_true rfl⟩) ⟨Pst.blind, va_recv hK hP (ci := 6) (q0 := 0) rfl rfl, fr_preA hK hP hD⟩ rfl rfl hl.1 rfl (lv_room (Nat.le_of_ble_eq_true rfl)) dX7_run_31 ⟨Nat.le_of_ble_eq_true rfl, Nat.le_of_ble_eq_true rfl⟩) hD hS hA (fun v w9 H locs hq hP hD hS => ?_)
                obtain ⟨rfl, rfl⟩ := hq
                have hP : va_P g.1 vwCl (dvW g a (x_mem τ) (x_med τ) (x_cb τ) (x_ca τ) (x_nc τ) (x_cg τ) (x_T τ) (x_op τ) (x_id τ) (x_fg τ) (x_n τ) (x_cp τ) (x_cq τ) (x_cx τ) (x_pg τ) (x_fi τ) (x_F τ) (x_rw τ) (x_on τ) (x_bi τ) (x_tu τ) (x_re τ) (x_dw τ) (x_dq τ) (x_br τ) (x_bs τ)) H := hP
                have hD : va_D A (dvW g a (x_mem τ) (x_med τ) (x_cb τ) (x_ca τ) (x_nc τ) (x_cg τ) (x_T τ) (x_op τ) (x_id τ) (x_fg τ) (x_n τ) (x_cp τ) (x_cq τ) (x_cx τ) (x_pg τ) (x_fi τ) (x_F τ) (x_rw τ) (x_on τ) (x_bi τ) (x_tu τ) (x_re τ) (x_dw τ) (x_dq τ) (x_br τ) (x_bs τ)) := hD
                show W p l e _ s m _ below meth c H locs _ _ _ (F0 m (31 + 3) ls (.int (nxtR (x_T τ) (x_tu τ)) :: []))
                refine fr_topi (y := nI q) (nxtR_s hf) ?_
                refine lv_istore_n (lv' := [(3, .int (nI q)), (2, .int (nI i)), (0, .ref (a 0)), (1, .int p0)]) hx hb dX7_run_34 rfl hl (by decide) rfl (fun ls hl => ?_)
                refine lv_iload_n hx hb dX7_run_35 rfl (lv_at hl 0 rfl) ?_
                refine lv_bipush (v := -2) hx hb dX7_run_36 (by decide) ?_
                refine lv_icmp_ne (tgt := 43) hx hb dX7_run_38 (by decide) (fun _ => ?_) (fun q9 => absurd q9 (nI_m2 (by omega)))
                refine lv_aload_n hx hb dX7_run_43 rfl (lv_at hl 2 rfl) ?_
                refine lv_iload_n hx hb dX7_run_44 rfl (lv_at hl 0 rfl) ?_
                refine fr_goA (va_runV (As := [.int (nI q)]) (rest := []) ⟨hx, hb, hml, hown, hts⟩ (kX7_doCommandOf l g a τ q hI hq9.2 hq9.1 H.size) (cwV 1 hts (gdV tw386 tw388 tp4 tw1 tw389) rfl rfl rfl (by decide +kernel) ⟨Nat.le_of_ble_eq_true rfl, Nat.le_of_ble_eq_true rfl⟩) ⟨Pst.blind, va_recv hK hP (ci := 6) (q0 := 0) rfl rfl, fr_preA hK hP hD⟩ rfl rfl hl.1 rfl (lv_room (Nat.le_of_ble_eq_true rfl)) dX7_run_45 ⟨Nat.le_of_ble_eq_true rfl, Nat.le_of_ble_eq_true rfl⟩) hD hS hA (fun v w9 H locs hq hP hD hS => ?_)
                obtain ⟨rfl, rfl⟩ := hq
                obtain ⟨s1, hs1⟩ : ∃ z9 : CS, z9 = g_cmd τ q := ⟨_, rfl⟩
                rw [← hs1] at hP hD
                have hP : va_P g.1 vwCl (dvW g a (x_mem s1) (x_med s1) (x_cb s1) (x_ca s1) (x_nc s1) (x_cg s1) (x_T s1) (x_op s1) (x_id s1) (x_fg s1) (x_n s1) (x_cp s1) (x_cq s1) (x_cx s1) (x_pg s1) (x_fi s1) (x_F s1) (x_rw s1) (x_on s1) (x_bi s1) (x_tu s1) (x_re s1) (x_dw s1) (x_dq s1) (x_br s1) (x_bs s1)) H := hP
                have hD : va_D A (dvW g a (x_mem s1) (x_med s1) (x_cb s1) (x_ca s1) (x_nc s1) (x_cg s1) (x_T s1) (x_op s1) (x_id s1) (x_fg s1) (x_n s1) (x_cp s1) (x_cq s1) (x_cx s1) (x_pg s1) (x_fi s1) (x_F s1) (x_rw s1) (x_on s1) (x_bi s1) (x_tu s1) (x_re s1) (x_dw s1) (x_dq s1) (x_br s1) (x_bs s1)) := hD
                show W p l e _ s m _ below meth c H locs _ _ _ (F0 m (45 + 3) ls ([]))
                refine lv_iinc (v := nI (i + 1)) (lv' := [(2, .int (nI (i + 1))), (3, .int (nI q)), (0, .ref (a 0)), (1, .int p0)]) hx hb dX7_run_48 hl (k := 1) rfl (nI_1 _) (by decide) rfl (fun ls hl => ?_)
                refine lv_goto (tgt := 25) hx hb dX7_run_51 (by decide) ?_
                exact ih25 (i + 1) s1 (by omega) (by omega) (by rw [hs1]; exact ci_cmd hI) (by rw [hs1]; exact runN_step he hf (by omega)) H locs ls hP hD hS (lv_sub hl [0, 2, 3] rfl)
        exact lp25 _ 0 σ (Nat.lt_succ_self _) (Nat.zero_le _) hI (by rw [Nat.sub_zero, Nat.zero_add]) H locs ls hP hD hS (lv_sub hl [0, 1, 2] rfl)
      · refine lv_iconst (v := -1) hx hb dX7_run_21 (by decide) ?_
        exact W.iret (v := -1) hx hb hr (fun t ht _ => ⟨⟨(some (.int (-1))), dvW g a (x_mem σ) (x_med σ) (x_cb σ) (x_ca σ) (x_nc σ) (x_cg σ) (x_T σ) (x_op σ) (x_id σ) (x_fg σ) (x_n σ) (x_cp σ) (x_cq σ) (x_cx σ) (x_pg σ) (x_fi σ) (x_F σ) (x_rw σ) (x_on σ) (x_bi σ) (x_tu σ) (x_re σ) (x_dw σ) (x_dq σ) (x_br σ) (x_bs σ), rfl, ⟨congrArg (fun z : Int32 => some (Value.int z)) (by rw [runR, if_neg c4, if_pos (Or.inr (Int32.not_le.mp c18))]), by rw [g_run, if_neg c4, if_pos (Or.inr (Int32.not_le.mp c18))]⟩, rfl, by rw [ht]; exact hP⟩, hS.F ht⟩) hS.2.2 dX7_run_22
  · refine lv_bipush (v := -3) hx hb dX7_run_7 (by decide) ?_
    exact W.iret (v := -3) hx hb hr (fun t ht _ => ⟨⟨(some (.int (-3))), dvW g a (x_mem σ) (x_med σ) (x_cb σ) (x_ca σ) (x_nc σ) (x_cg σ) (x_T σ) (x_op σ) (x_id σ) (x_fg σ) (x_n σ) (x_cp σ) (x_cq σ) (x_cx σ) (x_pg σ) (x_fi σ) (x_F σ) (x_rw σ) (x_on σ) (x_bi σ) (x_tu σ) (x_re σ) (x_dw σ) (x_dq σ) (x_br σ) (x_bs σ), rfl, ⟨congrArg (fun z : Int32 => some (Value.int z)) (if_pos c4).symm, by rw [g_run, if_pos c4]⟩, rfl, by rw [ht]; exact hP⟩, hS.F ht⟩) hS.2.2 dX7_run_9
