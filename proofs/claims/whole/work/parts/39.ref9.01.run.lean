set_option maxHeartbeats 4000000 in
set_option maxRecDepth 100000 in
/-- run -/
theorem kX8_run (l : Launch) (g : GG) (a : Nat → Nat) (ρ : RS) (p0 : Int32) (hI : RIv ρ) : Ct l yX8_run cX8_run 5 (some .int) ({ frames := 5, cells := 200, slots := 1600, locals := 135 } : Room) g [.ref (a 0), .int p0] (rfW g a (z_mem ρ) (z_R ρ) (z_cb ρ) (z_nc ρ) (z_tu ρ) (z_bi ρ) (z_cg ρ) (z_on ρ) (z_T ρ) (z_dn ρ) (z_fa ρ) (z_br ρ) (z_bs ρ) (z_cp ρ) (z_cq ρ) (z_cx ρ) (z_re ρ) (z_n ρ) (z_op ρ) (z_fg ρ) (z_sp ρ) (z_one ρ)) (fun v w' => ∃ (r9 : Int32) (ρ9 : RS), rrP ρ p0 r9 ρ9 ∧ v = some (.int r9) ∧ w' = rfW g a (z_mem ρ9) (z_R ρ9) (z_cb ρ9) (z_nc ρ9) (z_tu ρ9) (z_bi ρ9) (z_cg ρ9) (z_on ρ9) (z_T ρ9) (z_dn ρ9) (z_fa ρ9) (z_br ρ9) (z_bs ρ9) (z_cp ρ9) (z_cq ρ9) (z_cx ρ9) (z_re ρ9) (z_n ρ9) (z_op ρ9) (z_fg ρ9) (z_sp ρ9) (z_one ρ9)) := by
  refine Ct.of (by decide) (Nat.le_of_ble_eq_true rfl) ?_
  intro p e s m below meth c A ls H locs hx hb hr hml hlocks hts hown hin hA hS hK hP hD hl
  have hown : s.vm.findClass RX8 = some m.cls := hown
  have hl : lv_has ls 5 [(0, .ref (a 0)), (1, .int p0)] := hl
  refine lv_aload_n hx hb dX8_run_0 rfl (lv_at hl 0 rfl) ?_
  refine va_get (D := g.1) (ci := 7) (v := .int (z_on ρ)) (C := RX8) (T := TX8) (N := 30) hx hb hts inX8 hown hK hP 0 rfl rfl 8 (by decide) (hts _ tw611) (fun _ h9 => h9) rfl dX8_run_1 ?_
  refine lv_if_ne (tgt := 10) hx hb dX8_run_4 (by decide) (fun c4 => ?_) (fun c4 => ?_)
  · refine lv_iload_n hx hb dX8_run_10 rfl (lv_at hl 1 rfl) ?_
    refine lv_i2l hx hb dX8_run_11 rfl ?_
    refine lv_lconst (v := 0) hx hb dX8_run_12 (by decide) ?_
    refine lv_ldc2 hx hb hown (hts _ tw755) dX8_run_13 ?_
    refine fr_go (va_runS (As := [.long p0.toInt64, .long 0, .long 200]) (rest := []) ⟨hx, hb, hml, hown, hts⟩ (kX8_in l g p0.toInt64 0 200 H.size) (va_cwS 3 hts (gdS tw700 tw701 tw9 tw702) rfl rfl rfl (by decide +kernel) ⟨Nat.le_of_ble_eq_true rfl, Nat.le_of_ble_eq_true rfl⟩) ⟨Pst.blind, fr_pre hK hP hD [] rfl rfl⟩ rfl rfl hl.1 rfl (lv_room (Nat.le_of_ble_eq_true rfl)) dX8_run_16 ⟨Nat.le_of_ble_eq_true rfl, Nat.le_of_ble_eq_true rfl⟩) hP hD hS hA [] rfl (fun v w9 H locs hq hP hD hS => ?_)
    obtain ⟨rfl, rfl⟩ := hq
    have hP : va_P g.1 vwCl (rfW g a (z_mem ρ) (z_R ρ) (z_cb ρ) (z_nc ρ) (z_tu ρ) (z_bi ρ) (z_cg ρ) (z_on ρ) (z_T ρ) (z_dn ρ) (z_fa ρ) (z_br ρ) (z_bs ρ) (z_cp ρ) (z_cq ρ) (z_cx ρ) (z_re ρ) (z_n ρ) (z_op ρ) (z_fg ρ) (z_sp ρ) (z_one ρ)) H := hP
    have hD : va_D A (rfW g a (z_mem ρ) (z_R ρ) (z_cb ρ) (z_nc ρ) (z_tu ρ) (z_bi ρ) (z_cg ρ) (z_on ρ) (z_T ρ) (z_dn ρ) (z_fa ρ) (z_br ρ) (z_bs ρ) (z_cp ρ) (z_cq ρ) (z_cx ρ) (z_re ρ) (z_n ρ) (z_op ρ) (z_fg ρ) (z_sp ρ) (z_one ρ)) := hD
    show W p l e _ s m _ below meth c H locs _ _ _ (F0 m (16 + 3) ls (.int (bI (¬ p0.toInt64 < 0 ∧ ¬ 200 < p0.toInt64)) :: []))
    refine lv_if_ne (tgt := 24) hx hb dX8_run_19 (by decide) (fun c19 => ?_) (fun c19 => ?_)
    · have c19 := bI_t c19
      obtain ⟨h200, e4⟩ := p200' (w200.mp c19)
      refine lv_iconst (v := 0) hx hb dX8_run_24 (by decide) ?_
      refine fr_topi (y := nI 0) nI_0.symm ?_
      refine lv_istore_n (lv' := [(2, .int (nI 0)), (0, .ref (a 0)), (1, .int p0)]) hx hb dX8_run_25 rfl hl (by decide) rfl (fun ls hl => ?_)
      have lp26 : ∀ (n9 : Nat) (i : Nat) (τ : RS) , p0.toNatClampNeg - i < n9 → (i ≤ p0.toNatClampNeg) → (RIv τ) → (∀ (r : Nat) (π : RS), runT (p0.toNatClampNeg - i) τ r π → runT p0.toNatClampNeg ρ (i + r) π) → ∀ (H : Heap) (locs : List Loc) (ls : Array Slot), va_P g.1 vwCl (rfW g a (z_mem τ) (z_R τ) (z_cb τ) (z_nc τ) (z_tu τ) (z_bi τ) (z_cg τ) (z_on τ) (z_T τ) (z_dn τ) (z_fa τ) (z_br τ) (z_bs τ) (z_cp τ) (z_cq τ) (z_cx τ) (z_re τ) (z_n τ) (z_op τ) (z_fg τ) (z_sp τ) (z_one τ)) H → va_D A (rfW g a (z_mem τ) (z_R τ) (z_cb τ) (z_nc τ) (z_tu τ) (z_bi τ) (z_cg τ) (z_on τ) (z_T τ) (z_dn τ) (z_fa τ) (z_br τ) (z_bs τ) (z_cp τ) (z_cq τ) (z_cx τ) (z_re τ) (z_n τ) (z_op τ) (z_fg τ) (z_sp τ) (z_one τ)) → va_S A s.heap H locs → lv_has ls 5 [(2, .int (nI i)), (0, .ref (a 0)), (1, .int p0)] → W p l e ({ frames := 5, cells := 200, slots := 1600, locals := 135 } : Room) s m ([.ref (a 0), .int p0].toArray) below meth c H locs i (8 * i) (MQ below (Qst g (rfW g a (z_mem ρ) (z_R ρ) (z_cb ρ) (z_nc ρ) (z_tu ρ) (z_bi ρ) (z_cg ρ) (z_on ρ) (z_T ρ) (z_dn ρ) (z_fa ρ) (z_br ρ) (z_bs ρ) (z_cp ρ) (z_cq ρ) (z_cx ρ) (z_re ρ) (z_n ρ) (z_op ρ) (z_fg ρ) (z_sp ρ) (z_one ρ)) (fun v w' => ∃ (r9 : Int32) (ρ9 : RS), rrP ρ p0 r9 ρ9 ∧ v = some (.int r9) ∧ w' = rfW g a (z_mem ρ9) (z_R ρ9) (z_cb ρ9) (z_nc ρ9) (z_tu ρ9) (z_bi ρ9) (z_cg ρ9) (z_on ρ9) (z_T ρ9) (z_dn ρ9) (z_fa ρ9) (z_br ρ9) (z_bs ρ9) (z_cp ρ9) (z_cq ρ9) (z_cx ρ9) (z_re ρ9) (z_n ρ9) (z_op ρ9) (z_fg ρ9) (z_sp ρ9) (z_one ρ9)) A) ([.ref (a 0), .int p0].toArray) s 200 1600 A) (F0 m 26 ls []) := by
        intro n9
        induction n9 with
        | zero => intro i τ q9; exact absurd q9 (Nat.not_lt_zero _)
        | succ n9 ih26 =>
          intro i τ hn9 hi hI he H locs ls hP hD hS hl
          refine lv_iload_n hx hb dX8_run_26 rfl (lv_at hl 0 rfl) ?_
          refine lv_iload_n hx hb dX8_run_27 rfl (lv_at hl 2 rfl) ?_
          refine fr_topi (y := nI p0.toNatClampNeg) e4 ?_
          refine lv_icmp_ge (tgt := 98) hx hb dX8_run_28 (by decide) (fun c28 => ?_) (fun c28 => ?_)
          · have c28 := (nI_leI (a := p0.toNatClampNeg) (b := i) (by omega) (by omega)).mp c28
            refine lv_iload_n hx hb dX8_run_98 rfl (lv_at hl 2 rfl) ?_
            refine fr_topi (y := nI p0.toNatClampNeg) e4 ?_
            refine W.widen (k := 200) (n := 1600) (by first | omega | exact Nat.le_of_ble_eq_true rfl) (by first | omega | exact Nat.le_of_ble_eq_true rfl) ?_
            exact W.iret (v := nI p0.toNatClampNeg) hx hb hr (fun t ht _ => ⟨⟨(some (.int (nI p0.toNatClampNeg))), rfW g a (z_mem τ) (z_R τ) (z_cb τ) (z_nc τ) (z_tu τ) (z_bi τ) (z_cg τ) (z_on τ) (z_T τ) (z_dn τ) (z_fa τ) (z_br τ) (z_bs τ) (z_cp τ) (z_cq τ) (z_cx τ) (z_re τ) (z_n τ) (z_op τ) (z_fg τ) (z_sp τ) (z_one τ), rfl, ⟨nI p0.toNatClampNeg, τ, (by rw [rrP, if_neg c4, if_neg (w200.mp c19)]; exact ⟨p0.toNatClampNeg, rfl, (fun (e9 : i = p0.toNatClampNeg) => by have q := he 0 τ; rw [e9, Nat.sub_self] at q; exact q ⟨rfl, rfl⟩) (by omega)⟩), rfl, rfl⟩, rfl, by rw [ht]; exact hP⟩, hS.F ht⟩) hS.2.2 dX8_run_99
          · have c28 := (not_congr (nI_leI (a := p0.toNatClampNeg) (b := i) (by omega) (by omega))).mp c28
            refine lv_iconst (v := 0) hx hb dX8_run_31 (by decide) ?_
            refine fr_topi (y := nI 0) nI_0.symm ?_
            refine lv_istore_n (lv' := [(3, .int (nI 0)), (2, .int (nI i)), (0, .ref (a 0)), (1, .int p0)]) hx hb dX8_run_32 rfl hl (by decide) rfl (fun ls hl => ?_)
            have lp33 : ∀ (n9 : Nat) (x : Nat) , 4 - x < n9 → (x ≤ 4) → (nxr (z_T τ) (z_tu τ) x = none) → ∀ (H : Heap) (locs : List Loc) (ls : Array Slot), va_P g.1 vwCl (rfW g a (z_mem τ) (z_R τ) (z_cb τ) (z_nc τ) (z_tu τ) (z_bi τ) (z_cg τ) (z_on τ) (z_T τ) (z_dn τ) (z_fa τ) (z_br τ) (z_bs τ) (z_cp τ) (z_cq τ) (z_cx τ) (z_re τ) (z_n τ) (z_op τ) (z_fg τ) (z_sp τ) (z_one τ)) H → va_D A (rfW g a (z_mem τ) (z_R τ) (z_cb τ) (z_nc τ) (z_tu τ) (z_bi τ) (z_cg τ) (z_on τ) (z_T τ) (z_dn τ) (z_fa τ) (z_br τ) (z_bs τ) (z_cp τ) (z_cq τ) (z_cx τ) (z_re τ) (z_n τ) (z_op τ) (z_fg τ) (z_sp τ) (z_one τ)) → va_S A s.heap H locs → lv_has ls 5 [(3, .int (nI x)), (2, .int (nI i)), (0, .ref (a 0)), (1, .int p0)] → W p l e ({ frames := 5, cells := 200, slots := 1600, locals := 135 } : Room) s m ([.ref (a 0), .int p0].toArray) below meth c H locs i (8 * i) (MQ below (Qst g (rfW g a (z_mem ρ) (z_R ρ) (z_cb ρ) (z_nc ρ) (z_tu ρ) (z_bi ρ) (z_cg ρ) (z_on ρ) (z_T ρ) (z_dn ρ) (z_fa ρ) (z_br ρ) (z_bs ρ) (z_cp ρ) (z_cq ρ) (z_cx ρ) (z_re ρ) (z_n ρ) (z_op ρ) (z_fg ρ) (z_sp ρ) (z_one ρ)) (fun v w' => ∃ (r9 : Int32) (ρ9 : RS), rrP ρ p0 r9 ρ9 ∧ v = some (.int r9) ∧ w' = rfW g a (z_mem ρ9) (z_R ρ9) (z_cb ρ9) (z_nc ρ9) (z_tu ρ9) (z_bi ρ9) (z_cg ρ9) (z_on ρ9) (z_T ρ9) (z_dn ρ9) (z_fa ρ9) (z_br ρ9) (z_bs ρ9) (z_cp ρ9) (z_cq ρ9) (z_cx ρ9) (z_re ρ9) (z_n ρ9) (z_op ρ9) (z_fg ρ9) (z_sp ρ9) (z_one ρ9)) A) ([.ref (a 0), .int p0].toArray) s 200 1600 A) (F0 m 33 ls []) := by
              intro n9
              induction n9 with
              | zero => intro x q9; exact absurd q9 (Nat.not_lt_zero _)
              | succ n9 ih33 =>
                intro x hn9 hx4 hx9 H locs ls hP hD hS hl
                refine lv_iload_n hx hb dX8_run_33 rfl (lv_at hl 0 rfl) ?_
                refine lv_iconst (v := 4) hx hb dX8_run_34 (by decide) ?_
                refine lv_icmp_ge (tgt := 59) hx hb dX8_run_35 (by decide) (fun c35 => ?_) (fun c35 => ?_)
                · have c35 := (nI_leI (a := 4) (b := x) (by omega) (by omega)).mp c35
                  refine lv_iload_n hx hb dX8_run_59 rfl (lv_at hl 0 rfl) ?_
                  refine lv_iconst (v := 4) hx hb dX8_run_60 (by decide) ?_
                  refine lv_icmp_ne (tgt := 66) hx hb dX8_run_61 (by decide) (fun q9 => absurd (by rw [show x = 4 by omega]; rfl) q9) (fun _ => ?_)
                  refine lv_iload_n hx hb dX8_run_64 rfl (lv_at hl 1 rfl) ?_
                  refine W.widen (k := 200) (n := 1600) (by first | omega | exact Nat.le_of_ble_eq_true rfl) (by first | omega | exact Nat.le_of_ble_eq_true rfl) ?_
                  exact W.iret (v := nI i) hx hb hr (fun t ht _ => ⟨⟨(some (.int (nI i))), rfW g a (z_mem τ) (z_R τ) (z_cb τ) (z_nc τ) (z_tu τ) (z_bi τ) (z_cg τ) (z_on τ) (z_T τ) (z_dn τ) (z_fa τ) (z_br τ) (z_bs τ) (z_cp τ) (z_cq τ) (z_cx τ) (z_re τ) (z_n τ) (z_op τ) (z_fg τ) (z_sp τ) (z_one τ), rfl, ⟨nI i, τ, (by rw [rrP, if_neg c4, if_neg (w200.mp c19)]; exact ⟨i, rfl, he 0 τ (runT_n (show nxr (z_T τ) (z_tu τ) 4 = none by rw [show 4 = x by omega]; exact hx9))⟩), rfl, rfl⟩, rfl, by rw [ht]; exact hP⟩, hS.F ht⟩) hS.2.2 dX8_run_65
                · have c35 := (not_congr (nI_leI (a := 4) (b := x) (by omega) (by omega))).mp c35
                  refine lv_aload_n hx hb dX8_run_38 rfl (lv_at hl 2 rfl) ?_
                  refine lv_aload_n hx hb dX8_run_39 rfl (lv_at hl 2 rfl) ?_
                  refine va_get (D := g.1) (ci := 7) (v := .int (nI (z_tu τ))) (C := RX8) (T := TX8) (N := 30) hx hb hts inX8 hown hK hP 0 rfl rfl 5 (by decide) (hts _ tw608) (fun _ h9 => h9) rfl dX8_run_40 ?_
                  refine lv_iload_n hx hb dX8_run_43 rfl (lv_at hl 0 rfl) ?_
                  refine lv_iadd hx hb dX8_run_44 ?_
                  refine fr_topi (y := nI (z_tu τ + x)) (nI_add _ _) ?_
                  refine lv_iconst (v := 4) hx hb dX8_run_45 (by decide) ?_
                  refine lv_irem hx hb dX8_run_46 (by decide) ?_
                  refine fr_topi (y := nI ((z_tu τ + x) % 4)) (rem4 (by have := hI.1.2.2; omega)) ?_
                  refine fr_goA (va_runV (As := [.int (nI ((z_tu τ + x) % 4))]) (rest := []) ⟨hx, hb, hml, hown, hts⟩ (kX8_isReady l g a τ ((z_tu τ + x) % 4) hI.2 (Nat.mod_lt _ (by decide)) H.size) (cwV 1 hts (gdV tw756 tw758 tp32 tw9 tw759) rfl rfl rfl (by decide +kernel) ⟨Nat.le_of_ble_eq_true rfl, Nat.le_of_ble_eq_true rfl⟩) ⟨Pst.blind, va_recv hK hP (ci := 7) (q0 := 0) rfl rfl, fr_preA hK hP hD⟩ rfl rfl hl.1 rfl (lv_room (Nat.le_of_ble_eq_true rfl)) dX8_run_47 ⟨(by show _ + 0 ≤ 200; omega), (by show _ + 0 ≤ 1600; omega)⟩) hD hS hA (fun v w9 H locs hq hP hD hS => ?_)
                  obtain ⟨rfl, rfl⟩ := hq
                  have hP : va_P g.1 vwCl (rfW g a (z_mem τ) (z_R τ) (z_cb τ) (z_nc τ) (z_tu τ) (z_bi τ) (z_cg τ) (z_on τ) (z_T τ) (z_dn τ) (z_fa τ) (z_br τ) (z_bs τ) (z_cp τ) (z_cq τ) (z_cx τ) (z_re τ) (z_n τ) (z_op τ) (z_fg τ) (z_sp τ) (z_one τ)) H := hP
                  have hD : va_D A (rfW g a (z_mem τ) (z_R τ) (z_cb τ) (z_nc τ) (z_tu τ) (z_bi τ) (z_cg τ) (z_on τ) (z_T τ) (z_dn τ) (z_fa τ) (z_br τ) (z_bs τ) (z_cp τ) (z_cq τ) (z_cx τ) (z_re τ) (z_n τ) (z_op τ) (z_fg τ) (z_sp τ) (z_one τ)) := hD
                  show W p l e _ s m _ below meth c H locs i (8 * i) _ (F0 m (47 + 3) ls (.int (bI (rdy (z_T τ) ((z_tu τ + x) % 4))) :: []))
                  refine lv_if_ne (tgt := 59) hx hb dX8_run_50 (by decide) (fun c50 => ?_) (fun c50 => ?_)
                  · have c50 := bI_t c50
                    have hf := nxr_hit2 hx9 c50 (by omega)
                    have hj4 : (z_tu τ + x) % 4 < 4 := Nat.mod_lt _ (by decide)
                    refine lv_iload_n hx hb dX8_run_59 rfl (lv_at hl 0 rfl) ?_
                    refine lv_iconst (v := 4) hx hb dX8_run_60 (by decide) ?_
                    refine lv_icmp_ne (tgt := 66) hx hb dX8_run_61 (by decide) (fun _ => ?_) (fun q9 => absurd q9 (nI_ne4 (by omega)))
                    refine lv_aload_n hx hb dX8_run_66 rfl (lv_at hl 2 rfl) ?_
                    refine va_get (D := g.1) (ci := 7) (v := .int (nI (z_tu τ))) (C := RX8) (T := TX8) (N := 30) hx hb hts inX8 hown hK hP 0 rfl rfl 5 (by decide) (hts _ tw608) (fun _ h9 => h9) rfl dX8_run_67 ?_
                    refine lv_iload_n hx hb dX8_run_70 rfl (lv_at hl 0 rfl) ?_
                    refine lv_iadd hx hb dX8_run_71 ?_
                    refine fr_topi (y := nI (z_tu τ + x)) (nI_add _ _) ?_
                    refine lv_iconst (v := 4) hx hb dX8_run_72 (by decide) ?_
                    refine lv_irem hx hb dX8_run_73 (by decide) ?_
                    refine fr_topi (y := nI ((z_tu τ + x) % 4)) (rem4 (by have := hI.1.2.2; omega)) ?_
                    refine lv_istore (lv' := [(4, .int (nI ((z_tu τ + x) % 4))), (3, .int (nI x)), (2, .int (nI i)), (0, .ref (a 0)), (1, .int p0)]) hx hb dX8_run_74 hl (by decide) rfl (fun ls hl => ?_)
                    refine lv_aload_n hx hb dX8_run_76 rfl (lv_at hl 3 rfl) ?_
                    refine lv_iload hx hb dX8_run_77 (lv_at hl 0 rfl) ?_
                    refine lv_iconst (v := 1) hx hb dX8_run_79 (by decide) ?_
                    refine lv_iadd hx hb dX8_run_80 ?_
                    refine fr_topi (y := nI ((z_tu τ + x) % 4 + 1)) (nI_1 _) ?_
                    refine lv_iconst (v := 4) hx hb dX8_run_81 (by decide) ?_
                    refine lv_irem hx hb dX8_run_82 (by decide) ?_
                    refine fr_topi (y := nI (((z_tu τ + x) % 4 + 1) % 4)) (rem4 (by omega)) ?_
                    refine va_put (D := g.1) (ci := 7) (v := .int (nI (((z_tu τ + x) % 4 + 1) % 4))) (ty := .int) (C := RX8) (T := TX8) (N := 30) hx hb hts inX8 tyX8 tyX8_ok nmX8 hown hK hP hD hS 0 rfl rfl 5 (by decide) (hts _ tw608) (fun _ h9 => h9) rfl (by decide +kernel) rfl rfl (Nat.le_of_ble_eq_true rfl) dX8_run_83 (fun H locs hP hD hS => ?_)
                    have hP : va_P g.1 vwCl (rfW g a (z_mem τ) (z_R τ) (z_cb τ) (z_nc τ) (((z_tu τ + x) % 4 + 1) % 4) (z_bi τ) (z_cg τ) (z_on τ) (z_T τ) (z_dn τ) (z_fa τ) (z_br τ) (z_bs τ) (z_cp τ) (z_cq τ) (z_cx τ) (z_re τ) (z_n τ) (z_op τ) (z_fg τ) (z_sp τ) (z_one τ)) H := hP
                    have hD : va_D A (rfW g a (z_mem τ) (z_R τ) (z_cb τ) (z_nc τ) (((z_tu τ + x) % 4 + 1) % 4) (z_bi τ) (z_cg τ) (z_on τ) (z_T τ) (z_dn τ) (z_fa τ) (z_br τ) (z_bs τ) (z_cp τ) (z_cq τ) (z_cx τ) (z_re τ) (z_n τ) (z_op τ) (z_fg τ) (z_sp τ) (z_one τ)) := hD
                    refine lv_aload_n hx hb dX8_run_86 rfl (lv_at hl 3 rfl) ?_
                    refine lv_iload hx hb dX8_run_87 (lv_at hl 0 rfl) ?_
                    refine fr_goA (va_runV (As := [.int (nI ((z_tu τ + x) % 4))]) (rest := []) ⟨hx, hb, hml, hown, hts⟩ (kX8_command l g a (w_tu τ (((z_tu τ + x) % 4 + 1) % 4)) ((z_tu τ + x) % 4) hI.1.1 hI.1.2.1 hI.2 hj4 c50.1 H.size) (cwV 1 hts (gdV tw760 tw762 tp33 tw9 tw763) rfl rfl rfl (by decide +kernel) ⟨Nat.le_of_ble_eq_true rfl, Nat.le_of_ble_eq_true rfl⟩) ⟨Pst.blind, va_recv hK hP (ci := 7) (q0 := 0) rfl rfl, fr_preA hK hP hD⟩ rfl rfl hl.1 rfl (lv_room (Nat.le_of_ble_eq_true rfl)) dX8_run_89 ⟨(by show _ + 1 ≤ 200; omega), (by show _ + 8 ≤ 1600; omega)⟩) hD hS hA (fun v w9 H locs hq hP hD hS => ?_)
                    obtain ⟨sp1_89, hsp_89, rfl, rfl⟩ := hq
                    obtain ⟨s1, hs1⟩ : ∃ z9 : RS, z9 = h_cmd (w_tu τ (((z_tu τ + x) % 4 + 1) % 4)) ((z_tu τ + x) % 4) := ⟨_, rfl⟩
                    rw [← hs1] at hP hD
                    have hP : va_P g.1 vwCl (rfW g a (z_mem s1) (z_R s1) (z_cb s1) (z_nc s1) (z_tu s1) (z_bi s1) (z_cg s1) (z_on s1) (z_T s1) (z_dn s1) (z_fa s1) (z_br s1) (z_bs s1) (z_cp s1) (z_cq s1) (z_cx s1) (z_re s1) (z_n s1) (z_op s1) (z_fg s1) sp1_89 (z_one s1)) H := hP
                    have hD : va_D A (rfW g a (z_mem s1) (z_R s1) (z_cb s1) (z_nc s1) (z_tu s1) (z_bi s1) (z_cg s1) (z_on s1) (z_T s1) (z_dn s1) (z_fa s1) (z_br s1) (z_bs s1) (z_cp s1) (z_cq s1) (z_cx s1) (z_re s1) (z_n s1) (z_op s1) (z_fg s1) sp1_89 (z_one s1)) := hD
                    show W p l e _ s m _ below meth c H locs (i + 1) (8 * (i + 1)) _ (F0 m (89 + 3) ls ([]))
                    refine lv_iinc (v := nI (i + 1)) (lv' := [(2, .int (nI (i + 1))), (4, .int (nI ((z_tu τ + x) % 4))), (3, .int (nI x)), (0, .ref (a 0)), (1, .int p0)]) hx hb dX8_run_92 hl (k := 2) rfl (nI_1 _) (by decide) rfl (fun ls hl => ?_)
                    refine lv_goto (tgt := 26) hx hb dX8_run_95 (by decide) ?_
                    exact ih26 (i + 1) (w_sp s1 sp1_89) (by omega) (by omega) (by rw [hs1]; exact riv_step hI c50.1) (fun r π q => by rw [show i + 1 + r = i + (r + 1) by omega]; refine he (r + 1) π ?_; rw [show p0.toNatClampNeg - i = (p0.toNatClampNeg - (i + 1)) + 1 by omega]; rw [hs1] at q; exact runT_s hf q) H locs ls hP hD hS (lv_sub hl [0, 3, 4] rfl)
                  · have c50 := bI_f c50
                    refine lv_iinc (v := nI (x + 1)) (lv' := [(3, .int (nI (x + 1))), (2, .int (nI i)), (0, .ref (a 0)), (1, .int p0)]) hx hb dX8_run_53 hl (k := 0) rfl (nI_1 _) (by decide) rfl (fun ls hl => ?_)
                    refine lv_goto (tgt := 33) hx hb dX8_run_56 (by decide) ?_
                    exact ih33 (x + 1) (by omega) (by omega) (nxr_no hx9 c50) H locs ls hP hD hS (lv_sub hl [0, 1, 2, 3] rfl)
            exact lp33 _ 0 (Nat.lt_succ_self _) (by decide) rfl H locs ls hP hD hS (lv_sub hl [0, 1, 2, 3] rfl)
      exact lp26 _ 0 ρ (Nat.lt_succ_self _) (Nat.zero_le _) hI (fun r π q => by rw [Nat.zero_add]; exact q) H locs ls hP hD hS (lv_sub hl [0, 1, 2] rfl)
    · have c19 := bI_f c19
      refine lv_iconst (v := -1) hx hb dX8_run_22 (by decide) ?_
      refine W.widen (k := 200) (n := 1600) (by first | omega | exact Nat.le_of_ble_eq_true rfl) (by first | omega | exact Nat.le_of_ble_eq_true rfl) ?_
      exact W.iret (v := -1) hx hb hr (fun t ht _ => ⟨⟨(some (.int (-1))), rfW g a (z_mem ρ) (z_R ρ) (z_cb ρ) (z_nc ρ) (z_tu ρ) (z_bi ρ) (z_cg ρ) (z_on ρ) (z_T ρ) (z_dn ρ) (z_fa ρ) (z_br ρ) (z_bs ρ) (z_cp ρ) (z_cq ρ) (z_cx ρ) (z_re ρ) (z_n ρ) (z_op ρ) (z_fg ρ) (z_sp ρ) (z_one ρ), rfl, ⟨-1, ρ, (by rw [rrP, if_neg c4, if_pos (Classical.not_not.mp (fun q => c19 (w200.mpr q)))]; exact ⟨rfl, rfl⟩), rfl, rfl⟩, rfl, by rw [ht]; exact hP⟩, hS.F ht⟩) hS.2.2 dX8_run_23
  · refine lv_bipush (v := -3) hx hb dX8_run_7 (by decide) ?_
    refine W.widen (k := 200) (n := 1600) (by first | omega | exact Nat.le_of_ble_eq_true rfl) (by first | omega | exact Nat.le_of_ble_eq_true rfl) ?_
    exact W.iret (v := -3) hx hb hr (fun t ht _ => ⟨⟨(some (.int (-3))), rfW g a (z_mem ρ) (z_R ρ) (z_cb ρ) (z_nc ρ) (z_tu ρ) (z_bi ρ) (z_cg ρ) (z_on ρ) (z_T ρ) (z_dn ρ) (z_fa ρ) (z_br ρ) (z_bs ρ) (z_cp ρ) (z_cq ρ) (z_cx ρ) (z_re ρ) (z_n ρ) (z_op ρ) (z_fg ρ) (z_sp ρ) (z_one ρ), rfl, ⟨-3, ρ, (by rw [rrP, if_pos c4]; exact ⟨rfl, rfl⟩), rfl, rfl⟩, rfl, by rw [ht]; exact hP⟩, hS.F ht⟩) hS.2.2 dX8_run_9
