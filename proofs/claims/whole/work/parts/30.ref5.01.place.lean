set_option maxHeartbeats 4000000 in
set_option maxRecDepth 100000 in
/-- place -/
theorem kX8_place (l : Launch) (g : GG) (a : Nat → Nat) (ρ : RS) (hn9 : z_n ρ ≤ 256) : Ct l yX8_place cX8_place 9 (some .boolean) ({ frames := 2, cells := 0, slots := 0, locals := 46 } : Room) g [.ref (a 0)] (rfW g a (z_mem ρ) (z_R ρ) (z_cb ρ) (z_nc ρ) (z_tu ρ) (z_bi ρ) (z_cg ρ) (z_on ρ) (z_T ρ) (z_dn ρ) (z_fa ρ) (z_br ρ) (z_bs ρ) (z_cp ρ) (z_cq ρ) (z_cx ρ) (z_re ρ) (z_n ρ) (z_op ρ) (z_fg ρ) (z_sp ρ) (z_one ρ)) (fun v w' => ∃ (sp1 : Nat → Int32), (lyOk (z_mem ρ) (z_cp ρ) (z_cq ρ) (z_n ρ) → ∀ k, k < z_n ρ * 8 → sp1 k = adN (z_mem ρ) (z_cp ρ) (z_cq ρ) (z_n ρ) k) ∧ v = some (.int (bI (lyOk (z_mem ρ) (z_cp ρ) (z_cq ρ) (z_n ρ)))) ∧ w' = rfW g a (z_mem ρ) (z_R ρ) (z_cb ρ) (z_nc ρ) (z_tu ρ) (z_bi ρ) (z_cg ρ) (z_on ρ) (z_T ρ) (z_dn ρ) (z_fa ρ) (z_br ρ) (z_bs ρ) (z_cp ρ) (z_cq ρ) (z_cx ρ) (z_re ρ) (z_n ρ) (z_op ρ) (z_fg ρ) sp1 (z_one ρ)) := by
  refine Ct.of (by decide) (Nat.le_of_ble_eq_true rfl) ?_
  intro p e s m below meth c A ls H locs hx hb hr hml hlocks hts hown hin hA hS hK hP hD hl
  have hown : s.vm.findClass RX8 = some m.cls := hown
  have hl : lv_has ls 9 [(0, .ref (a 0))] := hl
  refine lv_aload_n hx hb dX8_place_0 rfl (lv_at hl 0 rfl) ?_
  refine va_get (D := g.1) (ci := 7) (v := .long (z_cp ρ)) (C := RX8) (T := TX8) (N := 30) hx hb hts inX8 hown hK hP 0 rfl rfl 21 (by decide) (hts _ tw624) (fun _ h9 => h9) rfl dX8_place_1 ?_
  refine lv_lconst (v := 0) hx hb dX8_place_4 (by decide) ?_
  refine lv_ldc2 hx hb hown (hts _ tw699) dX8_place_5 ?_
  refine fr_go (va_runS (As := [.long (z_cp ρ), .long 0, .long 1023]) (rest := []) ⟨hx, hb, hml, hown, hts⟩ (kX8_in l g (z_cp ρ) 0 1023 H.size) (va_cwS 3 hts (gdS tw700 tw701 tw9 tw702) rfl rfl rfl (by decide +kernel) ⟨Nat.le_of_ble_eq_true rfl, Nat.le_of_ble_eq_true rfl⟩) ⟨Pst.blind, fr_pre hK hP hD [] rfl rfl⟩ rfl rfl hl.1 rfl (lv_room (Nat.le_of_ble_eq_true rfl)) dX8_place_8 ⟨Nat.le_of_ble_eq_true rfl, Nat.le_of_ble_eq_true rfl⟩) hP hD hS hA [] rfl (fun v w9 H locs hq hP hD hS => ?_)
  obtain ⟨rfl, rfl⟩ := hq
  have hP : va_P g.1 vwCl (rfW g a (z_mem ρ) (z_R ρ) (z_cb ρ) (z_nc ρ) (z_tu ρ) (z_bi ρ) (z_cg ρ) (z_on ρ) (z_T ρ) (z_dn ρ) (z_fa ρ) (z_br ρ) (z_bs ρ) (z_cp ρ) (z_cq ρ) (z_cx ρ) (z_re ρ) (z_n ρ) (z_op ρ) (z_fg ρ) (z_sp ρ) (z_one ρ)) H := hP
  have hD : va_D A (rfW g a (z_mem ρ) (z_R ρ) (z_cb ρ) (z_nc ρ) (z_tu ρ) (z_bi ρ) (z_cg ρ) (z_on ρ) (z_T ρ) (z_dn ρ) (z_fa ρ) (z_br ρ) (z_bs ρ) (z_cp ρ) (z_cq ρ) (z_cx ρ) (z_re ρ) (z_n ρ) (z_op ρ) (z_fg ρ) (z_sp ρ) (z_one ρ)) := hD
  show W p l e _ s m _ below meth c H locs _ _ _ (F0 m (8 + 3) ls (.int (bI (¬ (z_cp ρ) < 0 ∧ ¬ 1023 < (z_cp ρ))) :: []))
  refine lv_if_ne (tgt := 16) hx hb dX8_place_11 (by decide) (fun c11 => ?_) (fun c11 => ?_)
  · have c11 := bI_t c11
    have d11 : hol (z_cp ρ) := ⟨c11.1, fun q => c11.2 (l1023 q)⟩
    have hp9 := hol_n d11
    have hp10 := hp9.1
    have hf9 : fsN (z_n ρ) (pN (z_cp ρ)) ≤ z_n ρ * 8 := Nat.min_le_left _ _
    have hr9 : rsN (z_n ρ) (pN (z_cp ρ)) = z_n ρ * 8 - fsN (z_n ρ) (pN (z_cp ρ)) := rfl
    have hd9 : ndN (rsN (z_n ρ) (pN (z_cp ρ))) = (rsN (z_n ρ) (pN (z_cp ρ)) + 15) / 16 := rfl
    refine lv_bipush (v := 8) hx hb dX8_place_16 (by decide) ?_
    refine lv_aload_n hx hb dX8_place_18 rfl (lv_at hl 0 rfl) ?_
    refine va_get (D := g.1) (ci := 7) (v := .int (nI (z_n ρ))) (C := RX8) (T := TX8) (N := 30) hx hb hts inX8 hown hK hP 0 rfl rfl 25 (by decide) (hts _ tw628) (fun _ h9 => h9) rfl dX8_place_19 ?_
    refine lv_imul hx hb dX8_place_22 ?_
    refine fr_topi (y := nI (z_n ρ * 8)) (by rw [Nat.mul_comm]; exact pk_mul 8 _) ?_
    refine lv_istore_n (lv' := [(1, .int (nI (z_n ρ * 8))), (0, .ref (a 0))]) hx hb dX8_place_23 rfl hl (by decide) rfl (fun ls hl => ?_)
    refine lv_iconst (v := 0) hx hb dX8_place_24 (by decide) ?_
    refine fr_topi (y := nI 0) nI_0.symm ?_
    refine lv_istore_n (lv' := [(2, .int (nI 0)), (1, .int (nI (z_n ρ * 8))), (0, .ref (a 0))]) hx hb dX8_place_25 rfl hl (by decide) rfl (fun ls hl => ?_)
    refine lv_aload_n hx hb dX8_place_26 rfl (lv_at hl 2 rfl) ?_
    refine va_get (D := g.1) (ci := 7) (v := .long (z_cp ρ)) (C := RX8) (T := TX8) (N := 30) hx hb hts inX8 hown hK hP 0 rfl rfl 21 (by decide) (hts _ tw624) (fun _ h9 => h9) rfl dX8_place_27 ?_
    refine fr_topl (y := lN (pN (z_cp ρ))) hp9.2.2 ?_
    refine lv_lstore_n (lv' := [(3, .long (lN (pN (z_cp ρ)))), (2, .int (nI 0)), (1, .int (nI (z_n ρ * 8))), (0, .ref (a 0))]) hx hb dX8_place_30 rfl hl (by decide) rfl (fun ls hl => ?_)
    have lp31 : ∀ (n9 : Nat) (k : Nat) (s1 : Nat → Int32) , z_n ρ * 8 - k < n9 → (k ≤ fsN (z_n ρ) (pN (z_cp ρ))) → (∀ t, t < k → s1 t = adN (z_mem ρ) (z_cp ρ) (z_cq ρ) (z_n ρ) t) → ∀ (H : Heap) (locs : List Loc) (ls : Array Slot), va_P g.1 vwCl (rfW g a (z_mem ρ) (z_R ρ) (z_cb ρ) (z_nc ρ) (z_tu ρ) (z_bi ρ) (z_cg ρ) (z_on ρ) (z_T ρ) (z_dn ρ) (z_fa ρ) (z_br ρ) (z_bs ρ) (z_cp ρ) (z_cq ρ) (z_cx ρ) (z_re ρ) (z_n ρ) (z_op ρ) (z_fg ρ) s1 (z_one ρ)) H → va_D A (rfW g a (z_mem ρ) (z_R ρ) (z_cb ρ) (z_nc ρ) (z_tu ρ) (z_bi ρ) (z_cg ρ) (z_on ρ) (z_T ρ) (z_dn ρ) (z_fa ρ) (z_br ρ) (z_bs ρ) (z_cp ρ) (z_cq ρ) (z_cx ρ) (z_re ρ) (z_n ρ) (z_op ρ) (z_fg ρ) s1 (z_one ρ)) → va_S A s.heap H locs → lv_has ls 9 [(2, .int (nI k)), (3, .long (lN (pN (z_cp ρ) + k))), (1, .int (nI (z_n ρ * 8))), (0, .ref (a 0))] → W p l e ({ frames := 2, cells := 0, slots := 0, locals := 46 } : Room) s m ([.ref (a 0)].toArray) below meth c H locs 0 0 (MQ below (Qst g (rfW g a (z_mem ρ) (z_R ρ) (z_cb ρ) (z_nc ρ) (z_tu ρ) (z_bi ρ) (z_cg ρ) (z_on ρ) (z_T ρ) (z_dn ρ) (z_fa ρ) (z_br ρ) (z_bs ρ) (z_cp ρ) (z_cq ρ) (z_cx ρ) (z_re ρ) (z_n ρ) (z_op ρ) (z_fg ρ) (z_sp ρ) (z_one ρ)) (fun v w' => ∃ (sp1 : Nat → Int32), (lyOk (z_mem ρ) (z_cp ρ) (z_cq ρ) (z_n ρ) → ∀ k, k < z_n ρ * 8 → sp1 k = adN (z_mem ρ) (z_cp ρ) (z_cq ρ) (z_n ρ) k) ∧ v = some (.int (bI (lyOk (z_mem ρ) (z_cp ρ) (z_cq ρ) (z_n ρ)))) ∧ w' = rfW g a (z_mem ρ) (z_R ρ) (z_cb ρ) (z_nc ρ) (z_tu ρ) (z_bi ρ) (z_cg ρ) (z_on ρ) (z_T ρ) (z_dn ρ) (z_fa ρ) (z_br ρ) (z_bs ρ) (z_cp ρ) (z_cq ρ) (z_cx ρ) (z_re ρ) (z_n ρ) (z_op ρ) (z_fg ρ) sp1 (z_one ρ)) A) ([.ref (a 0)].toArray) s 0 0 A) (F0 m 31 ls []) := by
      intro n9
      induction n9 with
      | zero => intro k s1 q9; exact absurd q9 (Nat.not_lt_zero _)
      | succ n9 ih31 =>
        intro k s1 hn9 hk hs H locs ls hP hD hS hl
        refine lv_iload_n hx hb dX8_place_31 rfl (lv_at hl 0 rfl) ?_
        refine lv_iload_n hx hb dX8_place_32 rfl (lv_at hl 2 rfl) ?_
        refine lv_icmp_ge (tgt := 68) hx hb dX8_place_33 (by decide) (fun c33 => ?_) (fun c33 => ?_)
        · have c33 := (nI_leI (a := (z_n ρ * 8)) (b := k) (by omega) (by omega)).mp c33
          have hkF : k = fsN (z_n ρ) (pN (z_cp ρ)) := fsN_stop hk (Or.inl c33)
          refine lv_iload_n hx hb dX8_place_68 rfl (lv_at hl 2 rfl) ?_
          refine lv_iload_n hx hb dX8_place_69 rfl (lv_at hl 0 rfl) ?_
          refine lv_isub hx hb dX8_place_70 ?_
          refine fr_topi (y := nI (rsN (z_n ρ) (pN (z_cp ρ)))) (by rw [hkF]; exact pk_sub hf9) ?_
          refine lv_istore_n (lv' := [(3, .int (nI (rsN (z_n ρ) (pN (z_cp ρ))))), (2, .int (nI k)), (1, .int (nI (z_n ρ * 8))), (0, .ref (a 0))]) hx hb dX8_place_71 rfl hl (by decide) rfl (fun ls hl => ?_)
          refine lv_iload_n hx hb dX8_place_72 rfl (lv_at hl 0 rfl) ?_
          refine lv_bipush (v := 16) hx hb dX8_place_73 (by decide) ?_
          refine lv_iadd hx hb dX8_place_75 ?_
          refine fr_topi (y := nI (rsN (z_n ρ) (pN (z_cp ρ)) + 16)) (nI_add _ 16) ?_
          refine lv_iconst (v := 1) hx hb dX8_place_76 (by decide) ?_
          refine lv_isub hx hb dX8_place_77 ?_
          refine fr_topi (y := nI (rsN (z_n ρ) (pN (z_cp ρ)) + 15)) (nI_pred _) ?_
          refine lv_bipush (v := 16) hx hb dX8_place_78 (by decide) ?_
          refine lv_idiv hx hb dX8_place_80 (by decide) ?_
          refine fr_topi (y := nI (ndN (rsN (z_n ρ) (pN (z_cp ρ))))) (pk_div (d := 16) (by omega) (by decide) (by decide)) ?_
          refine lv_istore (lv' := [(4, .int (nI (ndN (rsN (z_n ρ) (pN (z_cp ρ)))))), (3, .int (nI (rsN (z_n ρ) (pN (z_cp ρ))))), (2, .int (nI k)), (1, .int (nI (z_n ρ * 8))), (0, .ref (a 0))]) hx hb dX8_place_81 hl (by decide) rfl (fun ls hl => ?_)
          refine lv_iload hx hb dX8_place_83 (lv_at hl 0 rfl) ?_
          refine lv_if_ne (tgt := 90) hx hb dX8_place_85 (by decide) (fun c85 => ?_) (fun c85 => ?_)
          · have c85 := (not_congr (nI_eq (a := (ndN (rsN (z_n ρ) (pN (z_cp ρ))))) (b := 0) (by omega) (by omega))).mp c85
            refine lv_iload hx hb dX8_place_90 (lv_at hl 0 rfl) ?_
            refine lv_iconst (v := 1) hx hb dX8_place_92 (by decide) ?_
            refine lv_icmp_le (tgt := 131) hx hb dX8_place_93 (by decide) (fun c93 => ?_) (fun c93 => ?_)
            · have c93 := (nI_leI (a := (ndN (rsN (z_n ρ) (pN (z_cp ρ))))) (b := 1) (by omega) (by omega)).mp c93
              have hl9 : 1 < ndN (rsN (z_n ρ) (pN (z_cp ρ))) → (pN (z_cq ρ) < 1024 ∧ (z_cq ρ).toInt32 = nI (pN (z_cq ρ)) ∧ z_cq ρ = lN (pN (z_cq ρ))) ∧ pN (z_cq ρ) % 16 + ndN (rsN (z_n ρ) (pN (z_cp ρ))) ≤ 16 := fun q => absurd q (by omega)
              have hl8 : 1 < ndN (rsN (z_n ρ) (pN (z_cp ρ))) → hol (z_cq ρ) ∧ ¬ 16 < pN (z_cq ρ) % 16 + ndN (rsN (z_n ρ) (pN (z_cp ρ))) := fun q => absurd q (by omega)
              refine lv_iconst (v := 0) hx hb dX8_place_131 (by decide) ?_
              refine fr_topi (y := nI 0) nI_0.symm ?_
              refine lv_istore (lv' := [(5, .int (nI 0)), (4, .int (nI (ndN (rsN (z_n ρ) (pN (z_cp ρ)))))), (3, .int (nI (rsN (z_n ρ) (pN (z_cp ρ))))), (2, .int (nI k)), (1, .int (nI (z_n ρ * 8))), (0, .ref (a 0))]) hx hb dX8_place_132 hl (by decide) rfl (fun ls hl => ?_)
              have lp134 : ∀ (n9 : Nat) (i : Nat) (k : Nat) (s2 : Nat → Int32) , ndN (rsN (z_n ρ) (pN (z_cp ρ))) - i < n9 → (i ≤ ndN (rsN (z_n ρ) (pN (z_cp ρ)))) → (k = min (z_n ρ * 8) (fsN (z_n ρ) (pN (z_cp ρ)) + 16 * i)) → (∀ t, t < k → s2 t = adN (z_mem ρ) (z_cp ρ) (z_cq ρ) (z_n ρ) t) → (∀ t, t < i → hpg (pgN (z_mem ρ) (z_cq ρ) (rsN (z_n ρ) (pN (z_cp ρ))) t)) → ∀ (H : Heap) (locs : List Loc) (ls : Array Slot), va_P g.1 vwCl (rfW g a (z_mem ρ) (z_R ρ) (z_cb ρ) (z_nc ρ) (z_tu ρ) (z_bi ρ) (z_cg ρ) (z_on ρ) (z_T ρ) (z_dn ρ) (z_fa ρ) (z_br ρ) (z_bs ρ) (z_cp ρ) (z_cq ρ) (z_cx ρ) (z_re ρ) (z_n ρ) (z_op ρ) (z_fg ρ) s2 (z_one ρ)) H → va_D A (rfW g a (z_mem ρ) (z_R ρ) (z_cb ρ) (z_nc ρ) (z_tu ρ) (z_bi ρ) (z_cg ρ) (z_on ρ) (z_T ρ) (z_dn ρ) (z_fa ρ) (z_br ρ) (z_bs ρ) (z_cp ρ) (z_cq ρ) (z_cx ρ) (z_re ρ) (z_n ρ) (z_op ρ) (z_fg ρ) s2 (z_one ρ)) → va_S A s.heap H locs → lv_has ls 9 [(5, .int (nI i)), (2, .int (nI k)), (4, .int (nI (ndN (rsN (z_n ρ) (pN (z_cp ρ)))))), (1, .int (nI (z_n ρ * 8))), (0, .ref (a 0))] → W p l e ({ frames := 2, cells := 0, slots := 0, locals := 46 } : Room) s m ([.ref (a 0)].toArray) below meth c H locs 0 0 (MQ below (Qst g (rfW g a (z_mem ρ) (z_R ρ) (z_cb ρ) (z_nc ρ) (z_tu ρ) (z_bi ρ) (z_cg ρ) (z_on ρ) (z_T ρ) (z_dn ρ) (z_fa ρ) (z_br ρ) (z_bs ρ) (z_cp ρ) (z_cq ρ) (z_cx ρ) (z_re ρ) (z_n ρ) (z_op ρ) (z_fg ρ) (z_sp ρ) (z_one ρ)) (fun v w' => ∃ (sp1 : Nat → Int32), (lyOk (z_mem ρ) (z_cp ρ) (z_cq ρ) (z_n ρ) → ∀ k, k < z_n ρ * 8 → sp1 k = adN (z_mem ρ) (z_cp ρ) (z_cq ρ) (z_n ρ) k) ∧ v = some (.int (bI (lyOk (z_mem ρ) (z_cp ρ) (z_cq ρ) (z_n ρ)))) ∧ w' = rfW g a (z_mem ρ) (z_R ρ) (z_cb ρ) (z_nc ρ) (z_tu ρ) (z_bi ρ) (z_cg ρ) (z_on ρ) (z_T ρ) (z_dn ρ) (z_fa ρ) (z_br ρ) (z_bs ρ) (z_cp ρ) (z_cq ρ) (z_cx ρ) (z_re ρ) (z_n ρ) (z_op ρ) (z_fg ρ) sp1 (z_one ρ)) A) ([.ref (a 0)].toArray) s 0 0 A) (F0 m 134 ls []) := by
                intro n9
                induction n9 with
                | zero => intro i k s2 q9; exact absurd q9 (Nat.not_lt_zero _)
                | succ n9 ih134 =>
                  intro i k s2 hn9 hi hk hs hg H locs ls hP hD hS hl
                  refine lv_iload hx hb dX8_place_134 (lv_at hl 0 rfl) ?_
                  refine lv_iload hx hb dX8_place_136 (lv_at hl 2 rfl) ?_
                  refine lv_icmp_ge (tgt := 221) hx hb dX8_place_138 (by decide) (fun c138 => ?_) (fun c138 => ?_)
                  · have c138 := (nI_leI (a := (ndN (rsN (z_n ρ) (pN (z_cp ρ))))) (b := i) (by omega) (by omega)).mp c138
                    refine lv_iconst (v := 1) hx hb dX8_place_221 (by decide) ?_
                    exact W.zret (v := 1) hx hb hr (by first | rfl | exact bz_n (by first | assumption | exact bI_z | decide)) (fun t ht _ => ⟨⟨(some (.int 1)), rfW g a (z_mem ρ) (z_R ρ) (z_cb ρ) (z_nc ρ) (z_tu ρ) (z_bi ρ) (z_cg ρ) (z_on ρ) (z_T ρ) (z_dn ρ) (z_fa ρ) (z_br ρ) (z_bs ρ) (z_cp ρ) (z_cq ρ) (z_cx ρ) (z_re ρ) (z_n ρ) (z_op ρ) (z_fg ρ) s2 (z_one ρ), rfl, ⟨s2, (fun _ t ht => hs t (by omega)), congrArg (fun z : Int32 => some (Value.int z)) (bI_1 (ly_yes d11 c85 hl8 (fun t ht => hg t (by omega)))), rfl⟩, rfl, by rw [ht]; exact hP⟩, hS.F ht⟩) hS.2.2 dX8_place_222
                  · have c138 := (not_congr (nI_leI (a := (ndN (rsN (z_n ρ) (pN (z_cp ρ))))) (b := i) (by omega) (by omega))).mp c138
                    refine lv_iload hx hb dX8_place_141 (lv_at hl 2 rfl) ?_
                    refine lv_iconst (v := 1) hx hb dX8_place_143 (by decide) ?_
                    refine lv_icmp_ne (tgt := 154) hx hb dX8_place_144 (by decide) (fun c144 => ?_) (fun c144 => ?_)
                    · have c144 := (not_congr (nI_eq (a := (ndN (rsN (z_n ρ) (pN (z_cp ρ))))) (b := 1) (by omega) (by omega))).mp c144
                      refine lv_aload_n hx hb dX8_place_154 rfl (lv_at hl 4 rfl) ?_
                      refine va_get (D := g.1) (ci := 7) (v := .ref (a 1)) (C := RX8) (T := TX8) (N := 30) hx hb hts inX8 hown hK hP 0 rfl rfl 0 (by decide) (hts _ tw603) (fun _ h9 => h9) rfl dX8_place_155 ?_
                      refine lv_aload_n hx hb dX8_place_158 rfl (lv_at hl 4 rfl) ?_
                      refine va_get (D := g.1) (ci := 7) (v := .long (z_cq ρ)) (C := RX8) (T := TX8) (N := 30) hx hb hts inX8 hown hK hP 0 rfl rfl 22 (by decide) (hts _ tw625) (fun _ h9 => h9) rfl dX8_place_159 ?_
                      refine lv_l2i hx hb dX8_place_162 rfl ?_
                      refine fr_topi (y := nI (pN (z_cq ρ))) (hl9 (by omega)).1.2.1 ?_
                      refine lv_iload hx hb dX8_place_163 (lv_at hl 0 rfl) ?_
                      refine lv_iadd hx hb dX8_place_165 ?_
                      refine fr_topi (y := nI (pN (z_cq ρ) + i)) (nI_add _ _) ?_
                      refine fr_lald (k := (pN (z_cq ρ) + i)) hx hb hK hP 1 0 rfl rfl (by have := (hl9 (by omega)).2; have := (hl9 (by omega)).1.1; omega) (by decide) dX8_place_166 ?_
                      refine fr_topl (y := pgN (z_mem ρ) (z_cq ρ) (rsN (z_n ρ) (pN (z_cp ρ))) i) (pg_at c144 (hl9 (by omega)).1 (by have := (hl9 (by omega)).2; have := (hl9 (by omega)).1.1; omega)) ?_
                      refine lv_lstore (lv' := [(6, .long (pgN (z_mem ρ) (z_cq ρ) (rsN (z_n ρ) (pN (z_cp ρ))) i)), (5, .int (nI i)), (2, .int (nI k)), (4, .int (nI (ndN (rsN (z_n ρ) (pN (z_cp ρ)))))), (1, .int (nI (z_n ρ * 8))), (0, .ref (a 0))]) hx hb dX8_place_167 hl (by decide) rfl (fun ls hl => ?_)
                      refine lv_lload hx hb dX8_place_169 (lv_at hl 0 rfl) ?_
                      refine fr_go (va_runS (As := [.long (pgN (z_mem ρ) (z_cq ρ) (rsN (z_n ρ) (pN (z_cp ρ))) i)]) (rest := []) ⟨hx, hb, hml, hown, hts⟩ (kX8_isPage l g (pgN (z_mem ρ) (z_cq ρ) (rsN (z_n ρ) (pN (z_cp ρ))) i) H.size) (va_cwS 1 hts (gdS tw773 tw774 tw9 tw775) rfl rfl rfl (by decide +kernel) ⟨Nat.le_of_ble_eq_true rfl, Nat.le_of_ble_eq_true rfl⟩) ⟨Pst.blind, fr_pre hK hP hD [] rfl rfl⟩ rfl rfl hl.1 rfl (lv_room (Nat.le_of_ble_eq_true rfl)) dX8_place_171 ⟨Nat.le_of_ble_eq_true rfl, Nat.le_of_ble_eq_true rfl⟩) hP hD hS hA [] rfl (fun v w9 H locs hq hP hD hS => ?_)
                      obtain ⟨rfl, rfl⟩ := hq
                      have hP : va_P g.1 vwCl (rfW g a (z_mem ρ) (z_R ρ) (z_cb ρ) (z_nc ρ) (z_tu ρ) (z_bi ρ) (z_cg ρ) (z_on ρ) (z_T ρ) (z_dn ρ) (z_fa ρ) (z_br ρ) (z_bs ρ) (z_cp ρ) (z_cq ρ) (z_cx ρ) (z_re ρ) (z_n ρ) (z_op ρ) (z_fg ρ) s2 (z_one ρ)) H := hP
                      have hD : va_D A (rfW g a (z_mem ρ) (z_R ρ) (z_cb ρ) (z_nc ρ) (z_tu ρ) (z_bi ρ) (z_cg ρ) (z_on ρ) (z_T ρ) (z_dn ρ) (z_fa ρ) (z_br ρ) (z_bs ρ) (z_cp ρ) (z_cq ρ) (z_cx ρ) (z_re ρ) (z_n ρ) (z_op ρ) (z_fg ρ) s2 (z_one ρ)) := hD
                      show W p l e _ s m _ below meth c H locs _ _ _ (F0 m (171 + 3) ls (.int (bI (hpg (pgN (z_mem ρ) (z_cq ρ) (rsN (z_n ρ) (pN (z_cp ρ))) i))) :: []))
                      refine lv_if_ne (tgt := 179) hx hb dX8_place_174 (by decide) (fun c174 => ?_) (fun c174 => ?_)
                      · have c174 := bI_t c174
                        refine lv_iconst (v := 0) hx hb dX8_place_179 (by decide) ?_
                        refine fr_topi (y := nI 0) nI_0.symm ?_
                        refine lv_istore (lv' := [(8, .int (nI 0)), (6, .long (pgN (z_mem ρ) (z_cq ρ) (rsN (z_n ρ) (pN (z_cp ρ))) i)), (5, .int (nI i)), (2, .int (nI k)), (4, .int (nI (ndN (rsN (z_n ρ) (pN (z_cp ρ)))))), (1, .int (nI (z_n ρ * 8))), (0, .ref (a 0))]) hx hb dX8_place_180 hl (by decide) rfl (fun ls hl => ?_)
                        have lp182 : ∀ (n9 : Nat) (j : Nat) (k : Nat) (s3 : Nat → Int32) , 16 - j < n9 → (j ≤ 16) → (k = min (z_n ρ * 8) (fsN (z_n ρ) (pN (z_cp ρ)) + 16 * i + j)) → (∀ t, t < k → s3 t = adN (z_mem ρ) (z_cp ρ) (z_cq ρ) (z_n ρ) t) → ∀ (H : Heap) (locs : List Loc) (ls : Array Slot), va_P g.1 vwCl (rfW g a (z_mem ρ) (z_R ρ) (z_cb ρ) (z_nc ρ) (z_tu ρ) (z_bi ρ) (z_cg ρ) (z_on ρ) (z_T ρ) (z_dn ρ) (z_fa ρ) (z_br ρ) (z_bs ρ) (z_cp ρ) (z_cq ρ) (z_cx ρ) (z_re ρ) (z_n ρ) (z_op ρ) (z_fg ρ) s3 (z_one ρ)) H → va_D A (rfW g a (z_mem ρ) (z_R ρ) (z_cb ρ) (z_nc ρ) (z_tu ρ) (z_bi ρ) (z_cg ρ) (z_on ρ) (z_T ρ) (z_dn ρ) (z_fa ρ) (z_br ρ) (z_bs ρ) (z_cp ρ) (z_cq ρ) (z_cx ρ) (z_re ρ) (z_n ρ) (z_op ρ) (z_fg ρ) s3 (z_one ρ)) → va_S A s.heap H locs → lv_has ls 9 [(8, .int (nI j)), (2, .int (nI k)), (6, .long (pgN (z_mem ρ) (z_cq ρ) (rsN (z_n ρ) (pN (z_cp ρ))) i)), (5, .int (nI i)), (4, .int (nI (ndN (rsN (z_n ρ) (pN (z_cp ρ)))))), (1, .int (nI (z_n ρ * 8))), (0, .ref (a 0))] → W p l e ({ frames := 2, cells := 0, slots := 0, locals := 46 } : Room) s m ([.ref (a 0)].toArray) below meth c H locs 0 0 (MQ below (Qst g (rfW g a (z_mem ρ) (z_R ρ) (z_cb ρ) (z_nc ρ) (z_tu ρ) (z_bi ρ) (z_cg ρ) (z_on ρ) (z_T ρ) (z_dn ρ) (z_fa ρ) (z_br ρ) (z_bs ρ) (z_cp ρ) (z_cq ρ) (z_cx ρ) (z_re ρ) (z_n ρ) (z_op ρ) (z_fg ρ) (z_sp ρ) (z_one ρ)) (fun v w' => ∃ (sp1 : Nat → Int32), (lyOk (z_mem ρ) (z_cp ρ) (z_cq ρ) (z_n ρ) → ∀ k, k < z_n ρ * 8 → sp1 k = adN (z_mem ρ) (z_cp ρ) (z_cq ρ) (z_n ρ) k) ∧ v = some (.int (bI (lyOk (z_mem ρ) (z_cp ρ) (z_cq ρ) (z_n ρ)))) ∧ w' = rfW g a (z_mem ρ) (z_R ρ) (z_cb ρ) (z_nc ρ) (z_tu ρ) (z_bi ρ) (z_cg ρ) (z_on ρ) (z_T ρ) (z_dn ρ) (z_fa ρ) (z_br ρ) (z_bs ρ) (z_cp ρ) (z_cq ρ) (z_cx ρ) (z_re ρ) (z_n ρ) (z_op ρ) (z_fg ρ) sp1 (z_one ρ)) A) ([.ref (a 0)].toArray) s 0 0 A) (F0 m 182 ls []) := by
                          intro n9
                          induction n9 with
                          | zero => intro j k s3 q9; exact absurd q9 (Nat.not_lt_zero _)
                          | succ n9 ih182 =>
                            intro j k s3 hn9 hj hk3 hs H locs ls hP hD hS hl
                            refine lv_iload hx hb dX8_place_182 (lv_at hl 0 rfl) ?_
                            refine lv_bipush (v := 16) hx hb dX8_place_184 (by decide) ?_
                            refine lv_icmp_ge (tgt := 215) hx hb dX8_place_186 (by decide) (fun c186 => ?_) (fun c186 => ?_)
                            · have c186 := (nI_leI (a := 16) (b := j) (by omega) (by omega)).mp c186
                              refine lv_iinc (v := nI (i + 1)) (lv' := [(5, .int (nI (i + 1))), (8, .int (nI j)), (2, .int (nI k)), (6, .long (pgN (z_mem ρ) (z_cq ρ) (rsN (z_n ρ) (pN (z_cp ρ))) i)), (4, .int (nI (ndN (rsN (z_n ρ) (pN (z_cp ρ)))))), (1, .int (nI (z_n ρ * 8))), (0, .ref (a 0))]) hx hb dX8_place_215 hl (k := 3) rfl (nI_1 _) (by decide) rfl (fun ls hl => ?_)
                              refine lv_goto (tgt := 134) hx hb dX8_place_218 (by decide) ?_
                              exact ih134 (i + 1) k s3 (by omega) (by omega) (by omega) hs (lt_s hg c174) H locs ls hP hD hS (lv_sub hl [0, 2, 4, 5, 6] rfl)
                            · have c186 := (not_congr (nI_leI (a := 16) (b := j) (by omega) (by omega))).mp c186
                              refine lv_iload_n hx hb dX8_place_189 rfl (lv_at hl 1 rfl) ?_
                              refine lv_iload_n hx hb dX8_place_190 rfl (lv_at hl 5 rfl) ?_
                              refine lv_icmp_ge (tgt := 215) hx hb dX8_place_191 (by decide) (fun c191 => ?_) (fun c191 => ?_)
                              · have c191 := (nI_leI (a := (z_n ρ * 8)) (b := k) (by omega) (by omega)).mp c191
                                refine lv_iinc (v := nI (i + 1)) (lv' := [(5, .int (nI (i + 1))), (8, .int (nI j)), (2, .int (nI k)), (6, .long (pgN (z_mem ρ) (z_cq ρ) (rsN (z_n ρ) (pN (z_cp ρ))) i)), (4, .int (nI (ndN (rsN (z_n ρ) (pN (z_cp ρ)))))), (1, .int (nI (z_n ρ * 8))), (0, .ref (a 0))]) hx hb dX8_place_215 hl (k := 3) rfl (nI_1 _) (by decide) rfl (fun ls hl => ?_)
                                refine lv_goto (tgt := 134) hx hb dX8_place_218 (by decide) ?_
                                exact ih134 (i + 1) k s3 (by omega) (by omega) (by omega) hs (lt_s hg c174) H locs ls hP hD hS (lv_sub hl [0, 2, 4, 5, 6] rfl)
                              · have c191 := (not_congr (nI_leI (a := (z_n ρ * 8)) (b := k) (by omega) (by omega))).mp c191
                                refine lv_aload_n hx hb dX8_place_194 rfl (lv_at hl 6 rfl) ?_
                                refine va_get (D := g.1) (ci := 7) (v := .ref (a 13)) (C := RX8) (T := TX8) (N := 30) hx hb hts inX8 hown hK hP 0 rfl rfl 28 (by decide) (hts _ tw631) (fun _ h9 => h9) rfl dX8_place_195 ?_
                                refine lv_iload_n hx hb dX8_place_198 rfl (lv_at hl 1 rfl) ?_
                                refine lv_lload hx hb dX8_place_199 (lv_at hl 2 rfl) ?_
                                refine lv_l2i hx hb dX8_place_201 rfl ?_
                                refine lv_iload hx hb dX8_place_202 (lv_at hl 0 rfl) ?_
                                refine lv_iadd hx hb dX8_place_204 ?_
                                refine fr_iast (k := k) hx hb hK hP hD hS 13 1 rfl rfl (by omega) (by decide) dX8_place_205 (fun H locs hP hD hS => ?_)
                                have hP : va_P g.1 vwCl (rfW g a (z_mem ρ) (z_R ρ) (z_cb ρ) (z_nc ρ) (z_tu ρ) (z_bi ρ) (z_cg ρ) (z_on ρ) (z_T ρ) (z_dn ρ) (z_fa ρ) (z_br ρ) (z_bs ρ) (z_cp ρ) (z_cq ρ) (z_cx ρ) (z_re ρ) (z_n ρ) (z_op ρ) (z_fg ρ) (upd s3 k (((pgN (z_mem ρ) (z_cq ρ) (rsN (z_n ρ) (pN (z_cp ρ))) i).toInt32) + (nI j))) (z_one ρ)) H := hP
                                have hD : va_D A (rfW g a (z_mem ρ) (z_R ρ) (z_cb ρ) (z_nc ρ) (z_tu ρ) (z_bi ρ) (z_cg ρ) (z_on ρ) (z_T ρ) (z_dn ρ) (z_fa ρ) (z_br ρ) (z_bs ρ) (z_cp ρ) (z_cq ρ) (z_cx ρ) (z_re ρ) (z_n ρ) (z_op ρ) (z_fg ρ) (upd s3 k (((pgN (z_mem ρ) (z_cq ρ) (rsN (z_n ρ) (pN (z_cp ρ))) i).toInt32) + (nI j))) (z_one ρ)) := hD
                                refine lv_iinc (v := nI (k + 1)) (lv' := [(2, .int (nI (k + 1))), (8, .int (nI j)), (6, .long (pgN (z_mem ρ) (z_cq ρ) (rsN (z_n ρ) (pN (z_cp ρ))) i)), (5, .int (nI i)), (4, .int (nI (ndN (rsN (z_n ρ) (pN (z_cp ρ)))))), (1, .int (nI (z_n ρ * 8))), (0, .ref (a 0))]) hx hb dX8_place_206 hl (k := 1) rfl (nI_1 _) (by decide) rfl (fun ls hl => ?_)
                                refine lv_iinc (v := nI (j + 1)) (lv' := [(8, .int (nI (j + 1))), (2, .int (nI (k + 1))), (6, .long (pgN (z_mem ρ) (z_cq ρ) (rsN (z_n ρ) (pN (z_cp ρ))) i)), (5, .int (nI i)), (4, .int (nI (ndN (rsN (z_n ρ) (pN (z_cp ρ)))))), (1, .int (nI (z_n ρ * 8))), (0, .ref (a 0))]) hx hb dX8_place_209 hl (k := 1) rfl (nI_1 _) (by decide) rfl (fun ls hl => ?_)
                                refine lv_goto (tgt := 182) hx hb dX8_place_212 (by decide) ?_
                                exact ih182 (j + 1) (k + 1) (upd s3 k ((pgN (z_mem ρ) (z_cq ρ) (rsN (z_n ρ) (pN (z_cp ρ))) i).toInt32 + nI j)) (by omega) (by omega) (by omega) (upd_ext hs (by rw [adN_hi (by omega), show fsN (z_n ρ) (pN (z_cp ρ)) + (16 * i + j) = k by omega])) H locs ls hP hD hS (lv_sub hl [0, 1, 2, 3, 4, 5, 6] rfl)
                        exact lp182 _ 0 k s2 (Nat.lt_succ_self _) (by decide) (by omega) hs H locs ls hP hD hS (lv_sub hl [0, 3, 1, 2, 4, 5, 6] rfl)
                      · have c174 := bI_f c174
                        refine lv_iconst (v := 0) hx hb dX8_place_177 (by decide) ?_
                        exact W.zret (v := 0) hx hb hr (by first | rfl | exact bz_n (by first | assumption | exact bI_z | decide)) (fun t ht _ => ⟨⟨(some (.int 0)), rfW g a (z_mem ρ) (z_R ρ) (z_cb ρ) (z_nc ρ) (z_tu ρ) (z_bi ρ) (z_cg ρ) (z_on ρ) (z_T ρ) (z_dn ρ) (z_fa ρ) (z_br ρ) (z_bs ρ) (z_cp ρ) (z_cq ρ) (z_cx ρ) (z_re ρ) (z_n ρ) (z_op ρ) (z_fg ρ) s2 (z_one ρ), rfl, ⟨s2, (fun q => absurd q (ly_no (by omega) c174)), congrArg (fun z : Int32 => some (Value.int z)) (bI_0 (ly_no (by omega) c174)), rfl⟩, rfl, by rw [ht]; exact hP⟩, hS.F ht⟩) hS.2.2 dX8_place_178
                    · have c144 := (nI_eq (a := (ndN (rsN (z_n ρ) (pN (z_cp ρ))))) (b := 1) (by omega) (by omega)).mp c144
                      refine lv_aload_n hx hb dX8_place_147 rfl (lv_at hl 4 rfl) ?_
                      refine va_get (D := g.1) (ci := 7) (v := .long (z_cq ρ)) (C := RX8) (T := TX8) (N := 30) hx hb hts inX8 hown hK hP 0 rfl rfl 22 (by decide) (hts _ tw625) (fun _ h9 => h9) rfl dX8_place_148 ?_
                      refine fr_topl (y := pgN (z_mem ρ) (z_cq ρ) (rsN (z_n ρ) (pN (z_cp ρ))) i) (if_pos c144).symm ?_
                      refine lv_goto (tgt := 167) hx hb dX8_place_151 (by decide) ?_
                      refine lv_lstore (lv' := [(6, .long (pgN (z_mem ρ) (z_cq ρ) (rsN (z_n ρ) (pN (z_cp ρ))) i)), (5, .int (nI i)), (2, .int (nI k)), (4, .int (nI (ndN (rsN (z_n ρ) (pN (z_cp ρ)))))), (1, .int (nI (z_n ρ * 8))), (0, .ref (a 0))]) hx hb dX8_place_167 hl (by decide) rfl (fun ls hl => ?_)
                      refine lv_lload hx hb dX8_place_169 (lv_at hl 0 rfl) ?_
                      refine fr_go (va_runS (As := [.long (pgN (z_mem ρ) (z_cq ρ) (rsN (z_n ρ) (pN (z_cp ρ))) i)]) (rest := []) ⟨hx, hb, hml, hown, hts⟩ (kX8_isPage l g (pgN (z_mem ρ) (z_cq ρ) (rsN (z_n ρ) (pN (z_cp ρ))) i) H.size) (va_cwS 1 hts (gdS tw773 tw774 tw9 tw775) rfl rfl rfl (by decide +kernel) ⟨Nat.le_of_ble_eq_true rfl, Nat.le_of_ble_eq_true rfl⟩) ⟨Pst.blind, fr_pre hK hP hD [] rfl rfl⟩ rfl rfl hl.1 rfl (lv_room (Nat.le_of_ble_eq_true rfl)) dX8_place_171 ⟨Nat.le_of_ble_eq_true rfl, Nat.le_of_ble_eq_true rfl⟩) hP hD hS hA [] rfl (fun v w9 H locs hq hP hD hS => ?_)
                      obtain ⟨rfl, rfl⟩ := hq
                      have hP : va_P g.1 vwCl (rfW g a (z_mem ρ) (z_R ρ) (z_cb ρ) (z_nc ρ) (z_tu ρ) (z_bi ρ) (z_cg ρ) (z_on ρ) (z_T ρ) (z_dn ρ) (z_fa ρ) (z_br ρ) (z_bs ρ) (z_cp ρ) (z_cq ρ) (z_cx ρ) (z_re ρ) (z_n ρ) (z_op ρ) (z_fg ρ) s2 (z_one ρ)) H := hP
                      have hD : va_D A (rfW g a (z_mem ρ) (z_R ρ) (z_cb ρ) (z_nc ρ) (z_tu ρ) (z_bi ρ) (z_cg ρ) (z_on ρ) (z_T ρ) (z_dn ρ) (z_fa ρ) (z_br ρ) (z_bs ρ) (z_cp ρ) (z_cq ρ) (z_cx ρ) (z_re ρ) (z_n ρ) (z_op ρ) (z_fg ρ) s2 (z_one ρ)) := hD
                      show W p l e _ s m _ below meth c H locs _ _ _ (F0 m (171 + 3) ls (.int (bI (hpg (pgN (z_mem ρ) (z_cq ρ) (rsN (z_n ρ) (pN (z_cp ρ))) i))) :: []))
                      refine lv_if_ne (tgt := 179) hx hb dX8_place_174 (by decide) (fun c174 => ?_) (fun c174 => ?_)
                      · have c174 := bI_t c174
                        refine lv_iconst (v := 0) hx hb dX8_place_179 (by decide) ?_
                        refine fr_topi (y := nI 0) nI_0.symm ?_
                        refine lv_istore (lv' := [(8, .int (nI 0)), (6, .long (pgN (z_mem ρ) (z_cq ρ) (rsN (z_n ρ) (pN (z_cp ρ))) i)), (5, .int (nI i)), (2, .int (nI k)), (4, .int (nI (ndN (rsN (z_n ρ) (pN (z_cp ρ)))))), (1, .int (nI (z_n ρ * 8))), (0, .ref (a 0))]) hx hb dX8_place_180 hl (by decide) rfl (fun ls hl => ?_)
                        have lp182 : ∀ (n9 : Nat) (j : Nat) (k : Nat) (s3 : Nat → Int32) , 16 - j < n9 → (j ≤ 16) → (k = min (z_n ρ * 8) (fsN (z_n ρ) (pN (z_cp ρ)) + 16 * i + j)) → (∀ t, t < k → s3 t = adN (z_mem ρ) (z_cp ρ) (z_cq ρ) (z_n ρ) t) → ∀ (H : Heap) (locs : List Loc) (ls : Array Slot), va_P g.1 vwCl (rfW g a (z_mem ρ) (z_R ρ) (z_cb ρ) (z_nc ρ) (z_tu ρ) (z_bi ρ) (z_cg ρ) (z_on ρ) (z_T ρ) (z_dn ρ) (z_fa ρ) (z_br ρ) (z_bs ρ) (z_cp ρ) (z_cq ρ) (z_cx ρ) (z_re ρ) (z_n ρ) (z_op ρ) (z_fg ρ) s3 (z_one ρ)) H → va_D A (rfW g a (z_mem ρ) (z_R ρ) (z_cb ρ) (z_nc ρ) (z_tu ρ) (z_bi ρ) (z_cg ρ) (z_on ρ) (z_T ρ) (z_dn ρ) (z_fa ρ) (z_br ρ) (z_bs ρ) (z_cp ρ) (z_cq ρ) (z_cx ρ) (z_re ρ) (z_n ρ) (z_op ρ) (z_fg ρ) s3 (z_one ρ)) → va_S A s.heap H locs → lv_has ls 9 [(8, .int (nI j)), (2, .int (nI k)), (6, .long (pgN (z_mem ρ) (z_cq ρ) (rsN (z_n ρ) (pN (z_cp ρ))) i)), (5, .int (nI i)), (4, .int (nI (ndN (rsN (z_n ρ) (pN (z_cp ρ)))))), (1, .int (nI (z_n ρ * 8))), (0, .ref (a 0))] → W p l e ({ frames := 2, cells := 0, slots := 0, locals := 46 } : Room) s m ([.ref (a 0)].toArray) below meth c H locs 0 0 (MQ below (Qst g (rfW g a (z_mem ρ) (z_R ρ) (z_cb ρ) (z_nc ρ) (z_tu ρ) (z_bi ρ) (z_cg ρ) (z_on ρ) (z_T ρ) (z_dn ρ) (z_fa ρ) (z_br ρ) (z_bs ρ) (z_cp ρ) (z_cq ρ) (z_cx ρ) (z_re ρ) (z_n ρ) (z_op ρ) (z_fg ρ) (z_sp ρ) (z_one ρ)) (fun v w' => ∃ (sp1 : Nat → Int32), (lyOk (z_mem ρ) (z_cp ρ) (z_cq ρ) (z_n ρ) → ∀ k, k < z_n ρ * 8 → sp1 k = adN (z_mem ρ) (z_cp ρ) (z_cq ρ) (z_n ρ) k) ∧ v = some (.int (bI (lyOk (z_mem ρ) (z_cp ρ) (z_cq ρ) (z_n ρ)))) ∧ w' = rfW g a (z_mem ρ) (z_R ρ) (z_cb ρ) (z_nc ρ) (z_tu ρ) (z_bi ρ) (z_cg ρ) (z_on ρ) (z_T ρ) (z_dn ρ) (z_fa ρ) (z_br ρ) (z_bs ρ) (z_cp ρ) (z_cq ρ) (z_cx ρ) (z_re ρ) (z_n ρ) (z_op ρ) (z_fg ρ) sp1 (z_one ρ)) A) ([.ref (a 0)].toArray) s 0 0 A) (F0 m 182 ls []) := by
                          intro n9
                          induction n9 with
                          | zero => intro j k s3 q9; exact absurd q9 (Nat.not_lt_zero _)
                          | succ n9 ih182 =>
                            intro j k s3 hn9 hj hk3 hs H locs ls hP hD hS hl
                            refine lv_iload hx hb dX8_place_182 (lv_at hl 0 rfl) ?_
                            refine lv_bipush (v := 16) hx hb dX8_place_184 (by decide) ?_
                            refine lv_icmp_ge (tgt := 215) hx hb dX8_place_186 (by decide) (fun c186 => ?_) (fun c186 => ?_)
                            · have c186 := (nI_leI (a := 16) (b := j) (by omega) (by omega)).mp c186
                              refine lv_iinc (v := nI (i + 1)) (lv' := [(5, .int (nI (i + 1))), (8, .int (nI j)), (2, .int (nI k)), (6, .long (pgN (z_mem ρ) (z_cq ρ) (rsN (z_n ρ) (pN (z_cp ρ))) i)), (4, .int (nI (ndN (rsN (z_n ρ) (pN (z_cp ρ)))))), (1, .int (nI (z_n ρ * 8))), (0, .ref (a 0))]) hx hb dX8_place_215 hl (k := 3) rfl (nI_1 _) (by decide) rfl (fun ls hl => ?_)
                              refine lv_goto (tgt := 134) hx hb dX8_place_218 (by decide) ?_
                              exact ih134 (i + 1) k s3 (by omega) (by omega) (by omega) hs (lt_s hg c174) H locs ls hP hD hS (lv_sub hl [0, 2, 4, 5, 6] rfl)
                            · have c186 := (not_congr (nI_leI (a := 16) (b := j) (by omega) (by omega))).mp c186
                              refine lv_iload_n hx hb dX8_place_189 rfl (lv_at hl 1 rfl) ?_
                              refine lv_iload_n hx hb dX8_place_190 rfl (lv_at hl 5 rfl) ?_
                              refine lv_icmp_ge (tgt := 215) hx hb dX8_place_191 (by decide) (fun c191 => ?_) (fun c191 => ?_)
                              · have c191 := (nI_leI (a := (z_n ρ * 8)) (b := k) (by omega) (by omega)).mp c191
                                refine lv_iinc (v := nI (i + 1)) (lv' := [(5, .int (nI (i + 1))), (8, .int (nI j)), (2, .int (nI k)), (6, .long (pgN (z_mem ρ) (z_cq ρ) (rsN (z_n ρ) (pN (z_cp ρ))) i)), (4, .int (nI (ndN (rsN (z_n ρ) (pN (z_cp ρ)))))), (1, .int (nI (z_n ρ * 8))), (0, .ref (a 0))]) hx hb dX8_place_215 hl (k := 3) rfl (nI_1 _) (by decide) rfl (fun ls hl => ?_)
                                refine lv_goto (tgt := 134) hx hb dX8_place_218 (by decide) ?_
                                exact ih134 (i + 1) k s3 (by omega) (by omega) (by omega) hs (lt_s hg c174) H locs ls hP hD hS (lv_sub hl [0, 2, 4, 5, 6] rfl)
                              · have c191 := (not_congr (nI_leI (a := (z_n ρ * 8)) (b := k) (by omega) (by omega))).mp c191
                                refine lv_aload_n hx hb dX8_place_194 rfl (lv_at hl 6 rfl) ?_
                                refine va_get (D := g.1) (ci := 7) (v := .ref (a 13)) (C := RX8) (T := TX8) (N := 30) hx hb hts inX8 hown hK hP 0 rfl rfl 28 (by decide) (hts _ tw631) (fun _ h9 => h9) rfl dX8_place_195 ?_
                                refine lv_iload_n hx hb dX8_place_198 rfl (lv_at hl 1 rfl) ?_
                                refine lv_lload hx hb dX8_place_199 (lv_at hl 2 rfl) ?_
                                refine lv_l2i hx hb dX8_place_201 rfl ?_
                                refine lv_iload hx hb dX8_place_202 (lv_at hl 0 rfl) ?_
                                refine lv_iadd hx hb dX8_place_204 ?_
                                refine fr_iast (k := k) hx hb hK hP hD hS 13 1 rfl rfl (by omega) (by decide) dX8_place_205 (fun H locs hP hD hS => ?_)
                                have hP : va_P g.1 vwCl (rfW g a (z_mem ρ) (z_R ρ) (z_cb ρ) (z_nc ρ) (z_tu ρ) (z_bi ρ) (z_cg ρ) (z_on ρ) (z_T ρ) (z_dn ρ) (z_fa ρ) (z_br ρ) (z_bs ρ) (z_cp ρ) (z_cq ρ) (z_cx ρ) (z_re ρ) (z_n ρ) (z_op ρ) (z_fg ρ) (upd s3 k (((pgN (z_mem ρ) (z_cq ρ) (rsN (z_n ρ) (pN (z_cp ρ))) i).toInt32) + (nI j))) (z_one ρ)) H := hP
                                have hD : va_D A (rfW g a (z_mem ρ) (z_R ρ) (z_cb ρ) (z_nc ρ) (z_tu ρ) (z_bi ρ) (z_cg ρ) (z_on ρ) (z_T ρ) (z_dn ρ) (z_fa ρ) (z_br ρ) (z_bs ρ) (z_cp ρ) (z_cq ρ) (z_cx ρ) (z_re ρ) (z_n ρ) (z_op ρ) (z_fg ρ) (upd s3 k (((pgN (z_mem ρ) (z_cq ρ) (rsN (z_n ρ) (pN (z_cp ρ))) i).toInt32) + (nI j))) (z_one ρ)) := hD
                                refine lv_iinc (v := nI (k + 1)) (lv' := [(2, .int (nI (k + 1))), (8, .int (nI j)), (6, .long (pgN (z_mem ρ) (z_cq ρ) (rsN (z_n ρ) (pN (z_cp ρ))) i)), (5, .int (nI i)), (4, .int (nI (ndN (rsN (z_n ρ) (pN (z_cp ρ)))))), (1, .int (nI (z_n ρ * 8))), (0, .ref (a 0))]) hx hb dX8_place_206 hl (k := 1) rfl (nI_1 _) (by decide) rfl (fun ls hl => ?_)
                                refine lv_iinc (v := nI (j + 1)) (lv' := [(8, .int (nI (j + 1))), (2, .int (nI (k + 1))), (6, .long (pgN (z_mem ρ) (z_cq ρ) (rsN (z_n ρ) (pN (z_cp ρ))) i)), (5, .int (nI i)), (4, .int (nI (ndN (rsN (z_n ρ) (pN (z_cp ρ)))))), (1, .int (nI (z_n ρ * 8))), (0, .ref (a 0))]) hx hb dX8_place_209 hl (k := 1) rfl (nI_1 _) (by decide) rfl (fun ls hl => ?_)
                                refine lv_goto (tgt := 182) hx hb dX8_place_212 (by decide) ?_
                                exact ih182 (j + 1) (k + 1) (upd s3 k ((pgN (z_mem ρ) (z_cq ρ) (rsN (z_n ρ) (pN (z_cp ρ))) i).toInt32 + nI j)) (by omega) (by omega) (by omega) (upd_ext hs (by rw [adN_hi (by omega), show fsN (z_n ρ) (pN (z_cp ρ)) + (16 * i + j) = k by omega])) H locs ls hP hD hS (lv_sub hl [0, 1, 2, 3, 4, 5, 6] rfl)
                        exact lp182 _ 0 k s2 (Nat.lt_succ_self _) (by decide) (by omega) hs H locs ls hP hD hS (lv_sub hl [0, 3, 1, 2, 4, 5, 6] rfl)
                      · have c174 := bI_f c174
                        refine lv_iconst (v := 0) hx hb dX8_place_177 (by decide) ?_
                        exact W.zret (v := 0) hx hb hr (by first | rfl | exact bz_n (by first | assumption | exact bI_z | decide)) (fun t ht _ => ⟨⟨(some (.int 0)), rfW g a (z_mem ρ) (z_R ρ) (z_cb ρ) (z_nc ρ) (z_tu ρ) (z_bi ρ) (z_cg ρ) (z_on ρ) (z_T ρ) (z_dn ρ) (z_fa ρ) (z_br ρ) (z_bs ρ) (z_cp ρ) (z_cq ρ) (z_cx ρ) (z_re ρ) (z_n ρ) (z_op ρ) (z_fg ρ) s2 (z_one ρ), rfl, ⟨s2, (fun q => absurd q (ly_no (by omega) c174)), congrArg (fun z : Int32 => some (Value.int z)) (bI_0 (ly_no (by omega) c174)), rfl⟩, rfl, by rw [ht]; exact hP⟩, hS.F ht⟩) hS.2.2 dX8_place_178
              exact lp134 _ 0 k s1 (Nat.lt_succ_self _) (Nat.zero_le _) (by omega) hs (fun t ht => absurd ht (Nat.not_lt_zero _)) H locs ls hP hD hS (lv_sub hl [0, 3, 1, 4, 5] rfl)
            · have c93 := (not_congr (nI_leI (a := (ndN (rsN (z_n ρ) (pN (z_cp ρ))))) (b := 1) (by omega) (by omega))).mp c93
              refine lv_aload_n hx hb dX8_place_96 rfl (lv_at hl 4 rfl) ?_
              refine va_get (D := g.1) (ci := 7) (v := .long (z_cq ρ)) (C := RX8) (T := TX8) (N := 30) hx hb hts inX8 hown hK hP 0 rfl rfl 22 (by decide) (hts _ tw625) (fun _ h9 => h9) rfl dX8_place_97 ?_
              refine lv_lconst (v := 0) hx hb dX8_place_100 (by decide) ?_
              refine lv_ldc2 hx hb hown (hts _ tw699) dX8_place_101 ?_
              refine fr_go (va_runS (As := [.long (z_cq ρ), .long 0, .long 1023]) (rest := []) ⟨hx, hb, hml, hown, hts⟩ (kX8_in l g (z_cq ρ) 0 1023 H.size) (va_cwS 3 hts (gdS tw700 tw701 tw9 tw702) rfl rfl rfl (by decide +kernel) ⟨Nat.le_of_ble_eq_true rfl, Nat.le_of_ble_eq_true rfl⟩) ⟨Pst.blind, fr_pre hK hP hD [] rfl rfl⟩ rfl rfl hl.1 rfl (lv_room (Nat.le_of_ble_eq_true rfl)) dX8_place_104 ⟨Nat.le_of_ble_eq_true rfl, Nat.le_of_ble_eq_true rfl⟩) hP hD hS hA [] rfl (fun v w9 H locs hq hP hD hS => ?_)
              obtain ⟨rfl, rfl⟩ := hq
              have hP : va_P g.1 vwCl (rfW g a (z_mem ρ) (z_R ρ) (z_cb ρ) (z_nc ρ) (z_tu ρ) (z_bi ρ) (z_cg ρ) (z_on ρ) (z_T ρ) (z_dn ρ) (z_fa ρ) (z_br ρ) (z_bs ρ) (z_cp ρ) (z_cq ρ) (z_cx ρ) (z_re ρ) (z_n ρ) (z_op ρ) (z_fg ρ) s1 (z_one ρ)) H := hP
              have hD : va_D A (rfW g a (z_mem ρ) (z_R ρ) (z_cb ρ) (z_nc ρ) (z_tu ρ) (z_bi ρ) (z_cg ρ) (z_on ρ) (z_T ρ) (z_dn ρ) (z_fa ρ) (z_br ρ) (z_bs ρ) (z_cp ρ) (z_cq ρ) (z_cx ρ) (z_re ρ) (z_n ρ) (z_op ρ) (z_fg ρ) s1 (z_one ρ)) := hD
              show W p l e _ s m _ below meth c H locs _ _ _ (F0 m (104 + 3) ls (.int (bI (¬ (z_cq ρ) < 0 ∧ ¬ 1023 < (z_cq ρ))) :: []))
              refine lv_if_eq (tgt := 129) hx hb dX8_place_107 (by decide) (fun c107 => ?_) (fun c107 => ?_)
              · have c107 := bI_f c107
                have d107 : ¬ hol (z_cq ρ) := fun q => c107 ⟨q.1, fun z => q.2 (l1024 z)⟩
                refine lv_iconst (v := 0) hx hb dX8_place_129 (by decide) ?_
                exact W.zret (v := 0) hx hb hr (by first | rfl | exact bz_n (by first | assumption | exact bI_z | decide)) (fun t ht _ => ⟨⟨(some (.int 0)), rfW g a (z_mem ρ) (z_R ρ) (z_cb ρ) (z_nc ρ) (z_tu ρ) (z_bi ρ) (z_cg ρ) (z_on ρ) (z_T ρ) (z_dn ρ) (z_fa ρ) (z_br ρ) (z_bs ρ) (z_cp ρ) (z_cq ρ) (z_cx ρ) (z_re ρ) (z_n ρ) (z_op ρ) (z_fg ρ) s1 (z_one ρ), rfl, ⟨s1, (fun q => absurd q (ly_big c85 c93 (fun q => d107 q.1))), congrArg (fun z : Int32 => some (Value.int z)) (bI_0 (ly_big c85 c93 (fun q => d107 q.1))), rfl⟩, rfl, by rw [ht]; exact hP⟩, hS.F ht⟩) hS.2.2 dX8_place_130
              · have c107 := bI_t c107
                have d107 : hol (z_cq ρ) := ⟨c107.1, fun q => c107.2 (l1023 q)⟩
                have hq9 := hol_n d107
                have hq10 := hq9.1
                refine lv_aload_n hx hb dX8_place_110 rfl (lv_at hl 4 rfl) ?_
                refine va_get (D := g.1) (ci := 7) (v := .long (z_cq ρ)) (C := RX8) (T := TX8) (N := 30) hx hb hts inX8 hown hK hP 0 rfl rfl 22 (by decide) (hts _ tw625) (fun _ h9 => h9) rfl dX8_place_111 ?_
                refine lv_ldc2 hx hb hown (hts _ tw715) dX8_place_114 ?_
                refine lv_lrem hx hb dX8_place_117 (by decide) ?_
                refine fr_topl (y := lN (pN (z_cq ρ) % 16)) (lrem_q hq9.2.2 (by omega)) ?_
                refine lv_iload hx hb dX8_place_118 (lv_at hl 0 rfl) ?_
                refine lv_i2l hx hb dX8_place_120 rfl ?_
                refine fr_topl (y := lN (ndN (rsN (z_n ρ) (pN (z_cp ρ))))) (nI_l (by omega)) ?_
                refine lv_ladd hx hb dX8_place_121 ?_
                refine fr_topl (y := lN (pN (z_cq ρ) % 16 + ndN (rsN (z_n ρ) (pN (z_cp ρ))))) (lN_add _ _) ?_
                refine lv_ldc2 hx hb hown (hts _ tw715) dX8_place_122 ?_
                refine W.lcmp hx hb dX8_place_125 ?_
                refine lv_if_le (tgt := 131) hx hb dX8_place_126 (by decide) (fun c126 => ?_) (fun c126 => ?_)
                · have c126 := (lg_cmp_le (lN (pN (z_cq ρ) % 16 + ndN (rsN (z_n ρ) (pN (z_cp ρ))))) 16).mp c126
                  have d126 := (lN_16 (by omega)).mp c126
                  have hl9 : 1 < ndN (rsN (z_n ρ) (pN (z_cp ρ))) → (pN (z_cq ρ) < 1024 ∧ (z_cq ρ).toInt32 = nI (pN (z_cq ρ)) ∧ z_cq ρ = lN (pN (z_cq ρ))) ∧ pN (z_cq ρ) % 16 + ndN (rsN (z_n ρ) (pN (z_cp ρ))) ≤ 16 := fun _ => ⟨hq9, d126⟩
                  have hl8 : 1 < ndN (rsN (z_n ρ) (pN (z_cp ρ))) → hol (z_cq ρ) ∧ ¬ 16 < pN (z_cq ρ) % 16 + ndN (rsN (z_n ρ) (pN (z_cp ρ))) := fun _ => ⟨d107, by omega⟩
                  refine lv_iconst (v := 0) hx hb dX8_place_131 (by decide) ?_
                  refine fr_topi (y := nI 0) nI_0.symm ?_
                  refine lv_istore (lv' := [(5, .int (nI 0)), (4, .int (nI (ndN (rsN (z_n ρ) (pN (z_cp ρ)))))), (3, .int (nI (rsN (z_n ρ) (pN (z_cp ρ))))), (2, .int (nI k)), (1, .int (nI (z_n ρ * 8))), (0, .ref (a 0))]) hx hb dX8_place_132 hl (by decide) rfl (fun ls hl => ?_)
                  have lp134 : ∀ (n9 : Nat) (i : Nat) (k : Nat) (s2 : Nat → Int32) , ndN (rsN (z_n ρ) (pN (z_cp ρ))) - i < n9 → (i ≤ ndN (rsN (z_n ρ) (pN (z_cp ρ)))) → (k = min (z_n ρ * 8) (fsN (z_n ρ) (pN (z_cp ρ)) + 16 * i)) → (∀ t, t < k → s2 t = adN (z_mem ρ) (z_cp ρ) (z_cq ρ) (z_n ρ) t) → (∀ t, t < i → hpg (pgN (z_mem ρ) (z_cq ρ) (rsN (z_n ρ) (pN (z_cp ρ))) t)) → ∀ (H : Heap) (locs : List Loc) (ls : Array Slot), va_P g.1 vwCl (rfW g a (z_mem ρ) (z_R ρ) (z_cb ρ) (z_nc ρ) (z_tu ρ) (z_bi ρ) (z_cg ρ) (z_on ρ) (z_T ρ) (z_dn ρ) (z_fa ρ) (z_br ρ) (z_bs ρ) (z_cp ρ) (z_cq ρ) (z_cx ρ) (z_re ρ) (z_n ρ) (z_op ρ) (z_fg ρ) s2 (z_one ρ)) H → va_D A (rfW g a (z_mem ρ) (z_R ρ) (z_cb ρ) (z_nc ρ) (z_tu ρ) (z_bi ρ) (z_cg ρ) (z_on ρ) (z_T ρ) (z_dn ρ) (z_fa ρ) (z_br ρ) (z_bs ρ) (z_cp ρ) (z_cq ρ) (z_cx ρ) (z_re ρ) (z_n ρ) (z_op ρ) (z_fg ρ) s2 (z_one ρ)) → va_S A s.heap H locs → lv_has ls 9 [(5, .int (nI i)), (2, .int (nI k)), (4, .int (nI (ndN (rsN (z_n ρ) (pN (z_cp ρ)))))), (1, .int (nI (z_n ρ * 8))), (0, .ref (a 0))] → W p l e ({ frames := 2, cells := 0, slots := 0, locals := 46 } : Room) s m ([.ref (a 0)].toArray) below meth c H locs 0 0 (MQ below (Qst g (rfW g a (z_mem ρ) (z_R ρ) (z_cb ρ) (z_nc ρ) (z_tu ρ) (z_bi ρ) (z_cg ρ) (z_on ρ) (z_T ρ) (z_dn ρ) (z_fa ρ) (z_br ρ) (z_bs ρ) (z_cp ρ) (z_cq ρ) (z_cx ρ) (z_re ρ) (z_n ρ) (z_op ρ) (z_fg ρ) (z_sp ρ) (z_one ρ)) (fun v w' => ∃ (sp1 : Nat → Int32), (lyOk (z_mem ρ) (z_cp ρ) (z_cq ρ) (z_n ρ) → ∀ k, k < z_n ρ * 8 → sp1 k = adN (z_mem ρ) (z_cp ρ) (z_cq ρ) (z_n ρ) k) ∧ v = some (.int (bI (lyOk (z_mem ρ) (z_cp ρ) (z_cq ρ) (z_n ρ)))) ∧ w' = rfW g a (z_mem ρ) (z_R ρ) (z_cb ρ) (z_nc ρ) (z_tu ρ) (z_bi ρ) (z_cg ρ) (z_on ρ) (z_T ρ) (z_dn ρ) (z_fa ρ) (z_br ρ) (z_bs ρ) (z_cp ρ) (z_cq ρ) (z_cx ρ) (z_re ρ) (z_n ρ) (z_op ρ) (z_fg ρ) sp1 (z_one ρ)) A) ([.ref (a 0)].toArray) s 0 0 A) (F0 m 134 ls []) := by
                    intro n9
                    induction n9 with
                    | zero => intro i k s2 q9; exact absurd q9 (Nat.not_lt_zero _)
                    | succ n9 ih134 =>
                      intro i k s2 hn9 hi hk hs hg H locs ls hP hD hS hl
                      refine lv_iload hx hb dX8_place_134 (lv_at hl 0 rfl) ?_
                      refine lv_iload hx hb dX8_place_136 (lv_at hl 2 rfl) ?_
                      refine lv_icmp_ge (tgt := 221) hx hb dX8_place_138 (by decide) (fun c138 => ?_) (fun c138 => ?_)
                      · have c138 := (nI_leI (a := (ndN (rsN (z_n ρ) (pN (z_cp ρ))))) (b := i) (by omega) (by omega)).mp c138
                        refine lv_iconst (v := 1) hx hb dX8_place_221 (by decide) ?_
                        exact W.zret (v := 1) hx hb hr (by first | rfl | exact bz_n (by first | assumption | exact bI_z | decide)) (fun t ht _ => ⟨⟨(some (.int 1)), rfW g a (z_mem ρ) (z_R ρ) (z_cb ρ) (z_nc ρ) (z_tu ρ) (z_bi ρ) (z_cg ρ) (z_on ρ) (z_T ρ) (z_dn ρ) (z_fa ρ) (z_br ρ) (z_bs ρ) (z_cp ρ) (z_cq ρ) (z_cx ρ) (z_re ρ) (z_n ρ) (z_op ρ) (z_fg ρ) s2 (z_one ρ), rfl, ⟨s2, (fun _ t ht => hs t (by omega)), congrArg (fun z : Int32 => some (Value.int z)) (bI_1 (ly_yes d11 c85 hl8 (fun t ht => hg t (by omega)))), rfl⟩, rfl, by rw [ht]; exact hP⟩, hS.F ht⟩) hS.2.2 dX8_place_222
                      · have c138 := (not_congr (nI_leI (a := (ndN (rsN (z_n ρ) (pN (z_cp ρ))))) (b := i) (by omega) (by omega))).mp c138
                        refine lv_iload hx hb dX8_place_141 (lv_at hl 2 rfl) ?_
                        refine lv_iconst (v := 1) hx hb dX8_place_143 (by decide) ?_
                        refine lv_icmp_ne (tgt := 154) hx hb dX8_place_144 (by decide) (fun c144 => ?_) (fun c144 => ?_)
                        · have c144 := (not_congr (nI_eq (a := (ndN (rsN (z_n ρ) (pN (z_cp ρ))))) (b := 1) (by omega) (by omega))).mp c144
                          refine lv_aload_n hx hb dX8_place_154 rfl (lv_at hl 4 rfl) ?_
                          refine va_get (D := g.1) (ci := 7) (v := .ref (a 1)) (C := RX8) (T := TX8) (N := 30) hx hb hts inX8 hown hK hP 0 rfl rfl 0 (by decide) (hts _ tw603) (fun _ h9 => h9) rfl dX8_place_155 ?_
                          refine lv_aload_n hx hb dX8_place_158 rfl (lv_at hl 4 rfl) ?_
                          refine va_get (D := g.1) (ci := 7) (v := .long (z_cq ρ)) (C := RX8) (T := TX8) (N := 30) hx hb hts inX8 hown hK hP 0 rfl rfl 22 (by decide) (hts _ tw625) (fun _ h9 => h9) rfl dX8_place_159 ?_
                          refine lv_l2i hx hb dX8_place_162 rfl ?_
                          refine fr_topi (y := nI (pN (z_cq ρ))) (hl9 (by omega)).1.2.1 ?_
                          refine lv_iload hx hb dX8_place_163 (lv_at hl 0 rfl) ?_
                          refine lv_iadd hx hb dX8_place_165 ?_
                          refine fr_topi (y := nI (pN (z_cq ρ) + i)) (nI_add _ _) ?_
                          refine fr_lald (k := (pN (z_cq ρ) + i)) hx hb hK hP 1 0 rfl rfl (by have := (hl9 (by omega)).2; have := (hl9 (by omega)).1.1; omega) (by decide) dX8_place_166 ?_
                          refine fr_topl (y := pgN (z_mem ρ) (z_cq ρ) (rsN (z_n ρ) (pN (z_cp ρ))) i) (pg_at c144 (hl9 (by omega)).1 (by have := (hl9 (by omega)).2; have := (hl9 (by omega)).1.1; omega)) ?_
                          refine lv_lstore (lv' := [(6, .long (pgN (z_mem ρ) (z_cq ρ) (rsN (z_n ρ) (pN (z_cp ρ))) i)), (5, .int (nI i)), (2, .int (nI k)), (4, .int (nI (ndN (rsN (z_n ρ) (pN (z_cp ρ)))))), (1, .int (nI (z_n ρ * 8))), (0, .ref (a 0))]) hx hb dX8_place_167 hl (by decide) rfl (fun ls hl => ?_)
                          refine lv_lload hx hb dX8_place_169 (lv_at hl 0 rfl) ?_
                          refine fr_go (va_runS (As := [.long (pgN (z_mem ρ) (z_cq ρ) (rsN (z_n ρ) (pN (z_cp ρ))) i)]) (rest := []) ⟨hx, hb, hml, hown, hts⟩ (kX8_isPage l g (pgN (z_mem ρ) (z_cq ρ) (rsN (z_n ρ) (pN (z_cp ρ))) i) H.size) (va_cwS 1 hts (gdS tw773 tw774 tw9 tw775) rfl rfl rfl (by decide +kernel) ⟨Nat.le_of_ble_eq_true rfl, Nat.le_of_ble_eq_true rfl⟩) ⟨Pst.blind, fr_pre hK hP hD [] rfl rfl⟩ rfl rfl hl.1 rfl (lv_room (Nat.le_of_ble_eq_true rfl)) dX8_place_171 ⟨Nat.le_of_ble_eq_true rfl, Nat.le_of_ble_eq_true rfl⟩) hP hD hS hA [] rfl (fun v w9 H locs hq hP hD hS => ?_)
                          obtain ⟨rfl, rfl⟩ := hq
                          have hP : va_P g.1 vwCl (rfW g a (z_mem ρ) (z_R ρ) (z_cb ρ) (z_nc ρ) (z_tu ρ) (z_bi ρ) (z_cg ρ) (z_on ρ) (z_T ρ) (z_dn ρ) (z_fa ρ) (z_br ρ) (z_bs ρ) (z_cp ρ) (z_cq ρ) (z_cx ρ) (z_re ρ) (z_n ρ) (z_op ρ) (z_fg ρ) s2 (z_one ρ)) H := hP
                          have hD : va_D A (rfW g a (z_mem ρ) (z_R ρ) (z_cb ρ) (z_nc ρ) (z_tu ρ) (z_bi ρ) (z_cg ρ) (z_on ρ) (z_T ρ) (z_dn ρ) (z_fa ρ) (z_br ρ) (z_bs ρ) (z_cp ρ) (z_cq ρ) (z_cx ρ) (z_re ρ) (z_n ρ) (z_op ρ) (z_fg ρ) s2 (z_one ρ)) := hD
                          show W p l e _ s m _ below meth c H locs _ _ _ (F0 m (171 + 3) ls (.int (bI (hpg (pgN (z_mem ρ) (z_cq ρ) (rsN (z_n ρ) (pN (z_cp ρ))) i))) :: []))
                          refine lv_if_ne (tgt := 179) hx hb dX8_place_174 (by decide) (fun c174 => ?_) (fun c174 => ?_)
                          · have c174 := bI_t c174
                            refine lv_iconst (v := 0) hx hb dX8_place_179 (by decide) ?_
                            refine fr_topi (y := nI 0) nI_0.symm ?_
                            refine lv_istore (lv' := [(8, .int (nI 0)), (6, .long (pgN (z_mem ρ) (z_cq ρ) (rsN (z_n ρ) (pN (z_cp ρ))) i)), (5, .int (nI i)), (2, .int (nI k)), (4, .int (nI (ndN (rsN (z_n ρ) (pN (z_cp ρ)))))), (1, .int (nI (z_n ρ * 8))), (0, .ref (a 0))]) hx hb dX8_place_180 hl (by decide) rfl (fun ls hl => ?_)
                            have lp182 : ∀ (n9 : Nat) (j : Nat) (k : Nat) (s3 : Nat → Int32) , 16 - j < n9 → (j ≤ 16) → (k = min (z_n ρ * 8) (fsN (z_n ρ) (pN (z_cp ρ)) + 16 * i + j)) → (∀ t, t < k → s3 t = adN (z_mem ρ) (z_cp ρ) (z_cq ρ) (z_n ρ) t) → ∀ (H : Heap) (locs : List Loc) (ls : Array Slot), va_P g.1 vwCl (rfW g a (z_mem ρ) (z_R ρ) (z_cb ρ) (z_nc ρ) (z_tu ρ) (z_bi ρ) (z_cg ρ) (z_on ρ) (z_T ρ) (z_dn ρ) (z_fa ρ) (z_br ρ) (z_bs ρ) (z_cp ρ) (z_cq ρ) (z_cx ρ) (z_re ρ) (z_n ρ) (z_op ρ) (z_fg ρ) s3 (z_one ρ)) H → va_D A (rfW g a (z_mem ρ) (z_R ρ) (z_cb ρ) (z_nc ρ) (z_tu ρ) (z_bi ρ) (z_cg ρ) (z_on ρ) (z_T ρ) (z_dn ρ) (z_fa ρ) (z_br ρ) (z_bs ρ) (z_cp ρ) (z_cq ρ) (z_cx ρ) (z_re ρ) (z_n ρ) (z_op ρ) (z_fg ρ) s3 (z_one ρ)) → va_S A s.heap H locs → lv_has ls 9 [(8, .int (nI j)), (2, .int (nI k)), (6, .long (pgN (z_mem ρ) (z_cq ρ) (rsN (z_n ρ) (pN (z_cp ρ))) i)), (5, .int (nI i)), (4, .int (nI (ndN (rsN (z_n ρ) (pN (z_cp ρ)))))), (1, .int (nI (z_n ρ * 8))), (0, .ref (a 0))] → W p l e ({ frames := 2, cells := 0, slots := 0, locals := 46 } : Room) s m ([.ref (a 0)].toArray) below meth c H locs 0 0 (MQ below (Qst g (rfW g a (z_mem ρ) (z_R ρ) (z_cb ρ) (z_nc ρ) (z_tu ρ) (z_bi ρ) (z_cg ρ) (z_on ρ) (z_T ρ) (z_dn ρ) (z_fa ρ) (z_br ρ) (z_bs ρ) (z_cp ρ) (z_cq ρ) (z_cx ρ) (z_re ρ) (z_n ρ) (z_op ρ) (z_fg ρ) (z_sp ρ) (z_one ρ)) (fun v w' => ∃ (sp1 : Nat → Int32), (lyOk (z_mem ρ) (z_cp ρ) (z_cq ρ) (z_n ρ) → ∀ k, k < z_n ρ * 8 → sp1 k = adN (z_mem ρ) (z_cp ρ) (z_cq ρ) (z_n ρ) k) ∧ v = some (.int (bI (lyOk (z_mem ρ) (z_cp ρ) (z_cq ρ) (z_n ρ)))) ∧ w' = rfW g a (z_mem ρ) (z_R ρ) (z_cb ρ) (z_nc ρ) (z_tu ρ) (z_bi ρ) (z_cg ρ) (z_on ρ) (z_T ρ) (z_dn ρ) (z_fa ρ) (z_br ρ) (z_bs ρ) (z_cp ρ) (z_cq ρ) (z_cx ρ) (z_re ρ) (z_n ρ) (z_op ρ) (z_fg ρ) sp1 (z_one ρ)) A) ([.ref (a 0)].toArray) s 0 0 A) (F0 m 182 ls []) := by
                              intro n9
                              induction n9 with
                              | zero => intro j k s3 q9; exact absurd q9 (Nat.not_lt_zero _)
                              | succ n9 ih182 =>
                                intro j k s3 hn9 hj hk3 hs H locs ls hP hD hS hl
                                refine lv_iload hx hb dX8_place_182 (lv_at hl 0 rfl) ?_
                                refine lv_bipush (v := 16) hx hb dX8_place_184 (by decide) ?_
                                refine lv_icmp_ge (tgt := 215) hx hb dX8_place_186 (by decide) (fun c186 => ?_) (fun c186 => ?_)
                                · have c186 := (nI_leI (a := 16) (b := j) (by omega) (by omega)).mp c186
                                  refine lv_iinc (v := nI (i + 1)) (lv' := [(5, .int (nI (i + 1))), (8, .int (nI j)), (2, .int (nI k)), (6, .long (pgN (z_mem ρ) (z_cq ρ) (rsN (z_n ρ) (pN (z_cp ρ))) i)), (4, .int (nI (ndN (rsN (z_n ρ) (pN (z_cp ρ)))))), (1, .int (nI (z_n ρ * 8))), (0, .ref (a 0))]) hx hb dX8_place_215 hl (k := 3) rfl (nI_1 _) (by decide) rfl (fun ls hl => ?_)
                                  refine lv_goto (tgt := 134) hx hb dX8_place_218 (by decide) ?_
                                  exact ih134 (i + 1) k s3 (by omega) (by omega) (by omega) hs (lt_s hg c174) H locs ls hP hD hS (lv_sub hl [0, 2, 4, 5, 6] rfl)
                                · have c186 := (not_congr (nI_leI (a := 16) (b := j) (by omega) (by omega))).mp c186
                                  refine lv_iload_n hx hb dX8_place_189 rfl (lv_at hl 1 rfl) ?_
                                  refine lv_iload_n hx hb dX8_place_190 rfl (lv_at hl 5 rfl) ?_
                                  refine lv_icmp_ge (tgt := 215) hx hb dX8_place_191 (by decide) (fun c191 => ?_) (fun c191 => ?_)
                                  · have c191 := (nI_leI (a := (z_n ρ * 8)) (b := k) (by omega) (by omega)).mp c191
                                    refine lv_iinc (v := nI (i + 1)) (lv' := [(5, .int (nI (i + 1))), (8, .int (nI j)), (2, .int (nI k)), (6, .long (pgN (z_mem ρ) (z_cq ρ) (rsN (z_n ρ) (pN (z_cp ρ))) i)), (4, .int (nI (ndN (rsN (z_n ρ) (pN (z_cp ρ)))))), (1, .int (nI (z_n ρ * 8))), (0, .ref (a 0))]) hx hb dX8_place_215 hl (k := 3) rfl (nI_1 _) (by decide) rfl (fun ls hl => ?_)
                                    refine lv_goto (tgt := 134) hx hb dX8_place_218 (by decide) ?_
                                    exact ih134 (i + 1) k s3 (by omega) (by omega) (by omega) hs (lt_s hg c174) H locs ls hP hD hS (lv_sub hl [0, 2, 4, 5, 6] rfl)
                                  · have c191 := (not_congr (nI_leI (a := (z_n ρ * 8)) (b := k) (by omega) (by omega))).mp c191
                                    refine lv_aload_n hx hb dX8_place_194 rfl (lv_at hl 6 rfl) ?_
                                    refine va_get (D := g.1) (ci := 7) (v := .ref (a 13)) (C := RX8) (T := TX8) (N := 30) hx hb hts inX8 hown hK hP 0 rfl rfl 28 (by decide) (hts _ tw631) (fun _ h9 => h9) rfl dX8_place_195 ?_
                                    refine lv_iload_n hx hb dX8_place_198 rfl (lv_at hl 1 rfl) ?_
                                    refine lv_lload hx hb dX8_place_199 (lv_at hl 2 rfl) ?_
                                    refine lv_l2i hx hb dX8_place_201 rfl ?_
                                    refine lv_iload hx hb dX8_place_202 (lv_at hl 0 rfl) ?_
                                    refine lv_iadd hx hb dX8_place_204 ?_
                                    refine fr_iast (k := k) hx hb hK hP hD hS 13 1 rfl rfl (by omega) (by decide) dX8_place_205 (fun H locs hP hD hS => ?_)
                                    have hP : va_P g.1 vwCl (rfW g a (z_mem ρ) (z_R ρ) (z_cb ρ) (z_nc ρ) (z_tu ρ) (z_bi ρ) (z_cg ρ) (z_on ρ) (z_T ρ) (z_dn ρ) (z_fa ρ) (z_br ρ) (z_bs ρ) (z_cp ρ) (z_cq ρ) (z_cx ρ) (z_re ρ) (z_n ρ) (z_op ρ) (z_fg ρ) (upd s3 k (((pgN (z_mem ρ) (z_cq ρ) (rsN (z_n ρ) (pN (z_cp ρ))) i).toInt32) + (nI j))) (z_one ρ)) H := hP
                                    have hD : va_D A (rfW g a (z_mem ρ) (z_R ρ) (z_cb ρ) (z_nc ρ) (z_tu ρ) (z_bi ρ) (z_cg ρ) (z_on ρ) (z_T ρ) (z_dn ρ) (z_fa ρ) (z_br ρ) (z_bs ρ) (z_cp ρ) (z_cq ρ) (z_cx ρ) (z_re ρ) (z_n ρ) (z_op ρ) (z_fg ρ) (upd s3 k (((pgN (z_mem ρ) (z_cq ρ) (rsN (z_n ρ) (pN (z_cp ρ))) i).toInt32) + (nI j))) (z_one ρ)) := hD
                                    refine lv_iinc (v := nI (k + 1)) (lv' := [(2, .int (nI (k + 1))), (8, .int (nI j)), (6, .long (pgN (z_mem ρ) (z_cq ρ) (rsN (z_n ρ) (pN (z_cp ρ))) i)), (5, .int (nI i)), (4, .int (nI (ndN (rsN (z_n ρ) (pN (z_cp ρ)))))), (1, .int (nI (z_n ρ * 8))), (0, .ref (a 0))]) hx hb dX8_place_206 hl (k := 1) rfl (nI_1 _) (by decide) rfl (fun ls hl => ?_)
                                    refine lv_iinc (v := nI (j + 1)) (lv' := [(8, .int (nI (j + 1))), (2, .int (nI (k + 1))), (6, .long (pgN (z_mem ρ) (z_cq ρ) (rsN (z_n ρ) (pN (z_cp ρ))) i)), (5, .int (nI i)), (4, .int (nI (ndN (rsN (z_n ρ) (pN (z_cp ρ)))))), (1, .int (nI (z_n ρ * 8))), (0, .ref (a 0))]) hx hb dX8_place_209 hl (k := 1) rfl (nI_1 _) (by decide) rfl (fun ls hl => ?_)
                                    refine lv_goto (tgt := 182) hx hb dX8_place_212 (by decide) ?_
                                    exact ih182 (j + 1) (k + 1) (upd s3 k ((pgN (z_mem ρ) (z_cq ρ) (rsN (z_n ρ) (pN (z_cp ρ))) i).toInt32 + nI j)) (by omega) (by omega) (by omega) (upd_ext hs (by rw [adN_hi (by omega), show fsN (z_n ρ) (pN (z_cp ρ)) + (16 * i + j) = k by omega])) H locs ls hP hD hS (lv_sub hl [0, 1, 2, 3, 4, 5, 6] rfl)
                            exact lp182 _ 0 k s2 (Nat.lt_succ_self _) (by decide) (by omega) hs H locs ls hP hD hS (lv_sub hl [0, 3, 1, 2, 4, 5, 6] rfl)
                          · have c174 := bI_f c174
                            refine lv_iconst (v := 0) hx hb dX8_place_177 (by decide) ?_
                            exact W.zret (v := 0) hx hb hr (by first | rfl | exact bz_n (by first | assumption | exact bI_z | decide)) (fun t ht _ => ⟨⟨(some (.int 0)), rfW g a (z_mem ρ) (z_R ρ) (z_cb ρ) (z_nc ρ) (z_tu ρ) (z_bi ρ) (z_cg ρ) (z_on ρ) (z_T ρ) (z_dn ρ) (z_fa ρ) (z_br ρ) (z_bs ρ) (z_cp ρ) (z_cq ρ) (z_cx ρ) (z_re ρ) (z_n ρ) (z_op ρ) (z_fg ρ) s2 (z_one ρ), rfl, ⟨s2, (fun q => absurd q (ly_no (by omega) c174)), congrArg (fun z : Int32 => some (Value.int z)) (bI_0 (ly_no (by omega) c174)), rfl⟩, rfl, by rw [ht]; exact hP⟩, hS.F ht⟩) hS.2.2 dX8_place_178
                        · have c144 := (nI_eq (a := (ndN (rsN (z_n ρ) (pN (z_cp ρ))))) (b := 1) (by omega) (by omega)).mp c144
                          refine lv_aload_n hx hb dX8_place_147 rfl (lv_at hl 4 rfl) ?_
                          refine va_get (D := g.1) (ci := 7) (v := .long (z_cq ρ)) (C := RX8) (T := TX8) (N := 30) hx hb hts inX8 hown hK hP 0 rfl rfl 22 (by decide) (hts _ tw625) (fun _ h9 => h9) rfl dX8_place_148 ?_
                          refine fr_topl (y := pgN (z_mem ρ) (z_cq ρ) (rsN (z_n ρ) (pN (z_cp ρ))) i) (if_pos c144).symm ?_
                          refine lv_goto (tgt := 167) hx hb dX8_place_151 (by decide) ?_
                          refine lv_lstore (lv' := [(6, .long (pgN (z_mem ρ) (z_cq ρ) (rsN (z_n ρ) (pN (z_cp ρ))) i)), (5, .int (nI i)), (2, .int (nI k)), (4, .int (nI (ndN (rsN (z_n ρ) (pN (z_cp ρ)))))), (1, .int (nI (z_n ρ * 8))), (0, .ref (a 0))]) hx hb dX8_place_167 hl (by decide) rfl (fun ls hl => ?_)
                          refine lv_lload hx hb dX8_place_169 (lv_at hl 0 rfl) ?_
                          refine fr_go (va_runS (As := [.long (pgN (z_mem ρ) (z_cq ρ) (rsN (z_n ρ) (pN (z_cp ρ))) i)]) (rest := []) ⟨hx, hb, hml, hown, hts⟩ (kX8_isPage l g (pgN (z_mem ρ) (z_cq ρ) (rsN (z_n ρ) (pN (z_cp ρ))) i) H.size) (va_cwS 1 hts (gdS tw773 tw774 tw9 tw775) rfl rfl rfl (by decide +kernel) ⟨Nat.le_of_ble_eq_true rfl, Nat.le_of_ble_eq_true rfl⟩) ⟨Pst.blind, fr_pre hK hP hD [] rfl rfl⟩ rfl rfl hl.1 rfl (lv_room (Nat.le_of_ble_eq_true rfl)) dX8_place_171 ⟨Nat.le_of_ble_eq_true rfl, Nat.le_of_ble_eq_true rfl⟩) hP hD hS hA [] rfl (fun v w9 H locs hq hP hD hS => ?_)
                          obtain ⟨rfl, rfl⟩ := hq
                          have hP : va_P g.1 vwCl (rfW g a (z_mem ρ) (z_R ρ) (z_cb ρ) (z_nc ρ) (z_tu ρ) (z_bi ρ) (z_cg ρ) (z_on ρ) (z_T ρ) (z_dn ρ) (z_fa ρ) (z_br ρ) (z_bs ρ) (z_cp ρ) (z_cq ρ) (z_cx ρ) (z_re ρ) (z_n ρ) (z_op ρ) (z_fg ρ) s2 (z_one ρ)) H := hP
                          have hD : va_D A (rfW g a (z_mem ρ) (z_R ρ) (z_cb ρ) (z_nc ρ) (z_tu ρ) (z_bi ρ) (z_cg ρ) (z_on ρ) (z_T ρ) (z_dn ρ) (z_fa ρ) (z_br ρ) (z_bs ρ) (z_cp ρ) (z_cq ρ) (z_cx ρ) (z_re ρ) (z_n ρ) (z_op ρ) (z_fg ρ) s2 (z_one ρ)) := hD
                          show W p l e _ s m _ below meth c H locs _ _ _ (F0 m (171 + 3) ls (.int (bI (hpg (pgN (z_mem ρ) (z_cq ρ) (rsN (z_n ρ) (pN (z_cp ρ))) i))) :: []))
                          refine lv_if_ne (tgt := 179) hx hb dX8_place_174 (by decide) (fun c174 => ?_) (fun c174 => ?_)
                          · have c174 := bI_t c174
                            refine lv_iconst (v := 0) hx hb dX8_place_179 (by decide) ?_
                            refine fr_topi (y := nI 0) nI_0.symm ?_
                            refine lv_istore (lv' := [(8, .int (nI 0)), (6, .long (pgN (z_mem ρ) (z_cq ρ) (rsN (z_n ρ) (pN (z_cp ρ))) i)), (5, .int (nI i)), (2, .int (nI k)), (4, .int (nI (ndN (rsN (z_n ρ) (pN (z_cp ρ)))))), (1, .int (nI (z_n ρ * 8))), (0, .ref (a 0))]) hx hb dX8_place_180 hl (by decide) rfl (fun ls hl => ?_)
                            have lp182 : ∀ (n9 : Nat) (j : Nat) (k : Nat) (s3 : Nat → Int32) , 16 - j < n9 → (j ≤ 16) → (k = min (z_n ρ * 8) (fsN (z_n ρ) (pN (z_cp ρ)) + 16 * i + j)) → (∀ t, t < k → s3 t = adN (z_mem ρ) (z_cp ρ) (z_cq ρ) (z_n ρ) t) → ∀ (H : Heap) (locs : List Loc) (ls : Array Slot), va_P g.1 vwCl (rfW g a (z_mem ρ) (z_R ρ) (z_cb ρ) (z_nc ρ) (z_tu ρ) (z_bi ρ) (z_cg ρ) (z_on ρ) (z_T ρ) (z_dn ρ) (z_fa ρ) (z_br ρ) (z_bs ρ) (z_cp ρ) (z_cq ρ) (z_cx ρ) (z_re ρ) (z_n ρ) (z_op ρ) (z_fg ρ) s3 (z_one ρ)) H → va_D A (rfW g a (z_mem ρ) (z_R ρ) (z_cb ρ) (z_nc ρ) (z_tu ρ) (z_bi ρ) (z_cg ρ) (z_on ρ) (z_T ρ) (z_dn ρ) (z_fa ρ) (z_br ρ) (z_bs ρ) (z_cp ρ) (z_cq ρ) (z_cx ρ) (z_re ρ) (z_n ρ) (z_op ρ) (z_fg ρ) s3 (z_one ρ)) → va_S A s.heap H locs → lv_has ls 9 [(8, .int (nI j)), (2, .int (nI k)), (6, .long (pgN (z_mem ρ) (z_cq ρ) (rsN (z_n ρ) (pN (z_cp ρ))) i)), (5, .int (nI i)), (4, .int (nI (ndN (rsN (z_n ρ) (pN (z_cp ρ)))))), (1, .int (nI (z_n ρ * 8))), (0, .ref (a 0))] → W p l e ({ frames := 2, cells := 0, slots := 0, locals := 46 } : Room) s m ([.ref (a 0)].toArray) below meth c H locs 0 0 (MQ below (Qst g (rfW g a (z_mem ρ) (z_R ρ) (z_cb ρ) (z_nc ρ) (z_tu ρ) (z_bi ρ) (z_cg ρ) (z_on ρ) (z_T ρ) (z_dn ρ) (z_fa ρ) (z_br ρ) (z_bs ρ) (z_cp ρ) (z_cq ρ) (z_cx ρ) (z_re ρ) (z_n ρ) (z_op ρ) (z_fg ρ) (z_sp ρ) (z_one ρ)) (fun v w' => ∃ (sp1 : Nat → Int32), (lyOk (z_mem ρ) (z_cp ρ) (z_cq ρ) (z_n ρ) → ∀ k, k < z_n ρ * 8 → sp1 k = adN (z_mem ρ) (z_cp ρ) (z_cq ρ) (z_n ρ) k) ∧ v = some (.int (bI (lyOk (z_mem ρ) (z_cp ρ) (z_cq ρ) (z_n ρ)))) ∧ w' = rfW g a (z_mem ρ) (z_R ρ) (z_cb ρ) (z_nc ρ) (z_tu ρ) (z_bi ρ) (z_cg ρ) (z_on ρ) (z_T ρ) (z_dn ρ) (z_fa ρ) (z_br ρ) (z_bs ρ) (z_cp ρ) (z_cq ρ) (z_cx ρ) (z_re ρ) (z_n ρ) (z_op ρ) (z_fg ρ) sp1 (z_one ρ)) A) ([.ref (a 0)].toArray) s 0 0 A) (F0 m 182 ls []) := by
                              intro n9
                              induction n9 with
                              | zero => intro j k s3 q9; exact absurd q9 (Nat.not_lt_zero _)
                              | succ n9 ih182 =>
                                intro j k s3 hn9 hj hk3 hs H locs ls hP hD hS hl
                                refine lv_iload hx hb dX8_place_182 (lv_at hl 0 rfl) ?_
                                refine lv_bipush (v := 16) hx hb dX8_place_184 (by decide) ?_
                                refine lv_icmp_ge (tgt := 215) hx hb dX8_place_186 (by decide) (fun c186 => ?_) (fun c186 => ?_)
                                · have c186 := (nI_leI (a := 16) (b := j) (by omega) (by omega)).mp c186
                                  refine lv_iinc (v := nI (i + 1)) (lv' := [(5, .int (nI (i + 1))), (8, .int (nI j)), (2, .int (nI k)), (6, .long (pgN (z_mem ρ) (z_cq ρ) (rsN (z_n ρ) (pN (z_cp ρ))) i)), (4, .int (nI (ndN (rsN (z_n ρ) (pN (z_cp ρ)))))), (1, .int (nI (z_n ρ * 8))), (0, .ref (a 0))]) hx hb dX8_place_215 hl (k := 3) rfl (nI_1 _) (by decide) rfl (fun ls hl => ?_)
                                  refine lv_goto (tgt := 134) hx hb dX8_place_218 (by decide) ?_
                                  exact ih134 (i + 1) k s3 (by omega) (by omega) (by omega) hs (lt_s hg c174) H locs ls hP hD hS (lv_sub hl [0, 2, 4, 5, 6] rfl)
                                · have c186 := (not_congr (nI_leI (a := 16) (b := j) (by omega) (by omega))).mp c186
                                  refine lv_iload_n hx hb dX8_place_189 rfl (lv_at hl 1 rfl) ?_
                                  refine lv_iload_n hx hb dX8_place_190 rfl (lv_at hl 5 rfl) ?_
                                  refine lv_icmp_ge (tgt := 215) hx hb dX8_place_191 (by decide) (fun c191 => ?_) (fun c191 => ?_)
                                  · have c191 := (nI_leI (a := (z_n ρ * 8)) (b := k) (by omega) (by omega)).mp c191
                                    refine lv_iinc (v := nI (i + 1)) (lv' := [(5, .int (nI (i + 1))), (8, .int (nI j)), (2, .int (nI k)), (6, .long (pgN (z_mem ρ) (z_cq ρ) (rsN (z_n ρ) (pN (z_cp ρ))) i)), (4, .int (nI (ndN (rsN (z_n ρ) (pN (z_cp ρ)))))), (1, .int (nI (z_n ρ * 8))), (0, .ref (a 0))]) hx hb dX8_place_215 hl (k := 3) rfl (nI_1 _) (by decide) rfl (fun ls hl => ?_)
                                    refine lv_goto (tgt := 134) hx hb dX8_place_218 (by decide) ?_
                                    exact ih134 (i + 1) k s3 (by omega) (by omega) (by omega) hs (lt_s hg c174) H locs ls hP hD hS (lv_sub hl [0, 2, 4, 5, 6] rfl)
                                  · have c191 := (not_congr (nI_leI (a := (z_n ρ * 8)) (b := k) (by omega) (by omega))).mp c191
                                    refine lv_aload_n hx hb dX8_place_194 rfl (lv_at hl 6 rfl) ?_
                                    refine va_get (D := g.1) (ci := 7) (v := .ref (a 13)) (C := RX8) (T := TX8) (N := 30) hx hb hts inX8 hown hK hP 0 rfl rfl 28 (by decide) (hts _ tw631) (fun _ h9 => h9) rfl dX8_place_195 ?_
                                    refine lv_iload_n hx hb dX8_place_198 rfl (lv_at hl 1 rfl) ?_
                                    refine lv_lload hx hb dX8_place_199 (lv_at hl 2 rfl) ?_
                                    refine lv_l2i hx hb dX8_place_201 rfl ?_
                                    refine lv_iload hx hb dX8_place_202 (lv_at hl 0 rfl) ?_
                                    refine lv_iadd hx hb dX8_place_204 ?_
                                    refine fr_iast (k := k) hx hb hK hP hD hS 13 1 rfl rfl (by omega) (by decide) dX8_place_205 (fun H locs hP hD hS => ?_)
                                    have hP : va_P g.1 vwCl (rfW g a (z_mem ρ) (z_R ρ) (z_cb ρ) (z_nc ρ) (z_tu ρ) (z_bi ρ) (z_cg ρ) (z_on ρ) (z_T ρ) (z_dn ρ) (z_fa ρ) (z_br ρ) (z_bs ρ) (z_cp ρ) (z_cq ρ) (z_cx ρ) (z_re ρ) (z_n ρ) (z_op ρ) (z_fg ρ) (upd s3 k (((pgN (z_mem ρ) (z_cq ρ) (rsN (z_n ρ) (pN (z_cp ρ))) i).toInt32) + (nI j))) (z_one ρ)) H := hP
                                    have hD : va_D A (rfW g a (z_mem ρ) (z_R ρ) (z_cb ρ) (z_nc ρ) (z_tu ρ) (z_bi ρ) (z_cg ρ) (z_on ρ) (z_T ρ) (z_dn ρ) (z_fa ρ) (z_br ρ) (z_bs ρ) (z_cp ρ) (z_cq ρ) (z_cx ρ) (z_re ρ) (z_n ρ) (z_op ρ) (z_fg ρ) (upd s3 k (((pgN (z_mem ρ) (z_cq ρ) (rsN (z_n ρ) (pN (z_cp ρ))) i).toInt32) + (nI j))) (z_one ρ)) := hD
                                    refine lv_iinc (v := nI (k + 1)) (lv' := [(2, .int (nI (k + 1))), (8, .int (nI j)), (6, .long (pgN (z_mem ρ) (z_cq ρ) (rsN (z_n ρ) (pN (z_cp ρ))) i)), (5, .int (nI i)), (4, .int (nI (ndN (rsN (z_n ρ) (pN (z_cp ρ)))))), (1, .int (nI (z_n ρ * 8))), (0, .ref (a 0))]) hx hb dX8_place_206 hl (k := 1) rfl (nI_1 _) (by decide) rfl (fun ls hl => ?_)
                                    refine lv_iinc (v := nI (j + 1)) (lv' := [(8, .int (nI (j + 1))), (2, .int (nI (k + 1))), (6, .long (pgN (z_mem ρ) (z_cq ρ) (rsN (z_n ρ) (pN (z_cp ρ))) i)), (5, .int (nI i)), (4, .int (nI (ndN (rsN (z_n ρ) (pN (z_cp ρ)))))), (1, .int (nI (z_n ρ * 8))), (0, .ref (a 0))]) hx hb dX8_place_209 hl (k := 1) rfl (nI_1 _) (by decide) rfl (fun ls hl => ?_)
                                    refine lv_goto (tgt := 182) hx hb dX8_place_212 (by decide) ?_
                                    exact ih182 (j + 1) (k + 1) (upd s3 k ((pgN (z_mem ρ) (z_cq ρ) (rsN (z_n ρ) (pN (z_cp ρ))) i).toInt32 + nI j)) (by omega) (by omega) (by omega) (upd_ext hs (by rw [adN_hi (by omega), show fsN (z_n ρ) (pN (z_cp ρ)) + (16 * i + j) = k by omega])) H locs ls hP hD hS (lv_sub hl [0, 1, 2, 3, 4, 5, 6] rfl)
                            exact lp182 _ 0 k s2 (Nat.lt_succ_self _) (by decide) (by omega) hs H locs ls hP hD hS (lv_sub hl [0, 3, 1, 2, 4, 5, 6] rfl)
                          · have c174 := bI_f c174
                            refine lv_iconst (v := 0) hx hb dX8_place_177 (by decide) ?_
                            exact W.zret (v := 0) hx hb hr (by first | rfl | exact bz_n (by first | assumption | exact bI_z | decide)) (fun t ht _ => ⟨⟨(some (.int 0)), rfW g a (z_mem ρ) (z_R ρ) (z_cb ρ) (z_nc ρ) (z_tu ρ) (z_bi ρ) (z_cg ρ) (z_on ρ) (z_T ρ) (z_dn ρ) (z_fa ρ) (z_br ρ) (z_bs ρ) (z_cp ρ) (z_cq ρ) (z_cx ρ) (z_re ρ) (z_n ρ) (z_op ρ) (z_fg ρ) s2 (z_one ρ), rfl, ⟨s2, (fun q => absurd q (ly_no (by omega) c174)), congrArg (fun z : Int32 => some (Value.int z)) (bI_0 (ly_no (by omega) c174)), rfl⟩, rfl, by rw [ht]; exact hP⟩, hS.F ht⟩) hS.2.2 dX8_place_178
                  exact lp134 _ 0 k s1 (Nat.lt_succ_self _) (Nat.zero_le _) (by omega) hs (fun t ht => absurd ht (Nat.not_lt_zero _)) H locs ls hP hD hS (lv_sub hl [0, 3, 1, 4, 5] rfl)
                · have c126 := (not_congr (lg_cmp_le (lN (pN (z_cq ρ) % 16 + ndN (rsN (z_n ρ) (pN (z_cp ρ))))) 16)).mp c126
                  have d126 := (not_congr (lN_16 (by omega))).mp c126
                  refine lv_iconst (v := 0) hx hb dX8_place_129 (by decide) ?_
                  exact W.zret (v := 0) hx hb hr (by first | rfl | exact bz_n (by first | assumption | exact bI_z | decide)) (fun t ht _ => ⟨⟨(some (.int 0)), rfW g a (z_mem ρ) (z_R ρ) (z_cb ρ) (z_nc ρ) (z_tu ρ) (z_bi ρ) (z_cg ρ) (z_on ρ) (z_T ρ) (z_dn ρ) (z_fa ρ) (z_br ρ) (z_bs ρ) (z_cp ρ) (z_cq ρ) (z_cx ρ) (z_re ρ) (z_n ρ) (z_op ρ) (z_fg ρ) s1 (z_one ρ), rfl, ⟨s1, (fun q => absurd q (ly_big c85 c93 (fun q => q.2 (by omega)))), congrArg (fun z : Int32 => some (Value.int z)) (bI_0 (ly_big c85 c93 (fun q => q.2 (by omega)))), rfl⟩, rfl, by rw [ht]; exact hP⟩, hS.F ht⟩) hS.2.2 dX8_place_130
          · have c85 := (nI_eq (a := (ndN (rsN (z_n ρ) (pN (z_cp ρ))))) (b := 0) (by omega) (by omega)).mp c85
            refine lv_iconst (v := 1) hx hb dX8_place_88 (by decide) ?_
            exact W.zret (v := 1) hx hb hr (by first | rfl | exact bz_n (by first | assumption | exact bI_z | decide)) (fun t ht _ => ⟨⟨(some (.int 1)), rfW g a (z_mem ρ) (z_R ρ) (z_cb ρ) (z_nc ρ) (z_tu ρ) (z_bi ρ) (z_cg ρ) (z_on ρ) (z_T ρ) (z_dn ρ) (z_fa ρ) (z_br ρ) (z_bs ρ) (z_cp ρ) (z_cq ρ) (z_cx ρ) (z_re ρ) (z_n ρ) (z_op ρ) (z_fg ρ) s1 (z_one ρ), rfl, ⟨s1, (fun _ t ht => hs t (by omega)), congrArg (fun z : Int32 => some (Value.int z)) (bI_1 ⟨d11, Or.inl (by omega)⟩), rfl⟩, rfl, by rw [ht]; exact hP⟩, hS.F ht⟩) hS.2.2 dX8_place_89
        · have c33 := (not_congr (nI_leI (a := (z_n ρ * 8)) (b := k) (by omega) (by omega))).mp c33
          refine lv_iload_n hx hb dX8_place_36 rfl (lv_at hl 0 rfl) ?_
          refine lv_if_eq (tgt := 50) hx hb dX8_place_37 (by decide) (fun c37 => ?_) (fun c37 => ?_)
          · have c37 := (nI_eq (a := k) (b := 0) (by omega) (by omega)).mp c37
            refine lv_aload_n hx hb dX8_place_50 rfl (lv_at hl 3 rfl) ?_
            refine va_get (D := g.1) (ci := 7) (v := .ref (a 13)) (C := RX8) (T := TX8) (N := 30) hx hb hts inX8 hown hK hP 0 rfl rfl 28 (by decide) (hts _ tw631) (fun _ h9 => h9) rfl dX8_place_51 ?_
            refine lv_iload_n hx hb dX8_place_54 rfl (lv_at hl 0 rfl) ?_
            refine lv_lload_n hx hb dX8_place_55 rfl (lv_at hl 1 rfl) ?_
            refine lv_l2i hx hb dX8_place_56 rfl ?_
            refine fr_topi (y := nI (pN (z_cp ρ) + k)) (lN_i _) ?_
            refine fr_iast (k := k) hx hb hK hP hD hS 13 1 rfl rfl (by omega) (by decide) dX8_place_57 (fun H locs hP hD hS => ?_)
            have hP : va_P g.1 vwCl (rfW g a (z_mem ρ) (z_R ρ) (z_cb ρ) (z_nc ρ) (z_tu ρ) (z_bi ρ) (z_cg ρ) (z_on ρ) (z_T ρ) (z_dn ρ) (z_fa ρ) (z_br ρ) (z_bs ρ) (z_cp ρ) (z_cq ρ) (z_cx ρ) (z_re ρ) (z_n ρ) (z_op ρ) (z_fg ρ) (upd s1 k (nI (pN (z_cp ρ) + k))) (z_one ρ)) H := hP
            have hD : va_D A (rfW g a (z_mem ρ) (z_R ρ) (z_cb ρ) (z_nc ρ) (z_tu ρ) (z_bi ρ) (z_cg ρ) (z_on ρ) (z_T ρ) (z_dn ρ) (z_fa ρ) (z_br ρ) (z_bs ρ) (z_cp ρ) (z_cq ρ) (z_cx ρ) (z_re ρ) (z_n ρ) (z_op ρ) (z_fg ρ) (upd s1 k (nI (pN (z_cp ρ) + k))) (z_one ρ)) := hD
            refine lv_iinc (v := nI (k + 1)) (lv' := [(2, .int (nI (k + 1))), (3, .long (lN (pN (z_cp ρ) + k))), (1, .int (nI (z_n ρ * 8))), (0, .ref (a 0))]) hx hb dX8_place_58 hl (k := 0) rfl (nI_1 _) (by decide) rfl (fun ls hl => ?_)
            refine lv_lload_n hx hb dX8_place_61 rfl (lv_at hl 1 rfl) ?_
            refine lv_lconst (v := 1) hx hb dX8_place_62 (by decide) ?_
            refine lv_ladd hx hb dX8_place_63 ?_
            refine fr_topl (y := lN (pN (z_cp ρ) + (k + 1))) (lN_1 _) ?_
            refine lv_lstore_n (lv' := [(3, .long (lN (pN (z_cp ρ) + (k + 1)))), (2, .int (nI (k + 1))), (1, .int (nI (z_n ρ * 8))), (0, .ref (a 0))]) hx hb dX8_place_64 rfl hl (by decide) rfl (fun ls hl => ?_)
            refine lv_goto (tgt := 31) hx hb dX8_place_65 (by decide) ?_
            exact ih31 (k + 1) (upd s1 k (nI (pN (z_cp ρ) + k))) (by omega) (fsN_go hk c33 (Or.inl c37)) (upd_ext hs (adN_lo (fsN_go hk c33 (Or.inl c37)))) H locs ls hP hD hS (lv_sub hl [1, 0, 2, 3] rfl)
          · have c37 := (not_congr (nI_eq (a := k) (b := 0) (by omega) (by omega))).mp c37
            refine lv_lload_n hx hb dX8_place_40 rfl (lv_at hl 1 rfl) ?_
            refine lv_ldc2 hx hb hown (hts _ tw715) dX8_place_41 ?_
            refine lv_lrem hx hb dX8_place_44 (by decide) ?_
            refine fr_topl (y := lN ((pN (z_cp ρ) + k) % 16)) (lrem16 (by omega)) ?_
            refine lv_lconst (v := 0) hx hb dX8_place_45 (by decide) ?_
            refine W.lcmp hx hb dX8_place_46 ?_
            refine lv_if_eq (tgt := 68) hx hb dX8_place_47 (by decide) (fun c47 => ?_) (fun c47 => ?_)
            · have c47 := (lg_cmp_eq (lN ((pN (z_cp ρ) + k) % 16)) 0).mp c47
              have d47 : (pN (z_cp ρ) + k) % 16 = 0 := (lN_0 (by omega)).mp c47
              have hkF : k = fsN (z_n ρ) (pN (z_cp ρ)) := fsN_stop hk (Or.inr ⟨c37, d47⟩)
              refine lv_iload_n hx hb dX8_place_68 rfl (lv_at hl 2 rfl) ?_
              refine lv_iload_n hx hb dX8_place_69 rfl (lv_at hl 0 rfl) ?_
              refine lv_isub hx hb dX8_place_70 ?_
              refine fr_topi (y := nI (rsN (z_n ρ) (pN (z_cp ρ)))) (by rw [hkF]; exact pk_sub hf9) ?_
              refine lv_istore_n (lv' := [(3, .int (nI (rsN (z_n ρ) (pN (z_cp ρ))))), (2, .int (nI k)), (1, .int (nI (z_n ρ * 8))), (0, .ref (a 0))]) hx hb dX8_place_71 rfl hl (by decide) rfl (fun ls hl => ?_)
              refine lv_iload_n hx hb dX8_place_72 rfl (lv_at hl 0 rfl) ?_
              refine lv_bipush (v := 16) hx hb dX8_place_73 (by decide) ?_
              refine lv_iadd hx hb dX8_place_75 ?_
              refine fr_topi (y := nI (rsN (z_n ρ) (pN (z_cp ρ)) + 16)) (nI_add _ 16) ?_
              refine lv_iconst (v := 1) hx hb dX8_place_76 (by decide) ?_
              refine lv_isub hx hb dX8_place_77 ?_
              refine fr_topi (y := nI (rsN (z_n ρ) (pN (z_cp ρ)) + 15)) (nI_pred _) ?_
              refine lv_bipush (v := 16) hx hb dX8_place_78 (by decide) ?_
              refine lv_idiv hx hb dX8_place_80 (by decide) ?_
              refine fr_topi (y := nI (ndN (rsN (z_n ρ) (pN (z_cp ρ))))) (pk_div (d := 16) (by omega) (by decide) (by decide)) ?_
              refine lv_istore (lv' := [(4, .int (nI (ndN (rsN (z_n ρ) (pN (z_cp ρ)))))), (3, .int (nI (rsN (z_n ρ) (pN (z_cp ρ))))), (2, .int (nI k)), (1, .int (nI (z_n ρ * 8))), (0, .ref (a 0))]) hx hb dX8_place_81 hl (by decide) rfl (fun ls hl => ?_)
              refine lv_iload hx hb dX8_place_83 (lv_at hl 0 rfl) ?_
              refine lv_if_ne (tgt := 90) hx hb dX8_place_85 (by decide) (fun c85 => ?_) (fun c85 => ?_)
              · have c85 := (not_congr (nI_eq (a := (ndN (rsN (z_n ρ) (pN (z_cp ρ))))) (b := 0) (by omega) (by omega))).mp c85
                refine lv_iload hx hb dX8_place_90 (lv_at hl 0 rfl) ?_
                refine lv_iconst (v := 1) hx hb dX8_place_92 (by decide) ?_
                refine lv_icmp_le (tgt := 131) hx hb dX8_place_93 (by decide) (fun c93 => ?_) (fun c93 => ?_)
                · have c93 := (nI_leI (a := (ndN (rsN (z_n ρ) (pN (z_cp ρ))))) (b := 1) (by omega) (by omega)).mp c93
                  have hl9 : 1 < ndN (rsN (z_n ρ) (pN (z_cp ρ))) → (pN (z_cq ρ) < 1024 ∧ (z_cq ρ).toInt32 = nI (pN (z_cq ρ)) ∧ z_cq ρ = lN (pN (z_cq ρ))) ∧ pN (z_cq ρ) % 16 + ndN (rsN (z_n ρ) (pN (z_cp ρ))) ≤ 16 := fun q => absurd q (by omega)
                  have hl8 : 1 < ndN (rsN (z_n ρ) (pN (z_cp ρ))) → hol (z_cq ρ) ∧ ¬ 16 < pN (z_cq ρ) % 16 + ndN (rsN (z_n ρ) (pN (z_cp ρ))) := fun q => absurd q (by omega)
                  refine lv_iconst (v := 0) hx hb dX8_place_131 (by decide) ?_
                  refine fr_topi (y := nI 0) nI_0.symm ?_
                  refine lv_istore (lv' := [(5, .int (nI 0)), (4, .int (nI (ndN (rsN (z_n ρ) (pN (z_cp ρ)))))), (3, .int (nI (rsN (z_n ρ) (pN (z_cp ρ))))), (2, .int (nI k)), (1, .int (nI (z_n ρ * 8))), (0, .ref (a 0))]) hx hb dX8_place_132 hl (by decide) rfl (fun ls hl => ?_)
                  have lp134 : ∀ (n9 : Nat) (i : Nat) (k : Nat) (s2 : Nat → Int32) , ndN (rsN (z_n ρ) (pN (z_cp ρ))) - i < n9 → (i ≤ ndN (rsN (z_n ρ) (pN (z_cp ρ)))) → (k = min (z_n ρ * 8) (fsN (z_n ρ) (pN (z_cp ρ)) + 16 * i)) → (∀ t, t < k → s2 t = adN (z_mem ρ) (z_cp ρ) (z_cq ρ) (z_n ρ) t) → (∀ t, t < i → hpg (pgN (z_mem ρ) (z_cq ρ) (rsN (z_n ρ) (pN (z_cp ρ))) t)) → ∀ (H : Heap) (locs : List Loc) (ls : Array Slot), va_P g.1 vwCl (rfW g a (z_mem ρ) (z_R ρ) (z_cb ρ) (z_nc ρ) (z_tu ρ) (z_bi ρ) (z_cg ρ) (z_on ρ) (z_T ρ) (z_dn ρ) (z_fa ρ) (z_br ρ) (z_bs ρ) (z_cp ρ) (z_cq ρ) (z_cx ρ) (z_re ρ) (z_n ρ) (z_op ρ) (z_fg ρ) s2 (z_one ρ)) H → va_D A (rfW g a (z_mem ρ) (z_R ρ) (z_cb ρ) (z_nc ρ) (z_tu ρ) (z_bi ρ) (z_cg ρ) (z_on ρ) (z_T ρ) (z_dn ρ) (z_fa ρ) (z_br ρ) (z_bs ρ) (z_cp ρ) (z_cq ρ) (z_cx ρ) (z_re ρ) (z_n ρ) (z_op ρ) (z_fg ρ) s2 (z_one ρ)) → va_S A s.heap H locs → lv_has ls 9 [(5, .int (nI i)), (2, .int (nI k)), (4, .int (nI (ndN (rsN (z_n ρ) (pN (z_cp ρ)))))), (1, .int (nI (z_n ρ * 8))), (0, .ref (a 0))] → W p l e ({ frames := 2, cells := 0, slots := 0, locals := 46 } : Room) s m ([.ref (a 0)].toArray) below meth c H locs 0 0 (MQ below (Qst g (rfW g a (z_mem ρ) (z_R ρ) (z_cb ρ) (z_nc ρ) (z_tu ρ) (z_bi ρ) (z_cg ρ) (z_on ρ) (z_T ρ) (z_dn ρ) (z_fa ρ) (z_br ρ) (z_bs ρ) (z_cp ρ) (z_cq ρ) (z_cx ρ) (z_re ρ) (z_n ρ) (z_op ρ) (z_fg ρ) (z_sp ρ) (z_one ρ)) (fun v w' => ∃ (sp1 : Nat → Int32), (lyOk (z_mem ρ) (z_cp ρ) (z_cq ρ) (z_n ρ) → ∀ k, k < z_n ρ * 8 → sp1 k = adN (z_mem ρ) (z_cp ρ) (z_cq ρ) (z_n ρ) k) ∧ v = some (.int (bI (lyOk (z_mem ρ) (z_cp ρ) (z_cq ρ) (z_n ρ)))) ∧ w' = rfW g a (z_mem ρ) (z_R ρ) (z_cb ρ) (z_nc ρ) (z_tu ρ) (z_bi ρ) (z_cg ρ) (z_on ρ) (z_T ρ) (z_dn ρ) (z_fa ρ) (z_br ρ) (z_bs ρ) (z_cp ρ) (z_cq ρ) (z_cx ρ) (z_re ρ) (z_n ρ) (z_op ρ) (z_fg ρ) sp1 (z_one ρ)) A) ([.ref (a 0)].toArray) s 0 0 A) (F0 m 134 ls []) := by
                    intro n9
                    induction n9 with
                    | zero => intro i k s2 q9; exact absurd q9 (Nat.not_lt_zero _)
                    | succ n9 ih134 =>
                      intro i k s2 hn9 hi hk hs hg H locs ls hP hD hS hl
                      refine lv_iload hx hb dX8_place_134 (lv_at hl 0 rfl) ?_
                      refine lv_iload hx hb dX8_place_136 (lv_at hl 2 rfl) ?_
                      refine lv_icmp_ge (tgt := 221) hx hb dX8_place_138 (by decide) (fun c138 => ?_) (fun c138 => ?_)
                      · have c138 := (nI_leI (a := (ndN (rsN (z_n ρ) (pN (z_cp ρ))))) (b := i) (by omega) (by omega)).mp c138
                        refine lv_iconst (v := 1) hx hb dX8_place_221 (by decide) ?_
                        exact W.zret (v := 1) hx hb hr (by first | rfl | exact bz_n (by first | assumption | exact bI_z | decide)) (fun t ht _ => ⟨⟨(some (.int 1)), rfW g a (z_mem ρ) (z_R ρ) (z_cb ρ) (z_nc ρ) (z_tu ρ) (z_bi ρ) (z_cg ρ) (z_on ρ) (z_T ρ) (z_dn ρ) (z_fa ρ) (z_br ρ) (z_bs ρ) (z_cp ρ) (z_cq ρ) (z_cx ρ) (z_re ρ) (z_n ρ) (z_op ρ) (z_fg ρ) s2 (z_one ρ), rfl, ⟨s2, (fun _ t ht => hs t (by omega)), congrArg (fun z : Int32 => some (Value.int z)) (bI_1 (ly_yes d11 c85 hl8 (fun t ht => hg t (by omega)))), rfl⟩, rfl, by rw [ht]; exact hP⟩, hS.F ht⟩) hS.2.2 dX8_place_222
                      · have c138 := (not_congr (nI_leI (a := (ndN (rsN (z_n ρ) (pN (z_cp ρ))))) (b := i) (by omega) (by omega))).mp c138
                        refine lv_iload hx hb dX8_place_141 (lv_at hl 2 rfl) ?_
                        refine lv_iconst (v := 1) hx hb dX8_place_143 (by decide) ?_
                        refine lv_icmp_ne (tgt := 154) hx hb dX8_place_144 (by decide) (fun c144 => ?_) (fun c144 => ?_)
                        · have c144 := (not_congr (nI_eq (a := (ndN (rsN (z_n ρ) (pN (z_cp ρ))))) (b := 1) (by omega) (by omega))).mp c144
                          refine lv_aload_n hx hb dX8_place_154 rfl (lv_at hl 4 rfl) ?_
                          refine va_get (D := g.1) (ci := 7) (v := .ref (a 1)) (C := RX8) (T := TX8) (N := 30) hx hb hts inX8 hown hK hP 0 rfl rfl 0 (by decide) (hts _ tw603) (fun _ h9 => h9) rfl dX8_place_155 ?_
                          refine lv_aload_n hx hb dX8_place_158 rfl (lv_at hl 4 rfl) ?_
                          refine va_get (D := g.1) (ci := 7) (v := .long (z_cq ρ)) (C := RX8) (T := TX8) (N := 30) hx hb hts inX8 hown hK hP 0 rfl rfl 22 (by decide) (hts _ tw625) (fun _ h9 => h9) rfl dX8_place_159 ?_
                          refine lv_l2i hx hb dX8_place_162 rfl ?_
                          refine fr_topi (y := nI (pN (z_cq ρ))) (hl9 (by omega)).1.2.1 ?_
                          refine lv_iload hx hb dX8_place_163 (lv_at hl 0 rfl) ?_
                          refine lv_iadd hx hb dX8_place_165 ?_
                          refine fr_topi (y := nI (pN (z_cq ρ) + i)) (nI_add _ _) ?_
                          refine fr_lald (k := (pN (z_cq ρ) + i)) hx hb hK hP 1 0 rfl rfl (by have := (hl9 (by omega)).2; have := (hl9 (by omega)).1.1; omega) (by decide) dX8_place_166 ?_
                          refine fr_topl (y := pgN (z_mem ρ) (z_cq ρ) (rsN (z_n ρ) (pN (z_cp ρ))) i) (pg_at c144 (hl9 (by omega)).1 (by have := (hl9 (by omega)).2; have := (hl9 (by omega)).1.1; omega)) ?_
                          refine lv_lstore (lv' := [(6, .long (pgN (z_mem ρ) (z_cq ρ) (rsN (z_n ρ) (pN (z_cp ρ))) i)), (5, .int (nI i)), (2, .int (nI k)), (4, .int (nI (ndN (rsN (z_n ρ) (pN (z_cp ρ)))))), (1, .int (nI (z_n ρ * 8))), (0, .ref (a 0))]) hx hb dX8_place_167 hl (by decide) rfl (fun ls hl => ?_)
                          refine lv_lload hx hb dX8_place_169 (lv_at hl 0 rfl) ?_
                          refine fr_go (va_runS (As := [.long (pgN (z_mem ρ) (z_cq ρ) (rsN (z_n ρ) (pN (z_cp ρ))) i)]) (rest := []) ⟨hx, hb, hml, hown, hts⟩ (kX8_isPage l g (pgN (z_mem ρ) (z_cq ρ) (rsN (z_n ρ) (pN (z_cp ρ))) i) H.size) (va_cwS 1 hts (gdS tw773 tw774 tw9 tw775) rfl rfl rfl (by decide +kernel) ⟨Nat.le_of_ble_eq_true rfl, Nat.le_of_ble_eq_true rfl⟩) ⟨Pst.blind, fr_pre hK hP hD [] rfl rfl⟩ rfl rfl hl.1 rfl (lv_room (Nat.le_of_ble_eq_true rfl)) dX8_place_171 ⟨Nat.le_of_ble_eq_true rfl, Nat.le_of_ble_eq_true rfl⟩) hP hD hS hA [] rfl (fun v w9 H locs hq hP hD hS => ?_)
                          obtain ⟨rfl, rfl⟩ := hq
                          have hP : va_P g.1 vwCl (rfW g a (z_mem ρ) (z_R ρ) (z_cb ρ) (z_nc ρ) (z_tu ρ) (z_bi ρ) (z_cg ρ) (z_on ρ) (z_T ρ) (z_dn ρ) (z_fa ρ) (z_br ρ) (z_bs ρ) (z_cp ρ) (z_cq ρ) (z_cx ρ) (z_re ρ) (z_n ρ) (z_op ρ) (z_fg ρ) s2 (z_one ρ)) H := hP
                          have hD : va_D A (rfW g a (z_mem ρ) (z_R ρ) (z_cb ρ) (z_nc ρ) (z_tu ρ) (z_bi ρ) (z_cg ρ) (z_on ρ) (z_T ρ) (z_dn ρ) (z_fa ρ) (z_br ρ) (z_bs ρ) (z_cp ρ) (z_cq ρ) (z_cx ρ) (z_re ρ) (z_n ρ) (z_op ρ) (z_fg ρ) s2 (z_one ρ)) := hD
                          show W p l e _ s m _ below meth c H locs _ _ _ (F0 m (171 + 3) ls (.int (bI (hpg (pgN (z_mem ρ) (z_cq ρ) (rsN (z_n ρ) (pN (z_cp ρ))) i))) :: []))
                          refine lv_if_ne (tgt := 179) hx hb dX8_place_174 (by decide) (fun c174 => ?_) (fun c174 => ?_)
                          · have c174 := bI_t c174
                            refine lv_iconst (v := 0) hx hb dX8_place_179 (by decide) ?_
                            refine fr_topi (y := nI 0) nI_0.symm ?_
                            refine lv_istore (lv' := [(8, .int (nI 0)), (6, .long (pgN (z_mem ρ) (z_cq ρ) (rsN (z_n ρ) (pN (z_cp ρ))) i)), (5, .int (nI i)), (2, .int (nI k)), (4, .int (nI (ndN (rsN (z_n ρ) (pN (z_cp ρ)))))), (1, .int (nI (z_n ρ * 8))), (0, .ref (a 0))]) hx hb dX8_place_180 hl (by decide) rfl (fun ls hl => ?_)
                            have lp182 : ∀ (n9 : Nat) (j : Nat) (k : Nat) (s3 : Nat → Int32) , 16 - j < n9 → (j ≤ 16) → (k = min (z_n ρ * 8) (fsN (z_n ρ) (pN (z_cp ρ)) + 16 * i + j)) → (∀ t, t < k → s3 t = adN (z_mem ρ) (z_cp ρ) (z_cq ρ) (z_n ρ) t) → ∀ (H : Heap) (locs : List Loc) (ls : Array Slot), va_P g.1 vwCl (rfW g a (z_mem ρ) (z_R ρ) (z_cb ρ) (z_nc ρ) (z_tu ρ) (z_bi ρ) (z_cg ρ) (z_on ρ) (z_T ρ) (z_dn ρ) (z_fa ρ) (z_br ρ) (z_bs ρ) (z_cp ρ) (z_cq ρ) (z_cx ρ) (z_re ρ) (z_n ρ) (z_op ρ) (z_fg ρ) s3 (z_one ρ)) H → va_D A (rfW g a (z_mem ρ) (z_R ρ) (z_cb ρ) (z_nc ρ) (z_tu ρ) (z_bi ρ) (z_cg ρ) (z_on ρ) (z_T ρ) (z_dn ρ) (z_fa ρ) (z_br ρ) (z_bs ρ) (z_cp ρ) (z_cq ρ) (z_cx ρ) (z_re ρ) (z_n ρ) (z_op ρ) (z_fg ρ) s3 (z_one ρ)) → va_S A s.heap H locs → lv_has ls 9 [(8, .int (nI j)), (2, .int (nI k)), (6, .long (pgN (z_mem ρ) (z_cq ρ) (rsN (z_n ρ) (pN (z_cp ρ))) i)), (5, .int (nI i)), (4, .int (nI (ndN (rsN (z_n ρ) (pN (z_cp ρ)))))), (1, .int (nI (z_n ρ * 8))), (0, .ref (a 0))] → W p l e ({ frames := 2, cells := 0, slots := 0, locals := 46 } : Room) s m ([.ref (a 0)].toArray) below meth c H locs 0 0 (MQ below (Qst g (rfW g a (z_mem ρ) (z_R ρ) (z_cb ρ) (z_nc ρ) (z_tu ρ) (z_bi ρ) (z_cg ρ) (z_on ρ) (z_T ρ) (z_dn ρ) (z_fa ρ) (z_br ρ) (z_bs ρ) (z_cp ρ) (z_cq ρ) (z_cx ρ) (z_re ρ) (z_n ρ) (z_op ρ) (z_fg ρ) (z_sp ρ) (z_one ρ)) (fun v w' => ∃ (sp1 : Nat → Int32), (lyOk (z_mem ρ) (z_cp ρ) (z_cq ρ) (z_n ρ) → ∀ k, k < z_n ρ * 8 → sp1 k = adN (z_mem ρ) (z_cp ρ) (z_cq ρ) (z_n ρ) k) ∧ v = some (.int (bI (lyOk (z_mem ρ) (z_cp ρ) (z_cq ρ) (z_n ρ)))) ∧ w' = rfW g a (z_mem ρ) (z_R ρ) (z_cb ρ) (z_nc ρ) (z_tu ρ) (z_bi ρ) (z_cg ρ) (z_on ρ) (z_T ρ) (z_dn ρ) (z_fa ρ) (z_br ρ) (z_bs ρ) (z_cp ρ) (z_cq ρ) (z_cx ρ) (z_re ρ) (z_n ρ) (z_op ρ) (z_fg ρ) sp1 (z_one ρ)) A) ([.ref (a 0)].toArray) s 0 0 A) (F0 m 182 ls []) := by
                              intro n9
                              induction n9 with
                              | zero => intro j k s3 q9; exact absurd q9 (Nat.not_lt_zero _)
                              | succ n9 ih182 =>
                                intro j k s3 hn9 hj hk3 hs H locs ls hP hD hS hl
                                refine lv_iload hx hb dX8_place_182 (lv_at hl 0 rfl) ?_
                                refine lv_bipush (v := 16) hx hb dX8_place_184 (by decide) ?_
                                refine lv_icmp_ge (tgt := 215) hx hb dX8_place_186 (by decide) (fun c186 => ?_) (fun c186 => ?_)
                                · have c186 := (nI_leI (a := 16) (b := j) (by omega) (by omega)).mp c186
                                  refine lv_iinc (v := nI (i + 1)) (lv' := [(5, .int (nI (i + 1))), (8, .int (nI j)), (2, .int (nI k)), (6, .long (pgN (z_mem ρ) (z_cq ρ) (rsN (z_n ρ) (pN (z_cp ρ))) i)), (4, .int (nI (ndN (rsN (z_n ρ) (pN (z_cp ρ)))))), (1, .int (nI (z_n ρ * 8))), (0, .ref (a 0))]) hx hb dX8_place_215 hl (k := 3) rfl (nI_1 _) (by decide) rfl (fun ls hl => ?_)
                                  refine lv_goto (tgt := 134) hx hb dX8_place_218 (by decide) ?_
                                  exact ih134 (i + 1) k s3 (by omega) (by omega) (by omega) hs (lt_s hg c174) H locs ls hP hD hS (lv_sub hl [0, 2, 4, 5, 6] rfl)
                                · have c186 := (not_congr (nI_leI (a := 16) (b := j) (by omega) (by omega))).mp c186
                                  refine lv_iload_n hx hb dX8_place_189 rfl (lv_at hl 1 rfl) ?_
                                  refine lv_iload_n hx hb dX8_place_190 rfl (lv_at hl 5 rfl) ?_
                                  refine lv_icmp_ge (tgt := 215) hx hb dX8_place_191 (by decide) (fun c191 => ?_) (fun c191 => ?_)
                                  · have c191 := (nI_leI (a := (z_n ρ * 8)) (b := k) (by omega) (by omega)).mp c191
                                    refine lv_iinc (v := nI (i + 1)) (lv' := [(5, .int (nI (i + 1))), (8, .int (nI j)), (2, .int (nI k)), (6, .long (pgN (z_mem ρ) (z_cq ρ) (rsN (z_n ρ) (pN (z_cp ρ))) i)), (4, .int (nI (ndN (rsN (z_n ρ) (pN (z_cp ρ)))))), (1, .int (nI (z_n ρ * 8))), (0, .ref (a 0))]) hx hb dX8_place_215 hl (k := 3) rfl (nI_1 _) (by decide) rfl (fun ls hl => ?_)
                                    refine lv_goto (tgt := 134) hx hb dX8_place_218 (by decide) ?_
                                    exact ih134 (i + 1) k s3 (by omega) (by omega) (by omega) hs (lt_s hg c174) H locs ls hP hD hS (lv_sub hl [0, 2, 4, 5, 6] rfl)
                                  · have c191 := (not_congr (nI_leI (a := (z_n ρ * 8)) (b := k) (by omega) (by omega))).mp c191
                                    refine lv_aload_n hx hb dX8_place_194 rfl (lv_at hl 6 rfl) ?_
                                    refine va_get (D := g.1) (ci := 7) (v := .ref (a 13)) (C := RX8) (T := TX8) (N := 30) hx hb hts inX8 hown hK hP 0 rfl rfl 28 (by decide) (hts _ tw631) (fun _ h9 => h9) rfl dX8_place_195 ?_
                                    refine lv_iload_n hx hb dX8_place_198 rfl (lv_at hl 1 rfl) ?_
                                    refine lv_lload hx hb dX8_place_199 (lv_at hl 2 rfl) ?_
                                    refine lv_l2i hx hb dX8_place_201 rfl ?_
                                    refine lv_iload hx hb dX8_place_202 (lv_at hl 0 rfl) ?_
                                    refine lv_iadd hx hb dX8_place_204 ?_
                                    refine fr_iast (k := k) hx hb hK hP hD hS 13 1 rfl rfl (by omega) (by decide) dX8_place_205 (fun H locs hP hD hS => ?_)
                                    have hP : va_P g.1 vwCl (rfW g a (z_mem ρ) (z_R ρ) (z_cb ρ) (z_nc ρ) (z_tu ρ) (z_bi ρ) (z_cg ρ) (z_on ρ) (z_T ρ) (z_dn ρ) (z_fa ρ) (z_br ρ) (z_bs ρ) (z_cp ρ) (z_cq ρ) (z_cx ρ) (z_re ρ) (z_n ρ) (z_op ρ) (z_fg ρ) (upd s3 k (((pgN (z_mem ρ) (z_cq ρ) (rsN (z_n ρ) (pN (z_cp ρ))) i).toInt32) + (nI j))) (z_one ρ)) H := hP
                                    have hD : va_D A (rfW g a (z_mem ρ) (z_R ρ) (z_cb ρ) (z_nc ρ) (z_tu ρ) (z_bi ρ) (z_cg ρ) (z_on ρ) (z_T ρ) (z_dn ρ) (z_fa ρ) (z_br ρ) (z_bs ρ) (z_cp ρ) (z_cq ρ) (z_cx ρ) (z_re ρ) (z_n ρ) (z_op ρ) (z_fg ρ) (upd s3 k (((pgN (z_mem ρ) (z_cq ρ) (rsN (z_n ρ) (pN (z_cp ρ))) i).toInt32) + (nI j))) (z_one ρ)) := hD
                                    refine lv_iinc (v := nI (k + 1)) (lv' := [(2, .int (nI (k + 1))), (8, .int (nI j)), (6, .long (pgN (z_mem ρ) (z_cq ρ) (rsN (z_n ρ) (pN (z_cp ρ))) i)), (5, .int (nI i)), (4, .int (nI (ndN (rsN (z_n ρ) (pN (z_cp ρ)))))), (1, .int (nI (z_n ρ * 8))), (0, .ref (a 0))]) hx hb dX8_place_206 hl (k := 1) rfl (nI_1 _) (by decide) rfl (fun ls hl => ?_)
                                    refine lv_iinc (v := nI (j + 1)) (lv' := [(8, .int (nI (j + 1))), (2, .int (nI (k + 1))), (6, .long (pgN (z_mem ρ) (z_cq ρ) (rsN (z_n ρ) (pN (z_cp ρ))) i)), (5, .int (nI i)), (4, .int (nI (ndN (rsN (z_n ρ) (pN (z_cp ρ)))))), (1, .int (nI (z_n ρ * 8))), (0, .ref (a 0))]) hx hb dX8_place_209 hl (k := 1) rfl (nI_1 _) (by decide) rfl (fun ls hl => ?_)
                                    refine lv_goto (tgt := 182) hx hb dX8_place_212 (by decide) ?_
                                    exact ih182 (j + 1) (k + 1) (upd s3 k ((pgN (z_mem ρ) (z_cq ρ) (rsN (z_n ρ) (pN (z_cp ρ))) i).toInt32 + nI j)) (by omega) (by omega) (by omega) (upd_ext hs (by rw [adN_hi (by omega), show fsN (z_n ρ) (pN (z_cp ρ)) + (16 * i + j) = k by omega])) H locs ls hP hD hS (lv_sub hl [0, 1, 2, 3, 4, 5, 6] rfl)
                            exact lp182 _ 0 k s2 (Nat.lt_succ_self _) (by decide) (by omega) hs H locs ls hP hD hS (lv_sub hl [0, 3, 1, 2, 4, 5, 6] rfl)
                          · have c174 := bI_f c174
                            refine lv_iconst (v := 0) hx hb dX8_place_177 (by decide) ?_
                            exact W.zret (v := 0) hx hb hr (by first | rfl | exact bz_n (by first | assumption | exact bI_z | decide)) (fun t ht _ => ⟨⟨(some (.int 0)), rfW g a (z_mem ρ) (z_R ρ) (z_cb ρ) (z_nc ρ) (z_tu ρ) (z_bi ρ) (z_cg ρ) (z_on ρ) (z_T ρ) (z_dn ρ) (z_fa ρ) (z_br ρ) (z_bs ρ) (z_cp ρ) (z_cq ρ) (z_cx ρ) (z_re ρ) (z_n ρ) (z_op ρ) (z_fg ρ) s2 (z_one ρ), rfl, ⟨s2, (fun q => absurd q (ly_no (by omega) c174)), congrArg (fun z : Int32 => some (Value.int z)) (bI_0 (ly_no (by omega) c174)), rfl⟩, rfl, by rw [ht]; exact hP⟩, hS.F ht⟩) hS.2.2 dX8_place_178
                        · have c144 := (nI_eq (a := (ndN (rsN (z_n ρ) (pN (z_cp ρ))))) (b := 1) (by omega) (by omega)).mp c144
                          refine lv_aload_n hx hb dX8_place_147 rfl (lv_at hl 4 rfl) ?_
                          refine va_get (D := g.1) (ci := 7) (v := .long (z_cq ρ)) (C := RX8) (T := TX8) (N := 30) hx hb hts inX8 hown hK hP 0 rfl rfl 22 (by decide) (hts _ tw625) (fun _ h9 => h9) rfl dX8_place_148 ?_
                          refine fr_topl (y := pgN (z_mem ρ) (z_cq ρ) (rsN (z_n ρ) (pN (z_cp ρ))) i) (if_pos c144).symm ?_
                          refine lv_goto (tgt := 167) hx hb dX8_place_151 (by decide) ?_
                          refine lv_lstore (lv' := [(6, .long (pgN (z_mem ρ) (z_cq ρ) (rsN (z_n ρ) (pN (z_cp ρ))) i)), (5, .int (nI i)), (2, .int (nI k)), (4, .int (nI (ndN (rsN (z_n ρ) (pN (z_cp ρ)))))), (1, .int (nI (z_n ρ * 8))), (0, .ref (a 0))]) hx hb dX8_place_167 hl (by decide) rfl (fun ls hl => ?_)
                          refine lv_lload hx hb dX8_place_169 (lv_at hl 0 rfl) ?_
                          refine fr_go (va_runS (As := [.long (pgN (z_mem ρ) (z_cq ρ) (rsN (z_n ρ) (pN (z_cp ρ))) i)]) (rest := []) ⟨hx, hb, hml, hown, hts⟩ (kX8_isPage l g (pgN (z_mem ρ) (z_cq ρ) (rsN (z_n ρ) (pN (z_cp ρ))) i) H.size) (va_cwS 1 hts (gdS tw773 tw774 tw9 tw775) rfl rfl rfl (by decide +kernel) ⟨Nat.le_of_ble_eq_true rfl, Nat.le_of_ble_eq_true rfl⟩) ⟨Pst.blind, fr_pre hK hP hD [] rfl rfl⟩ rfl rfl hl.1 rfl (lv_room (Nat.le_of_ble_eq_true rfl)) dX8_place_171 ⟨Nat.le_of_ble_eq_true rfl, Nat.le_of_ble_eq_true rfl⟩) hP hD hS hA [] rfl (fun v w9 H locs hq hP hD hS => ?_)
                          obtain ⟨rfl, rfl⟩ := hq
                          have hP : va_P g.1 vwCl (rfW g a (z_mem ρ) (z_R ρ) (z_cb ρ) (z_nc ρ) (z_tu ρ) (z_bi ρ) (z_cg ρ) (z_on ρ) (z_T ρ) (z_dn ρ) (z_fa ρ) (z_br ρ) (z_bs ρ) (z_cp ρ) (z_cq ρ) (z_cx ρ) (z_re ρ) (z_n ρ) (z_op ρ) (z_fg ρ) s2 (z_one ρ)) H := hP
                          have hD : va_D A (rfW g a (z_mem ρ) (z_R ρ) (z_cb ρ) (z_nc ρ) (z_tu ρ) (z_bi ρ) (z_cg ρ) (z_on ρ) (z_T ρ) (z_dn ρ) (z_fa ρ) (z_br ρ) (z_bs ρ) (z_cp ρ) (z_cq ρ) (z_cx ρ) (z_re ρ) (z_n ρ) (z_op ρ) (z_fg ρ) s2 (z_one ρ)) := hD
                          show W p l e _ s m _ below meth c H locs _ _ _ (F0 m (171 + 3) ls (.int (bI (hpg (pgN (z_mem ρ) (z_cq ρ) (rsN (z_n ρ) (pN (z_cp ρ))) i))) :: []))
                          refine lv_if_ne (tgt := 179) hx hb dX8_place_174 (by decide) (fun c174 => ?_) (fun c174 => ?_)
                          · have c174 := bI_t c174
                            refine lv_iconst (v := 0) hx hb dX8_place_179 (by decide) ?_
                            refine fr_topi (y := nI 0) nI_0.symm ?_
                            refine lv_istore (lv' := [(8, .int (nI 0)), (6, .long (pgN (z_mem ρ) (z_cq ρ) (rsN (z_n ρ) (pN (z_cp ρ))) i)), (5, .int (nI i)), (2, .int (nI k)), (4, .int (nI (ndN (rsN (z_n ρ) (pN (z_cp ρ)))))), (1, .int (nI (z_n ρ * 8))), (0, .ref (a 0))]) hx hb dX8_place_180 hl (by decide) rfl (fun ls hl => ?_)
                            have lp182 : ∀ (n9 : Nat) (j : Nat) (k : Nat) (s3 : Nat → Int32) , 16 - j < n9 → (j ≤ 16) → (k = min (z_n ρ * 8) (fsN (z_n ρ) (pN (z_cp ρ)) + 16 * i + j)) → (∀ t, t < k → s3 t = adN (z_mem ρ) (z_cp ρ) (z_cq ρ) (z_n ρ) t) → ∀ (H : Heap) (locs : List Loc) (ls : Array Slot), va_P g.1 vwCl (rfW g a (z_mem ρ) (z_R ρ) (z_cb ρ) (z_nc ρ) (z_tu ρ) (z_bi ρ) (z_cg ρ) (z_on ρ) (z_T ρ) (z_dn ρ) (z_fa ρ) (z_br ρ) (z_bs ρ) (z_cp ρ) (z_cq ρ) (z_cx ρ) (z_re ρ) (z_n ρ) (z_op ρ) (z_fg ρ) s3 (z_one ρ)) H → va_D A (rfW g a (z_mem ρ) (z_R ρ) (z_cb ρ) (z_nc ρ) (z_tu ρ) (z_bi ρ) (z_cg ρ) (z_on ρ) (z_T ρ) (z_dn ρ) (z_fa ρ) (z_br ρ) (z_bs ρ) (z_cp ρ) (z_cq ρ) (z_cx ρ) (z_re ρ) (z_n ρ) (z_op ρ) (z_fg ρ) s3 (z_one ρ)) → va_S A s.heap H locs → lv_has ls 9 [(8, .int (nI j)), (2, .int (nI k)), (6, .long (pgN (z_mem ρ) (z_cq ρ) (rsN (z_n ρ) (pN (z_cp ρ))) i)), (5, .int (nI i)), (4, .int (nI (ndN (rsN (z_n ρ) (pN (z_cp ρ)))))), (1, .int (nI (z_n ρ * 8))), (0, .ref (a 0))] → W p l e ({ frames := 2, cells := 0, slots := 0, locals := 46 } : Room) s m ([.ref (a 0)].toArray) below meth c H locs 0 0 (MQ below (Qst g (rfW g a (z_mem ρ) (z_R ρ) (z_cb ρ) (z_nc ρ) (z_tu ρ) (z_bi ρ) (z_cg ρ) (z_on ρ) (z_T ρ) (z_dn ρ) (z_fa ρ) (z_br ρ) (z_bs ρ) (z_cp ρ) (z_cq ρ) (z_cx ρ) (z_re ρ) (z_n ρ) (z_op ρ) (z_fg ρ) (z_sp ρ) (z_one ρ)) (fun v w' => ∃ (sp1 : Nat → Int32), (lyOk (z_mem ρ) (z_cp ρ) (z_cq ρ) (z_n ρ) → ∀ k, k < z_n ρ * 8 → sp1 k = adN (z_mem ρ) (z_cp ρ) (z_cq ρ) (z_n ρ) k) ∧ v = some (.int (bI (lyOk (z_mem ρ) (z_cp ρ) (z_cq ρ) (z_n ρ)))) ∧ w' = rfW g a (z_mem ρ) (z_R ρ) (z_cb ρ) (z_nc ρ) (z_tu ρ) (z_bi ρ) (z_cg ρ) (z_on ρ) (z_T ρ) (z_dn ρ) (z_fa ρ) (z_br ρ) (z_bs ρ) (z_cp ρ) (z_cq ρ) (z_cx ρ) (z_re ρ) (z_n ρ) (z_op ρ) (z_fg ρ) sp1 (z_one ρ)) A) ([.ref (a 0)].toArray) s 0 0 A) (F0 m 182 ls []) := by
                              intro n9
                              induction n9 with
                              | zero => intro j k s3 q9; exact absurd q9 (Nat.not_lt_zero _)
                              | succ n9 ih182 =>
                                intro j k s3 hn9 hj hk3 hs H locs ls hP hD hS hl
                                refine lv_iload hx hb dX8_place_182 (lv_at hl 0 rfl) ?_
                                refine lv_bipush (v := 16) hx hb dX8_place_184 (by decide) ?_
                                refine lv_icmp_ge (tgt := 215) hx hb dX8_place_186 (by decide) (fun c186 => ?_) (fun c186 => ?_)
                                · have c186 := (nI_leI (a := 16) (b := j) (by omega) (by omega)).mp c186
                                  refine lv_iinc (v := nI (i + 1)) (lv' := [(5, .int (nI (i + 1))), (8, .int (nI j)), (2, .int (nI k)), (6, .long (pgN (z_mem ρ) (z_cq ρ) (rsN (z_n ρ) (pN (z_cp ρ))) i)), (4, .int (nI (ndN (rsN (z_n ρ) (pN (z_cp ρ)))))), (1, .int (nI (z_n ρ * 8))), (0, .ref (a 0))]) hx hb dX8_place_215 hl (k := 3) rfl (nI_1 _) (by decide) rfl (fun ls hl => ?_)
                                  refine lv_goto (tgt := 134) hx hb dX8_place_218 (by decide) ?_
                                  exact ih134 (i + 1) k s3 (by omega) (by omega) (by omega) hs (lt_s hg c174) H locs ls hP hD hS (lv_sub hl [0, 2, 4, 5, 6] rfl)
                                · have c186 := (not_congr (nI_leI (a := 16) (b := j) (by omega) (by omega))).mp c186
                                  refine lv_iload_n hx hb dX8_place_189 rfl (lv_at hl 1 rfl) ?_
                                  refine lv_iload_n hx hb dX8_place_190 rfl (lv_at hl 5 rfl) ?_
                                  refine lv_icmp_ge (tgt := 215) hx hb dX8_place_191 (by decide) (fun c191 => ?_) (fun c191 => ?_)
                                  · have c191 := (nI_leI (a := (z_n ρ * 8)) (b := k) (by omega) (by omega)).mp c191
                                    refine lv_iinc (v := nI (i + 1)) (lv' := [(5, .int (nI (i + 1))), (8, .int (nI j)), (2, .int (nI k)), (6, .long (pgN (z_mem ρ) (z_cq ρ) (rsN (z_n ρ) (pN (z_cp ρ))) i)), (4, .int (nI (ndN (rsN (z_n ρ) (pN (z_cp ρ)))))), (1, .int (nI (z_n ρ * 8))), (0, .ref (a 0))]) hx hb dX8_place_215 hl (k := 3) rfl (nI_1 _) (by decide) rfl (fun ls hl => ?_)
                                    refine lv_goto (tgt := 134) hx hb dX8_place_218 (by decide) ?_
                                    exact ih134 (i + 1) k s3 (by omega) (by omega) (by omega) hs (lt_s hg c174) H locs ls hP hD hS (lv_sub hl [0, 2, 4, 5, 6] rfl)
                                  · have c191 := (not_congr (nI_leI (a := (z_n ρ * 8)) (b := k) (by omega) (by omega))).mp c191
                                    refine lv_aload_n hx hb dX8_place_194 rfl (lv_at hl 6 rfl) ?_
                                    refine va_get (D := g.1) (ci := 7) (v := .ref (a 13)) (C := RX8) (T := TX8) (N := 30) hx hb hts inX8 hown hK hP 0 rfl rfl 28 (by decide) (hts _ tw631) (fun _ h9 => h9) rfl dX8_place_195 ?_
                                    refine lv_iload_n hx hb dX8_place_198 rfl (lv_at hl 1 rfl) ?_
                                    refine lv_lload hx hb dX8_place_199 (lv_at hl 2 rfl) ?_
                                    refine lv_l2i hx hb dX8_place_201 rfl ?_
                                    refine lv_iload hx hb dX8_place_202 (lv_at hl 0 rfl) ?_
                                    refine lv_iadd hx hb dX8_place_204 ?_
                                    refine fr_iast (k := k) hx hb hK hP hD hS 13 1 rfl rfl (by omega) (by decide) dX8_place_205 (fun H locs hP hD hS => ?_)
                                    have hP : va_P g.1 vwCl (rfW g a (z_mem ρ) (z_R ρ) (z_cb ρ) (z_nc ρ) (z_tu ρ) (z_bi ρ) (z_cg ρ) (z_on ρ) (z_T ρ) (z_dn ρ) (z_fa ρ) (z_br ρ) (z_bs ρ) (z_cp ρ) (z_cq ρ) (z_cx ρ) (z_re ρ) (z_n ρ) (z_op ρ) (z_fg ρ) (upd s3 k (((pgN (z_mem ρ) (z_cq ρ) (rsN (z_n ρ) (pN (z_cp ρ))) i).toInt32) + (nI j))) (z_one ρ)) H := hP
                                    have hD : va_D A (rfW g a (z_mem ρ) (z_R ρ) (z_cb ρ) (z_nc ρ) (z_tu ρ) (z_bi ρ) (z_cg ρ) (z_on ρ) (z_T ρ) (z_dn ρ) (z_fa ρ) (z_br ρ) (z_bs ρ) (z_cp ρ) (z_cq ρ) (z_cx ρ) (z_re ρ) (z_n ρ) (z_op ρ) (z_fg ρ) (upd s3 k (((pgN (z_mem ρ) (z_cq ρ) (rsN (z_n ρ) (pN (z_cp ρ))) i).toInt32) + (nI j))) (z_one ρ)) := hD
                                    refine lv_iinc (v := nI (k + 1)) (lv' := [(2, .int (nI (k + 1))), (8, .int (nI j)), (6, .long (pgN (z_mem ρ) (z_cq ρ) (rsN (z_n ρ) (pN (z_cp ρ))) i)), (5, .int (nI i)), (4, .int (nI (ndN (rsN (z_n ρ) (pN (z_cp ρ)))))), (1, .int (nI (z_n ρ * 8))), (0, .ref (a 0))]) hx hb dX8_place_206 hl (k := 1) rfl (nI_1 _) (by decide) rfl (fun ls hl => ?_)
                                    refine lv_iinc (v := nI (j + 1)) (lv' := [(8, .int (nI (j + 1))), (2, .int (nI (k + 1))), (6, .long (pgN (z_mem ρ) (z_cq ρ) (rsN (z_n ρ) (pN (z_cp ρ))) i)), (5, .int (nI i)), (4, .int (nI (ndN (rsN (z_n ρ) (pN (z_cp ρ)))))), (1, .int (nI (z_n ρ * 8))), (0, .ref (a 0))]) hx hb dX8_place_209 hl (k := 1) rfl (nI_1 _) (by decide) rfl (fun ls hl => ?_)
                                    refine lv_goto (tgt := 182) hx hb dX8_place_212 (by decide) ?_
                                    exact ih182 (j + 1) (k + 1) (upd s3 k ((pgN (z_mem ρ) (z_cq ρ) (rsN (z_n ρ) (pN (z_cp ρ))) i).toInt32 + nI j)) (by omega) (by omega) (by omega) (upd_ext hs (by rw [adN_hi (by omega), show fsN (z_n ρ) (pN (z_cp ρ)) + (16 * i + j) = k by omega])) H locs ls hP hD hS (lv_sub hl [0, 1, 2, 3, 4, 5, 6] rfl)
                            exact lp182 _ 0 k s2 (Nat.lt_succ_self _) (by decide) (by omega) hs H locs ls hP hD hS (lv_sub hl [0, 3, 1, 2, 4, 5, 6] rfl)
                          · have c174 := bI_f c174
                            refine lv_iconst (v := 0) hx hb dX8_place_177 (by decide) ?_
                            exact W.zret (v := 0) hx hb hr (by first | rfl | exact bz_n (by first | assumption | exact bI_z | decide)) (fun t ht _ => ⟨⟨(some (.int 0)), rfW g a (z_mem ρ) (z_R ρ) (z_cb ρ) (z_nc ρ) (z_tu ρ) (z_bi ρ) (z_cg ρ) (z_on ρ) (z_T ρ) (z_dn ρ) (z_fa ρ) (z_br ρ) (z_bs ρ) (z_cp ρ) (z_cq ρ) (z_cx ρ) (z_re ρ) (z_n ρ) (z_op ρ) (z_fg ρ) s2 (z_one ρ), rfl, ⟨s2, (fun q => absurd q (ly_no (by omega) c174)), congrArg (fun z : Int32 => some (Value.int z)) (bI_0 (ly_no (by omega) c174)), rfl⟩, rfl, by rw [ht]; exact hP⟩, hS.F ht⟩) hS.2.2 dX8_place_178
                  exact lp134 _ 0 k s1 (Nat.lt_succ_self _) (Nat.zero_le _) (by omega) hs (fun t ht => absurd ht (Nat.not_lt_zero _)) H locs ls hP hD hS (lv_sub hl [0, 3, 1, 4, 5] rfl)
                · have c93 := (not_congr (nI_leI (a := (ndN (rsN (z_n ρ) (pN (z_cp ρ))))) (b := 1) (by omega) (by omega))).mp c93
                  refine lv_aload_n hx hb dX8_place_96 rfl (lv_at hl 4 rfl) ?_
                  refine va_get (D := g.1) (ci := 7) (v := .long (z_cq ρ)) (C := RX8) (T := TX8) (N := 30) hx hb hts inX8 hown hK hP 0 rfl rfl 22 (by decide) (hts _ tw625) (fun _ h9 => h9) rfl dX8_place_97 ?_
                  refine lv_lconst (v := 0) hx hb dX8_place_100 (by decide) ?_
                  refine lv_ldc2 hx hb hown (hts _ tw699) dX8_place_101 ?_
                  refine fr_go (va_runS (As := [.long (z_cq ρ), .long 0, .long 1023]) (rest := []) ⟨hx, hb, hml, hown, hts⟩ (kX8_in l g (z_cq ρ) 0 1023 H.size) (va_cwS 3 hts (gdS tw700 tw701 tw9 tw702) rfl rfl rfl (by decide +kernel) ⟨Nat.le_of_ble_eq_true rfl, Nat.le_of_ble_eq_true rfl⟩) ⟨Pst.blind, fr_pre hK hP hD [] rfl rfl⟩ rfl rfl hl.1 rfl (lv_room (Nat.le_of_ble_eq_true rfl)) dX8_place_104 ⟨Nat.le_of_ble_eq_true rfl, Nat.le_of_ble_eq_true rfl⟩) hP hD hS hA [] rfl (fun v w9 H locs hq hP hD hS => ?_)
                  obtain ⟨rfl, rfl⟩ := hq
                  have hP : va_P g.1 vwCl (rfW g a (z_mem ρ) (z_R ρ) (z_cb ρ) (z_nc ρ) (z_tu ρ) (z_bi ρ) (z_cg ρ) (z_on ρ) (z_T ρ) (z_dn ρ) (z_fa ρ) (z_br ρ) (z_bs ρ) (z_cp ρ) (z_cq ρ) (z_cx ρ) (z_re ρ) (z_n ρ) (z_op ρ) (z_fg ρ) s1 (z_one ρ)) H := hP
                  have hD : va_D A (rfW g a (z_mem ρ) (z_R ρ) (z_cb ρ) (z_nc ρ) (z_tu ρ) (z_bi ρ) (z_cg ρ) (z_on ρ) (z_T ρ) (z_dn ρ) (z_fa ρ) (z_br ρ) (z_bs ρ) (z_cp ρ) (z_cq ρ) (z_cx ρ) (z_re ρ) (z_n ρ) (z_op ρ) (z_fg ρ) s1 (z_one ρ)) := hD
                  show W p l e _ s m _ below meth c H locs _ _ _ (F0 m (104 + 3) ls (.int (bI (¬ (z_cq ρ) < 0 ∧ ¬ 1023 < (z_cq ρ))) :: []))
                  refine lv_if_eq (tgt := 129) hx hb dX8_place_107 (by decide) (fun c107 => ?_) (fun c107 => ?_)
                  · have c107 := bI_f c107
                    have d107 : ¬ hol (z_cq ρ) := fun q => c107 ⟨q.1, fun z => q.2 (l1024 z)⟩
                    refine lv_iconst (v := 0) hx hb dX8_place_129 (by decide) ?_
                    exact W.zret (v := 0) hx hb hr (by first | rfl | exact bz_n (by first | assumption | exact bI_z | decide)) (fun t ht _ => ⟨⟨(some (.int 0)), rfW g a (z_mem ρ) (z_R ρ) (z_cb ρ) (z_nc ρ) (z_tu ρ) (z_bi ρ) (z_cg ρ) (z_on ρ) (z_T ρ) (z_dn ρ) (z_fa ρ) (z_br ρ) (z_bs ρ) (z_cp ρ) (z_cq ρ) (z_cx ρ) (z_re ρ) (z_n ρ) (z_op ρ) (z_fg ρ) s1 (z_one ρ), rfl, ⟨s1, (fun q => absurd q (ly_big c85 c93 (fun q => d107 q.1))), congrArg (fun z : Int32 => some (Value.int z)) (bI_0 (ly_big c85 c93 (fun q => d107 q.1))), rfl⟩, rfl, by rw [ht]; exact hP⟩, hS.F ht⟩) hS.2.2 dX8_place_130
                  · have c107 := bI_t c107
                    have d107 : hol (z_cq ρ) := ⟨c107.1, fun q => c107.2 (l1023 q)⟩
                    have hq9 := hol_n d107
                    have hq10 := hq9.1
                    refine lv_aload_n hx hb dX8_place_110 rfl (lv_at hl 4 rfl) ?_
                    refine va_get (D := g.1) (ci := 7) (v := .long (z_cq ρ)) (C := RX8) (T := TX8) (N := 30) hx hb hts inX8 hown hK hP 0 rfl rfl 22 (by decide) (hts _ tw625) (fun _ h9 => h9) rfl dX8_place_111 ?_
                    refine lv_ldc2 hx hb hown (hts _ tw715) dX8_place_114 ?_
                    refine lv_lrem hx hb dX8_place_117 (by decide) ?_
                    refine fr_topl (y := lN (pN (z_cq ρ) % 16)) (lrem_q hq9.2.2 (by omega)) ?_
                    refine lv_iload hx hb dX8_place_118 (lv_at hl 0 rfl) ?_
                    refine lv_i2l hx hb dX8_place_120 rfl ?_
                    refine fr_topl (y := lN (ndN (rsN (z_n ρ) (pN (z_cp ρ))))) (nI_l (by omega)) ?_
                    refine lv_ladd hx hb dX8_place_121 ?_
                    refine fr_topl (y := lN (pN (z_cq ρ) % 16 + ndN (rsN (z_n ρ) (pN (z_cp ρ))))) (lN_add _ _) ?_
                    refine lv_ldc2 hx hb hown (hts _ tw715) dX8_place_122 ?_
                    refine W.lcmp hx hb dX8_place_125 ?_
                    refine lv_if_le (tgt := 131) hx hb dX8_place_126 (by decide) (fun c126 => ?_) (fun c126 => ?_)
                    · have c126 := (lg_cmp_le (lN (pN (z_cq ρ) % 16 + ndN (rsN (z_n ρ) (pN (z_cp ρ))))) 16).mp c126
                      have d126 := (lN_16 (by omega)).mp c126
                      have hl9 : 1 < ndN (rsN (z_n ρ) (pN (z_cp ρ))) → (pN (z_cq ρ) < 1024 ∧ (z_cq ρ).toInt32 = nI (pN (z_cq ρ)) ∧ z_cq ρ = lN (pN (z_cq ρ))) ∧ pN (z_cq ρ) % 16 + ndN (rsN (z_n ρ) (pN (z_cp ρ))) ≤ 16 := fun _ => ⟨hq9, d126⟩
                      have hl8 : 1 < ndN (rsN (z_n ρ) (pN (z_cp ρ))) → hol (z_cq ρ) ∧ ¬ 16 < pN (z_cq ρ) % 16 + ndN (rsN (z_n ρ) (pN (z_cp ρ))) := fun _ => ⟨d107, by omega⟩
                      refine lv_iconst (v := 0) hx hb dX8_place_131 (by decide) ?_
                      refine fr_topi (y := nI 0) nI_0.symm ?_
                      refine lv_istore (lv' := [(5, .int (nI 0)), (4, .int (nI (ndN (rsN (z_n ρ) (pN (z_cp ρ)))))), (3, .int (nI (rsN (z_n ρ) (pN (z_cp ρ))))), (2, .int (nI k)), (1, .int (nI (z_n ρ * 8))), (0, .ref (a 0))]) hx hb dX8_place_132 hl (by decide) rfl (fun ls hl => ?_)
                      have lp134 : ∀ (n9 : Nat) (i : Nat) (k : Nat) (s2 : Nat → Int32) , ndN (rsN (z_n ρ) (pN (z_cp ρ))) - i < n9 → (i ≤ ndN (rsN (z_n ρ) (pN (z_cp ρ)))) → (k = min (z_n ρ * 8) (fsN (z_n ρ) (pN (z_cp ρ)) + 16 * i)) → (∀ t, t < k → s2 t = adN (z_mem ρ) (z_cp ρ) (z_cq ρ) (z_n ρ) t) → (∀ t, t < i → hpg (pgN (z_mem ρ) (z_cq ρ) (rsN (z_n ρ) (pN (z_cp ρ))) t)) → ∀ (H : Heap) (locs : List Loc) (ls : Array Slot), va_P g.1 vwCl (rfW g a (z_mem ρ) (z_R ρ) (z_cb ρ) (z_nc ρ) (z_tu ρ) (z_bi ρ) (z_cg ρ) (z_on ρ) (z_T ρ) (z_dn ρ) (z_fa ρ) (z_br ρ) (z_bs ρ) (z_cp ρ) (z_cq ρ) (z_cx ρ) (z_re ρ) (z_n ρ) (z_op ρ) (z_fg ρ) s2 (z_one ρ)) H → va_D A (rfW g a (z_mem ρ) (z_R ρ) (z_cb ρ) (z_nc ρ) (z_tu ρ) (z_bi ρ) (z_cg ρ) (z_on ρ) (z_T ρ) (z_dn ρ) (z_fa ρ) (z_br ρ) (z_bs ρ) (z_cp ρ) (z_cq ρ) (z_cx ρ) (z_re ρ) (z_n ρ) (z_op ρ) (z_fg ρ) s2 (z_one ρ)) → va_S A s.heap H locs → lv_has ls 9 [(5, .int (nI i)), (2, .int (nI k)), (4, .int (nI (ndN (rsN (z_n ρ) (pN (z_cp ρ)))))), (1, .int (nI (z_n ρ * 8))), (0, .ref (a 0))] → W p l e ({ frames := 2, cells := 0, slots := 0, locals := 46 } : Room) s m ([.ref (a 0)].toArray) below meth c H locs 0 0 (MQ below (Qst g (rfW g a (z_mem ρ) (z_R ρ) (z_cb ρ) (z_nc ρ) (z_tu ρ) (z_bi ρ) (z_cg ρ) (z_on ρ) (z_T ρ) (z_dn ρ) (z_fa ρ) (z_br ρ) (z_bs ρ) (z_cp ρ) (z_cq ρ) (z_cx ρ) (z_re ρ) (z_n ρ) (z_op ρ) (z_fg ρ) (z_sp ρ) (z_one ρ)) (fun v w' => ∃ (sp1 : Nat → Int32), (lyOk (z_mem ρ) (z_cp ρ) (z_cq ρ) (z_n ρ) → ∀ k, k < z_n ρ * 8 → sp1 k = adN (z_mem ρ) (z_cp ρ) (z_cq ρ) (z_n ρ) k) ∧ v = some (.int (bI (lyOk (z_mem ρ) (z_cp ρ) (z_cq ρ) (z_n ρ)))) ∧ w' = rfW g a (z_mem ρ) (z_R ρ) (z_cb ρ) (z_nc ρ) (z_tu ρ) (z_bi ρ) (z_cg ρ) (z_on ρ) (z_T ρ) (z_dn ρ) (z_fa ρ) (z_br ρ) (z_bs ρ) (z_cp ρ) (z_cq ρ) (z_cx ρ) (z_re ρ) (z_n ρ) (z_op ρ) (z_fg ρ) sp1 (z_one ρ)) A) ([.ref (a 0)].toArray) s 0 0 A) (F0 m 134 ls []) := by
                        intro n9
                        induction n9 with
                        | zero => intro i k s2 q9; exact absurd q9 (Nat.not_lt_zero _)
                        | succ n9 ih134 =>
                          intro i k s2 hn9 hi hk hs hg H locs ls hP hD hS hl
                          refine lv_iload hx hb dX8_place_134 (lv_at hl 0 rfl) ?_
                          refine lv_iload hx hb dX8_place_136 (lv_at hl 2 rfl) ?_
                          refine lv_icmp_ge (tgt := 221) hx hb dX8_place_138 (by decide) (fun c138 => ?_) (fun c138 => ?_)
                          · have c138 := (nI_leI (a := (ndN (rsN (z_n ρ) (pN (z_cp ρ))))) (b := i) (by omega) (by omega)).mp c138
                            refine lv_iconst (v := 1) hx hb dX8_place_221 (by decide) ?_
                            exact W.zret (v := 1) hx hb hr (by first | rfl | exact bz_n (by first | assumption | exact bI_z | decide)) (fun t ht _ => ⟨⟨(some (.int 1)), rfW g a (z_mem ρ) (z_R ρ) (z_cb ρ) (z_nc ρ) (z_tu ρ) (z_bi ρ) (z_cg ρ) (z_on ρ) (z_T ρ) (z_dn ρ) (z_fa ρ) (z_br ρ) (z_bs ρ) (z_cp ρ) (z_cq ρ) (z_cx ρ) (z_re ρ) (z_n ρ) (z_op ρ) (z_fg ρ) s2 (z_one ρ), rfl, ⟨s2, (fun _ t ht => hs t (by omega)), congrArg (fun z : Int32 => some (Value.int z)) (bI_1 (ly_yes d11 c85 hl8 (fun t ht => hg t (by omega)))), rfl⟩, rfl, by rw [ht]; exact hP⟩, hS.F ht⟩) hS.2.2 dX8_place_222
                          · have c138 := (not_congr (nI_leI (a := (ndN (rsN (z_n ρ) (pN (z_cp ρ))))) (b := i) (by omega) (by omega))).mp c138
                            refine lv_iload hx hb dX8_place_141 (lv_at hl 2 rfl) ?_
                            refine lv_iconst (v := 1) hx hb dX8_place_143 (by decide) ?_
                            refine lv_icmp_ne (tgt := 154) hx hb dX8_place_144 (by decide) (fun c144 => ?_) (fun c144 => ?_)
                            · have c144 := (not_congr (nI_eq (a := (ndN (rsN (z_n ρ) (pN (z_cp ρ))))) (b := 1) (by omega) (by omega))).mp c144
                              refine lv_aload_n hx hb dX8_place_154 rfl (lv_at hl 4 rfl) ?_
                              refine va_get (D := g.1) (ci := 7) (v := .ref (a 1)) (C := RX8) (T := TX8) (N := 30) hx hb hts inX8 hown hK hP 0 rfl rfl 0 (by decide) (hts _ tw603) (fun _ h9 => h9) rfl dX8_place_155 ?_
                              refine lv_aload_n hx hb dX8_place_158 rfl (lv_at hl 4 rfl) ?_
                              refine va_get (D := g.1) (ci := 7) (v := .long (z_cq ρ)) (C := RX8) (T := TX8) (N := 30) hx hb hts inX8 hown hK hP 0 rfl rfl 22 (by decide) (hts _ tw625) (fun _ h9 => h9) rfl dX8_place_159 ?_
                              refine lv_l2i hx hb dX8_place_162 rfl ?_
                              refine fr_topi (y := nI (pN (z_cq ρ))) (hl9 (by omega)).1.2.1 ?_
                              refine lv_iload hx hb dX8_place_163 (lv_at hl 0 rfl) ?_
                              refine lv_iadd hx hb dX8_place_165 ?_
                              refine fr_topi (y := nI (pN (z_cq ρ) + i)) (nI_add _ _) ?_
                              refine fr_lald (k := (pN (z_cq ρ) + i)) hx hb hK hP 1 0 rfl rfl (by have := (hl9 (by omega)).2; have := (hl9 (by omega)).1.1; omega) (by decide) dX8_place_166 ?_
                              refine fr_topl (y := pgN (z_mem ρ) (z_cq ρ) (rsN (z_n ρ) (pN (z_cp ρ))) i) (pg_at c144 (hl9 (by omega)).1 (by have := (hl9 (by omega)).2; have := (hl9 (by omega)).1.1; omega)) ?_
                              refine lv_lstore (lv' := [(6, .long (pgN (z_mem ρ) (z_cq ρ) (rsN (z_n ρ) (pN (z_cp ρ))) i)), (5, .int (nI i)), (2, .int (nI k)), (4, .int (nI (ndN (rsN (z_n ρ) (pN (z_cp ρ)))))), (1, .int (nI (z_n ρ * 8))), (0, .ref (a 0))]) hx hb dX8_place_167 hl (by decide) rfl (fun ls hl => ?_)
                              refine lv_lload hx hb dX8_place_169 (lv_at hl 0 rfl) ?_
                              refine fr_go (va_runS (As := [.long (pgN (z_mem ρ) (z_cq ρ) (rsN (z_n ρ) (pN (z_cp ρ))) i)]) (rest := []) ⟨hx, hb, hml, hown, hts⟩ (kX8_isPage l g (pgN (z_mem ρ) (z_cq ρ) (rsN (z_n ρ) (pN (z_cp ρ))) i) H.size) (va_cwS 1 hts (gdS tw773 tw774 tw9 tw775) rfl rfl rfl (by decide +kernel) ⟨Nat.le_of_ble_eq_true rfl, Nat.le_of_ble_eq_true rfl⟩) ⟨Pst.blind, fr_pre hK hP hD [] rfl rfl⟩ rfl rfl hl.1 rfl (lv_room (Nat.le_of_ble_eq_true rfl)) dX8_place_171 ⟨Nat.le_of_ble_eq_true rfl, Nat.le_of_ble_eq_true rfl⟩) hP hD hS hA [] rfl (fun v w9 H locs hq hP hD hS => ?_)
                              obtain ⟨rfl, rfl⟩ := hq
                              have hP : va_P g.1 vwCl (rfW g a (z_mem ρ) (z_R ρ) (z_cb ρ) (z_nc ρ) (z_tu ρ) (z_bi ρ) (z_cg ρ) (z_on ρ) (z_T ρ) (z_dn ρ) (z_fa ρ) (z_br ρ) (z_bs ρ) (z_cp ρ) (z_cq ρ) (z_cx ρ) (z_re ρ) (z_n ρ) (z_op ρ) (z_fg ρ) s2 (z_one ρ)) H := hP
                              have hD : va_D A (rfW g a (z_mem ρ) (z_R ρ) (z_cb ρ) (z_nc ρ) (z_tu ρ) (z_bi ρ) (z_cg ρ) (z_on ρ) (z_T ρ) (z_dn ρ) (z_fa ρ) (z_br ρ) (z_bs ρ) (z_cp ρ) (z_cq ρ) (z_cx ρ) (z_re ρ) (z_n ρ) (z_op ρ) (z_fg ρ) s2 (z_one ρ)) := hD
                              show W p l e _ s m _ below meth c H locs _ _ _ (F0 m (171 + 3) ls (.int (bI (hpg (pgN (z_mem ρ) (z_cq ρ) (rsN (z_n ρ) (pN (z_cp ρ))) i))) :: []))
                              refine lv_if_ne (tgt := 179) hx hb dX8_place_174 (by decide) (fun c174 => ?_) (fun c174 => ?_)
                              · have c174 := bI_t c174
                                refine lv_iconst (v := 0) hx hb dX8_place_179 (by decide) ?_
                                refine fr_topi (y := nI 0) nI_0.symm ?_
                                refine lv_istore (lv' := [(8, .int (nI 0)), (6, .long (pgN (z_mem ρ) (z_cq ρ) (rsN (z_n ρ) (pN (z_cp ρ))) i)), (5, .int (nI i)), (2, .int (nI k)), (4, .int (nI (ndN (rsN (z_n ρ) (pN (z_cp ρ)))))), (1, .int (nI (z_n ρ * 8))), (0, .ref (a 0))]) hx hb dX8_place_180 hl (by decide) rfl (fun ls hl => ?_)
                                have lp182 : ∀ (n9 : Nat) (j : Nat) (k : Nat) (s3 : Nat → Int32) , 16 - j < n9 → (j ≤ 16) → (k = min (z_n ρ * 8) (fsN (z_n ρ) (pN (z_cp ρ)) + 16 * i + j)) → (∀ t, t < k → s3 t = adN (z_mem ρ) (z_cp ρ) (z_cq ρ) (z_n ρ) t) → ∀ (H : Heap) (locs : List Loc) (ls : Array Slot), va_P g.1 vwCl (rfW g a (z_mem ρ) (z_R ρ) (z_cb ρ) (z_nc ρ) (z_tu ρ) (z_bi ρ) (z_cg ρ) (z_on ρ) (z_T ρ) (z_dn ρ) (z_fa ρ) (z_br ρ) (z_bs ρ) (z_cp ρ) (z_cq ρ) (z_cx ρ) (z_re ρ) (z_n ρ) (z_op ρ) (z_fg ρ) s3 (z_one ρ)) H → va_D A (rfW g a (z_mem ρ) (z_R ρ) (z_cb ρ) (z_nc ρ) (z_tu ρ) (z_bi ρ) (z_cg ρ) (z_on ρ) (z_T ρ) (z_dn ρ) (z_fa ρ) (z_br ρ) (z_bs ρ) (z_cp ρ) (z_cq ρ) (z_cx ρ) (z_re ρ) (z_n ρ) (z_op ρ) (z_fg ρ) s3 (z_one ρ)) → va_S A s.heap H locs → lv_has ls 9 [(8, .int (nI j)), (2, .int (nI k)), (6, .long (pgN (z_mem ρ) (z_cq ρ) (rsN (z_n ρ) (pN (z_cp ρ))) i)), (5, .int (nI i)), (4, .int (nI (ndN (rsN (z_n ρ) (pN (z_cp ρ)))))), (1, .int (nI (z_n ρ * 8))), (0, .ref (a 0))] → W p l e ({ frames := 2, cells := 0, slots := 0, locals := 46 } : Room) s m ([.ref (a 0)].toArray) below meth c H locs 0 0 (MQ below (Qst g (rfW g a (z_mem ρ) (z_R ρ) (z_cb ρ) (z_nc ρ) (z_tu ρ) (z_bi ρ) (z_cg ρ) (z_on ρ) (z_T ρ) (z_dn ρ) (z_fa ρ) (z_br ρ) (z_bs ρ) (z_cp ρ) (z_cq ρ) (z_cx ρ) (z_re ρ) (z_n ρ) (z_op ρ) (z_fg ρ) (z_sp ρ) (z_one ρ)) (fun v w' => ∃ (sp1 : Nat → Int32), (lyOk (z_mem ρ) (z_cp ρ) (z_cq ρ) (z_n ρ) → ∀ k, k < z_n ρ * 8 → sp1 k = adN (z_mem ρ) (z_cp ρ) (z_cq ρ) (z_n ρ) k) ∧ v = some (.int (bI (lyOk (z_mem ρ) (z_cp ρ) (z_cq ρ) (z_n ρ)))) ∧ w' = rfW g a (z_mem ρ) (z_R ρ) (z_cb ρ) (z_nc ρ) (z_tu ρ) (z_bi ρ) (z_cg ρ) (z_on ρ) (z_T ρ) (z_dn ρ) (z_fa ρ) (z_br ρ) (z_bs ρ) (z_cp ρ) (z_cq ρ) (z_cx ρ) (z_re ρ) (z_n ρ) (z_op ρ) (z_fg ρ) sp1 (z_one ρ)) A) ([.ref (a 0)].toArray) s 0 0 A) (F0 m 182 ls []) := by
                                  intro n9
                                  induction n9 with
                                  | zero => intro j k s3 q9; exact absurd q9 (Nat.not_lt_zero _)
                                  | succ n9 ih182 =>
                                    intro j k s3 hn9 hj hk3 hs H locs ls hP hD hS hl
                                    refine lv_iload hx hb dX8_place_182 (lv_at hl 0 rfl) ?_
                                    refine lv_bipush (v := 16) hx hb dX8_place_184 (by decide) ?_
                                    refine lv_icmp_ge (tgt := 215) hx hb dX8_place_186 (by decide) (fun c186 => ?_) (fun c186 => ?_)
                                    · have c186 := (nI_leI (a := 16) (b := j) (by omega) (by omega)).mp c186
                                      refine lv_iinc (v := nI (i + 1)) (lv' := [(5, .int (nI (i + 1))), (8, .int (nI j)), (2, .int (nI k)), (6, .long (pgN (z_mem ρ) (z_cq ρ) (rsN (z_n ρ) (pN (z_cp ρ))) i)), (4, .int (nI (ndN (rsN (z_n ρ) (pN (z_cp ρ)))))), (1, .int (nI (z_n ρ * 8))), (0, .ref (a 0))]) hx hb dX8_place_215 hl (k := 3) rfl (nI_1 _) (by decide) rfl (fun ls hl => ?_)
                                      refine lv_goto (tgt := 134) hx hb dX8_place_218 (by decide) ?_
                                      exact ih134 (i + 1) k s3 (by omega) (by omega) (by omega) hs (lt_s hg c174) H locs ls hP hD hS (lv_sub hl [0, 2, 4, 5, 6] rfl)
                                    · have c186 := (not_congr (nI_leI (a := 16) (b := j) (by omega) (by omega))).mp c186
                                      refine lv_iload_n hx hb dX8_place_189 rfl (lv_at hl 1 rfl) ?_
                                      refine lv_iload_n hx hb dX8_place_190 rfl (lv_at hl 5 rfl) ?_
                                      refine lv_icmp_ge (tgt := 215) hx hb dX8_place_191 (by decide) (fun c191 => ?_) (fun c191 => ?_)
                                      · have c191 := (nI_leI (a := (z_n ρ * 8)) (b := k) (by omega) (by omega)).mp c191
                                        refine lv_iinc (v := nI (i + 1)) (lv' := [(5, .int (nI (i + 1))), (8, .int (nI j)), (2, .int (nI k)), (6, .long (pgN (z_mem ρ) (z_cq ρ) (rsN (z_n ρ) (pN (z_cp ρ))) i)), (4, .int (nI (ndN (rsN (z_n ρ) (pN (z_cp ρ)))))), (1, .int (nI (z_n ρ * 8))), (0, .ref (a 0))]) hx hb dX8_place_215 hl (k := 3) rfl (nI_1 _) (by decide) rfl (fun ls hl => ?_)
                                        refine lv_goto (tgt := 134) hx hb dX8_place_218 (by decide) ?_
                                        exact ih134 (i + 1) k s3 (by omega) (by omega) (by omega) hs (lt_s hg c174) H locs ls hP hD hS (lv_sub hl [0, 2, 4, 5, 6] rfl)
                                      · have c191 := (not_congr (nI_leI (a := (z_n ρ * 8)) (b := k) (by omega) (by omega))).mp c191
                                        refine lv_aload_n hx hb dX8_place_194 rfl (lv_at hl 6 rfl) ?_
                                        refine va_get (D := g.1) (ci := 7) (v := .ref (a 13)) (C := RX8) (T := TX8) (N := 30) hx hb hts inX8 hown hK hP 0 rfl rfl 28 (by decide) (hts _ tw631) (fun _ h9 => h9) rfl dX8_place_195 ?_
                                        refine lv_iload_n hx hb dX8_place_198 rfl (lv_at hl 1 rfl) ?_
                                        refine lv_lload hx hb dX8_place_199 (lv_at hl 2 rfl) ?_
                                        refine lv_l2i hx hb dX8_place_201 rfl ?_
                                        refine lv_iload hx hb dX8_place_202 (lv_at hl 0 rfl) ?_
                                        refine lv_iadd hx hb dX8_place_204 ?_
                                        refine fr_iast (k := k) hx hb hK hP hD hS 13 1 rfl rfl (by omega) (by decide) dX8_place_205 (fun H locs hP hD hS => ?_)
                                        have hP : va_P g.1 vwCl (rfW g a (z_mem ρ) (z_R ρ) (z_cb ρ) (z_nc ρ) (z_tu ρ) (z_bi ρ) (z_cg ρ) (z_on ρ) (z_T ρ) (z_dn ρ) (z_fa ρ) (z_br ρ) (z_bs ρ) (z_cp ρ) (z_cq ρ) (z_cx ρ) (z_re ρ) (z_n ρ) (z_op ρ) (z_fg ρ) (upd s3 k (((pgN (z_mem ρ) (z_cq ρ) (rsN (z_n ρ) (pN (z_cp ρ))) i).toInt32) + (nI j))) (z_one ρ)) H := hP
                                        have hD : va_D A (rfW g a (z_mem ρ) (z_R ρ) (z_cb ρ) (z_nc ρ) (z_tu ρ) (z_bi ρ) (z_cg ρ) (z_on ρ) (z_T ρ) (z_dn ρ) (z_fa ρ) (z_br ρ) (z_bs ρ) (z_cp ρ) (z_cq ρ) (z_cx ρ) (z_re ρ) (z_n ρ) (z_op ρ) (z_fg ρ) (upd s3 k (((pgN (z_mem ρ) (z_cq ρ) (rsN (z_n ρ) (pN (z_cp ρ))) i).toInt32) + (nI j))) (z_one ρ)) := hD
                                        refine lv_iinc (v := nI (k + 1)) (lv' := [(2, .int (nI (k + 1))), (8, .int (nI j)), (6, .long (pgN (z_mem ρ) (z_cq ρ) (rsN (z_n ρ) (pN (z_cp ρ))) i)), (5, .int (nI i)), (4, .int (nI (ndN (rsN (z_n ρ) (pN (z_cp ρ)))))), (1, .int (nI (z_n ρ * 8))), (0, .ref (a 0))]) hx hb dX8_place_206 hl (k := 1) rfl (nI_1 _) (by decide) rfl (fun ls hl => ?_)
                                        refine lv_iinc (v := nI (j + 1)) (lv' := [(8, .int (nI (j + 1))), (2, .int (nI (k + 1))), (6, .long (pgN (z_mem ρ) (z_cq ρ) (rsN (z_n ρ) (pN (z_cp ρ))) i)), (5, .int (nI i)), (4, .int (nI (ndN (rsN (z_n ρ) (pN (z_cp ρ)))))), (1, .int (nI (z_n ρ * 8))), (0, .ref (a 0))]) hx hb dX8_place_209 hl (k := 1) rfl (nI_1 _) (by decide) rfl (fun ls hl => ?_)
                                        refine lv_goto (tgt := 182) hx hb dX8_place_212 (by decide) ?_
                                        exact ih182 (j + 1) (k + 1) (upd s3 k ((pgN (z_mem ρ) (z_cq ρ) (rsN (z_n ρ) (pN (z_cp ρ))) i).toInt32 + nI j)) (by omega) (by omega) (by omega) (upd_ext hs (by rw [adN_hi (by omega), show fsN (z_n ρ) (pN (z_cp ρ)) + (16 * i + j) = k by omega])) H locs ls hP hD hS (lv_sub hl [0, 1, 2, 3, 4, 5, 6] rfl)
                                exact lp182 _ 0 k s2 (Nat.lt_succ_self _) (by decide) (by omega) hs H locs ls hP hD hS (lv_sub hl [0, 3, 1, 2, 4, 5, 6] rfl)
                              · have c174 := bI_f c174
                                refine lv_iconst (v := 0) hx hb dX8_place_177 (by decide) ?_
                                exact W.zret (v := 0) hx hb hr (by first | rfl | exact bz_n (by first | assumption | exact bI_z | decide)) (fun t ht _ => ⟨⟨(some (.int 0)), rfW g a (z_mem ρ) (z_R ρ) (z_cb ρ) (z_nc ρ) (z_tu ρ) (z_bi ρ) (z_cg ρ) (z_on ρ) (z_T ρ) (z_dn ρ) (z_fa ρ) (z_br ρ) (z_bs ρ) (z_cp ρ) (z_cq ρ) (z_cx ρ) (z_re ρ) (z_n ρ) (z_op ρ) (z_fg ρ) s2 (z_one ρ), rfl, ⟨s2, (fun q => absurd q (ly_no (by omega) c174)), congrArg (fun z : Int32 => some (Value.int z)) (bI_0 (ly_no (by omega) c174)), rfl⟩, rfl, by rw [ht]; exact hP⟩, hS.F ht⟩) hS.2.2 dX8_place_178
                            · have c144 := (nI_eq (a := (ndN (rsN (z_n ρ) (pN (z_cp ρ))))) (b := 1) (by omega) (by omega)).mp c144
                              refine lv_aload_n hx hb dX8_place_147 rfl (lv_at hl 4 rfl) ?_
                              refine va_get (D := g.1) (ci := 7) (v := .long (z_cq ρ)) (C := RX8) (T := TX8) (N := 30) hx hb hts inX8 hown hK hP 0 rfl rfl 22 (by decide) (hts _ tw625) (fun _ h9 => h9) rfl dX8_place_148 ?_
                              refine fr_topl (y := pgN (z_mem ρ) (z_cq ρ) (rsN (z_n ρ) (pN (z_cp ρ))) i) (if_pos c144).symm ?_
                              refine lv_goto (tgt := 167) hx hb dX8_place_151 (by decide) ?_
                              refine lv_lstore (lv' := [(6, .long (pgN (z_mem ρ) (z_cq ρ) (rsN (z_n ρ) (pN (z_cp ρ))) i)), (5, .int (nI i)), (2, .int (nI k)), (4, .int (nI (ndN (rsN (z_n ρ) (pN (z_cp ρ)))))), (1, .int (nI (z_n ρ * 8))), (0, .ref (a 0))]) hx hb dX8_place_167 hl (by decide) rfl (fun ls hl => ?_)
                              refine lv_lload hx hb dX8_place_169 (lv_at hl 0 rfl) ?_
                              refine fr_go (va_runS (As := [.long (pgN (z_mem ρ) (z_cq ρ) (rsN (z_n ρ) (pN (z_cp ρ))) i)]) (rest := []) ⟨hx, hb, hml, hown, hts⟩ (kX8_isPage l g (pgN (z_mem ρ) (z_cq ρ) (rsN (z_n ρ) (pN (z_cp ρ))) i) H.size) (va_cwS 1 hts (gdS tw773 tw774 tw9 tw775) rfl rfl rfl (by decide +kernel) ⟨Nat.le_of_ble_eq_true rfl, Nat.le_of_ble_eq_true rfl⟩) ⟨Pst.blind, fr_pre hK hP hD [] rfl rfl⟩ rfl rfl hl.1 rfl (lv_room (Nat.le_of_ble_eq_true rfl)) dX8_place_171 ⟨Nat.le_of_ble_eq_true rfl, Nat.le_of_ble_eq_true rfl⟩) hP hD hS hA [] rfl (fun v w9 H locs hq hP hD hS => ?_)
                              obtain ⟨rfl, rfl⟩ := hq
                              have hP : va_P g.1 vwCl (rfW g a (z_mem ρ) (z_R ρ) (z_cb ρ) (z_nc ρ) (z_tu ρ) (z_bi ρ) (z_cg ρ) (z_on ρ) (z_T ρ) (z_dn ρ) (z_fa ρ) (z_br ρ) (z_bs ρ) (z_cp ρ) (z_cq ρ) (z_cx ρ) (z_re ρ) (z_n ρ) (z_op ρ) (z_fg ρ) s2 (z_one ρ)) H := hP
                              have hD : va_D A (rfW g a (z_mem ρ) (z_R ρ) (z_cb ρ) (z_nc ρ) (z_tu ρ) (z_bi ρ) (z_cg ρ) (z_on ρ) (z_T ρ) (z_dn ρ) (z_fa ρ) (z_br ρ) (z_bs ρ) (z_cp ρ) (z_cq ρ) (z_cx ρ) (z_re ρ) (z_n ρ) (z_op ρ) (z_fg ρ) s2 (z_one ρ)) := hD
                              show W p l e _ s m _ below meth c H locs _ _ _ (F0 m (171 + 3) ls (.int (bI (hpg (pgN (z_mem ρ) (z_cq ρ) (rsN (z_n ρ) (pN (z_cp ρ))) i))) :: []))
                              refine lv_if_ne (tgt := 179) hx hb dX8_place_174 (by decide) (fun c174 => ?_) (fun c174 => ?_)
                              · have c174 := bI_t c174
                                refine lv_iconst (v := 0) hx hb dX8_place_179 (by decide) ?_
                                refine fr_topi (y := nI 0) nI_0.symm ?_
                                refine lv_istore (lv' := [(8, .int (nI 0)), (6, .long (pgN (z_mem ρ) (z_cq ρ) (rsN (z_n ρ) (pN (z_cp ρ))) i)), (5, .int (nI i)), (2, .int (nI k)), (4, .int (nI (ndN (rsN (z_n ρ) (pN (z_cp ρ)))))), (1, .int (nI (z_n ρ * 8))), (0, .ref (a 0))]) hx hb dX8_place_180 hl (by decide) rfl (fun ls hl => ?_)
                                have lp182 : ∀ (n9 : Nat) (j : Nat) (k : Nat) (s3 : Nat → Int32) , 16 - j < n9 → (j ≤ 16) → (k = min (z_n ρ * 8) (fsN (z_n ρ) (pN (z_cp ρ)) + 16 * i + j)) → (∀ t, t < k → s3 t = adN (z_mem ρ) (z_cp ρ) (z_cq ρ) (z_n ρ) t) → ∀ (H : Heap) (locs : List Loc) (ls : Array Slot), va_P g.1 vwCl (rfW g a (z_mem ρ) (z_R ρ) (z_cb ρ) (z_nc ρ) (z_tu ρ) (z_bi ρ) (z_cg ρ) (z_on ρ) (z_T ρ) (z_dn ρ) (z_fa ρ) (z_br ρ) (z_bs ρ) (z_cp ρ) (z_cq ρ) (z_cx ρ) (z_re ρ) (z_n ρ) (z_op ρ) (z_fg ρ) s3 (z_one ρ)) H → va_D A (rfW g a (z_mem ρ) (z_R ρ) (z_cb ρ) (z_nc ρ) (z_tu ρ) (z_bi ρ) (z_cg ρ) (z_on ρ) (z_T ρ) (z_dn ρ) (z_fa ρ) (z_br ρ) (z_bs ρ) (z_cp ρ) (z_cq ρ) (z_cx ρ) (z_re ρ) (z_n ρ) (z_op ρ) (z_fg ρ) s3 (z_one ρ)) → va_S A s.heap H locs → lv_has ls 9 [(8, .int (nI j)), (2, .int (nI k)), (6, .long (pgN (z_mem ρ) (z_cq ρ) (rsN (z_n ρ) (pN (z_cp ρ))) i)), (5, .int (nI i)), (4, .int (nI (ndN (rsN (z_n ρ) (pN (z_cp ρ)))))), (1, .int (nI (z_n ρ * 8))), (0, .ref (a 0))] → W p l e ({ frames := 2, cells := 0, slots := 0, locals := 46 } : Room) s m ([.ref (a 0)].toArray) below meth c H locs 0 0 (MQ below (Qst g (rfW g a (z_mem ρ) (z_R ρ) (z_cb ρ) (z_nc ρ) (z_tu ρ) (z_bi ρ) (z_cg ρ) (z_on ρ) (z_T ρ) (z_dn ρ) (z_fa ρ) (z_br ρ) (z_bs ρ) (z_cp ρ) (z_cq ρ) (z_cx ρ) (z_re ρ) (z_n ρ) (z_op ρ) (z_fg ρ) (z_sp ρ) (z_one ρ)) (fun v w' => ∃ (sp1 : Nat → Int32), (lyOk (z_mem ρ) (z_cp ρ) (z_cq ρ) (z_n ρ) → ∀ k, k < z_n ρ * 8 → sp1 k = adN (z_mem ρ) (z_cp ρ) (z_cq ρ) (z_n ρ) k) ∧ v = some (.int (bI (lyOk (z_mem ρ) (z_cp ρ) (z_cq ρ) (z_n ρ)))) ∧ w' = rfW g a (z_mem ρ) (z_R ρ) (z_cb ρ) (z_nc ρ) (z_tu ρ) (z_bi ρ) (z_cg ρ) (z_on ρ) (z_T ρ) (z_dn ρ) (z_fa ρ) (z_br ρ) (z_bs ρ) (z_cp ρ) (z_cq ρ) (z_cx ρ) (z_re ρ) (z_n ρ) (z_op ρ) (z_fg ρ) sp1 (z_one ρ)) A) ([.ref (a 0)].toArray) s 0 0 A) (F0 m 182 ls []) := by
                                  intro n9
                                  induction n9 with
                                  | zero => intro j k s3 q9; exact absurd q9 (Nat.not_lt_zero _)
                                  | succ n9 ih182 =>
                                    intro j k s3 hn9 hj hk3 hs H locs ls hP hD hS hl
                                    refine lv_iload hx hb dX8_place_182 (lv_at hl 0 rfl) ?_
                                    refine lv_bipush (v := 16) hx hb dX8_place_184 (by decide) ?_
                                    refine lv_icmp_ge (tgt := 215) hx hb dX8_place_186 (by decide) (fun c186 => ?_) (fun c186 => ?_)
                                    · have c186 := (nI_leI (a := 16) (b := j) (by omega) (by omega)).mp c186
                                      refine lv_iinc (v := nI (i + 1)) (lv' := [(5, .int (nI (i + 1))), (8, .int (nI j)), (2, .int (nI k)), (6, .long (pgN (z_mem ρ) (z_cq ρ) (rsN (z_n ρ) (pN (z_cp ρ))) i)), (4, .int (nI (ndN (rsN (z_n ρ) (pN (z_cp ρ)))))), (1, .int (nI (z_n ρ * 8))), (0, .ref (a 0))]) hx hb dX8_place_215 hl (k := 3) rfl (nI_1 _) (by decide) rfl (fun ls hl => ?_)
                                      refine lv_goto (tgt := 134) hx hb dX8_place_218 (by decide) ?_
                                      exact ih134 (i + 1) k s3 (by omega) (by omega) (by omega) hs (lt_s hg c174) H locs ls hP hD hS (lv_sub hl [0, 2, 4, 5, 6] rfl)
                                    · have c186 := (not_congr (nI_leI (a := 16) (b := j) (by omega) (by omega))).mp c186
                                      refine lv_iload_n hx hb dX8_place_189 rfl (lv_at hl 1 rfl) ?_
                                      refine lv_iload_n hx hb dX8_place_190 rfl (lv_at hl 5 rfl) ?_
                                      refine lv_icmp_ge (tgt := 215) hx hb dX8_place_191 (by decide) (fun c191 => ?_) (fun c191 => ?_)
                                      · have c191 := (nI_leI (a := (z_n ρ * 8)) (b := k) (by omega) (by omega)).mp c191
                                        refine lv_iinc (v := nI (i + 1)) (lv' := [(5, .int (nI (i + 1))), (8, .int (nI j)), (2, .int (nI k)), (6, .long (pgN (z_mem ρ) (z_cq ρ) (rsN (z_n ρ) (pN (z_cp ρ))) i)), (4, .int (nI (ndN (rsN (z_n ρ) (pN (z_cp ρ)))))), (1, .int (nI (z_n ρ * 8))), (0, .ref (a 0))]) hx hb dX8_place_215 hl (k := 3) rfl (nI_1 _) (by decide) rfl (fun ls hl => ?_)
                                        refine lv_goto (tgt := 134) hx hb dX8_place_218 (by decide) ?_
                                        exact ih134 (i + 1) k s3 (by omega) (by omega) (by omega) hs (lt_s hg c174) H locs ls hP hD hS (lv_sub hl [0, 2, 4, 5, 6] rfl)
                                      · have c191 := (not_congr (nI_leI (a := (z_n ρ * 8)) (b := k) (by omega) (by omega))).mp c191
                                        refine lv_aload_n hx hb dX8_place_194 rfl (lv_at hl 6 rfl) ?_
                                        refine va_get (D := g.1) (ci := 7) (v := .ref (a 13)) (C := RX8) (T := TX8) (N := 30) hx hb hts inX8 hown hK hP 0 rfl rfl 28 (by decide) (hts _ tw631) (fun _ h9 => h9) rfl dX8_place_195 ?_
                                        refine lv_iload_n hx hb dX8_place_198 rfl (lv_at hl 1 rfl) ?_
                                        refine lv_lload hx hb dX8_place_199 (lv_at hl 2 rfl) ?_
                                        refine lv_l2i hx hb dX8_place_201 rfl ?_
                                        refine lv_iload hx hb dX8_place_202 (lv_at hl 0 rfl) ?_
                                        refine lv_iadd hx hb dX8_place_204 ?_
                                        refine fr_iast (k := k) hx hb hK hP hD hS 13 1 rfl rfl (by omega) (by decide) dX8_place_205 (fun H locs hP hD hS => ?_)
                                        have hP : va_P g.1 vwCl (rfW g a (z_mem ρ) (z_R ρ) (z_cb ρ) (z_nc ρ) (z_tu ρ) (z_bi ρ) (z_cg ρ) (z_on ρ) (z_T ρ) (z_dn ρ) (z_fa ρ) (z_br ρ) (z_bs ρ) (z_cp ρ) (z_cq ρ) (z_cx ρ) (z_re ρ) (z_n ρ) (z_op ρ) (z_fg ρ) (upd s3 k (((pgN (z_mem ρ) (z_cq ρ) (rsN (z_n ρ) (pN (z_cp ρ))) i).toInt32) + (nI j))) (z_one ρ)) H := hP
                                        have hD : va_D A (rfW g a (z_mem ρ) (z_R ρ) (z_cb ρ) (z_nc ρ) (z_tu ρ) (z_bi ρ) (z_cg ρ) (z_on ρ) (z_T ρ) (z_dn ρ) (z_fa ρ) (z_br ρ) (z_bs ρ) (z_cp ρ) (z_cq ρ) (z_cx ρ) (z_re ρ) (z_n ρ) (z_op ρ) (z_fg ρ) (upd s3 k (((pgN (z_mem ρ) (z_cq ρ) (rsN (z_n ρ) (pN (z_cp ρ))) i).toInt32) + (nI j))) (z_one ρ)) := hD
                                        refine lv_iinc (v := nI (k + 1)) (lv' := [(2, .int (nI (k + 1))), (8, .int (nI j)), (6, .long (pgN (z_mem ρ) (z_cq ρ) (rsN (z_n ρ) (pN (z_cp ρ))) i)), (5, .int (nI i)), (4, .int (nI (ndN (rsN (z_n ρ) (pN (z_cp ρ)))))), (1, .int (nI (z_n ρ * 8))), (0, .ref (a 0))]) hx hb dX8_place_206 hl (k := 1) rfl (nI_1 _) (by decide) rfl (fun ls hl => ?_)
                                        refine lv_iinc (v := nI (j + 1)) (lv' := [(8, .int (nI (j + 1))), (2, .int (nI (k + 1))), (6, .long (pgN (z_mem ρ) (z_cq ρ) (rsN (z_n ρ) (pN (z_cp ρ))) i)), (5, .int (nI i)), (4, .int (nI (ndN (rsN (z_n ρ) (pN (z_cp ρ)))))), (1, .int (nI (z_n ρ * 8))), (0, .ref (a 0))]) hx hb dX8_place_209 hl (k := 1) rfl (nI_1 _) (by decide) rfl (fun ls hl => ?_)
                                        refine lv_goto (tgt := 182) hx hb dX8_place_212 (by decide) ?_
                                        exact ih182 (j + 1) (k + 1) (upd s3 k ((pgN (z_mem ρ) (z_cq ρ) (rsN (z_n ρ) (pN (z_cp ρ))) i).toInt32 + nI j)) (by omega) (by omega) (by omega) (upd_ext hs (by rw [adN_hi (by omega), show fsN (z_n ρ) (pN (z_cp ρ)) + (16 * i + j) = k by omega])) H locs ls hP hD hS (lv_sub hl [0, 1, 2, 3, 4, 5, 6] rfl)
                                exact lp182 _ 0 k s2 (Nat.lt_succ_self _) (by decide) (by omega) hs H locs ls hP hD hS (lv_sub hl [0, 3, 1, 2, 4, 5, 6] rfl)
                              · have c174 := bI_f c174
                                refine lv_iconst (v := 0) hx hb dX8_place_177 (by decide) ?_
                                exact W.zret (v := 0) hx hb hr (by first | rfl | exact bz_n (by first | assumption | exact bI_z | decide)) (fun t ht _ => ⟨⟨(some (.int 0)), rfW g a (z_mem ρ) (z_R ρ) (z_cb ρ) (z_nc ρ) (z_tu ρ) (z_bi ρ) (z_cg ρ) (z_on ρ) (z_T ρ) (z_dn ρ) (z_fa ρ) (z_br ρ) (z_bs ρ) (z_cp ρ) (z_cq ρ) (z_cx ρ) (z_re ρ) (z_n ρ) (z_op ρ) (z_fg ρ) s2 (z_one ρ), rfl, ⟨s2, (fun q => absurd q (ly_no (by omega) c174)), congrArg (fun z : Int32 => some (Value.int z)) (bI_0 (ly_no (by omega) c174)), rfl⟩, rfl, by rw [ht]; exact hP⟩, hS.F ht⟩) hS.2.2 dX8_place_178
                      exact lp134 _ 0 k s1 (Nat.lt_succ_self _) (Nat.zero_le _) (by omega) hs (fun t ht => absurd ht (Nat.not_lt_zero _)) H locs ls hP hD hS (lv_sub hl [0, 3, 1, 4, 5] rfl)
                    · have c126 := (not_congr (lg_cmp_le (lN (pN (z_cq ρ) % 16 + ndN (rsN (z_n ρ) (pN (z_cp ρ))))) 16)).mp c126
                      have d126 := (not_congr (lN_16 (by omega))).mp c126
                      refine lv_iconst (v := 0) hx hb dX8_place_129 (by decide) ?_
                      exact W.zret (v := 0) hx hb hr (by first | rfl | exact bz_n (by first | assumption | exact bI_z | decide)) (fun t ht _ => ⟨⟨(some (.int 0)), rfW g a (z_mem ρ) (z_R ρ) (z_cb ρ) (z_nc ρ) (z_tu ρ) (z_bi ρ) (z_cg ρ) (z_on ρ) (z_T ρ) (z_dn ρ) (z_fa ρ) (z_br ρ) (z_bs ρ) (z_cp ρ) (z_cq ρ) (z_cx ρ) (z_re ρ) (z_n ρ) (z_op ρ) (z_fg ρ) s1 (z_one ρ), rfl, ⟨s1, (fun q => absurd q (ly_big c85 c93 (fun q => q.2 (by omega)))), congrArg (fun z : Int32 => some (Value.int z)) (bI_0 (ly_big c85 c93 (fun q => q.2 (by omega)))), rfl⟩, rfl, by rw [ht]; exact hP⟩, hS.F ht⟩) hS.2.2 dX8_place_130
              · have c85 := (nI_eq (a := (ndN (rsN (z_n ρ) (pN (z_cp ρ))))) (b := 0) (by omega) (by omega)).mp c85
                refine lv_iconst (v := 1) hx hb dX8_place_88 (by decide) ?_
                exact W.zret (v := 1) hx hb hr (by first | rfl | exact bz_n (by first | assumption | exact bI_z | decide)) (fun t ht _ => ⟨⟨(some (.int 1)), rfW g a (z_mem ρ) (z_R ρ) (z_cb ρ) (z_nc ρ) (z_tu ρ) (z_bi ρ) (z_cg ρ) (z_on ρ) (z_T ρ) (z_dn ρ) (z_fa ρ) (z_br ρ) (z_bs ρ) (z_cp ρ) (z_cq ρ) (z_cx ρ) (z_re ρ) (z_n ρ) (z_op ρ) (z_fg ρ) s1 (z_one ρ), rfl, ⟨s1, (fun _ t ht => hs t (by omega)), congrArg (fun z : Int32 => some (Value.int z)) (bI_1 ⟨d11, Or.inl (by omega)⟩), rfl⟩, rfl, by rw [ht]; exact hP⟩, hS.F ht⟩) hS.2.2 dX8_place_89
            · have c47 := (not_congr (lg_cmp_eq (lN ((pN (z_cp ρ) + k) % 16)) 0)).mp c47
              have d47 : ¬ (pN (z_cp ρ) + k) % 16 = 0 := fun q => c47 ((lN_0 (by omega)).mpr q)
              refine lv_aload_n hx hb dX8_place_50 rfl (lv_at hl 3 rfl) ?_
              refine va_get (D := g.1) (ci := 7) (v := .ref (a 13)) (C := RX8) (T := TX8) (N := 30) hx hb hts inX8 hown hK hP 0 rfl rfl 28 (by decide) (hts _ tw631) (fun _ h9 => h9) rfl dX8_place_51 ?_
              refine lv_iload_n hx hb dX8_place_54 rfl (lv_at hl 0 rfl) ?_
              refine lv_lload_n hx hb dX8_place_55 rfl (lv_at hl 1 rfl) ?_
              refine lv_l2i hx hb dX8_place_56 rfl ?_
              refine fr_topi (y := nI (pN (z_cp ρ) + k)) (lN_i _) ?_
              refine fr_iast (k := k) hx hb hK hP hD hS 13 1 rfl rfl (by omega) (by decide) dX8_place_57 (fun H locs hP hD hS => ?_)
              have hP : va_P g.1 vwCl (rfW g a (z_mem ρ) (z_R ρ) (z_cb ρ) (z_nc ρ) (z_tu ρ) (z_bi ρ) (z_cg ρ) (z_on ρ) (z_T ρ) (z_dn ρ) (z_fa ρ) (z_br ρ) (z_bs ρ) (z_cp ρ) (z_cq ρ) (z_cx ρ) (z_re ρ) (z_n ρ) (z_op ρ) (z_fg ρ) (upd s1 k (nI (pN (z_cp ρ) + k))) (z_one ρ)) H := hP
              have hD : va_D A (rfW g a (z_mem ρ) (z_R ρ) (z_cb ρ) (z_nc ρ) (z_tu ρ) (z_bi ρ) (z_cg ρ) (z_on ρ) (z_T ρ) (z_dn ρ) (z_fa ρ) (z_br ρ) (z_bs ρ) (z_cp ρ) (z_cq ρ) (z_cx ρ) (z_re ρ) (z_n ρ) (z_op ρ) (z_fg ρ) (upd s1 k (nI (pN (z_cp ρ) + k))) (z_one ρ)) := hD
              refine lv_iinc (v := nI (k + 1)) (lv' := [(2, .int (nI (k + 1))), (3, .long (lN (pN (z_cp ρ) + k))), (1, .int (nI (z_n ρ * 8))), (0, .ref (a 0))]) hx hb dX8_place_58 hl (k := 0) rfl (nI_1 _) (by decide) rfl (fun ls hl => ?_)
              refine lv_lload_n hx hb dX8_place_61 rfl (lv_at hl 1 rfl) ?_
              refine lv_lconst (v := 1) hx hb dX8_place_62 (by decide) ?_
              refine lv_ladd hx hb dX8_place_63 ?_
              refine fr_topl (y := lN (pN (z_cp ρ) + (k + 1))) (lN_1 _) ?_
              refine lv_lstore_n (lv' := [(3, .long (lN (pN (z_cp ρ) + (k + 1)))), (2, .int (nI (k + 1))), (1, .int (nI (z_n ρ * 8))), (0, .ref (a 0))]) hx hb dX8_place_64 rfl hl (by decide) rfl (fun ls hl => ?_)
              refine lv_goto (tgt := 31) hx hb dX8_place_65 (by decide) ?_
              exact ih31 (k + 1) (upd s1 k (nI (pN (z_cp ρ) + k))) (by omega) (fsN_go hk c33 (Or.inr d47)) (upd_ext hs (adN_lo (fsN_go hk c33 (Or.inr d47)))) H locs ls hP hD hS (lv_sub hl [1, 0, 2, 3] rfl)
    exact lp31 _ 0 (z_sp ρ) (Nat.lt_succ_self _) (Nat.zero_le _) (fun t ht => absurd ht (Nat.not_lt_zero _)) H locs ls hP hD hS (lv_sub hl [1, 0, 2, 3] rfl)
  · have c11 := bI_f c11
    refine lv_iconst (v := 0) hx hb dX8_place_14 (by decide) ?_
    exact W.zret (v := 0) hx hb hr (by first | rfl | exact bz_n (by first | assumption | exact bI_z | decide)) (fun t ht _ => ⟨⟨(some (.int 0)), rfW g a (z_mem ρ) (z_R ρ) (z_cb ρ) (z_nc ρ) (z_tu ρ) (z_bi ρ) (z_cg ρ) (z_on ρ) (z_T ρ) (z_dn ρ) (z_fa ρ) (z_br ρ) (z_bs ρ) (z_cp ρ) (z_cq ρ) (z_cx ρ) (z_re ρ) (z_n ρ) (z_op ρ) (z_fg ρ) (z_sp ρ) (z_one ρ), rfl, ⟨z_sp ρ, (fun q => absurd (⟨q.1.1, fun z => q.1.2 (l1024 z)⟩ : ¬ z_cp ρ < 0 ∧ ¬ 1023 < z_cp ρ) c11), congrArg (fun z : Int32 => some (Value.int z)) (bI_0 (fun q => c11 ⟨q.1.1, fun z => q.1.2 (l1024 z)⟩)), rfl⟩, rfl, by rw [ht]; exact hP⟩, hS.F ht⟩) hS.2.2 dX8_place_15
