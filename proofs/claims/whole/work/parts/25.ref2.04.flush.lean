set_option maxHeartbeats 4000000 in
set_option maxRecDepth 100000 in
/-- flush -/
theorem kX8_flush (l : Launch) (g : GG) (a : Nat → Nat) (ρ : RS) (hn : z_nc ρ ≤ 7) (hR : RI (z_R ρ, z_cb ρ) (z_nc ρ)) : Ct l yX8_flush cX8_flush 1 none ({ frames := 2, cells := 0, slots := 0, locals := 61 } : Room) g [.ref (a 0)] (rfW g a (z_mem ρ) (z_R ρ) (z_cb ρ) (z_nc ρ) (z_tu ρ) (z_bi ρ) (z_cg ρ) (z_on ρ) (z_T ρ) (z_dn ρ) (z_fa ρ) (z_br ρ) (z_bs ρ) (z_cp ρ) (z_cq ρ) (z_cx ρ) (z_re ρ) (z_n ρ) (z_op ρ) (z_fg ρ) (z_sp ρ) (z_one ρ)) (fun v w' => v = none ∧ w' = rfW g a (z_mem ρ) ((flU (z_nc ρ) (z_R ρ, z_cb ρ)).1) ((flU (z_nc ρ) (z_R ρ, z_cb ρ)).2) 0 (z_tu ρ) (z_bi ρ) (z_cg ρ) (z_on ρ) (z_T ρ) (z_dn ρ) (z_fa ρ) (z_br ρ) (z_bs ρ) (z_cp ρ) (z_cq ρ) (z_cx ρ) (z_re ρ) (z_n ρ) (z_op ρ) (z_fg ρ) (z_sp ρ) (z_one ρ)) := by
  refine Ct.of (by decide) (Nat.le_of_ble_eq_true rfl) ?_
  intro p e s m below meth c A ls H locs hx hb hr hml hlocks hts hown hin hA hS hK hP hD hl
  have hown : s.vm.findClass RX8 = some m.cls := hown
  have hl : lv_has ls 1 [(0, .ref (a 0))] := hl
  have lp0 : ∀ (n9 : Nat) (k : Nat) (d : RD) , k < n9 → (k ≤ 7) → (RI d k) → (flU k d = flU (z_nc ρ) (z_R ρ, z_cb ρ)) → ∀ (H : Heap) (locs : List Loc) (ls : Array Slot), va_P g.1 vwCl (rfW g a (z_mem ρ) d.1 d.2 k (z_tu ρ) (z_bi ρ) (z_cg ρ) (z_on ρ) (z_T ρ) (z_dn ρ) (z_fa ρ) (z_br ρ) (z_bs ρ) (z_cp ρ) (z_cq ρ) (z_cx ρ) (z_re ρ) (z_n ρ) (z_op ρ) (z_fg ρ) (z_sp ρ) (z_one ρ)) H → va_D A (rfW g a (z_mem ρ) d.1 d.2 k (z_tu ρ) (z_bi ρ) (z_cg ρ) (z_on ρ) (z_T ρ) (z_dn ρ) (z_fa ρ) (z_br ρ) (z_bs ρ) (z_cp ρ) (z_cq ρ) (z_cx ρ) (z_re ρ) (z_n ρ) (z_op ρ) (z_fg ρ) (z_sp ρ) (z_one ρ)) → va_S A s.heap H locs → lv_has ls 1 [(0, .ref (a 0))] → W p l e ({ frames := 2, cells := 0, slots := 0, locals := 61 } : Room) s m ([.ref (a 0)].toArray) below meth c H locs 0 0 (MQ below (Qst g (rfW g a (z_mem ρ) (z_R ρ) (z_cb ρ) (z_nc ρ) (z_tu ρ) (z_bi ρ) (z_cg ρ) (z_on ρ) (z_T ρ) (z_dn ρ) (z_fa ρ) (z_br ρ) (z_bs ρ) (z_cp ρ) (z_cq ρ) (z_cx ρ) (z_re ρ) (z_n ρ) (z_op ρ) (z_fg ρ) (z_sp ρ) (z_one ρ)) (fun v w' => v = none ∧ w' = rfW g a (z_mem ρ) ((flU (z_nc ρ) (z_R ρ, z_cb ρ)).1) ((flU (z_nc ρ) (z_R ρ, z_cb ρ)).2) 0 (z_tu ρ) (z_bi ρ) (z_cg ρ) (z_on ρ) (z_T ρ) (z_dn ρ) (z_fa ρ) (z_br ρ) (z_bs ρ) (z_cp ρ) (z_cq ρ) (z_cx ρ) (z_re ρ) (z_n ρ) (z_op ρ) (z_fg ρ) (z_sp ρ) (z_one ρ)) A) ([.ref (a 0)].toArray) s 0 0 A) (F0 m 0 ls []) := by
    intro n9
    induction n9 with
    | zero => intro k d q9; exact absurd q9 (Nat.not_lt_zero _)
    | succ n9 ih0 =>
      intro k d hn9 hk hd he H locs ls hP hD hS hl
      refine lv_aload_n hx hb dX8_flush_0 rfl (lv_at hl 0 rfl) ?_
      refine va_get (D := g.1) (ci := 7) (v := .int (nI k)) (C := RX8) (T := TX8) (N := 30) hx hb hts inX8 hown hK hP 0 rfl rfl 4 (by decide) (hts _ tw607) (fun _ h9 => h9) rfl dX8_flush_1 ?_
      refine lv_if_le (tgt := 14) hx hb dX8_flush_4 (by decide) (fun c4 => ?_) (fun c4 => ?_)
      · have c4 := (nI_leI (a := k) (b := 0) (by omega) (by omega)).mp c4
        exact W.vret hx hb hr (fun t ht _ => ⟨⟨none, rfW g a (z_mem ρ) d.1 d.2 k (z_tu ρ) (z_bi ρ) (z_cg ρ) (z_on ρ) (z_T ρ) (z_dn ρ) (z_fa ρ) (z_br ρ) (z_bs ρ) (z_cp ρ) (z_cq ρ) (z_cx ρ) (z_re ρ) (z_n ρ) (z_op ρ) (z_fg ρ) (z_sp ρ) (z_one ρ), rfl, ⟨rfl, (fun (e9 : k = 0) => by rw [← he, e9]; rfl) (by omega)⟩, rfl, by rw [ht]; exact hP⟩, hS.F ht⟩) hS.2.2 dX8_flush_14
      · have c4 := (not_congr (nI_leI (a := k) (b := 0) (by omega) (by omega))).mp c4
        obtain ⟨u9, em⟩ : ∃ u9, k = u9 + 1 := ⟨k - 1, by omega⟩
        refine lv_aload_n hx hb dX8_flush_7 rfl (lv_at hl 0 rfl) ?_
        refine fr_goA (va_runV (As := []) (rest := []) ⟨hx, hb, hml, hown, hts⟩ (kX8_giveUp l g a (w_nc (w_cb (w_R ρ d.1) d.2) k) u9 em (by omega) hd H.size) (cwV 0 hts (gdV tw733 tw735 tp30 tw9 tw736) rfl rfl rfl (by decide +kernel) ⟨Nat.le_of_ble_eq_true rfl, Nat.le_of_ble_eq_true rfl⟩) ⟨Pst.blind, va_recv hK hP (ci := 7) (q0 := 0) rfl rfl, fr_preA hK hP hD⟩ rfl rfl hl.1 rfl (lv_room (Nat.le_of_ble_eq_true rfl)) dX8_flush_8 ⟨Nat.le_of_ble_eq_true rfl, Nat.le_of_ble_eq_true rfl⟩) hD hS hA (fun v w9 H locs hq hP hD hS => ?_)
        obtain ⟨rfl, rfl⟩ := hq
        have hP : va_P g.1 vwCl (rfW g a (z_mem ρ) ((gvU (z_R (w_nc (w_cb (w_R ρ d.1) d.2) k), z_cb (w_nc (w_cb (w_R ρ d.1) d.2) k)) u9).1) ((gvU (z_R (w_nc (w_cb (w_R ρ d.1) d.2) k), z_cb (w_nc (w_cb (w_R ρ d.1) d.2) k)) u9).2) u9 (z_tu ρ) (z_bi ρ) (z_cg ρ) (z_on ρ) (z_T ρ) (z_dn ρ) (z_fa ρ) (z_br ρ) (z_bs ρ) (z_cp ρ) (z_cq ρ) (z_cx ρ) (z_re ρ) (z_n ρ) (z_op ρ) (z_fg ρ) (z_sp ρ) (z_one ρ)) H := hP
        have hD : va_D A (rfW g a (z_mem ρ) ((gvU (z_R (w_nc (w_cb (w_R ρ d.1) d.2) k), z_cb (w_nc (w_cb (w_R ρ d.1) d.2) k)) u9).1) ((gvU (z_R (w_nc (w_cb (w_R ρ d.1) d.2) k), z_cb (w_nc (w_cb (w_R ρ d.1) d.2) k)) u9).2) u9 (z_tu ρ) (z_bi ρ) (z_cg ρ) (z_on ρ) (z_T ρ) (z_dn ρ) (z_fa ρ) (z_br ρ) (z_bs ρ) (z_cp ρ) (z_cq ρ) (z_cx ρ) (z_re ρ) (z_n ρ) (z_op ρ) (z_fg ρ) (z_sp ρ) (z_one ρ)) := hD
        show W p l e _ s m _ below meth c H locs _ _ _ (F0 m (8 + 3) ls ([]))
        refine lv_goto (tgt := 0) hx hb dX8_flush_11 (by decide) ?_
        exact ih0 u9 (gvU d u9) (by omega) (by omega) (by rw [em] at hd; exact RI_gv hd) (by rw [em] at he; exact he) H locs ls hP hD hS (lv_sub hl [0] rfl)
  exact lp0 _ (z_nc ρ) (z_R ρ, z_cb ρ) (Nat.lt_succ_self _) hn hR rfl H locs ls hP hD hS (lv_sub hl [0] rfl)
