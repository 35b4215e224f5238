set_option maxHeartbeats 4000000 in
set_option maxRecDepth 100000 in
/-- the call stop -/
theorem lw_stop {p : Program} {l : Launch} {e : Env} {s : State} {m : MethodId} {below : List Frame} {meth : Method} {c : Code} {b L : Nat} {xs : Nat → Int32} {g : GG} {a a' : Nat → Nat} {Q : State → Prop} {N i cells slots : Nat} {σ : CS} {ρ : RS} {H : Heap} {locs : List Loc} {ls : Array Slot} (G : LA p s m meth c b L xs g) (hi : 5 * i + 5 ≤ L) (hL : L < 2 ^ 31) (hJ : Jn N σ ρ) (hN : N + 60000 < 2 ^ 31) (hP1 : va_P g.1 vwCl (dvO g a σ) H) (hP2 : va_P g.1 vwCl (rfO g a' ρ) H) (hD : va_D (fun q : Nat => s.heap.size ≤ q) (dvO g a σ ++ rfO g a' ρ)) (hS : va_S (fun q : Nat => s.heap.size ≤ q) s.heap H locs) (hl : lv_has ls 4 [(0, .ref b), (1, .ref (a 0)), (2, .ref (a' 0)), (3, .int (nI (5 * i)))]) (hc : cells + 200 ≤ room_1.cells) (hs : slots + 1600 ≤ room_1.slots) (nxt : ∀ (σ' : CS) (ρ' : RS) (H' : Heap) (locs' : List Loc), Jn (N + 60000) σ' ρ' → va_P g.1 vwCl (dvO g a σ') H' → va_P g.1 vwCl (rfO g a' ρ') H' → va_D (fun q : Nat => s.heap.size ≤ q) (dvO g a σ' ++ rfO g a' ρ') → va_S (fun q : Nat => s.heap.size ≤ q) s.heap H' locs' → W p l e room_1 s m #[Value.ref b] below meth c H' locs' (cells + 200) (slots + 1600) Q (F0 m 499 ls [])) : W p l e room_1 s m #[Value.ref b] below meth c H locs cells slots Q (F0 m 232 ls []) := by
  obtain ⟨hx, hb, hml, hown, hts, hX, hbl, hK⟩ := G
  have hA : ∀ q : Nat, s.heap.size ≤ q → (fun q : Nat => s.heap.size ≤ q) q := fun _ h => h
  have hbA : ¬ (fun q : Nat => s.heap.size ≤ q) b := Nat.not_le.mpr hbl
  by_cases hz : xs (5 * i + 1) = 0
  · refine lv_aload_n hx hb dL_law_232 rfl (lv_at hl 1 rfl) ?_
    refine lv_aload_n hx hb dL_law_233 rfl (lv_at hl 0 rfl) ?_
    refine lv_iload_n hx hb dL_law_234 rfl (lv_at hl 3 rfl) ?_
    refine lv_iconst (v := 1) hx hb dL_law_235 (by decide) ?_
    refine lv_iadd hx hb dL_law_236 ?_
    refine fr_sld (k := 5 * i + 1) hx hb hX hbl hbA hS (nI_add (5 * i) 1) (by omega) hL dL_law_237 ?_
    refine lv_if_eq (tgt := 245) hx hb dL_law_238 (by decide) (fun _ => ?_) (fun c9 => absurd hz c9)
    refine lv_iconst (v := 0) hx hb dL_law_245 (by decide) ?_
    refine fr_goL (va_runV (As := [.int 0]) (rest := []) ⟨hx, hb, hml, hown, hts⟩ (kd_stop l g a σ 0 hJ.2.1.1.1 hJ.2.1.1.2 H.size) (cwV 1 hts (gdV tw286 tw287 tw288 tw1 tw289) rfl rfl rfl (by decide +kernel) ⟨(Nat.le_of_ble_eq_true rfl), (Nat.le_of_ble_eq_true rfl)⟩) ⟨Pst.blind, va_recv hK hP1 (ci := 6) (q0 := 0) rfl rfl, fr_preA hK hP1 (D_left hD)⟩ rfl rfl hl.1 rfl (lv_room (Nat.le_of_ble_eq_true rfl)) dL_law_246 ⟨by show cells + 0 ≤ _; omega, by show slots + 0 ≤ _; omega⟩) hP2 hD hS hA (fun v w9 H locs hq hP1 hP2 hD hS => ?_)
    obtain ⟨rfl, rfl⟩ := hq
    show W p l e room_1 s m _ below meth c H locs (cells + 0) (slots + 0) Q (F0 m (246 + 3) ls (.int (if x_on σ = 0 then -3 else nI (x_nc σ)) :: []))
    refine lv_aload_n hx hb dL_law_249 rfl (lv_at hl 2 rfl) ?_
    refine lv_aload_n hx hb dL_law_250 rfl (lv_at hl 0 rfl) ?_
    refine lv_iload_n hx hb dL_law_251 rfl (lv_at hl 3 rfl) ?_
    refine lv_iconst (v := 1) hx hb dL_law_252 (by decide) ?_
    refine lv_iadd hx hb dL_law_253 ?_
    refine fr_sld (k := 5 * i + 1) hx hb hX hbl hbA hS (nI_add (5 * i) 1) (by omega) hL dL_law_254 ?_
    refine lv_if_eq (tgt := 262) hx hb dL_law_255 (by decide) (fun _ => ?_) (fun c9 => absurd hz c9)
    refine lv_iconst (v := 0) hx hb dL_law_262 (by decide) ?_
    refine fr_goR (va_runV (As := [.int 0]) (rest := [.int (if x_on σ = 0 then -3 else nI (x_nc σ))]) ⟨hx, hb, hml, hown, hts⟩ (kr_stop l g a' ρ 0 (Nat.le_succ_of_le hJ.2.2.1.1.1) hJ.2.2.1.1.2.1 H.size) (cwV 1 hts (gdV tw725 tw726 tw727 tw9 tw728) rfl rfl rfl (by decide +kernel) ⟨(Nat.le_of_ble_eq_true rfl), (Nat.le_of_ble_eq_true rfl)⟩) ⟨Pst.blind, va_recv hK hP2 (ci := 7) (q0 := 0) rfl rfl, fr_preA hK hP2 (D_right hD)⟩ rfl rfl hl.1 rfl (lv_room (Nat.le_of_ble_eq_true rfl)) dL_law_263 ⟨by show cells + 0 + 0 ≤ _; omega, by show slots + 0 + 0 ≤ _; omega⟩) hP1 hD hS hA (fun v w9 H locs hq hP1 hP2 hD hS => ?_)
    obtain ⟨rfl, rfl⟩ := hq
    show W p l e room_1 s m _ below meth c H locs (cells + 0 + 0) (slots + 0 + 0) Q (F0 m (263 + 3) ls (.int (if z_on ρ = 0 then -3 else nI (z_nc ρ)) :: .int (if x_on σ = 0 then -3 else nI (x_nc σ)) :: []))
    refine lv_icmp_eq (tgt := 499) hx hb dL_law_266 (by decide) (fun _ => ?_) (fun c9 => absurd (j_sans hJ) c9)
    refine W.widen (k := cells + 200) (n := slots + 1600) (by omega) (by omega) ?_
    exact nxt (g_stp σ 0) (h_stp ρ 0) H locs ((j_stp hJ).up (by omega)) hP1 hP2 hD hS
  · refine lv_aload_n hx hb dL_law_232 rfl (lv_at hl 1 rfl) ?_
    refine lv_aload_n hx hb dL_law_233 rfl (lv_at hl 0 rfl) ?_
    refine lv_iload_n hx hb dL_law_234 rfl (lv_at hl 3 rfl) ?_
    refine lv_iconst (v := 1) hx hb dL_law_235 (by decide) ?_
    refine lv_iadd hx hb dL_law_236 ?_
    refine fr_sld (k := 5 * i + 1) hx hb hX hbl hbA hS (nI_add (5 * i) 1) (by omega) hL dL_law_237 ?_
    refine lv_if_eq (tgt := 245) hx hb dL_law_238 (by decide) (fun c9 => absurd c9 hz) (fun _ => ?_)
    refine lv_iconst (v := 1) hx hb dL_law_241 (by decide) ?_
    refine lv_goto (tgt := 246) hx hb dL_law_242 (by decide) ?_
    refine fr_goL (va_runV (As := [.int 1]) (rest := []) ⟨hx, hb, hml, hown, hts⟩ (kd_stop l g a σ 1 hJ.2.1.1.1 hJ.2.1.1.2 H.size) (cwV 1 hts (gdV tw286 tw287 tw288 tw1 tw289) rfl rfl rfl (by decide +kernel) ⟨(Nat.le_of_ble_eq_true rfl), (Nat.le_of_ble_eq_true rfl)⟩) ⟨Pst.blind, va_recv hK hP1 (ci := 6) (q0 := 0) rfl rfl, fr_preA hK hP1 (D_left hD)⟩ rfl rfl hl.1 rfl (lv_room (Nat.le_of_ble_eq_true rfl)) dL_law_246 ⟨by show cells + 0 ≤ _; omega, by show slots + 0 ≤ _; omega⟩) hP2 hD hS hA (fun v w9 H locs hq hP1 hP2 hD hS => ?_)
    obtain ⟨rfl, rfl⟩ := hq
    show W p l e room_1 s m _ below meth c H locs (cells + 0) (slots + 0) Q (F0 m (246 + 3) ls (.int (if x_on σ = 0 then -3 else nI (x_nc σ)) :: []))
    refine lv_aload_n hx hb dL_law_249 rfl (lv_at hl 2 rfl) ?_
    refine lv_aload_n hx hb dL_law_250 rfl (lv_at hl 0 rfl) ?_
    refine lv_iload_n hx hb dL_law_251 rfl (lv_at hl 3 rfl) ?_
    refine lv_iconst (v := 1) hx hb dL_law_252 (by decide) ?_
    refine lv_iadd hx hb dL_law_253 ?_
    refine fr_sld (k := 5 * i + 1) hx hb hX hbl hbA hS (nI_add (5 * i) 1) (by omega) hL dL_law_254 ?_
    refine lv_if_eq (tgt := 262) hx hb dL_law_255 (by decide) (fun c9 => absurd c9 hz) (fun _ => ?_)
    refine lv_iconst (v := 1) hx hb dL_law_258 (by decide) ?_
    refine lv_goto (tgt := 263) hx hb dL_law_259 (by decide) ?_
    refine fr_goR (va_runV (As := [.int 1]) (rest := [.int (if x_on σ = 0 then -3 else nI (x_nc σ))]) ⟨hx, hb, hml, hown, hts⟩ (kr_stop l g a' ρ 1 (Nat.le_succ_of_le hJ.2.2.1.1.1) hJ.2.2.1.1.2.1 H.size) (cwV 1 hts (gdV tw725 tw726 tw727 tw9 tw728) rfl rfl rfl (by decide +kernel) ⟨(Nat.le_of_ble_eq_true rfl), (Nat.le_of_ble_eq_true rfl)⟩) ⟨Pst.blind, va_recv hK hP2 (ci := 7) (q0 := 0) rfl rfl, fr_preA hK hP2 (D_right hD)⟩ rfl rfl hl.1 rfl (lv_room (Nat.le_of_ble_eq_true rfl)) dL_law_263 ⟨by show cells + 0 + 0 ≤ _; omega, by show slots + 0 + 0 ≤ _; omega⟩) hP1 hD hS hA (fun v w9 H locs hq hP1 hP2 hD hS => ?_)
    obtain ⟨rfl, rfl⟩ := hq
    show W p l e room_1 s m _ below meth c H locs (cells + 0 + 0) (slots + 0 + 0) Q (F0 m (263 + 3) ls (.int (if z_on ρ = 0 then -3 else nI (z_nc ρ)) :: .int (if x_on σ = 0 then -3 else nI (x_nc σ)) :: []))
    refine lv_icmp_eq (tgt := 499) hx hb dL_law_266 (by decide) (fun _ => ?_) (fun c9 => absurd (j_sans hJ) c9)
    refine W.widen (k := cells + 200) (n := slots + 1600) (by omega) (by omega) ?_
    exact nxt (g_stp σ 1) (h_stp ρ 1) H locs ((j_stp hJ).up (by omega)) hP1 hP2 hD hS
