set_option maxHeartbeats 4000000 in
set_option maxRecDepth 100000 in
/-- the call block -/
theorem lw_block {p : Program} {l : Launch} {e : Env} {s : State} {m : MethodId} {below : List Frame} {meth : Method} {c : Code} {b L : Nat} {xs : Nat → Int32} {g : GG} {a a' : Nat → Nat} {Q : State → Prop} {N i cells slots : Nat} {σ : CS} {ρ : RS} {H : Heap} {locs : List Loc} {ls : Array Slot} (G : LA p s m meth c b L xs g) (hi : 5 * i + 5 ≤ L) (hL : L < 2 ^ 31) (hJ : Jn N σ ρ) (hN : N + 60000 < 2 ^ 31) (hP1 : va_P g.1 vwCl (dvO g a σ) H) (hP2 : va_P g.1 vwCl (rfO g a' ρ) H) (hD : va_D (fun q : Nat => s.heap.size ≤ q) (dvO g a σ ++ rfO g a' ρ)) (hS : va_S (fun q : Nat => s.heap.size ≤ q) s.heap H locs) (hl : lv_has ls 4 [(0, .ref b), (1, .ref (a 0)), (2, .ref (a' 0)), (3, .int (nI (5 * i)))]) (hc : cells + 200 ≤ room_1.cells) (hs : slots + 1600 ≤ room_1.slots) (nxt : ∀ (σ' : CS) (ρ' : RS) (H' : Heap) (locs' : List Loc), Jn (N + 60000) σ' ρ' → va_P g.1 vwCl (dvO g a σ') H' → va_P g.1 vwCl (rfO g a' ρ') H' → va_D (fun q : Nat => s.heap.size ≤ q) (dvO g a σ' ++ rfO g a' ρ') → va_S (fun q : Nat => s.heap.size ≤ q) s.heap H' locs' → W p l e room_1 s m #[Value.ref b] below meth c H' locs' (cells + 200) (slots + 1600) Q (F0 m 499 ls [])) : W p l e room_1 s m #[Value.ref b] below meth c H locs cells slots Q (F0 m 383 ls []) := by
  obtain ⟨hx, hb, hml, hown, hts, hX, hbl, hK⟩ := G
  have hA : ∀ q : Nat, s.heap.size ≤ q → (fun q : Nat => s.heap.size ≤ q) q := fun _ h => h
  have hbA : ¬ (fun q : Nat => s.heap.size ≤ q) b := Nat.not_le.mpr hbl
  by_cases hz : xs (5 * i + 3) = 0
  · refine lv_aload_n hx hb dL_law_383 rfl (lv_at hl 1 rfl) ?_
    refine lv_aload_n hx hb dL_law_384 rfl (lv_at hl 0 rfl) ?_
    refine lv_iload_n hx hb dL_law_385 rfl (lv_at hl 3 rfl) ?_
    refine lv_iconst (v := 1) hx hb dL_law_386 (by decide) ?_
    refine lv_iadd hx hb dL_law_387 ?_
    refine fr_sld (k := 5 * i + 1) hx hb hX hbl hbA hS (nI_add (5 * i) 1) (by omega) hL dL_law_388 ?_
    refine lv_aload_n hx hb dL_law_389 rfl (lv_at hl 0 rfl) ?_
    refine lv_iload_n hx hb dL_law_390 rfl (lv_at hl 3 rfl) ?_
    refine lv_iconst (v := 2) hx hb dL_law_391 (by decide) ?_
    refine lv_iadd hx hb dL_law_392 ?_
    refine fr_sld (k := 5 * i + 2) hx hb hX hbl hbA hS (nI_add (5 * i) 2) (by omega) hL dL_law_393 ?_
    refine lv_aload_n hx hb dL_law_394 rfl (lv_at hl 0 rfl) ?_
    refine lv_iload_n hx hb dL_law_395 rfl (lv_at hl 3 rfl) ?_
    refine lv_iconst (v := 3) hx hb dL_law_396 (by decide) ?_
    refine lv_iadd hx hb dL_law_397 ?_
    refine fr_sld (k := 5 * i + 3) hx hb hX hbl hbA hS (nI_add (5 * i) 3) (by omega) hL dL_law_398 ?_
    refine lv_if_eq (tgt := 406) hx hb dL_law_399 (by decide) (fun _ => ?_) (fun c9 => absurd hz c9)
    refine lv_iconst (v := 0) hx hb dL_law_406 (by decide) ?_
    refine fr_goL (va_runV (As := [.int (xs (5 * i + 1)), .int (xs (5 * i + 2)), .int 0]) (rest := []) ⟨hx, hb, hml, hown, hts⟩ (kd_block l g a σ (xs (5 * i + 1)) (xs (5 * i + 2)) 0 hJ.2.1.1.1 H.size) (cwV 3 hts (gdV tw565 tw566 tw567 tw1 tw568) rfl rfl rfl (by decide +kernel) ⟨(Nat.le_of_ble_eq_true rfl), (Nat.le_of_ble_eq_true rfl)⟩) ⟨Pst.blind, va_recv hK hP1 (ci := 6) (q0 := 0) rfl rfl, fr_preA hK hP1 (D_left hD)⟩ rfl rfl hl.1 rfl (lv_room (Nat.le_of_ble_eq_true rfl)) dL_law_407 ⟨by show cells + 0 ≤ _; omega, by show slots + 0 ≤ _; omega⟩) hP2 hD hS hA (fun v w9 H locs hq hP1 hP2 hD hS => ?_)
    obtain ⟨rfl, rfl⟩ := hq
    show W p l e room_1 s m _ below meth c H locs (cells + 0) (slots + 0) Q (F0 m (407 + 3) ls (.long (if 0 = 0 then asR (x_med σ) (x_cb σ) (x_ca σ) (x_nc σ) (xs (5 * i + 1)) (xs (5 * i + 2)) else onM (x_med σ) (xs (5 * i + 1)) (xs (5 * i + 2))) :: []))
    refine lv_aload_n hx hb dL_law_410 rfl (lv_at hl 2 rfl) ?_
    refine lv_aload_n hx hb dL_law_411 rfl (lv_at hl 0 rfl) ?_
    refine lv_iload_n hx hb dL_law_412 rfl (lv_at hl 3 rfl) ?_
    refine lv_iconst (v := 1) hx hb dL_law_413 (by decide) ?_
    refine lv_iadd hx hb dL_law_414 ?_
    refine fr_sld (k := 5 * i + 1) hx hb hX hbl hbA hS (nI_add (5 * i) 1) (by omega) hL dL_law_415 ?_
    refine lv_aload_n hx hb dL_law_416 rfl (lv_at hl 0 rfl) ?_
    refine lv_iload_n hx hb dL_law_417 rfl (lv_at hl 3 rfl) ?_
    refine lv_iconst (v := 2) hx hb dL_law_418 (by decide) ?_
    refine lv_iadd hx hb dL_law_419 ?_
    refine fr_sld (k := 5 * i + 2) hx hb hX hbl hbA hS (nI_add (5 * i) 2) (by omega) hL dL_law_420 ?_
    refine lv_aload_n hx hb dL_law_421 rfl (lv_at hl 0 rfl) ?_
    refine lv_iload_n hx hb dL_law_422 rfl (lv_at hl 3 rfl) ?_
    refine lv_iconst (v := 3) hx hb dL_law_423 (by decide) ?_
    refine lv_iadd hx hb dL_law_424 ?_
    refine fr_sld (k := 5 * i + 3) hx hb hX hbl hbA hS (nI_add (5 * i) 3) (by omega) hL dL_law_425 ?_
    refine lv_if_eq (tgt := 433) hx hb dL_law_426 (by decide) (fun _ => ?_) (fun c9 => absurd hz c9)
    refine lv_iconst (v := 0) hx hb dL_law_433 (by decide) ?_
    refine fr_goR (va_runV (As := [.int (xs (5 * i + 1)), .int (xs (5 * i + 2)), .int 0]) (rest := [.long (if 0 = 0 then asR (x_med σ) (x_cb σ) (x_ca σ) (x_nc σ) (xs (5 * i + 1)) (xs (5 * i + 2)) else onM (x_med σ) (xs (5 * i + 1)) (xs (5 * i + 2)))]) ⟨hx, hb, hml, hown, hts⟩ (kr_block l g a' ρ (xs (5 * i + 1)) (xs (5 * i + 2)) 0 hJ.2.2.1.1.1 H.size) (cwV 3 hts (gdV tw799 tw800 tw801 tw9 tw802) rfl rfl rfl (by decide +kernel) ⟨(Nat.le_of_ble_eq_true rfl), (Nat.le_of_ble_eq_true rfl)⟩) ⟨Pst.blind, va_recv hK hP2 (ci := 7) (q0 := 0) rfl rfl, fr_preA hK hP2 (D_right hD)⟩ rfl rfl hl.1 rfl (lv_room (Nat.le_of_ble_eq_true rfl)) dL_law_434 ⟨by show cells + 0 + 0 ≤ _; omega, by show slots + 0 + 0 ≤ _; omega⟩) hP1 hD hS hA (fun v w9 H locs hq hP1 hP2 hD hS => ?_)
    obtain ⟨rfl, rfl⟩ := hq
    show W p l e room_1 s m _ below meth c H locs (cells + 0 + 0) (slots + 0 + 0) Q (F0 m (434 + 3) ls (.long (blkV (z_R ρ) (z_cb ρ) (z_nc ρ) (xs (5 * i + 1)) (xs (5 * i + 2)) 0) :: .long (if 0 = 0 then asR (x_med σ) (x_cb σ) (x_ca σ) (x_nc σ) (xs (5 * i + 1)) (xs (5 * i + 2)) else onM (x_med σ) (xs (5 * i + 1)) (xs (5 * i + 2))) :: []))
    refine W.lcmp hx hb dL_law_437 ?_
    refine lv_if_eq (tgt := 499) hx hb dL_law_438 (by decide) (fun _ => ?_) (fun c9 => absurd ((lg_cmp_eq _ _).mpr (j_blo hJ)) c9)
    refine W.widen (k := cells + 200) (n := slots + 1600) (by omega) (by omega) ?_
    exact nxt σ ρ H locs (hJ.up (by omega)) hP1 hP2 hD hS
  · refine lv_aload_n hx hb dL_law_383 rfl (lv_at hl 1 rfl) ?_
    refine lv_aload_n hx hb dL_law_384 rfl (lv_at hl 0 rfl) ?_
    refine lv_iload_n hx hb dL_law_385 rfl (lv_at hl 3 rfl) ?_
    refine lv_iconst (v := 1) hx hb dL_law_386 (by decide) ?_
    refine lv_iadd hx hb dL_law_387 ?_
    refine fr_sld (k := 5 * i + 1) hx hb hX hbl hbA hS (nI_add (5 * i) 1) (by omega) hL dL_law_388 ?_
    refine lv_aload_n hx hb dL_law_389 rfl (lv_at hl 0 rfl) ?_
    refine lv_iload_n hx hb dL_law_390 rfl (lv_at hl 3 rfl) ?_
    refine lv_iconst (v := 2) hx hb dL_law_391 (by decide) ?_
    refine lv_iadd hx hb dL_law_392 ?_
    refine fr_sld (k := 5 * i + 2) hx hb hX hbl hbA hS (nI_add (5 * i) 2) (by omega) hL dL_law_393 ?_
    refine lv_aload_n hx hb dL_law_394 rfl (lv_at hl 0 rfl) ?_
    refine lv_iload_n hx hb dL_law_395 rfl (lv_at hl 3 rfl) ?_
    refine lv_iconst (v := 3) hx hb dL_law_396 (by decide) ?_
    refine lv_iadd hx hb dL_law_397 ?_
    refine fr_sld (k := 5 * i + 3) hx hb hX hbl hbA hS (nI_add (5 * i) 3) (by omega) hL dL_law_398 ?_
    refine lv_if_eq (tgt := 406) hx hb dL_law_399 (by decide) (fun c9 => absurd c9 hz) (fun _ => ?_)
    refine lv_iconst (v := 1) hx hb dL_law_402 (by decide) ?_
    refine lv_goto (tgt := 407) hx hb dL_law_403 (by decide) ?_
    refine fr_goL (va_runV (As := [.int (xs (5 * i + 1)), .int (xs (5 * i + 2)), .int 1]) (rest := []) ⟨hx, hb, hml, hown, hts⟩ (kd_block l g a σ (xs (5 * i + 1)) (xs (5 * i + 2)) 1 hJ.2.1.1.1 H.size) (cwV 3 hts (gdV tw565 tw566 tw567 tw1 tw568) rfl rfl rfl (by decide +kernel) ⟨(Nat.le_of_ble_eq_true rfl), (Nat.le_of_ble_eq_true rfl)⟩) ⟨Pst.blind, va_recv hK hP1 (ci := 6) (q0 := 0) rfl rfl, fr_preA hK hP1 (D_left hD)⟩ rfl rfl hl.1 rfl (lv_room (Nat.le_of_ble_eq_true rfl)) dL_law_407 ⟨by show cells + 0 ≤ _; omega, by show slots + 0 ≤ _; omega⟩) hP2 hD hS hA (fun v w9 H locs hq hP1 hP2 hD hS => ?_)
    obtain ⟨rfl, rfl⟩ := hq
    show W p l e room_1 s m _ below meth c H locs (cells + 0) (slots + 0) Q (F0 m (407 + 3) ls (.long (if 1 = 0 then asR (x_med σ) (x_cb σ) (x_ca σ) (x_nc σ) (xs (5 * i + 1)) (xs (5 * i + 2)) else onM (x_med σ) (xs (5 * i + 1)) (xs (5 * i + 2))) :: []))
    refine lv_aload_n hx hb dL_law_410 rfl (lv_at hl 2 rfl) ?_
    refine lv_aload_n hx hb dL_law_411 rfl (lv_at hl 0 rfl) ?_
    refine lv_iload_n hx hb dL_law_412 rfl (lv_at hl 3 rfl) ?_
    refine lv_iconst (v := 1) hx hb dL_law_413 (by decide) ?_
    refine lv_iadd hx hb dL_law_414 ?_
    refine fr_sld (k := 5 * i + 1) hx hb hX hbl hbA hS (nI_add (5 * i) 1) (by omega) hL dL_law_415 ?_
    refine lv_aload_n hx hb dL_law_416 rfl (lv_at hl 0 rfl) ?_
    refine lv_iload_n hx hb dL_law_417 rfl (lv_at hl 3 rfl) ?_
    refine lv_iconst (v := 2) hx hb dL_law_418 (by decide) ?_
    refine lv_iadd hx hb dL_law_419 ?_
    refine fr_sld (k := 5 * i + 2) hx hb hX hbl hbA hS (nI_add (5 * i) 2) (by omega) hL dL_law_420 ?_
    refine lv_aload_n hx hb dL_law_421 rfl (lv_at hl 0 rfl) ?_
    refine lv_iload_n hx hb dL_law_422 rfl (lv_at hl 3 rfl) ?_
    refine lv_iconst (v := 3) hx hb dL_law_423 (by decide) ?_
    refine lv_iadd hx hb dL_law_424 ?_
    refine fr_sld (k := 5 * i + 3) hx hb hX hbl hbA hS (nI_add (5 * i) 3) (by omega) hL dL_law_425 ?_
    refine lv_if_eq (tgt := 433) hx hb dL_law_426 (by decide) (fun c9 => absurd c9 hz) (fun _ => ?_)
    refine lv_iconst (v := 1) hx hb dL_law_429 (by decide) ?_
    refine lv_goto (tgt := 434) hx hb dL_law_430 (by decide) ?_
    refine fr_goR (va_runV (As := [.int (xs (5 * i + 1)), .int (xs (5 * i + 2)), .int 1]) (rest := [.long (if 1 = 0 then asR (x_med σ) (x_cb σ) (x_ca σ) (x_nc σ) (xs (5 * i + 1)) (xs (5 * i + 2)) else onM (x_med σ) (xs (5 * i + 1)) (xs (5 * i + 2)))]) ⟨hx, hb, hml, hown, hts⟩ (kr_block l g a' ρ (xs (5 * i + 1)) (xs (5 * i + 2)) 1 hJ.2.2.1.1.1 H.size) (cwV 3 hts (gdV tw799 tw800 tw801 tw9 tw802) rfl rfl rfl (by decide +kernel) ⟨(Nat.le_of_ble_eq_true rfl), (Nat.le_of_ble_eq_true rfl)⟩) ⟨Pst.blind, va_recv hK hP2 (ci := 7) (q0 := 0) rfl rfl, fr_preA hK hP2 (D_right hD)⟩ rfl rfl hl.1 rfl (lv_room (Nat.le_of_ble_eq_true rfl)) dL_law_434 ⟨by show cells + 0 + 0 ≤ _; omega, by show slots + 0 + 0 ≤ _; omega⟩) hP1 hD hS hA (fun v w9 H locs hq hP1 hP2 hD hS => ?_)
    obtain ⟨rfl, rfl⟩ := hq
    show W p l e room_1 s m _ below meth c H locs (cells + 0 + 0) (slots + 0 + 0) Q (F0 m (434 + 3) ls (.long (blkV (z_R ρ) (z_cb ρ) (z_nc ρ) (xs (5 * i + 1)) (xs (5 * i + 2)) 1) :: .long (if 1 = 0 then asR (x_med σ) (x_cb σ) (x_ca σ) (x_nc σ) (xs (5 * i + 1)) (xs (5 * i + 2)) else onM (x_med σ) (xs (5 * i + 1)) (xs (5 * i + 2))) :: []))
    refine W.lcmp hx hb dL_law_437 ?_
    refine lv_if_eq (tgt := 499) hx hb dL_law_438 (by decide) (fun _ => ?_) (fun c9 => absurd ((lg_cmp_eq _ _).mpr (j_blo hJ)) c9)
    refine W.widen (k := cells + 200) (n := slots + 1600) (by omega) (by omega) ?_
    exact nxt σ ρ H locs (hJ.up (by omega)) hP1 hP2 hD hS
