set_option maxHeartbeats 4000000 in
set_option maxRecDepth 100000 in
/-- the call ring -/
theorem lw_ring {p : Program} {l : Launch} {e : Env} {s : State} {m : MethodId} {below : List Frame} {meth : Method} {c : Code} {b L : Nat} {xs : Nat → Int32} {g : GG} {a a' : Nat → Nat} {Q : State → Prop} {N i cells slots : Nat} {σ : CS} {ρ : RS} {H : Heap} {locs : List Loc} {ls : Array Slot} (G : LA p s m meth c b L xs g) (hi : 5 * i + 5 ≤ L) (hL : L < 2 ^ 31) (hJ : Jn N σ ρ) (hN : N + 60000 < 2 ^ 31) (hP1 : va_P g.1 vwCl (dvO g a σ) H) (hP2 : va_P g.1 vwCl (rfO g a' ρ) H) (hD : va_D (fun q : Nat => s.heap.size ≤ q) (dvO g a σ ++ rfO g a' ρ)) (hS : va_S (fun q : Nat => s.heap.size ≤ q) s.heap H locs) (hl : lv_has ls 4 [(0, .ref b), (1, .ref (a 0)), (2, .ref (a' 0)), (3, .int (nI (5 * i)))]) (hc : cells + 200 ≤ room_1.cells) (hs : slots + 1600 ≤ room_1.slots) (nxt : ∀ (σ' : CS) (ρ' : RS) (H' : Heap) (locs' : List Loc), Jn (N + 60000) σ' ρ' → va_P g.1 vwCl (dvO g a σ') H' → va_P g.1 vwCl (rfO g a' ρ') H' → va_D (fun q : Nat => s.heap.size ≤ q) (dvO g a σ' ++ rfO g a' ρ') → va_S (fun q : Nat => s.heap.size ≤ q) s.heap H' locs' → W p l e room_1 s m #[Value.ref b] below meth c H' locs' (cells + 200) (slots + 1600) Q (F0 m 499 ls [])) : W p l e room_1 s m #[Value.ref b] below meth c H locs cells slots Q (F0 m 271 ls []) := by
  obtain ⟨hx, hb, hml, hown, hts, hX, hbl, hK⟩ := G
  have hA : ∀ q : Nat, s.heap.size ≤ q → (fun q : Nat => s.heap.size ≤ q) q := fun _ h => h
  have hbA : ¬ (fun q : Nat => s.heap.size ≤ q) b := Nat.not_le.mpr hbl
  refine lv_aload_n hx hb dL_law_271 rfl (lv_at hl 1 rfl) ?_
  refine lv_aload_n hx hb dL_law_272 rfl (lv_at hl 0 rfl) ?_
  refine lv_iload_n hx hb dL_law_273 rfl (lv_at hl 3 rfl) ?_
  refine lv_iconst (v := 1) hx hb dL_law_274 (by decide) ?_
  refine lv_iadd hx hb dL_law_275 ?_
  refine fr_sld (k := 5 * i + 1) hx hb hX hbl hbA hS (nI_add (5 * i) 1) (by omega) hL dL_law_276 ?_
  refine lv_aload_n hx hb dL_law_277 rfl (lv_at hl 0 rfl) ?_
  refine lv_iload_n hx hb dL_law_278 rfl (lv_at hl 3 rfl) ?_
  refine lv_iconst (v := 2) hx hb dL_law_279 (by decide) ?_
  refine lv_iadd hx hb dL_law_280 ?_
  refine fr_sld (k := 5 * i + 2) hx hb hX hbl hbA hS (nI_add (5 * i) 2) (by omega) hL dL_law_281 ?_
  refine fr_goL (va_runV (As := [.int (xs (5 * i + 1)), .int (xs (5 * i + 2))]) (rest := []) ⟨hx, hb, hml, hown, hts⟩ (kd_ring l g a σ (xs (5 * i + 1)) (xs (5 * i + 2)) H.size) (cwV 2 hts (gdV tw314 tw315 tw316 tw1 tw317) rfl rfl rfl (by decide +kernel) ⟨(Nat.le_of_ble_eq_true rfl), (Nat.le_of_ble_eq_true rfl)⟩) ⟨Pst.blind, va_recv hK hP1 (ci := 6) (q0 := 0) rfl rfl, fr_preA hK hP1 (D_left hD)⟩ rfl rfl hl.1 rfl (lv_room (Nat.le_of_ble_eq_true rfl)) dL_law_282 ⟨by show cells + 0 ≤ _; omega, by show slots + 0 ≤ _; omega⟩) hP2 hD hS hA (fun v w9 H locs hq hP1 hP2 hD hS => ?_)
  obtain ⟨rfl, rfl⟩ := hq
  show W p l e room_1 s m _ below meth c H locs (cells + 0) (slots + 0) Q (F0 m (282 + 3) ls (.int (ringR (x_T σ) (x_on σ) (xs (5 * i + 1)) (xs (5 * i + 2))) :: []))
  refine lv_aload_n hx hb dL_law_285 rfl (lv_at hl 2 rfl) ?_
  refine lv_aload_n hx hb dL_law_286 rfl (lv_at hl 0 rfl) ?_
  refine lv_iload_n hx hb dL_law_287 rfl (lv_at hl 3 rfl) ?_
  refine lv_iconst (v := 1) hx hb dL_law_288 (by decide) ?_
  refine lv_iadd hx hb dL_law_289 ?_
  refine fr_sld (k := 5 * i + 1) hx hb hX hbl hbA hS (nI_add (5 * i) 1) (by omega) hL dL_law_290 ?_
  refine lv_aload_n hx hb dL_law_291 rfl (lv_at hl 0 rfl) ?_
  refine lv_iload_n hx hb dL_law_292 rfl (lv_at hl 3 rfl) ?_
  refine lv_iconst (v := 2) hx hb dL_law_293 (by decide) ?_
  refine lv_iadd hx hb dL_law_294 ?_
  refine fr_sld (k := 5 * i + 2) hx hb hX hbl hbA hS (nI_add (5 * i) 2) (by omega) hL dL_law_295 ?_
  refine fr_goR (va_runV (As := [.int (xs (5 * i + 1)), .int (xs (5 * i + 2))]) (rest := [.int (ringR (x_T σ) (x_on σ) (xs (5 * i + 1)) (xs (5 * i + 2)))]) ⟨hx, hb, hml, hown, hts⟩ (kr_ring l g a' ρ (xs (5 * i + 1)) (xs (5 * i + 2)) hJ.2.2.1.2 H.size) (cwV 2 hts (gdV tw738 tw739 tw740 tw9 tw741) rfl rfl rfl (by decide +kernel) ⟨(Nat.le_of_ble_eq_true rfl), (Nat.le_of_ble_eq_true rfl)⟩) ⟨Pst.blind, va_recv hK hP2 (ci := 7) (q0 := 0) rfl rfl, fr_preA hK hP2 (D_right hD)⟩ rfl rfl hl.1 rfl (lv_room (Nat.le_of_ble_eq_true rfl)) dL_law_296 ⟨by show cells + 0 + 0 ≤ _; omega, by show slots + 0 + 0 ≤ _; omega⟩) hP1 hD hS hA (fun v w9 H locs hq hP1 hP2 hD hS => ?_)
  obtain ⟨rfl, rfl⟩ := hq
  show W p l e room_1 s m _ below meth c H locs (cells + 0 + 0) (slots + 0 + 0) Q (F0 m (296 + 3) ls (.int (ringR (z_T ρ) (z_on ρ) (xs (5 * i + 1)) (xs (5 * i + 2))) :: .int (ringR (x_T σ) (x_on σ) (xs (5 * i + 1)) (xs (5 * i + 2))) :: []))
  refine lv_icmp_eq (tgt := 499) hx hb dL_law_299 (by decide) (fun _ => ?_) (fun c9 => absurd (j_rng hJ).2 c9)
  refine W.widen (k := cells + 200) (n := slots + 1600) (by omega) (by omega) ?_
  exact nxt (g_rng σ (xs (5 * i + 1)) (xs (5 * i + 2))) (h_rng ρ (xs (5 * i + 1)) (xs (5 * i + 2))) H locs ((j_rng hJ).1.up (by omega)) hP1 hP2 hD hS
