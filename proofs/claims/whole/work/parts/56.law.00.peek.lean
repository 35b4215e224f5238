set_option maxHeartbeats 4000000 in
set_option maxRecDepth 100000 in
/-- the call peek -/
theorem lw_peek {p : Program} {l : Launch} {e : Env} {s : State} {m : MethodId} {below : List Frame} {meth : Method} {c : Code} {b L : Nat} {xs : Nat → Int32} {g : GG} {a a' : Nat → Nat} {Q : State → Prop} {N i cells slots : Nat} {σ : CS} {ρ : RS} {H : Heap} {locs : List Loc} {ls : Array Slot} (G : LA p s m meth c b L xs g) (hi : 5 * i + 5 ≤ L) (hL : L < 2 ^ 31) (hJ : Jn N σ ρ) (hN : N + 60000 < 2 ^ 31) (hP1 : va_P g.1 vwCl (dvO g a σ) H) (hP2 : va_P g.1 vwCl (rfO g a' ρ) H) (hD : va_D (fun q : Nat => s.heap.size ≤ q) (dvO g a σ ++ rfO g a' ρ)) (hS : va_S (fun q : Nat => s.heap.size ≤ q) s.heap H locs) (hl : lv_has ls 4 [(0, .ref b), (1, .ref (a 0)), (2, .ref (a' 0)), (3, .int (nI (5 * i)))]) (hc : cells + 200 ≤ room_1.cells) (hs : slots + 1600 ≤ room_1.slots) (nxt : ∀ (σ' : CS) (ρ' : RS) (H' : Heap) (locs' : List Loc), Jn (N + 60000) σ' ρ' → va_P g.1 vwCl (dvO g a σ') H' → va_P g.1 vwCl (rfO g a' ρ') H' → va_D (fun q : Nat => s.heap.size ≤ q) (dvO g a σ' ++ rfO g a' ρ') → va_S (fun q : Nat => s.heap.size ≤ q) s.heap H' locs' → W p l e room_1 s m #[Value.ref b] below meth c H' locs' (cells + 200) (slots + 1600) Q (F0 m 499 ls [])) : W p l e room_1 s m #[Value.ref b] below meth c H locs cells slots Q (F0 m 92 ls []) := by
  obtain ⟨hx, hb, hml, hown, hts, hX, hbl, hK⟩ := G
  have hA : ∀ q : Nat, s.heap.size ≤ q → (fun q : Nat => s.heap.size ≤ q) q := fun _ h => h
  have hbA : ¬ (fun q : Nat => s.heap.size ≤ q) b := Nat.not_le.mpr hbl
  refine lv_aload_n hx hb dL_law_92 rfl (lv_at hl 1 rfl) ?_
  refine lv_aload_n hx hb dL_law_93 rfl (lv_at hl 0 rfl) ?_
  refine lv_iload_n hx hb dL_law_94 rfl (lv_at hl 3 rfl) ?_
  refine lv_iconst (v := 1) hx hb dL_law_95 (by decide) ?_
  refine lv_iadd hx hb dL_law_96 ?_
  refine fr_sld (k := 5 * i + 1) hx hb hX hbl hbA hS (nI_add (5 * i) 1) (by omega) hL dL_law_97 ?_
  refine fr_goL (va_runV (As := [.int (xs (5 * i + 1))]) (rest := []) ⟨hx, hb, hml, hown, hts⟩ (kd_peek l g a σ (xs (5 * i + 1)) H.size) (cwV 1 hts (gdV tw229 tw230 tw231 tw1 tw232) rfl rfl rfl (by decide +kernel) ⟨(Nat.le_of_ble_eq_true rfl), (Nat.le_of_ble_eq_true rfl)⟩) ⟨Pst.blind, va_recv hK hP1 (ci := 6) (q0 := 0) rfl rfl, fr_preA hK hP1 (D_left hD)⟩ rfl rfl hl.1 rfl (lv_room (Nat.le_of_ble_eq_true rfl)) dL_law_98 ⟨by show cells + 0 ≤ _; omega, by show slots + 0 ≤ _; omega⟩) hP2 hD hS hA (fun v w9 H locs hq hP1 hP2 hD hS => ?_)
  obtain ⟨rfl, rfl⟩ := hq
  show W p l e room_1 s m _ below meth c H locs (cells + 0) (slots + 0) Q (F0 m (98 + 3) ls (.long (mAt (x_mem σ) (xs (5 * i + 1))) :: []))
  refine lv_aload_n hx hb dL_law_101 rfl (lv_at hl 2 rfl) ?_
  refine lv_aload_n hx hb dL_law_102 rfl (lv_at hl 0 rfl) ?_
  refine lv_iload_n hx hb dL_law_103 rfl (lv_at hl 3 rfl) ?_
  refine lv_iconst (v := 1) hx hb dL_law_104 (by decide) ?_
  refine lv_iadd hx hb dL_law_105 ?_
  refine fr_sld (k := 5 * i + 1) hx hb hX hbl hbA hS (nI_add (5 * i) 1) (by omega) hL dL_law_106 ?_
  refine fr_goR (va_runV (As := [.int (xs (5 * i + 1))]) (rest := [.long (mAt (x_mem σ) (xs (5 * i + 1)))]) ⟨hx, hb, hml, hown, hts⟩ (kr_peek l g a' ρ (xs (5 * i + 1)) H.size) (cwV 1 hts (gdV tw695 tw696 tw697 tw9 tw698) rfl rfl rfl (by decide +kernel) ⟨(Nat.le_of_ble_eq_true rfl), (Nat.le_of_ble_eq_true rfl)⟩) ⟨Pst.blind, va_recv hK hP2 (ci := 7) (q0 := 0) rfl rfl, fr_preA hK hP2 (D_right hD)⟩ rfl rfl hl.1 rfl (lv_room (Nat.le_of_ble_eq_true rfl)) dL_law_107 ⟨by show cells + 0 + 0 ≤ _; omega, by show slots + 0 + 0 ≤ _; omega⟩) hP1 hD hS hA (fun v w9 H locs hq hP1 hP2 hD hS => ?_)
  obtain ⟨rfl, rfl⟩ := hq
  show W p l e room_1 s m _ below meth c H locs (cells + 0 + 0) (slots + 0 + 0) Q (F0 m (107 + 3) ls (.long (mAt (z_mem ρ) (xs (5 * i + 1))) :: .long (mAt (x_mem σ) (xs (5 * i + 1))) :: []))
  refine W.lcmp hx hb dL_law_110 ?_
  refine lv_if_eq (tgt := 499) hx hb dL_law_111 (by decide) (fun _ => ?_) (fun c9 => absurd ((lg_cmp_eq _ _).mpr (j_mat hJ)) c9)
  refine W.widen (k := cells + 200) (n := slots + 1600) (by omega) (by omega) ?_
  exact nxt σ ρ H locs (hJ.up (by omega)) hP1 hP2 hD hS
