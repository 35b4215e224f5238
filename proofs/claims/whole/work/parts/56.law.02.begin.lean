set_option maxHeartbeats 4000000 in
set_option maxRecDepth 100000 in
/-- the call begin -/
theorem lw_begin {p : Program} {l : Launch} {e : Env} {s : State} {m : MethodId} {below : List Frame} {meth : Method} {c : Code} {b L : Nat} {xs : Nat → Int32} {g : GG} {a a' : Nat → Nat} {Q : State → Prop} {N i cells slots : Nat} {σ : CS} {ρ : RS} {H : Heap} {locs : List Loc} {ls : Array Slot} (G : LA p s m meth c b L xs g) (hi : 5 * i + 5 ≤ L) (hL : L < 2 ^ 31) (hJ : Jn N σ ρ) (hN : N + 60000 < 2 ^ 31) (hP1 : va_P g.1 vwCl (dvO g a σ) H) (hP2 : va_P g.1 vwCl (rfO g a' ρ) H) (hD : va_D (fun q : Nat => s.heap.size ≤ q) (dvO g a σ ++ rfO g a' ρ)) (hS : va_S (fun q : Nat => s.heap.size ≤ q) s.heap H locs) (hl : lv_has ls 4 [(0, .ref b), (1, .ref (a 0)), (2, .ref (a' 0)), (3, .int (nI (5 * i)))]) (hc : cells + 200 ≤ room_1.cells) (hs : slots + 1600 ≤ room_1.slots) (nxt : ∀ (σ' : CS) (ρ' : RS) (H' : Heap) (locs' : List Loc), Jn (N + 60000) σ' ρ' → va_P g.1 vwCl (dvO g a σ') H' → va_P g.1 vwCl (rfO g a' ρ') H' → va_D (fun q : Nat => s.heap.size ≤ q) (dvO g a σ' ++ rfO g a' ρ') → va_S (fun q : Nat => s.heap.size ≤ q) s.heap H' locs' → W p l e room_1 s m #[Value.ref b] below meth c H' locs' (cells + 200) (slots + 1600) Q (F0 m 499 ls [])) : W p l e room_1 s m #[Value.ref b] below meth c H locs cells slots Q (F0 m 179 ls []) := by
  obtain ⟨hx, hb, hml, hown, hts, hX, hbl, hK⟩ := G
  have hA : ∀ q : Nat, s.heap.size ≤ q → (fun q : Nat => s.heap.size ≤ q) q := fun _ h => h
  have hbA : ¬ (fun q : Nat => s.heap.size ≤ q) b := Nat.not_le.mpr hbl
  refine lv_aload_n hx hb dL_law_179 rfl (lv_at hl 1 rfl) ?_
  refine lv_aload_n hx hb dL_law_180 rfl (lv_at hl 0 rfl) ?_
  refine lv_iload_n hx hb dL_law_181 rfl (lv_at hl 3 rfl) ?_
  refine lv_iconst (v := 1) hx hb dL_law_182 (by decide) ?_
  refine lv_iadd hx hb dL_law_183 ?_
  refine fr_sld (k := 5 * i + 1) hx hb hX hbl hbA hS (nI_add (5 * i) 1) (by omega) hL dL_law_184 ?_
  refine lv_aload_n hx hb dL_law_185 rfl (lv_at hl 0 rfl) ?_
  refine lv_iload_n hx hb dL_law_186 rfl (lv_at hl 3 rfl) ?_
  refine lv_iconst (v := 2) hx hb dL_law_187 (by decide) ?_
  refine lv_iadd hx hb dL_law_188 ?_
  refine fr_sld (k := 5 * i + 2) hx hb hX hbl hbA hS (nI_add (5 * i) 2) (by omega) hL dL_law_189 ?_
  refine lv_aload_n hx hb dL_law_190 rfl (lv_at hl 0 rfl) ?_
  refine lv_iload_n hx hb dL_law_191 rfl (lv_at hl 3 rfl) ?_
  refine lv_iconst (v := 3) hx hb dL_law_192 (by decide) ?_
  refine lv_iadd hx hb dL_law_193 ?_
  refine fr_sld (k := 5 * i + 3) hx hb hX hbl hbA hS (nI_add (5 * i) 3) (by omega) hL dL_law_194 ?_
  refine lv_aload_n hx hb dL_law_195 rfl (lv_at hl 0 rfl) ?_
  refine lv_iload_n hx hb dL_law_196 rfl (lv_at hl 3 rfl) ?_
  refine lv_iconst (v := 4) hx hb dL_law_197 (by decide) ?_
  refine lv_iadd hx hb dL_law_198 ?_
  refine fr_sld (k := 5 * i + 4) hx hb hX hbl hbA hS (nI_add (5 * i) 4) (by omega) hL dL_law_199 ?_
  refine fr_goL (va_runV (As := [.int (xs (5 * i + 1)), .int (xs (5 * i + 2)), .int (xs (5 * i + 3)), .int (xs (5 * i + 4))]) (rest := []) ⟨hx, hb, hml, hown, hts⟩ (kd_begin l g a σ (xs (5 * i + 1)) (xs (5 * i + 2)) (xs (5 * i + 3)) (xs (5 * i + 4)) H.size) (cwV 4 hts (gdV tw250 tw251 tw252 tw1 tw253) rfl rfl rfl (by decide +kernel) ⟨(Nat.le_of_ble_eq_true rfl), (Nat.le_of_ble_eq_true rfl)⟩) ⟨Pst.blind, va_recv hK hP1 (ci := 6) (q0 := 0) rfl rfl, fr_preA hK hP1 (D_left hD)⟩ rfl rfl hl.1 rfl (lv_room (Nat.le_of_ble_eq_true rfl)) dL_law_200 ⟨by show cells + 0 ≤ _; omega, by show slots + 0 ≤ _; omega⟩) hP2 hD hS hA (fun v w9 H locs hq hP1 hP2 hD hS => ?_)
  obtain ⟨rfl, rfl⟩ := hq
  show W p l e room_1 s m _ below meth c H locs (cells + 0) (slots + 0) Q (F0 m (200 + 3) ls (.int (if ¬ bgF (xs (5 * i + 1)) (xs (5 * i + 2)) (xs (5 * i + 3)) (xs (5 * i + 4)) then -1 else if ¬ x_on σ = 0 then -2 else 0) :: []))
  refine lv_aload_n hx hb dL_law_203 rfl (lv_at hl 2 rfl) ?_
  refine lv_aload_n hx hb dL_law_204 rfl (lv_at hl 0 rfl) ?_
  refine lv_iload_n hx hb dL_law_205 rfl (lv_at hl 3 rfl) ?_
  refine lv_iconst (v := 1) hx hb dL_law_206 (by decide) ?_
  refine lv_iadd hx hb dL_law_207 ?_
  refine fr_sld (k := 5 * i + 1) hx hb hX hbl hbA hS (nI_add (5 * i) 1) (by omega) hL dL_law_208 ?_
  refine lv_aload_n hx hb dL_law_209 rfl (lv_at hl 0 rfl) ?_
  refine lv_iload_n hx hb dL_law_210 rfl (lv_at hl 3 rfl) ?_
  refine lv_iconst (v := 2) hx hb dL_law_211 (by decide) ?_
  refine lv_iadd hx hb dL_law_212 ?_
  refine fr_sld (k := 5 * i + 2) hx hb hX hbl hbA hS (nI_add (5 * i) 2) (by omega) hL dL_law_213 ?_
  refine lv_aload_n hx hb dL_law_214 rfl (lv_at hl 0 rfl) ?_
  refine lv_iload_n hx hb dL_law_215 rfl (lv_at hl 3 rfl) ?_
  refine lv_iconst (v := 3) hx hb dL_law_216 (by decide) ?_
  refine lv_iadd hx hb dL_law_217 ?_
  refine fr_sld (k := 5 * i + 3) hx hb hX hbl hbA hS (nI_add (5 * i) 3) (by omega) hL dL_law_218 ?_
  refine lv_aload_n hx hb dL_law_219 rfl (lv_at hl 0 rfl) ?_
  refine lv_iload_n hx hb dL_law_220 rfl (lv_at hl 3 rfl) ?_
  refine lv_iconst (v := 4) hx hb dL_law_221 (by decide) ?_
  refine lv_iadd hx hb dL_law_222 ?_
  refine fr_sld (k := 5 * i + 4) hx hb hX hbl hbA hS (nI_add (5 * i) 4) (by omega) hL dL_law_223 ?_
  refine fr_goR (va_runV (As := [.int (xs (5 * i + 1)), .int (xs (5 * i + 2)), .int (xs (5 * i + 3)), .int (xs (5 * i + 4))]) (rest := [.int (if ¬ bgF (xs (5 * i + 1)) (xs (5 * i + 2)) (xs (5 * i + 3)) (xs (5 * i + 4)) then -1 else if ¬ x_on σ = 0 then -2 else 0)]) ⟨hx, hb, hml, hown, hts⟩ (kr_begin l g a' ρ (xs (5 * i + 1)) (xs (5 * i + 2)) (xs (5 * i + 3)) (xs (5 * i + 4)) H.size) (cwV 4 hts (gdV tw707 tw708 tw709 tw9 tw710) rfl rfl rfl (by decide +kernel) ⟨(Nat.le_of_ble_eq_true rfl), (Nat.le_of_ble_eq_true rfl)⟩) ⟨Pst.blind, va_recv hK hP2 (ci := 7) (q0 := 0) rfl rfl, fr_preA hK hP2 (D_right hD)⟩ rfl rfl hl.1 rfl (lv_room (Nat.le_of_ble_eq_true rfl)) dL_law_224 ⟨by show cells + 0 + 0 ≤ _; omega, by show slots + 0 + 0 ≤ _; omega⟩) hP1 hD hS hA (fun v w9 H locs hq hP1 hP2 hD hS => ?_)
  obtain ⟨rfl, rfl⟩ := hq
  show W p l e room_1 s m _ below meth c H locs (cells + 0 + 0) (slots + 0 + 0) Q (F0 m (224 + 3) ls (.int (if ¬ bgF (xs (5 * i + 1)) (xs (5 * i + 2)) (xs (5 * i + 3)) (xs (5 * i + 4)) then -1 else if ¬ z_on ρ = 0 then -2 else 0) :: .int (if ¬ bgF (xs (5 * i + 1)) (xs (5 * i + 2)) (xs (5 * i + 3)) (xs (5 * i + 4)) then -1 else if ¬ x_on σ = 0 then -2 else 0) :: []))
  refine lv_icmp_eq (tgt := 499) hx hb dL_law_227 (by decide) (fun _ => ?_) (fun c9 => absurd (j_bans hJ) c9)
  refine W.widen (k := cells + 200) (n := slots + 1600) (by omega) (by omega) ?_
  exact nxt (g_beg σ (xs (5 * i + 1)) (xs (5 * i + 2)) (xs (5 * i + 3)) (xs (5 * i + 4))) (h_beg ρ (xs (5 * i + 1)) (xs (5 * i + 2)) (xs (5 * i + 3)) (xs (5 * i + 4))) H locs ((j_beg hJ).up (by omega)) hP1 hP2 hD hS
