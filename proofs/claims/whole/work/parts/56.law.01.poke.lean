set_option maxHeartbeats 4000000 in
set_option maxRecDepth 100000 in
/-- the call poke -/
theorem lw_poke {p : Program} {l : Launch} {e : Env} {s : State} {m : MethodId} {below : List Frame} {meth : Method} {c : Code} {b L : Nat} {xs : Nat → Int32} {g : GG} {a a' : Nat → Nat} {Q : State → Prop} {N i cells slots : Nat} {σ : CS} {ρ : RS} {H : Heap} {locs : List Loc} {ls : Array Slot} (G : LA p s m meth c b L xs g) (hi : 5 * i + 5 ≤ L) (hL : L < 2 ^ 31) (hJ : Jn N σ ρ) (hN : N + 60000 < 2 ^ 31) (hP1 : va_P g.1 vwCl (dvO g a σ) H) (hP2 : va_P g.1 vwCl (rfO g a' ρ) H) (hD : va_D (fun q : Nat => s.heap.size ≤ q) (dvO g a σ ++ rfO g a' ρ)) (hS : va_S (fun q : Nat => s.heap.size ≤ q) s.heap H locs) (hl : lv_has ls 4 [(0, .ref b), (1, .ref (a 0)), (2, .ref (a' 0)), (3, .int (nI (5 * i)))]) (hc : cells + 200 ≤ room_1.cells) (hs : slots + 1600 ≤ room_1.slots) (nxt : ∀ (σ' : CS) (ρ' : RS) (H' : Heap) (locs' : List Loc), Jn (N + 60000) σ' ρ' → va_P g.1 vwCl (dvO g a σ') H' → va_P g.1 vwCl (rfO g a' ρ') H' → va_D (fun q : Nat => s.heap.size ≤ q) (dvO g a σ' ++ rfO g a' ρ') → va_S (fun q : Nat => s.heap.size ≤ q) s.heap H' locs' → W p l e room_1 s m #[Value.ref b] below meth c H' locs' (cells + 200) (slots + 1600) Q (F0 m 499 ls [])) : W p l e room_1 s m #[Value.ref b] below meth c H locs cells slots Q (F0 m 116 ls []) := by
  obtain ⟨hx, hb, hml, hown, hts, hX, hbl, hK⟩ := G
  have hA : ∀ q : Nat, s.heap.size ≤ q → (fun q : Nat => s.heap.size ≤ q) q := fun _ h => h
  have hbA : ¬ (fun q : Nat => s.heap.size ≤ q) b := Nat.not_le.mpr hbl
  refine lv_aload_n hx hb dL_law_116 rfl (lv_at hl 1 rfl) ?_
  refine lv_aload_n hx hb dL_law_117 rfl (lv_at hl 0 rfl) ?_
  refine lv_iload_n hx hb dL_law_118 rfl (lv_at hl 3 rfl) ?_
  refine lv_iconst (v := 1) hx hb dL_law_119 (by decide) ?_
  refine lv_iadd hx hb dL_law_120 ?_
  refine fr_sld (k := 5 * i + 1) hx hb hX hbl hbA hS (nI_add (5 * i) 1) (by omega) hL dL_law_121 ?_
  refine lv_aload_n hx hb dL_law_122 rfl (lv_at hl 0 rfl) ?_
  refine lv_iload_n hx hb dL_law_123 rfl (lv_at hl 3 rfl) ?_
  refine lv_iconst (v := 2) hx hb dL_law_124 (by decide) ?_
  refine lv_iadd hx hb dL_law_125 ?_
  refine fr_sld (k := 5 * i + 2) hx hb hX hbl hbA hS (nI_add (5 * i) 2) (by omega) hL dL_law_126 ?_
  refine lv_i2l hx hb dL_law_127 rfl ?_
  refine lv_bipush (v := 32) hx hb dL_law_128 (by decide) ?_
  refine lv_lshl hx hb dL_law_130 rfl ?_
  refine lv_aload_n hx hb dL_law_131 rfl (lv_at hl 0 rfl) ?_
  refine lv_iload_n hx hb dL_law_132 rfl (lv_at hl 3 rfl) ?_
  refine lv_iconst (v := 3) hx hb dL_law_133 (by decide) ?_
  refine lv_iadd hx hb dL_law_134 ?_
  refine fr_sld (k := 5 * i + 3) hx hb hX hbl hbA hS (nI_add (5 * i) 3) (by omega) hL dL_law_135 ?_
  refine lv_i2l hx hb dL_law_136 rfl ?_
  refine lv_ldc2 hx hb hown (hts _ tw813) dL_law_137 ?_
  refine lv_land hx hb dL_law_140 ?_
  refine lv_lor hx hb dL_law_141 ?_
  refine fr_goL (va_runV (As := [.int (xs (5 * i + 1)), .long ((((xs (5 * i + 2)).toInt64) <<< ((32 : Int32).toInt64 &&& 63)) ||| (((xs (5 * i + 3)).toInt64) &&& 4294967295))]) (rest := []) ⟨hx, hb, hml, hown, hts⟩ (kd_poke l g a σ (xs (5 * i + 1)) ((((xs (5 * i + 2)).toInt64) <<< ((32 : Int32).toInt64 &&& 63)) ||| (((xs (5 * i + 3)).toInt64) &&& 4294967295)) H.size) (cwV 2 hts (gdV tw241 tw242 tw243 tw1 tw244) rfl rfl rfl (by decide +kernel) ⟨(Nat.le_of_ble_eq_true rfl), (Nat.le_of_ble_eq_true rfl)⟩) ⟨Pst.blind, va_recv hK hP1 (ci := 6) (q0 := 0) rfl rfl, fr_preA hK hP1 (D_left hD)⟩ rfl rfl hl.1 rfl (lv_room (Nat.le_of_ble_eq_true rfl)) dL_law_142 ⟨by show cells + 0 ≤ _; omega, by show slots + 0 ≤ _; omega⟩) hP2 hD hS hA (fun v w9 H locs hq hP1 hP2 hD hS => ?_)
  obtain ⟨rfl, rfl⟩ := hq
  show W p l e room_1 s m _ below meth c H locs (cells + 0) (slots + 0) Q (F0 m (142 + 3) ls (.int (if hol ((xs (5 * i + 1))).toInt64 then 0 else -1) :: []))
  refine lv_aload_n hx hb dL_law_145 rfl (lv_at hl 2 rfl) ?_
  refine lv_aload_n hx hb dL_law_146 rfl (lv_at hl 0 rfl) ?_
  refine lv_iload_n hx hb dL_law_147 rfl (lv_at hl 3 rfl) ?_
  refine lv_iconst (v := 1) hx hb dL_law_148 (by decide) ?_
  refine lv_iadd hx hb dL_law_149 ?_
  refine fr_sld (k := 5 * i + 1) hx hb hX hbl hbA hS (nI_add (5 * i) 1) (by omega) hL dL_law_150 ?_
  refine lv_aload_n hx hb dL_law_151 rfl (lv_at hl 0 rfl) ?_
  refine lv_iload_n hx hb dL_law_152 rfl (lv_at hl 3 rfl) ?_
  refine lv_iconst (v := 2) hx hb dL_law_153 (by decide) ?_
  refine lv_iadd hx hb dL_law_154 ?_
  refine fr_sld (k := 5 * i + 2) hx hb hX hbl hbA hS (nI_add (5 * i) 2) (by omega) hL dL_law_155 ?_
  refine lv_i2l hx hb dL_law_156 rfl ?_
  refine lv_bipush (v := 32) hx hb dL_law_157 (by decide) ?_
  refine lv_lshl hx hb dL_law_159 rfl ?_
  refine lv_aload_n hx hb dL_law_160 rfl (lv_at hl 0 rfl) ?_
  refine lv_iload_n hx hb dL_law_161 rfl (lv_at hl 3 rfl) ?_
  refine lv_iconst (v := 3) hx hb dL_law_162 (by decide) ?_
  refine lv_iadd hx hb dL_law_163 ?_
  refine fr_sld (k := 5 * i + 3) hx hb hX hbl hbA hS (nI_add (5 * i) 3) (by omega) hL dL_law_164 ?_
  refine lv_i2l hx hb dL_law_165 rfl ?_
  refine lv_ldc2 hx hb hown (hts _ tw813) dL_law_166 ?_
  refine lv_land hx hb dL_law_169 ?_
  refine lv_lor hx hb dL_law_170 ?_
  refine fr_goR (va_runV (As := [.int (xs (5 * i + 1)), .long ((((xs (5 * i + 2)).toInt64) <<< ((32 : Int32).toInt64 &&& 63)) ||| (((xs (5 * i + 3)).toInt64) &&& 4294967295))]) (rest := [.int (if hol ((xs (5 * i + 1))).toInt64 then 0 else -1)]) ⟨hx, hb, hml, hown, hts⟩ (kr_poke l g a' ρ (xs (5 * i + 1)) ((((xs (5 * i + 2)).toInt64) <<< ((32 : Int32).toInt64 &&& 63)) ||| (((xs (5 * i + 3)).toInt64) &&& 4294967295)) H.size) (cwV 2 hts (gdV tw703 tw704 tw705 tw9 tw706) rfl rfl rfl (by decide +kernel) ⟨(Nat.le_of_ble_eq_true rfl), (Nat.le_of_ble_eq_true rfl)⟩) ⟨Pst.blind, va_recv hK hP2 (ci := 7) (q0 := 0) rfl rfl, fr_preA hK hP2 (D_right hD)⟩ rfl rfl hl.1 rfl (lv_room (Nat.le_of_ble_eq_true rfl)) dL_law_171 ⟨by show cells + 0 + 0 ≤ _; omega, by show slots + 0 + 0 ≤ _; omega⟩) hP1 hD hS hA (fun v w9 H locs hq hP1 hP2 hD hS => ?_)
  obtain ⟨rfl, rfl⟩ := hq
  show W p l e room_1 s m _ below meth c H locs (cells + 0 + 0) (slots + 0 + 0) Q (F0 m (171 + 3) ls (.int (if hol ((xs (5 * i + 1))).toInt64 then 0 else -1) :: .int (if hol ((xs (5 * i + 1))).toInt64 then 0 else -1) :: []))
  refine lv_icmp_eq (tgt := 499) hx hb dL_law_174 (by decide) (fun _ => ?_) (fun c9 => absurd rfl c9)
  refine W.widen (k := cells + 200) (n := slots + 1600) (by omega) (by omega) ?_
  exact nxt (g_pok σ (xs (5 * i + 1)) ((((xs (5 * i + 2)).toInt64) <<< ((32 : Int32).toInt64 &&& 63)) ||| (((xs (5 * i + 3)).toInt64) &&& 4294967295))) (h_pok ρ (xs (5 * i + 1)) ((((xs (5 * i + 2)).toInt64) <<< ((32 : Int32).toInt64 &&& 63)) ||| (((xs (5 * i + 3)).toInt64) &&& 4294967295))) H locs ((j_pok hJ).up (by omega)) hP1 hP2 hD hS
