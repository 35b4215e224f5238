set_option maxHeartbeats 4000000 in
set_option maxRecDepth 100000 in
/-- the law's loop, at its head -/
theorem law_loop {p : Program} {l : Launch} {e : Env} {s : State} {m : MethodId} {below : List Frame} {meth : Method} {c : Code} {b L : Nat} {xs : Nat → Int32} {g : GG} {a a' : Nat → Nat} (hL : L ≤ 2560) (G : LA p s m meth c b L xs g) (hr : meth.sig.returnType = ret) (hlocks : meth.locks = false) : ∀ (n i : Nat), 5 * i ≤ L → L + 1 ≤ 5 * i + n → ∀ (σ : CS) (ρ : RS) (H : Heap) (locs : List Loc) (ls : Array Slot), Jn (60000 * i) σ ρ → va_P g.1 vwCl (dvO g a σ) H → va_P g.1 vwCl (rfO g a' ρ) H → va_D (fun q : Nat => s.heap.size ≤ q) (dvO g a σ ++ rfO g a' ρ) → va_S (fun q : Nat => s.heap.size ≤ q) s.heap H locs → lv_has ls 4 [(0, .ref b), (1, .ref (a 0)), (2, .ref (a' 0)), (3, .int (nI (5 * i)))] → W p l e room_1 s m #[Value.ref b] below meth c H locs (107 + 200 * i) (5513 + 1600 * i) (lw_Z below #[Value.ref b] s) (F0 m 18 ls []) := by
  have G0 := G
  obtain ⟨hx, hb, hml, hown, hts, hX, hbl, hK⟩ := G
  have hA : ∀ q : Nat, s.heap.size ≤ q → (fun q : Nat => s.heap.size ≤ q) q := fun _ h => h
  have hbA : ¬ (fun q : Nat => s.heap.size ≤ q) b := Nat.not_le.mpr hbl
  intro n
  induction n with
  | zero =>
    intro i h1 h2
    exact absurd h2 (by omega)
  | succ n ih =>
    intro i h1 h2 σ ρ H locs ls hJ hP1 hP2 hD hS hl
    refine lv_iload_n hx hb dL_law_18 rfl (lv_at hl 3 rfl) ?_
    refine lv_aload_n hx hb dL_law_19 rfl (lv_at hl 0 rfl) ?_
    refine va_slen hx hb hX hbl hbA hS dL_law_20 ?_
    refine lv_iconst (v := 5) hx hb dL_law_21 (by decide) ?_
    refine lv_isub hx hb dL_law_22 ?_
    refine lv_icmp_gt (tgt := 505) hx hb dL_law_23 (by decide) (fun c1 => ?_) (fun c1 => ?_)
    · refine lv_iconst (v := 1) hx hb dL_law_505 (by decide) ?_
      refine va_forget (fun q hq => hS.2.2 q hq) ?_
      refine W.widen (k := 600000) (n := 7302250) (by omega) (by omega) ?_
      exact lw_ret hx hb hr hlocks dL_law_506
    · have hi : 5 * i + 5 ≤ L := law_le (by omega) (by omega) c1
      have nxt : ∀ (σ' : CS) (ρ' : RS) (H' : Heap) (locs' : List Loc), Jn (60000 * i + 60000) σ' ρ' → va_P g.1 vwCl (dvO g a σ') H' → va_P g.1 vwCl (rfO g a' ρ') H' → va_D (fun q : Nat => s.heap.size ≤ q) (dvO g a σ' ++ rfO g a' ρ') → va_S (fun q : Nat => s.heap.size ≤ q) s.heap H' locs' → W p l e room_1 s m #[Value.ref b] below meth c H' locs' (107 + 200 * i + 200) (5513 + 1600 * i + 1600) (lw_Z below #[Value.ref b] s) (F0 m 499 ls []) := by
        intro σ' ρ' H' locs' hJ' hP1' hP2' hD' hS'
        refine lv_iinc (v := nI (5 * (i + 1))) (lv' := [(3, .int (nI (5 * (i + 1)))), (0, .ref b), (1, .ref (a 0)), (2, .ref (a' 0))]) hx hb dL_law_499 hl (k := 3) rfl (nI_add (5 * i) 5) (by decide) rfl (fun ls hl => ?_)
        refine lv_goto (tgt := 18) hx hb dL_law_502 (by decide) ?_
        exact ih (i + 1) (by omega) (by omega) σ' ρ' H' locs' ls (hJ'.up (by omega)) hP1' hP2' hD' hS' (lv_sub hl [1, 2, 3, 0] rfl)
      have hc : 107 + 200 * i + 200 ≤ room_1.cells := Nat.le_trans (show _ ≤ 600000 by omega) (Nat.le_of_ble_eq_true rfl)
      have hs : 5513 + 1600 * i + 1600 ≤ room_1.slots := Nat.le_trans (show _ ≤ 7302250 by omega) (Nat.le_of_ble_eq_true rfl)
      have hN : 60000 * i + 60000 < 2 ^ 31 := by omega
      have hL2 : L < 2 ^ 31 := by omega
      refine lv_aload_n hx hb dL_law_26 rfl (lv_at hl 0 rfl) ?_
      refine lv_iload_n hx hb dL_law_27 rfl (lv_at hl 3 rfl) ?_
      refine fr_sld (k := 5 * i) hx hb hX hbl hbA hS rfl (by omega) hL2 dL_law_28 ?_
      refine lv_bipush (v := 15) hx hb dL_law_29 (by decide) ?_
      refine lv_iand hx hb dL_law_31 ?_
      by_cases w0 : xs (5 * i) &&& 15 = 0
      · refine lv_tableIn (off := 60) (tgt := 92) hx hb dL_law_32 (by rw [w0]; decide) (by rw [w0]; decide) (by rw [w0]; decide) (by decide) ?_
        exact lw_peek G0 hi hL2 hJ hN hP1 hP2 hD hS hl hc hs nxt
      have z0 := lv_neT (a := 0) w0 (by decide)
      by_cases w1 : xs (5 * i) &&& 15 = 1
      · refine lv_tableIn (off := 84) (tgt := 116) hx hb dL_law_32 (by rw [w1]; decide) (by rw [w1]; decide) (by rw [w1]; decide) (by decide) ?_
        exact lw_poke G0 hi hL2 hJ hN hP1 hP2 hD hS hl hc hs nxt
      have z1 := lv_neT (a := 1) w1 (by decide)
      by_cases w2 : xs (5 * i) &&& 15 = 2
      · refine lv_tableIn (off := 147) (tgt := 179) hx hb dL_law_32 (by rw [w2]; decide) (by rw [w2]; decide) (by rw [w2]; decide) (by decide) ?_
        exact lw_begin G0 hi hL2 hJ hN hP1 hP2 hD hS hl hc hs nxt
      have z2 := lv_neT (a := 2) w2 (by decide)
      by_cases w3 : xs (5 * i) &&& 15 = 3
      · refine lv_tableIn (off := 200) (tgt := 232) hx hb dL_law_32 (by rw [w3]; decide) (by rw [w3]; decide) (by rw [w3]; decide) (by decide) ?_
        exact lw_stop G0 hi hL2 hJ hN hP1 hP2 hD hS hl hc hs nxt
      have z3 := lv_neT (a := 3) w3 (by decide)
      by_cases w4 : xs (5 * i) &&& 15 = 4
      · refine lv_tableIn (off := 239) (tgt := 271) hx hb dL_law_32 (by rw [w4]; decide) (by rw [w4]; decide) (by rw [w4]; decide) (by decide) ?_
        exact lw_ring G0 hi hL2 hJ hN hP1 hP2 hD hS hl hc hs nxt
      have z4 := lv_neT (a := 4) w4 (by decide)
      by_cases w5 : xs (5 * i) &&& 15 = 5
      · refine lv_tableIn (off := 272) (tgt := 304) hx hb dL_law_32 (by rw [w5]; decide) (by rw [w5]; decide) (by rw [w5]; decide) (by decide) ?_
        exact lw_seen G0 hi hL2 hJ hN hP1 hP2 hD hS hl hc hs nxt
      have z5 := lv_neT (a := 5) w5 (by decide)
      by_cases w6 : xs (5 * i) &&& 15 = 6
      · refine lv_tableIn (off := 305) (tgt := 337) hx hb dL_law_32 (by rw [w6]; decide) (by rw [w6]; decide) (by rw [w6]; decide) (by decide) ?_
        exact lw_run G0 hi hL2 hJ hN hP1 hP2 hD hS hl hc hs nxt
      have z6 := lv_neT (a := 6) w6 (by decide)
      by_cases w7 : xs (5 * i) &&& 15 = 7
      · refine lv_tableIn (off := 328) (tgt := 360) hx hb dL_law_32 (by rw [w7]; decide) (by rw [w7]; decide) (by rw [w7]; decide) (by decide) ?_
        exact lw_interrupts G0 hi hL2 hJ hN hP1 hP2 hD hS hl hc hs nxt
      have z7 := lv_neT (a := 7) w7 (by decide)
      by_cases w8 : xs (5 * i) &&& 15 = 8
      · refine lv_tableIn (off := 351) (tgt := 383) hx hb dL_law_32 (by rw [w8]; decide) (by rw [w8]; decide) (by rw [w8]; decide) (by decide) ?_
        exact lw_block G0 hi hL2 hJ hN hP1 hP2 hD hS hl hc hs nxt
      have z8 := lv_neT (a := 8) w8 (by decide)
      by_cases w9 : xs (5 * i) &&& 15 = 9
      · refine lv_tableIn (off := 411) (tgt := 443) hx hb dL_law_32 (by rw [w9]; decide) (by rw [w9]; decide) (by rw [w9]; decide) (by decide) ?_
        exact lw_queue G0 hi hL2 hJ hN hP1 hP2 hD hS hl hc hs nxt
      have z9 := lv_neT (a := 9) w9 (by decide)
      by_cases w10 : xs (5 * i) &&& 15 = 10
      · refine lv_tableIn (off := 444) (tgt := 476) hx hb dL_law_32 (by rw [w10]; decide) (by rw [w10]; decide) (by rw [w10]; decide) (by decide) ?_
        exact lw_count G0 hi hL2 hJ hN hP1 hP2 hD hS hl hc hs nxt
      have z10 := lv_neT (a := 10) w10 (by decide)
      refine lv_tableOut (tgt := 499) hx hb dL_law_32 (by omega) (by decide) ?_
      refine W.widen (k := 107 + 200 * i + 200) (n := 5513 + 1600 * i + 1600) (by omega) (by omega) ?_
      exact nxt σ ρ H locs (hJ.up (by omega)) hP1 hP2 hD hS
