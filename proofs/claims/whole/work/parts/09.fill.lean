set_option maxHeartbeats 4000000 in
set_option maxRecDepth 100000 in
/-- Arrays.fill, of eight -/
theorem kJ7_fill_J (l : Launch) (g : GG) (ar : Nat) (rw : Nat → Int64) (v0 : Int64) : Ct l yJ7_fill_J cJ7_fill_J 5 none ({ frames := 0, cells := 0, slots := 0, locals := 0 } : Room) g [.ref ar, .long v0] [(ar, .inl (g.2 0, 8, .inr (.inl rw)))] (fun v w' => v = none ∧ w' = [(ar, .inl (g.2 0, 8, .inr (.inl (flL rw v0 8))))]) := by
  refine Ct.of (by decide) (Nat.le_of_ble_eq_true rfl) ?_
  intro p e s m below meth c A ls H locs hx hb hr hml hlocks hts hown hin hA hS hK hP hD hl
  have hown : s.vm.findClass RJ7 = some m.cls := hown
  have hl : lv_has ls 5 [(0, .ref ar), (1, .long v0)] := hl
  refine lv_iconst (v := 0) hx hb dJ7_fill_J_0 (by decide) ?_
  refine fr_topi (y := nI 0) nI_0.symm ?_
  refine lv_istore_n (lv' := [(3, .int (nI 0)), (0, .ref ar), (1, .long v0)]) hx hb dJ7_fill_J_1 rfl hl (by decide) rfl (fun ls hl => ?_)
  refine lv_aload_n hx hb dJ7_fill_J_2 rfl (lv_at hl 1 rfl) ?_
  refine va_alen (v := nI 8) hx hb hK hP 0 0 rfl rfl rfl dJ7_fill_J_3 ?_
  refine lv_istore (lv' := [(4, .int (nI 8)), (3, .int (nI 0)), (0, .ref ar), (1, .long v0)]) hx hb dJ7_fill_J_4 hl (by decide) rfl (fun ls hl => ?_)
  have lp6 : ∀ (n9 : Nat) (i : Nat) , 8 - i < n9 → (i ≤ 8) → ∀ (H : Heap) (locs : List Loc) (ls : Array Slot), va_P g.1 vwCl [(ar, .inl (g.2 0, 8, .inr (.inl (flL rw v0 i))))] H → va_D A [(ar, .inl (g.2 0, 8, .inr (.inl (flL rw v0 i))))] → va_S A s.heap H locs → lv_has ls 5 [(3, .int (nI i)), (4, .int (nI 8)), (0, .ref ar), (1, .long v0)] → W p l e ({ frames := 0, cells := 0, slots := 0, locals := 0 } : Room) s m ([.ref ar, .long v0].toArray) below meth c H locs 0 0 (MQ below (Qst g [(ar, .inl (g.2 0, 8, .inr (.inl rw)))] (fun v w' => v = none ∧ w' = [(ar, .inl (g.2 0, 8, .inr (.inl (flL rw v0 8))))]) A) ([.ref ar, .long v0].toArray) s 0 0 A) (F0 m 6 ls []) := by
    intro n9
    induction n9 with
    | zero => intro i q9; exact absurd q9 (Nat.not_lt_zero _)
    | succ n9 ih6 =>
      intro i hn9 hi H locs ls hP hD hS hl
      refine lv_iload_n hx hb dJ7_fill_J_6 rfl (lv_at hl 0 rfl) ?_
      refine lv_iload hx hb dJ7_fill_J_7 (lv_at hl 1 rfl) ?_
      refine lv_icmp_ge (tgt := 22) hx hb dJ7_fill_J_9 (by decide) (fun c9 => ?_) (fun c9 => ?_)
      · have c9 := (nI_leI (a := 8) (b := i) (by omega) (by omega)).mp c9
        exact W.vret hx hb hr (fun t ht _ => ⟨⟨none, [(ar, .inl (g.2 0, 8, .inr (.inl (flL rw v0 i))))], rfl, ⟨rfl, by rw [show i = 8 by omega]⟩, rfl, by rw [ht]; exact hP⟩, hS.F ht⟩) hS.2.2 dJ7_fill_J_22
      · have c9 := (not_congr (nI_leI (a := 8) (b := i) (by omega) (by omega))).mp c9
        refine lv_aload_n hx hb dJ7_fill_J_12 rfl (lv_at hl 2 rfl) ?_
        refine lv_iload_n hx hb dJ7_fill_J_13 rfl (lv_at hl 0 rfl) ?_
        refine lv_lload_n hx hb dJ7_fill_J_14 rfl (lv_at hl 3 rfl) ?_
        refine fr_last (k := i) hx hb hK hP hD hS 0 0 rfl rfl (by omega) (by decide) dJ7_fill_J_15 (fun H locs hP hD hS => ?_)
        have hP : va_P g.1 vwCl [(ar, .inl (g.2 0, 8, .inr (.inl (vp_updL (flL rw v0 i) i v0))))] H := hP
        have hD : va_D A [(ar, .inl (g.2 0, 8, .inr (.inl (vp_updL (flL rw v0 i) i v0))))] := hD
        refine lv_iinc (v := nI (i + 1)) (lv' := [(3, .int (nI (i + 1))), (4, .int (nI 8)), (0, .ref ar), (1, .long v0)]) hx hb dJ7_fill_J_16 hl (k := 0) rfl (nI_1 _) (by decide) rfl (fun ls hl => ?_)
        refine lv_goto (tgt := 6) hx hb dJ7_fill_J_19 (by decide) ?_
        exact ih6 (i + 1) (by omega) (by omega) H locs ls hP hD hS (lv_sub hl [0, 1, 2, 3] rfl)
  exact lp6 _ 0 (Nat.lt_succ_self _) (by decide) H locs ls hP hD hS (lv_sub hl [1, 0, 2, 3] rfl)
set_option maxHeartbeats 4000000 in
set_option maxRecDepth 100000 in
/-- Arrays.fill, of eight -/
theorem kJ7_fill_Z (l : Launch) (g : GG) (ar : Nat) (rw : Nat → Int32) (v0 : Int32) (hz : v0 = 0 ∨ v0 = 1) : Ct l yJ7_fill_Z cJ7_fill_Z 4 none ({ frames := 0, cells := 0, slots := 0, locals := 0 } : Room) g [.ref ar, .int v0] [(ar, .inl (g.2 2, 8, .inl rw))] (fun v w' => v = none ∧ w' = [(ar, .inl (g.2 2, 8, .inl (flI rw v0 8)))]) := by
  refine Ct.of (by decide) (Nat.le_of_ble_eq_true rfl) ?_
  intro p e s m below meth c A ls H locs hx hb hr hml hlocks hts hown hin hA hS hK hP hD hl
  have hown : s.vm.findClass RJ7 = some m.cls := hown
  have hl : lv_has ls 4 [(0, .ref ar), (1, .int v0)] := hl
  refine lv_iconst (v := 0) hx hb dJ7_fill_Z_0 (by decide) ?_
  refine fr_topi (y := nI 0) nI_0.symm ?_
  refine lv_istore_n (lv' := [(2, .int (nI 0)), (0, .ref ar), (1, .int v0)]) hx hb dJ7_fill_Z_1 rfl hl (by decide) rfl (fun ls hl => ?_)
  refine lv_aload_n hx hb dJ7_fill_Z_2 rfl (lv_at hl 1 rfl) ?_
  refine va_alen (v := nI 8) hx hb hK hP 0 2 rfl rfl rfl dJ7_fill_Z_3 ?_
  refine lv_istore_n (lv' := [(3, .int (nI 8)), (2, .int (nI 0)), (0, .ref ar), (1, .int v0)]) hx hb dJ7_fill_Z_4 rfl hl (by decide) rfl (fun ls hl => ?_)
  have lp5 : ∀ (n9 : Nat) (i : Nat) , 8 - i < n9 → (i ≤ 8) → ∀ (H : Heap) (locs : List Loc) (ls : Array Slot), va_P g.1 vwCl [(ar, .inl (g.2 2, 8, .inl (flI rw v0 i)))] H → va_D A [(ar, .inl (g.2 2, 8, .inl (flI rw v0 i)))] → va_S A s.heap H locs → lv_has ls 4 [(2, .int (nI i)), (3, .int (nI 8)), (0, .ref ar), (1, .int v0)] → W p l e ({ frames := 0, cells := 0, slots := 0, locals := 0 } : Room) s m ([.ref ar, .int v0].toArray) below meth c H locs 0 0 (MQ below (Qst g [(ar, .inl (g.2 2, 8, .inl rw))] (fun v w' => v = none ∧ w' = [(ar, .inl (g.2 2, 8, .inl (flI rw v0 8)))]) A) ([.ref ar, .int v0].toArray) s 0 0 A) (F0 m 5 ls []) := by
    intro n9
    induction n9 with
    | zero => intro i q9; exact absurd q9 (Nat.not_lt_zero _)
    | succ n9 ih5 =>
      intro i hn9 hi H locs ls hP hD hS hl
      refine lv_iload_n hx hb dJ7_fill_Z_5 rfl (lv_at hl 0 rfl) ?_
      refine lv_iload_n hx hb dJ7_fill_Z_6 rfl (lv_at hl 1 rfl) ?_
      refine lv_icmp_ge (tgt := 20) hx hb dJ7_fill_Z_7 (by decide) (fun c7 => ?_) (fun c7 => ?_)
      · have c7 := (nI_leI (a := 8) (b := i) (by omega) (by omega)).mp c7
        exact W.vret hx hb hr (fun t ht _ => ⟨⟨none, [(ar, .inl (g.2 2, 8, .inl (flI rw v0 i)))], rfl, ⟨rfl, by rw [show i = 8 by omega]⟩, rfl, by rw [ht]; exact hP⟩, hS.F ht⟩) hS.2.2 dJ7_fill_Z_20
      · have c7 := (not_congr (nI_leI (a := 8) (b := i) (by omega) (by omega))).mp c7
        refine lv_aload_n hx hb dJ7_fill_Z_10 rfl (lv_at hl 2 rfl) ?_
        refine lv_iload_n hx hb dJ7_fill_Z_11 rfl (lv_at hl 0 rfl) ?_
        refine lv_iload_n hx hb dJ7_fill_Z_12 rfl (lv_at hl 3 rfl) ?_
        refine fr_zast (k := i) hx hb hK hP hD hS 0 2 rfl rfl (by omega) (by decide) (bz_v hz) dJ7_fill_Z_13 (fun H locs hP hD hS => ?_)
        have hP : va_P g.1 vwCl [(ar, .inl (g.2 2, 8, .inl (upd (flI rw v0 i) i v0)))] H := hP
        have hD : va_D A [(ar, .inl (g.2 2, 8, .inl (upd (flI rw v0 i) i v0)))] := hD
        refine lv_iinc (v := nI (i + 1)) (lv' := [(2, .int (nI (i + 1))), (3, .int (nI 8)), (0, .ref ar), (1, .int v0)]) hx hb dJ7_fill_Z_14 hl (k := 0) rfl (nI_1 _) (by decide) rfl (fun ls hl => ?_)
        refine lv_goto (tgt := 5) hx hb dJ7_fill_Z_17 (by decide) ?_
        exact ih5 (i + 1) (by omega) (by omega) H locs ls hP hD hS (lv_sub hl [0, 1, 2, 3] rfl)
  exact lp5 _ 0 (Nat.lt_succ_self _) (by decide) H locs ls hP hD hS (lv_sub hl [1, 0, 2, 3] rfl)
