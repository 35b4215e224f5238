/-! the law's start: the two new objects agree -/
theorem j_0 : Jn (60000 * 0) s_0 r_0 := by
  refine ⟨⟨⟨rfl, rfl, rfl, rfl, rfl, rfl⟩, ⟨rfl, fun k hk => absurd hk (Nat.not_lt_zero _), fun k hk => absurd hk (Nat.not_lt_zero _), fun b _ i _ => rfl⟩, ⟨rfl, rfl, rfl, rfl⟩, Nat.le_refl _, Nat.le_refl _, Nat.le_refl _, Nat.le_refl _⟩, ⟨⟨Nat.zero_le _, fun k hk => absurd hk (Nat.not_lt_zero _)⟩, by decide, Or.inr rfl, by decide⟩, ⟨⟨Nat.zero_le _, fun k hk => absurd hk (Nat.not_lt_zero _), by decide⟩, ⟨fun q _ h => absurd rfl h, fun k _ h => absurd rfl h, fun q _ => Or.inl rfl, fun k _ => Or.inl rfl⟩⟩, fun _ q _ => rfl⟩
theorem law_le {L i : Nat} (hL : L < 2 ^ 30) (hi : 5 * i < 2 ^ 30) (h : ¬ Int32.ofNat L - 5 < nI (5 * i)) : 5 * i + 5 ≤ L := by
  rw [show Int32.ofNat L - 5 = nI L - nI 5 from rfl, Int32.lt_iff_toInt_lt, pk_sub_toInt (by omega) (by omega), nI_toInt (by omega)] at h
  omega
theorem gg_ex {s : State} {args : Array Value} (hts : ∀ w ∈ BW, w.before args s = true) (hN : NWs s) : ∃ g : GG, va_K g.1 vwCl (tyG g) s := by
  obtain ⟨c0, i0, h0⟩ := u_known (C := RX0) (T := TX0) (N := 7) (n := 7) hts inX0 (hts _ tw130)
  obtain ⟨c1, i1, h1⟩ := u_known (C := RX1) (T := TX1) (N := 7) (n := 7) hts inX1 (hts _ tw110)
  obtain ⟨c2, i2, h2⟩ := u_known (C := RX2) (T := TX2) (N := 3) (n := 3) hts inX2 (hts _ tw168)
  obtain ⟨c3, i3, h3⟩ := u_known (C := RX3) (T := TX3) (N := 5) (n := 5) hts inX3 (hts _ tw33)
  obtain ⟨c4, i4, h4⟩ := u_known (C := RX4) (T := TX4) (N := 1) (n := 1) hts inX4 (hts _ tw22)
  obtain ⟨c5, i5, h5⟩ := u_known (C := RX6) (T := TX6) (N := 6) (n := 6) hts inX6 (hts _ tw59)
  obtain ⟨c6, i6, h6⟩ := u_known (C := RX7) (T := TX7) (N := 15) (n := 15) hts inX7 (hts _ tw14)
  obtain ⟨c7, i7, h7⟩ := u_known (C := RX8) (T := TX8) (N := 30) (n := 30) hts inX8 (hts _ tw596)
  obtain ⟨d0, k0, m0, e0, f0, j0⟩ := Cond.arrayClass_spec (hts _ tw31)
  obtain ⟨d1, k1, m1, e1, f1, j1⟩ := Cond.arrayClass_spec (hts _ tw54)
  obtain ⟨d2, k2, m2, e2, f2, j2⟩ := Cond.arrayClass_spec (hts _ tw694)
  obtain ⟨m3, d3, k3, x3, -, f3, j3, e3⟩ := Cond.arrayOver_spec (hN _ nwA3)
  obtain ⟨m4, d4, k4, x4, -, f4, j4, e4⟩ := Cond.arrayOver_spec (hN _ nwA4)
  obtain ⟨m5, d5, k5, x5, -, f5, j5, e5⟩ := arrayOverA_spec (hN _ nwM)
  refine ⟨(((fun k => match k with | 0 => c0 | 1 => c1 | 2 => c2 | 3 => c3 | 4 => c4 | 5 => c5 | 6 => c6 | _ => c7), (fun k => match k with | 0 => i0 | 1 => i1 | 2 => i2 | 3 => i3 | 4 => i4 | 5 => i5 | 6 => i6 | _ => i7)), (fun k => match k with | 0 => d0 | 1 => d1 | 2 => d2 | 3 => d3 | 4 => d4 | _ => d5)), ⟨fun k q hq => ?_, fun k q hq => ?_⟩⟩
  · match k, hq with
    | 0, hq => cases hq; exact h0
    | 1, hq => cases hq; exact h1
    | 2, hq => cases hq; exact h2
    | 3, hq => cases hq; exact h3
    | 4, hq => cases hq; exact h4
    | 5, hq => cases hq; exact h5
    | 6, hq => cases hq; exact h6
    | 7, hq => cases hq; exact h7
    | k + 8, hq => simp [vwCl] at hq
  · match k, hq with
    | 0, hq => cases hq; exact ⟨fun n z => ⟨(fun k h => by cases h), k0, f0, m0, j0⟩, e0⟩
    | 1, hq => cases hq; exact ⟨fun n z => ⟨(fun k h => by cases h), k1, f1, m1, j1⟩, e1⟩
    | 2, hq => cases hq; exact ⟨fun n z => ⟨(fun k h => by cases h), k2, f2, m2, j2⟩, e2⟩
    | 3, hq => cases hq; exact ⟨fun n z => ⟨(fun k h => by cases h), k3, f3, m3, j3⟩, ⟨k3, m3, f3, j3, x3, e3⟩⟩
    | 4, hq => cases hq; exact ⟨fun n z => ⟨(fun k h => by cases h), k4, f4, m4, j4⟩, ⟨k4, m4, f4, j4, x4, e4⟩⟩
    | 5, hq => cases hq; exact ⟨fun n z => ⟨(fun k h => by cases h), k5, f5, m5, j5⟩, e5⟩
    | k + 6, hq => simp [tyG] at hq
