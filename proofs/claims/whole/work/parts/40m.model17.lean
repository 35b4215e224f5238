/-! the two disks hold the same -/
def DR (d : DS) (e : RD) (n : Nat) : Prop := d.2.2.2 = n ∧ (∀ k, k < n → d.2.1 k = e.2 k) ∧ (∀ k, k < n → ∀ i, i < 8 → d.2.2.1 (k * 8 + i) = e.1 (64 + k) i) ∧ ∀ b, b < 64 → ∀ i, i < 8 → d.1 (b * 8 + i) = e.1 b i
theorem fnd_cong {cb cb' : Nat → Int32} {b : Int32} : ∀ {n : Nat}, (∀ k, k < n → cb k = cb' k) → fnd cb b n = fnd cb' b n
  | 0, _ => rfl
  | n + 1, h => by
    unfold fnd
    rw [fnd_cong (fun k hk => h k (by omega)), h n (by omega)]
theorem gsR_lo {R : Nat → Nat → Int64} : ∀ {n r : Nat}, r < 64 → gsR R n r = R r
  | 0, r, _ => rfl
  | n + 1, r, h => by
    unfold gsR
    rw [va_up_ne _ _ (by omega), gsR_lo h]
theorem gsR_hi {R : Nat → Nat → Int64} : ∀ {n k : Nat}, n ≤ k → gsR R n (64 + k) = R (64 + k)
  | 0, k, _ => rfl
  | n + 1, k, h => by
    unfold gsR
    rw [va_up_ne _ _ (by omega), gsR_hi (by omega)]
theorem gsR_sh {R : Nat → Nat → Int64} : ∀ {n k i : Nat}, k < n → i < 8 → gsR R n (64 + k) i = R (64 + (k + 1)) i
  | 0, k, i, h, _ => absurd h (Nat.not_lt_zero _)
  | n + 1, k, i, h, hi => by
    unfold gsR
    by_cases e : k = n
    · subst e
      rw [va_up_self, pk_cpy_in (by omega) (by omega), Nat.zero_add, Nat.sub_zero, gsR_hi (by omega)]
    · rw [va_up_ne _ _ (by omega), gsR_sh (by omega) hi]
theorem cp8 {f h : Nat → Int64} {i : Nat} (hi : i < 8) : va_cpy f h 0 0 8 i = f i := by rw [pk_cpy_in (by omega) (by omega), Nat.zero_add, Nat.sub_zero]
theorem cpx {f h : Nat → Int64} {s k i : Nat} (hi : i < 8) : va_cpy f h s (k * 8) 8 (k * 8 + i) = f (s + i) := by rw [pk_cpy_in (by omega) (by omega), show k * 8 + i - k * 8 = i by omega]
theorem cpn {f h : Nat → Int64} {s k b i : Nat} (e : b ≠ k) (hi : i < 8) : va_cpy f h s (k * 8) 8 (b * 8 + i) = h (b * 8 + i) := by rw [pk_cpy_out (by omega)]
/-- a row written to the medium -/
theorem med_up {med rw one : Nat → Int64} {R : Nat → Nat → Int64} {j : Nat} (h : ∀ b, b < 64 → ∀ i, i < 8 → med (b * 8 + i) = R b i) (hr : ∀ i, i < 8 → rw i = one i) : ∀ b, b < 64 → ∀ i, i < 8 → va_cpy rw med 0 (j * 8) 8 (b * 8 + i) = va_up R j (va_cpy one (R j) 0 0 8) b i := by
  intro b hb i hi
  by_cases e : b = j
  · subst e; rw [cpx hi, va_up_self, cp8 hi, Nat.zero_add]; exact hr i hi
  · rw [cpn e hi, va_up_ne _ _ e]; exact h b hb i hi
theorem ca_up {ca rw one : Nat → Int64} {R : Nat → Nat → Int64} {n j : Nat} (h : ∀ k, k < n → k ≠ j → ∀ i, i < 8 → ca (k * 8 + i) = R (64 + k) i) (hr : ∀ i, i < 8 → rw i = one i) : ∀ k, k < n → ∀ i, i < 8 → va_cpy rw ca 0 (j * 8) 8 (k * 8 + i) = va_up R (64 + j) (va_cpy one (R (64 + j)) 0 0 8) (64 + k) i := by
  intro b hb i hi
  by_cases e : b = j
  · subst e; rw [cpx hi, va_up_self, cp8 hi, Nat.zero_add]; exact hr i hi
  · rw [cpn e hi, va_up_ne _ _ (by omega)]; exact h b hb e i hi
theorem DR_st {rw one : Nat → Int64} {cg : Int32} {d : DS} {e : RD} {n j : Nat} (h : DR d e n) (hI : DI d) (hj : j < 64) (hr : ∀ i, i < 8 → rw i = one i) : DR (st1 rw cg d j) (stU one cg e n j) (stV cg e.2 n j) := by
  obtain ⟨med, cb, ca, nc⟩ := d
  obtain ⟨R, cb'⟩ := e
  obtain ⟨h0, h1, h2, h3⟩ := h
  obtain ⟨i1, i2⟩ := hI
  simp only at h0 h1 h2 h3 i1 i2
  subst h0
  unfold DR st1 stU stV stM stB stA stN
  simp only
  by_cases hc : cg = 0
  · simp only [if_pos hc]
    refine ⟨trivial, h1, fun k hk i hi => ?_, med_up h3 hr⟩
    rw [va_up_ne _ _ (by omega)]; exact h2 k hk i hi
  · simp only [if_neg hc]
    rw [fnd_cong h1]
    cases hf : fnd cb' (nI j) nc with
    | some k =>
      have hk := fnd_lt hf
      simp only
      refine ⟨trivial, h1, ca_up (fun q hq _ i hi => h2 q hq i hi) hr, fun b hb i hi => ?_⟩
      rw [va_up_ne _ _ (by omega)]; exact h3 b hb i hi
    | none =>
      simp only
      by_cases h6 : nc = 6
      · subst h6
        obtain ⟨c0, hc0, e0⟩ := i2 0 (by omega)
        have ec : cb' 0 = nI c0 := by rw [← h1 0 (by omega)]; exact e0
        have eu : (upd cb' 6 (nI j) 0).toNatClampNeg = c0 := by rw [pk_un (by omega), ec, nI_clamp (by omega)]
        have el : (cb 0).toNatClampNeg = c0 := by rw [e0, nI_clamp (by omega)]
        unfold evM evB evA evN gvU
        simp only [if_pos, Nat.lt_add_one, eu, el]
        refine ⟨trivial, fun k hk => ?_, fun k hk i hi => ?_, fun b hb i hi => ?_⟩
        · rw [gsB_lo hk]
          by_cases e5 : k = 5
          · subst e5; rw [pk_us, pk_us]
          · rw [pk_un e5, pk_un (by omega), pk_cpy_in (by omega) (by omega), show 1 + (k - 0) = k + 1 by omega]
            exact h1 _ (by omega)
        · rw [gsR_sh hk hi, va_up_ne _ _ (by omega)]
          by_cases e5 : k = 5
          · subst e5; rw [va_up_self, cp8 hi, show 5 * 8 + i = 5 * 8 + i from rfl, pk_cpy_in (by omega) (by omega), show 0 + (5 * 8 + i - 5 * 8) = i by omega]
            exact hr i hi
          · rw [va_up_ne _ _ (by omega), pk_cpy_out (by omega), pk_cpy_in (by omega) (by omega), show 8 + (k * 8 + i - 0) = (k + 1) * 8 + i by omega]
            exact h2 _ (by omega) i hi
        · rw [gsR_lo hb]
          by_cases eb : b = c0
          · subst eb; rw [va_up_self, cp8 hi, va_up_ne _ _ (by omega), cpx hi]
            exact h2 0 (by omega) i hi
          · rw [va_up_ne _ _ eb, va_up_ne _ _ (by omega), cpn eb hi]
            exact h3 b hb i hi
      · unfold evM evB evA evN
        simp only [if_neg h6, if_neg (show ¬ 6 < nc + 1 by omega)]
        refine ⟨trivial, fun k hk => ?_, ca_up (fun q hq hne i hi => h2 q (by omega) i hi) hr, fun b hb i hi => ?_⟩
        · by_cases e5 : k = nc
          · subst e5; rw [pk_us, pk_us]
          · rw [pk_un e5, pk_un e5]; exact h1 k (by omega)
        · rw [va_up_ne _ _ (by omega)]; exact h3 b hb i hi
theorem flM_front {cb : Nat → Int32} {ca med : Nat → Int64} : ∀ {n : Nat}, flM cb ca med (n + 1) = flM (fun k => cb (k + 1)) (fun x => ca (x + 8)) (va_cpy ca med 0 ((cb 0).toNatClampNeg * 8) 8) n
  | 0 => by
    show va_cpy ca med (0 * 8) _ 8 = _
    rw [Nat.zero_mul]
    rfl
  | n + 1 => by
    conv => lhs; unfold flM
    rw [flM_front]
    show _ = va_cpy (fun x => ca (x + 8)) _ (n * 8) _ 8
    funext x
    unfold va_cpy
    split
    · show ca ((n + 1) * 8 + (x - (cb (n + 1)).toNatClampNeg * 8)) = ca (n * 8 + (x - (cb (n + 1)).toNatClampNeg * 8) + 8)
      congr 1
      omega
    · rfl
theorem fl_rel : ∀ {n : Nat} {cb : Nat → Int32} {ca med : Nat → Int64} {e : RD}, (∀ k, k < n → cb k = e.2 k) → (∀ k, k < n → ∀ i, i < 8 → ca (k * 8 + i) = e.1 (64 + k) i) → (∀ b, b < 64 → ∀ i, i < 8 → med (b * 8 + i) = e.1 b i) → RI e n → ∀ b, b < 64 → ∀ i, i < 8 → flM cb ca med n (b * 8 + i) = (flU n e).1 b i
  | 0, cb, ca, med, e, _, _, h3, _ => h3
  | n + 1, cb, ca, med, e, h1, h2, h3, hR => by
    intro b hb i hi
    rw [flM_front]
    show _ = (flU n (gvU e n)).1 b i
    obtain ⟨c0, hc0, e0⟩ := hR 0 (by omega)
    have el : (cb 0).toNatClampNeg = c0 := by rw [h1 0 (by omega), e0, nI_clamp (by omega)]
    have er : (e.2 0).toNatClampNeg = c0 := by rw [e0, nI_clamp (by omega)]
    refine fl_rel (fun k hk => ?_) (fun k hk q hq => ?_) (fun r hr q hq => ?_) (RI_gv hR) b hb i hi
    · show cb (k + 1) = gsB e.2 n k
      rw [gsB_lo hk]; exact h1 _ (by omega)
    · show ca (k * 8 + q + 8) = gsR (va_up e.1 (e.2 0).toNatClampNeg _) n (64 + k) q
      rw [gsR_sh hk hq, er, va_up_ne _ _ (by omega), show k * 8 + q + 8 = (k + 1) * 8 + q by omega]
      exact h2 _ (by omega) q hq
    · show _ = gsR (va_up e.1 (e.2 0).toNatClampNeg (va_cpy (e.1 (64 + 0)) (e.1 (e.2 0).toNatClampNeg) 0 0 8)) n r q
      rw [gsR_lo hr, el, er]
      by_cases eb : r = c0
      · subst eb; rw [va_up_self, cp8 hq, cpx hq]; exact h2 0 (by omega) q hq
      · rw [va_up_ne _ _ eb, cpn eb hq]; exact h3 r hr q hq
theorem DR_fl {cb : Nat → Int32} {ca med : Nat → Int64} {nc n : Nat} {e : RD} (h : DR (med, cb, ca, nc) e n) (hR : RI e n) : DR (flM cb ca med nc, cb, ca, 0) (flU n e) 0 := by
  obtain ⟨h0, h1, h2, h3⟩ := h
  simp only at h0 h1 h2 h3
  subst h0
  exact ⟨rfl, fun k hk => absurd hk (Nat.not_lt_zero _), fun k hk => absurd hk (Nat.not_lt_zero _), fl_rel h1 h2 h3 hR⟩
/-- a row as it is read is the same -/
theorem ld_rel {cb cb' : Nat → Int32} {ca med rw : Nat → Int64} {R : Nat → Nat → Int64} {nc n j i : Nat} (h : DR (med, cb, ca, nc) (R, cb') n) (hj : j < 64) (hi : i < 8) : ldR med cb ca nc rw j i = R (bof cb' n j) i := by
  obtain ⟨h0, h1, h2, h3⟩ := h
  simp only at h0 h1 h2 h3
  subst h0
  unfold ldR bof
  rw [fnd_cong h1]
  cases hf : fnd cb' (nI j) nc with
  | some k =>
    have hk := fnd_lt hf
    simp only
    rw [pk_cpy_in (by omega) (by omega), show k * 8 + (i - 0) = k * 8 + i by omega]
    exact h2 k hk i hi
  | none =>
    simp only
    rw [pk_cpy_in (by omega) (by omega), show j * 8 + (i - 0) = j * 8 + i by omega]
    exact h3 j hj i hi
