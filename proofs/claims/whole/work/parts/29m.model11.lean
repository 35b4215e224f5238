/-! where the longs of the data are, in words that both programs share -/
def pgN (mem : Nat → Int64) (cq : Int64) (rs i : Nat) : Int64 := if ndN rs = 1 then cq else mAt mem (cq.toInt32 + nI i)
def adN (mem : Nat → Int64) (cp cq : Int64) (n k : Nat) : Int32 := if k < fsN n (pN cp) then nI (pN cp + k) else (pgN mem cq (rsN n (pN cp)) ((k - fsN n (pN cp)) / 16)).toInt32 + nI ((k - fsN n (pN cp)) % 16)
theorem upd_ext {s g : Nat → Int32} {k : Nat} {v : Int32} (h : ∀ t, t < k → s t = g t) (hv : v = g k) : ∀ t, t < k + 1 → upd s k v t = g t := fun t ht => by
  by_cases e : t = k
  · rw [e, pk_us, hv]
  · rw [pk_un e]; exact h t (by omega)
theorem mAt_n {mem : Nat → Int64} {k : Nat} (h : k < 1024) : mAt mem (nI k) = mem k := by
  have e : (nI k).toInt64 = lN k := nI_l (by omega)
  rw [mAt, if_pos, nI_clamp (by omega)]
  rw [e]
  refine ⟨fun q => ?_, fun q => ?_⟩
  · rw [show (0 : Int64) = lN 0 from rfl, pk_lLT (by omega) (by omega)] at q; omega
  · rw [show (1024 : Int64) = lN 1024 from rfl, pk_lLE (by omega) (by omega)] at q; omega
theorem mPut_n {mem : Nat → Int64} {k : Nat} {v : Int64} (h : k < 1024) : mPut mem (nI k) v = vp_updL mem k v := by
  have e : (nI k).toInt64 = lN k := nI_l (by omega)
  rw [mPut, if_pos, nI_clamp (by omega)]
  rw [e]
  refine ⟨fun q => ?_, fun q => ?_⟩
  · rw [show (0 : Int64) = lN 0 from rfl, pk_lLT (by omega) (by omega)] at q; omega
  · rw [show (1024 : Int64) = lN 1024 from rfl, pk_lLE (by omega) (by omega)] at q; omega
theorem lsC_all {mem : Nat → Int64} {b : Int32} : ∀ {n : Nat}, (∀ i, i < n → hpg (mAt mem (b + nI i))) → lsC mem b n = n
  | 0, _ => rfl
  | n + 1, h => lsC_go (lsC_all (fun i hi => h i (by omega))) (h n (by omega))
theorem lsC_inv {mem : Nat → Int64} {b : Int32} : ∀ {n : Nat}, lsC mem b n = n → ∀ i, i < n → hpg (mAt mem (b + nI i))
  | 0, _, i, hi => absurd hi (Nat.not_lt_zero _)
  | n + 1, h, i, hi => by
    unfold lsC at h
    split at h
    · rename_i hc
      by_cases e : i = n
      · subst e; exact hc.2
      · exact lsC_inv hc.1 i (by omega)
    · have := lsC_le mem b n
      omega
theorem fsN_stop {n P k : Nat} (hk : k ≤ fsN n P) (h : n * 8 ≤ k ∨ (¬ k = 0 ∧ (P + k) % 16 = 0)) : k = fsN n P := by
  unfold fsN at *
  have h1 := Nat.min_le_left (n * 8) (16 - P % 16)
  have h2 := Nat.min_le_right (n * 8) (16 - P % 16)
  rcases h with h | ⟨h, h3⟩
  · omega
  · have h4 : 16 - P % 16 ≤ k := by omega
    omega
theorem fsN_go {n P k : Nat} (hk : k ≤ fsN n P) (h1 : ¬ n * 8 ≤ k) (h : k = 0 ∨ ¬ (P + k) % 16 = 0) : k + 1 ≤ fsN n P := by
  unfold fsN at *
  have h5 := Nat.min_le_right (n * 8) (16 - P % 16)
  refine Nat.le_min.mpr ⟨by omega, ?_⟩
  rcases h with h | h
  · omega
  · by_cases e : k = 16 - P % 16
    · exfalso; apply h; omega
    · omega
theorem lrem16 {a : Nat} (h : a < 2 ^ 31) : lN a - lN a / 16 * 16 = lN (a % 16) := pk_lRem (b := 16) (by omega) (by decide) (by decide)
theorem lN_0 {a : Nat} (h : a < 2 ^ 31) : lN a = 0 ↔ a = 0 := lN_eq (b := 0) h (by decide)
theorem lN_16 {a : Nat} (h : a < 2 ^ 31) : lN a ≤ 16 ↔ a ≤ 16 := lN_le (b := 16) h (by decide)
theorem adN_lo {mem : Nat → Int64} {cp cq : Int64} {n k : Nat} (h : k < fsN n (pN cp)) : nI (pN cp + k) = adN mem cp cq n k := by rw [adN, if_pos h]
theorem adN_hi {mem : Nat → Int64} {cp cq : Int64} {n i j : Nat} (hj : j < 16) : (pgN mem cq (rsN n (pN cp)) i).toInt32 + nI j = adN mem cp cq n (fsN n (pN cp) + (16 * i + j)) := by
  rw [adN, if_neg (by omega), show fsN n (pN cp) + (16 * i + j) - fsN n (pN cp) = 16 * i + j by omega, show (16 * i + j) / 16 = i by omega, show (16 * i + j) % 16 = j by omega]
theorem ly_no {mem : Nat → Int64} {cp cq : Int64} {n i : Nat} (hi : i < ndN (rsN n (pN cp))) (h : ¬ hpg (pgN mem cq (rsN n (pN cp)) i)) : ¬ lyOk mem cp cq n := fun q => by
  have hd : ndN (rsN n (pN cp)) = (rsN n (pN cp) + 15) / 16 := rfl
  rcases q.2 with q | q | q
  · omega
  · rw [pgN, if_pos (by omega)] at h; exact h q.2.2
  · rw [pgN, if_neg (by omega)] at h; exact h (lsC_inv q.2.2.2 i hi)
theorem ly_yes {mem : Nat → Int64} {cp cq : Int64} {n : Nat} (hp : hol cp) (h0 : ¬ ndN (rsN n (pN cp)) = 0) (hl : 1 < ndN (rsN n (pN cp)) → hol cq ∧ ¬ 16 < pN cq % 16 + ndN (rsN n (pN cp))) (h : ∀ i, i < ndN (rsN n (pN cp)) → hpg (pgN mem cq (rsN n (pN cp)) i)) : lyOk mem cp cq n := by
  have hd : ndN (rsN n (pN cp)) = (rsN n (pN cp) + 15) / 16 := rfl
  refine ⟨hp, ?_⟩
  by_cases h1 : ndN (rsN n (pN cp)) = 1
  · refine Or.inr (Or.inl ⟨by omega, by omega, ?_⟩)
    have := h 0 (by omega)
    rw [pgN, if_pos h1] at this
    exact this
  · refine Or.inr (Or.inr ⟨by omega, (hl (by omega)).1, (hl (by omega)).2, lsC_all (fun i hi => ?_)⟩)
    have := h i hi
    rw [pgN, if_neg h1] at this
    exact this
theorem ly_big {mem : Nat → Int64} {cp cq : Int64} {n : Nat} (h0 : ¬ ndN (rsN n (pN cp)) = 0) (h1 : ¬ ndN (rsN n (pN cp)) ≤ 1) (h : ¬ (hol cq ∧ ¬ 16 < pN cq % 16 + ndN (rsN n (pN cp)))) : ¬ lyOk mem cp cq n := fun q => by
  have hd : ndN (rsN n (pN cp)) = (rsN n (pN cp) + 15) / 16 := rfl
  rcases q.2 with q | q | q
  · omega
  · omega
  · exact h ⟨q.2.1, q.2.2.1⟩
theorem pg_at {mem : Nat → Int64} {cq : Int64} {rs i : Nat} (h1 : ¬ ndN rs = 1) (hq : pN cq < 1024 ∧ cq.toInt32 = nI (pN cq) ∧ cq = lN (pN cq)) (h : pN cq + i < 1024) : mem (pN cq + i) = pgN mem cq rs i := by
  rw [pgN, if_neg h1, hq.2.1, nI_add, mAt_n h]
theorem lrem_q {x : Int64} {q : Nat} (e : x = lN q) (h : q < 2 ^ 31) : x - x / 16 * 16 = lN (q % 16) := by subst e; exact lrem16 h
