/-! the data of a command are the same -/
theorem lsP_lo {pg : Nat → Int32} {mem : Nat → Int64} {b : Int32} : ∀ {n i : Nat}, i < n → lsP pg mem b n i = (mAt mem (b + nI i)).toInt32
  | 0, i, h => absurd h (Nat.not_lt_zero _)
  | n + 1, i, h => by
    unfold lsP
    by_cases e : i = n
    · subst e; rw [pk_us]
    · rw [pk_un e, lsP_lo (by omega)]
theorem ad_eq {pg : Nat → Int32} {mem : Nat → Int64} {cp cq : Int64} {n k : Nat} (h : lyOk mem cp cq n) (hk : k < n * 8) : adr (nI (pN cp)) (fsN n (pN cp)) (lyP pg mem cp cq n) k = adN mem cp cq n k := by
  have hF : fsN n (pN cp) ≤ n * 8 := Nat.min_le_left _ _
  have hr : rsN n (pN cp) = n * 8 - fsN n (pN cp) := rfl
  have hd : ndN (rsN n (pN cp)) = (rsN n (pN cp) + 15) / 16 := rfl
  unfold adr adN
  by_cases c : k < fsN n (pN cp)
  · rw [if_pos c, if_pos c, nI_add]
  · rw [if_neg c, if_neg c]
    rcases h.2 with q | q | q
    · omega
    · rw [show (k - fsN n (pN cp)) / 16 = 0 by omega, lyP, if_neg (by intro z; rcases z with z | z; exact z h.1; omega), if_neg (by omega), if_pos q.2.2, pgN, if_pos (by omega), show min 0 15 = 0 by decide, pk_us]
    · have h16 : ndN (rsN n (pN cp)) ≤ 16 := by have := q.2.2.1; omega
      rw [lyP, if_neg (by intro z; rcases z with z | z; exact z h.1; omega), if_pos q.1, lstP, if_pos ⟨q.2.1, q.2.2.1⟩, q.2.2.2, Nat.min_eq_left (by omega), lsP_lo (by omega), pgN, if_neg (by omega)]
/-- data read: memory behind them -/
theorem rt_rel {mem : Nat → Int64} {fi : Int32} {F : Nat} {pg : Nat → Int32} {ad : Nat → Int32} {v row : Nat → Int64} {i : Nat} (ha : ∀ k, k < 8 → adr fi F pg (i * 8 + k) = ad (i * 8 + k) ∧ (ad (i * 8 + k)).toNatClampNeg < 1024 ∧ ad (i * 8 + k) = nI (ad (i * 8 + k)).toNatClampNeg) (hv : ∀ k, k < 8 → row k = v (i * 8 + k)) : ∀ k, k ≤ 8 → rtd (rpM mem ad v (i * 8)) fi F pg row i k = rpM mem ad v (i * 8 + k)
  | 0, _ => rfl
  | k + 1, hk => by
    obtain ⟨a1, a2, a3⟩ := ha k (by omega)
    have a4 : mPut (rpM mem ad v (i * 8 + k)) (ad (i * 8 + k)) (v (i * 8 + k)) = vp_updL (rpM mem ad v (i * 8 + k)) (ad (i * 8 + k)).toNatClampNeg (v (i * 8 + k)) := by
      conv => lhs; rw [a3]
      exact mPut_n a2
    rw [rtd, rt_rel ha hv k (by omega), a1, hv k (by omega), a4]
    rfl
theorem rdRow_at {med : Nat → Int64} {cb cb' : Nat → Int32} {ca rw : Nat → Int64} {R : Nat → Nat → Int64} {nc n X i k : Nat} (h : DR (med, cb, ca, nc) (R, cb') n) (hX : X + i < 64) (hk : k < 8) : rdRow med cb ca nc X rw (i + 1) k = R (bof cb' n (X + i)) k := ld_rel h hX hk
theorem rd_rel {med mem : Nat → Int64} {cb cb' : Nat → Int32} {ca rw : Nat → Int64} {R : Nat → Nat → Int64} {nc n X N : Nat} {fi : Int32} {F : Nat} {pg ad : Nat → Int32} (h : DR (med, cb, ca, nc) (R, cb') n) (hX : X + N ≤ 64) (ha : ∀ k, k < N * 8 → adr fi F pg k = ad k ∧ (ad k).toNatClampNeg < 1024 ∧ ad k = nI (ad k).toNatClampNeg) : ∀ i, i ≤ N → rdMem med cb ca nc X rw mem fi F pg i = rpM mem ad (fun k => R (bof cb' n (X + k / 8)) (k % 8)) (i * 8)
  | 0, _ => rfl
  | i + 1, hi => by
    rw [rdMem, rd_rel h hX ha i (by omega), rt_rel (v := fun k => R (bof cb' n (X + k / 8)) (k % 8)) (ad := ad) (fun k hk => ha _ (by omega)) (fun k hk => ?_) 8 (by omega), show (i + 1) * 8 = i * 8 + 8 by omega]
    rw [rdRow_at h (by omega) hk, show (i * 8 + k) / 8 = i by omega, show (i * 8 + k) % 8 = k by omega]
/-- compared -/
theorem cmB_iff {mem : Nat → Int64} {ad : Nat → Nat} {v : Nat → Int64} : ∀ {n : Nat}, cmB mem ad v n = true ↔ ∀ k, k < n → mem (ad k) = v k
  | 0 => ⟨fun _ k hk => absurd hk (Nat.not_lt_zero _), fun _ => rfl⟩
  | n + 1 => by
    unfold cmB
    rw [Bool.and_eq_true, cmB_iff, decide_eq_true_eq]
    refine ⟨fun h k hk => ?_, fun h => ⟨fun k hk => h k (by omega), h n (by omega)⟩⟩
    by_cases e : k = n
    · subst e; exact h.2
    · exact h.1 k (by omega)
theorem eqK_iff {row mem : Nat → Int64} {fi : Int32} {F : Nat} {pg : Nat → Int32} {i : Nat} : ∀ {n : Nat}, eqK row mem fi F pg i n = true ↔ ∀ k, k < n → row k = mAt mem (adr fi F pg (i * 8 + k))
  | 0 => ⟨fun _ k hk => absurd hk (Nat.not_lt_zero _), fun _ => rfl⟩
  | n + 1 => by
    unfold eqK
    rw [Bool.and_eq_true, eqK_iff, decide_eq_true_eq]
    refine ⟨fun h k hk => ?_, fun h => ⟨fun k hk => h k (by omega), h n (by omega)⟩⟩
    by_cases e : k = n
    · subst e; exact h.2
    · exact h.1 k (by omega)
theorem smC_le (σ : CS) : ∀ n, smC σ n ≤ n
  | 0 => Nat.le_refl _
  | n + 1 => by
    unfold smC
    split
    · exact Nat.le_refl _
    · exact Nat.le_succ_of_le (smC_le σ n)
theorem smC_iff {σ : CS} : ∀ {n : Nat}, smC σ n = n ↔ ∀ i, i < n → eqK (rdRow (x_med σ) (x_cb σ) (x_ca σ) (x_nc σ) (pN (x_cx σ)) (x_rw σ) (i + 1)) (x_mem σ) (x_fi σ) (x_F σ) (x_pg σ) i 8 = true
  | 0 => ⟨fun _ k hk => absurd hk (Nat.not_lt_zero _), fun _ => rfl⟩
  | n + 1 => by
    unfold smC
    constructor
    · intro h
      split at h
      · rename_i hc
        intro i hi
        by_cases e : i = n
        · subst e; exact hc.2
        · exact smC_iff.mp hc.1 i (by omega)
      · have := smC_le σ n
        omega
    · intro h
      rw [if_pos ⟨smC_iff.mpr (fun i hi => h i (by omega)), h n (by omega)⟩]
theorem mAt_a {mem : Nat → Int64} {a : Int32} (h1 : a.toNatClampNeg < 1024) (h2 : a = nI a.toNatClampNeg) : mAt mem a = mem a.toNatClampNeg := by
  conv => lhs; rw [h2]
  exact mAt_n h1
theorem sm_rel {σ : CS} {R : Nat → Nat → Int64} {cb' : Nat → Int32} {n : Nat} {ad : Nat → Nat} (h : DR (x_ds σ) (R, cb') n) (hX : pN (x_cx σ) + x_n σ ≤ 64) (ha : ∀ k, k < x_n σ * 8 → mAt (x_mem σ) (adr (x_fi σ) (x_F σ) (x_pg σ) k) = x_mem σ (ad k)) : r_same σ ↔ cmB (x_mem σ) ad (fun k => R (bof cb' n (pN (x_cx σ) + k / 8)) (k % 8)) (x_n σ * 8) = true := by
  show smC σ (x_n σ) = x_n σ ↔ _
  rw [smC_iff, cmB_iff]
  constructor
  · intro hs k hk
    have h1 := eqK_iff.mp (hs (k / 8) (by omega)) (k % 8) (by omega)
    rw [rdRow_at h (by omega) (by omega), show k / 8 * 8 + k % 8 = k by omega, ha k hk] at h1
    exact h1.symm
  · intro hs i hi
    refine eqK_iff.mpr (fun k hk => ?_)
    have h1 := hs (i * 8 + k) (by omega)
    rw [rdRow_at h (by omega) hk, ha _ (by omega), h1, show (i * 8 + k) / 8 = i by omega, show (i * 8 + k) % 8 = k by omega]
/-- stored -/
theorem frw_at {mem : Nat → Int64} {fi : Int32} {F : Nat} {pg : Nat → Int32} {i : Nat} {rw : Nat → Int64} : ∀ {n k : Nat}, k < n → frw mem fi F pg i rw n k = mAt mem (adr fi F pg (i * 8 + k))
  | 0, k, h => absurd h (Nat.not_lt_zero _)
  | n + 1, k, h => by
    unfold frw
    by_cases e : k = n
    · subst e; exact if_pos rfl
    · rw [show vp_updL (frw mem fi F pg i rw n) n _ k = frw mem fi F pg i rw n k from if_neg e, frw_at (by omega)]
theorem onF_at {src : Nat → Int64} {b : Nat} {one : Nat → Int64} : ∀ {n k : Nat}, k < n → onF src b one n k = src (8 * b + k)
  | 0, k, h => absurd h (Nat.not_lt_zero _)
  | n + 1, k, h => by
    unfold onF
    by_cases e : k = n
    · subst e; exact if_pos rfl
    · rw [show vp_updL (onF src b one n) n _ k = onF src b one n k from if_neg e, onF_at (by omega)]
theorem flL_at {rw : Nat → Int64} {x : Int64} : ∀ {n k : Nat}, k < n → flL rw x n k = x
  | 0, k, h => absurd h (Nat.not_lt_zero _)
  | n + 1, k, h => by
    unfold flL
    by_cases e : k = n
    · subst e; exact if_pos rfl
    · rw [show vp_updL (flL rw x n) n _ k = flL rw x n k from if_neg e, flL_at (by omega)]
theorem stF_rel {mem : Nat → Int64} {fi : Int32} {F : Nat} {pg : Nat → Int32} {rw one src : Nat → Int64} {cg : Int32} {X N nc : Nat} {d : DS} {e : RD} (h : DR d e nc) (hI : DI d) (hX : X + N ≤ 64) (ha : ∀ k, k < N * 8 → mAt mem (adr fi F pg k) = src k) : ∀ i, i ≤ N → DR (stF mem fi F pg rw cg X d i) (sbD one src cg X e nc i).1 (sbD one src cg X e nc i).2
  | 0, _ => h
  | i + 1, hi => by
    refine DR_st (stF_rel h hI hX ha i (by omega)) (DI_stF hI (by omega)) (by omega) (fun k hk => ?_)
    show frw mem fi F pg i (rwS mem fi F pg rw i) 8 k = onF src i (sbO one src i) 8 k
    rw [frw_at hk, onF_at hk, ha _ (by omega), show i * 8 + k = 8 * i + k by omega]
theorem stZ_rel {rw one : Nat → Int64} {cg : Int32} {X N nc : Nat} {d : DS} {e : RD} (h : DR d e nc) (hI : DI d) (hX : X + N ≤ 64) : ∀ i, i ≤ N → DR (stZ (flL rw 0 8) cg X d i) (sbD one (fun _ => 0) cg X e nc i).1 (sbD one (fun _ => 0) cg X e nc i).2
  | 0, _ => h
  | i + 1, hi => by
    refine DR_st (stZ_rel h hI hX i (by omega)) (DI_stZ hI (by omega)) (by omega) (fun k hk => ?_)
    show flL rw 0 8 k = onF (fun _ => 0) i (sbO one (fun _ => 0) i) 8 k
    rw [flL_at hk, onF_at hk]
