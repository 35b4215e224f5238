/-! the drive's ops over the whole state -/
theorem bes_n {x : Int64} (h : bes x) : 1 ≤ pN x ∧ pN x < 4 ∧ x.toInt32 = nI (pN x) ∧ x = lN (pN x) := by
  have h0 : ¬ x < 0 := fun q => h.1 (by
    rw [Int64.lt_iff_toInt_lt] at q ⊢
    have e0 : (0 : Int64).toInt = 0 := by decide
    have e1 : (1 : Int64).toInt = 1 := by decide
    rw [e0] at q
    rw [e1]
    omega)
  obtain ⟨h1, h2, h3⟩ := q4_n h0 h.2
  refine ⟨?_, h1, h2, h3⟩
  have h4 := h.1
  rw [h3, show (1 : Int64) = lN 1 from rfl, pk_lLT (by omega) (by omega)] at h4
  omega
abbrev mcO (σ : CS) : Prop := bes (x_cp σ) ∧ ¬ hasC (x_T σ) (x_cp σ) ∧ fitR (x_cq σ) (x_cx σ) 1
def g_mc (σ : CS) : CS := if mcO σ then s_T σ (mkC (x_T σ) (pN (x_cp σ)) (x_cq σ).toInt32 (x_cx σ).toInt32 (x_fg σ)) else σ
def r_mc (σ : CS) : Int32 := if mcO σ then 0 else 2
abbrev msO (σ : CS) : Prop := bes (x_cp σ) ∧ ¬ hasS (x_T σ) (x_cp σ) ∧ fitR (x_cq σ) (x_cx σ) 4 ∧ bes (nI (x_n σ - 1)).toInt64 ∧ hasC (x_T σ) (nI (x_n σ - 1)).toInt64
def g_ms (σ : CS) : CS := if msO σ then s_T σ (mkS (x_T σ) (pN (x_cp σ)) (x_cq σ).toInt32 (x_cx σ).toInt32 (nI (x_n σ - 1))) else σ
def r_ms (σ : CS) : Int32 := if msO σ then 0 else 2
abbrev dcO (σ : CS) : Prop := bes (x_cp σ) ∧ hasC (x_T σ) (x_cp σ) ∧ ¬ ansB (x_T σ) (x_cp σ) 4 = true
def g_dc (σ : CS) : CS := if dcO σ then s_T σ (up2 (x_T σ) 0 (4 + pN (x_cp σ)) 0) else σ
def r_dc (σ : CS) : Int32 := if dcO σ then 0 else 2
abbrev dsO (σ : CS) : Prop := bes (x_cp σ) ∧ hasS (x_T σ) (x_cp σ)
def g_ds (σ : CS) : CS := if dsO σ then s_T σ (up2 (x_T σ) 0 (pN (x_cp σ)) 0) else σ
def r_ds (σ : CS) : Int32 := if dsO σ then 0 else 2
def g_sc (σ : CS) : CS := if x_cp σ = 0 then s_cg (s_nc (s_med (s_re σ (if x_cg σ = 0 then 0 else 1)) (flM (x_cb σ) (x_ca σ) (x_med σ) (x_nc σ))) 0) 0 else if x_cp σ = 1 then s_cg (s_re σ (if x_cg σ = 0 then 0 else 1)) 1 else σ
def r_sc (σ : CS) : Int32 := if x_cp σ = 0 then 0 else if x_cp σ = 1 then 0 else 2
/-- eight longs of a row laid into memory, as block i of the data -/
def rtd (mem : Nat → Int64) (fi : Int32) (F : Nat) (pg : Nat → Int32) (rw : Nat → Int64) (i : Nat) : Nat → Nat → Int64
  | 0 => mem
  | k + 1 => mPut (rtd mem fi F pg rw i k) (adr fi F pg (i * 8 + k)) (rw k)
def g_row (σ : CS) (i : Nat) : CS := s_mem σ (rtd (x_mem σ) (x_fi σ) (x_F σ) (x_pg σ) (x_rw σ) i 8)
def g_ly (σ : CS) : CS := s_pg (s_F (s_fi σ (if hol (x_cp σ) then nI (pN (x_cp σ)) else x_fi σ)) (if hol (x_cp σ) then fsN (x_n σ) (pN (x_cp σ)) else x_F σ)) (lyP (x_pg σ) (x_mem σ) (x_cp σ) (x_cq σ) (x_n σ))
def tldR (σ : CS) : Nat → Int64 := vp_updL (vp_updL (vp_updL (vp_updL (vp_updL (flL (x_rw σ) 0 8) 0 64) 1 (nI (x_dw σ)).toInt64) 2 (nI (x_dq σ)).toInt64) 3 (nI (x_br σ)).toInt64) 4 (nI (x_bs σ)).toInt64
def g_rp (σ : CS) : CS := if x_n σ = 1 then (if lyOk (x_mem σ) (x_cp σ) (x_cq σ) (x_n σ) then g_row (s_rw (g_ly σ) (tldR σ)) 0 else g_ly σ) else σ
def r_rp (σ : CS) : Int32 := if x_n σ = 1 then (if lyOk (x_mem σ) (x_cp σ) (x_cq σ) (x_n σ) then 0 else 4) else 2
/-- the row and the memory behind i blocks read to the data -/
def rdRow (med : Nat → Int64) (cb : Nat → Int32) (ca : Nat → Int64) (nc X : Nat) (rw : Nat → Int64) : Nat → Nat → Int64
  | 0 => rw
  | i + 1 => ldR med cb ca nc (rdRow med cb ca nc X rw i) (X + i)
def rdMem (med : Nat → Int64) (cb : Nat → Int32) (ca : Nat → Int64) (nc X : Nat) (rw mem : Nat → Int64) (fi : Int32) (F : Nat) (pg : Nat → Int32) : Nat → Nat → Int64
  | 0 => mem
  | i + 1 => rtd (rdMem med cb ca nc X rw mem fi F pg i) fi F pg (rdRow med cb ca nc X rw (i + 1)) i 8
def rdS (σ : CS) (i : Nat) : CS := s_rw (s_mem σ (rdMem (x_med σ) (x_cb σ) (x_ca σ) (x_nc σ) (pN (x_cx σ)) (x_rw σ) (x_mem σ) (x_fi σ) (x_F σ) (x_pg σ) i)) (rdRow (x_med σ) (x_cb σ) (x_ca σ) (x_nc σ) (pN (x_cx σ)) (x_rw σ) i)
def g_read (σ : CS) : CS := s_br (rdS σ (x_n σ)) (x_br σ + x_n σ)
def g_end (σ : CS) : CS := if x_fg σ = 0 then s_bs σ (x_bs σ + x_n σ) else s_nc (s_med (s_bs σ (x_bs σ + x_n σ)) (flM (x_cb σ) (x_ca σ) (x_med σ) (x_nc σ))) 0
/-- the disk: medium, blocks in the cache, their longs, how many -/
abbrev DS : Type := (Nat → Int64) × (Nat → Int32) × (Nat → Int64) × Nat
def s_ds (σ : CS) (d : DS) : CS := s_nc (s_ca (s_cb (s_med σ d.1) d.2.1) d.2.2.1) d.2.2.2
abbrev x_ds (σ : CS) : DS := (x_med σ, x_cb σ, x_ca σ, x_nc σ)
def st1 (rw : Nat → Int64) (cg : Int32) (d : DS) (j : Nat) : DS := (stM rw d.1 d.2.1 d.2.2.1 d.2.2.2 cg j, stB d.2.1 d.2.2.2 cg j, stA rw d.2.1 d.2.2.1 d.2.2.2 cg j, stN d.2.1 d.2.2.2 cg j)
def DI (d : DS) : Prop := d.2.2.2 ≤ 6 ∧ ∀ k, k < d.2.2.2 → ∃ j : Nat, j < 64 ∧ d.2.1 k = nI j
theorem DI_st {rw : Nat → Int64} {cg : Int32} {d : DS} {j : Nat} (h : DI d) (hj : j < 64) : DI (st1 rw cg d j) := by
  obtain ⟨med, cb, ca, nc⟩ := d
  obtain ⟨h1, h2⟩ := h
  simp only at h1 h2
  unfold DI st1
  simp only
  by_cases hc : cg = 0
  · simp only [stN, stB, if_pos hc]
    exact ⟨h1, h2⟩
  · cases hf : fnd cb (nI j) nc with
    | some k =>
      simp only [stN, stB, if_neg hc, hf]
      exact ⟨h1, h2⟩
    | none =>
      simp only [stN, stB, if_neg hc, hf]
      have he := evN_le h1
      refine ⟨by omega, fun k hk => ?_⟩
      by_cases e : k = evN nc
      · exact ⟨j, hj, by simp [upd, e]⟩
      · simp only [upd, if_neg e]
        unfold evB
        by_cases h6 : nc = 6
        · rw [if_pos h6]
          unfold evN at e hk
          rw [if_pos h6] at e hk
          rw [pk_cpy_in (by omega) (by omega)]
          exact h2 _ (by omega)
        · rw [if_neg h6]
          unfold evN at e hk
          rw [if_neg h6] at e hk
          exact h2 k (by omega)
def stZ (rw : Nat → Int64) (cg : Int32) (X : Nat) (d : DS) : Nat → DS
  | 0 => d
  | i + 1 => st1 rw cg (stZ rw cg X d i) (X + i)
def g_zero (σ : CS) : CS := g_end (s_ds (s_rw σ (flL (x_rw σ) 0 8)) (stZ (flL (x_rw σ) 0 8) (x_cg σ) (pN (x_cx σ)) (x_ds σ) (x_n σ)))
/-- a row filled with block i of the data -/
def frw (mem : Nat → Int64) (fi : Int32) (F : Nat) (pg : Nat → Int32) (i : Nat) (rw : Nat → Int64) : Nat → Nat → Int64
  | 0 => rw
  | k + 1 => vp_updL (frw mem fi F pg i rw k) k (mAt mem (adr fi F pg (i * 8 + k)))
def rwS (mem : Nat → Int64) (fi : Int32) (F : Nat) (pg : Nat → Int32) (rw : Nat → Int64) : Nat → Nat → Int64
  | 0 => rw
  | i + 1 => frw mem fi F pg i (rwS mem fi F pg rw i) 8
def stF (mem : Nat → Int64) (fi : Int32) (F : Nat) (pg : Nat → Int32) (rw : Nat → Int64) (cg : Int32) (X : Nat) (d : DS) : Nat → DS
  | 0 => d
  | i + 1 => st1 (rwS mem fi F pg rw (i + 1)) cg (stF mem fi F pg rw cg X d i) (X + i)
theorem DI_stZ {rw : Nat → Int64} {cg : Int32} {X : Nat} {d : DS} (h : DI d) : ∀ {i : Nat}, X + i ≤ 64 → DI (stZ rw cg X d i)
  | 0, _ => h
  | i + 1, hi => DI_st (DI_stZ h (by omega)) (by omega)
theorem DI_stF {mem : Nat → Int64} {fi : Int32} {F : Nat} {pg : Nat → Int32} {rw : Nat → Int64} {cg : Int32} {X : Nat} {d : DS} (h : DI d) : ∀ {i : Nat}, X + i ≤ 64 → DI (stF mem fi F pg rw cg X d i)
  | 0, _ => h
  | i + 1, hi => DI_st (DI_stF h (by omega)) (by omega)
def sfS (σ : CS) (i : Nat) : CS := s_ds (s_rw σ (rwS (x_mem σ) (x_fi σ) (x_F σ) (x_pg σ) (x_rw σ) i)) (stF (x_mem σ) (x_fi σ) (x_F σ) (x_pg σ) (x_rw σ) (x_cg σ) (pN (x_cx σ)) (x_ds σ) i)
def g_store (σ : CS) : CS := g_end (sfS σ (x_n σ))
/-- the first k longs of a row are those of block i of the data -/
def eqK (row mem : Nat → Int64) (fi : Int32) (F : Nat) (pg : Nat → Int32) (i : Nat) : Nat → Bool
  | 0 => true
  | k + 1 => eqK row mem fi F pg i k && decide (row k = mAt mem (adr fi F pg (i * 8 + k)))
def smC (σ : CS) : Nat → Nat
  | 0 => 0
  | i + 1 => if smC σ i = i ∧ eqK (rdRow (x_med σ) (x_cb σ) (x_ca σ) (x_nc σ) (pN (x_cx σ)) (x_rw σ) (i + 1)) (x_mem σ) (x_fi σ) (x_F σ) (x_pg σ) i 8 = true then i + 1 else smC σ i
abbrev r_same (σ : CS) : Prop := smC σ (x_n σ) = x_n σ
def g_same (σ : CS) : CS := s_rw σ (rdRow (x_med σ) (x_cb σ) (x_ca σ) (x_nc σ) (pN (x_cx σ)) (x_rw σ) (if r_same σ then x_n σ else smC σ (x_n σ) + 1))
theorem eqK_no {row mem : Nat → Int64} {fi : Int32} {F : Nat} {pg : Nat → Int32} {i k : Nat} (hk : ¬ row k = mAt mem (adr fi F pg (i * 8 + k))) : ∀ {n : Nat}, k < n → eqK row mem fi F pg i n = false
  | 0, h => absurd h (Nat.not_lt_zero _)
  | n + 1, h => by
    unfold eqK
    by_cases e : k = n
    · subst e; simp [hk]
    · rw [eqK_no hk (n := n) (by omega)]; rfl
theorem eqK_go {row mem : Nat → Int64} {fi : Int32} {F : Nat} {pg : Nat → Int32} {i k : Nat} (h : eqK row mem fi F pg i k = true) (hk : row k = mAt mem (adr fi F pg (i * 8 + k))) : eqK row mem fi F pg i (k + 1) = true := by
  unfold eqK; rw [h]; simp [hk]
theorem smC_go {σ : CS} {i : Nat} (h : smC σ i = i) (hk : eqK (rdRow (x_med σ) (x_cb σ) (x_ca σ) (x_nc σ) (pN (x_cx σ)) (x_rw σ) (i + 1)) (x_mem σ) (x_fi σ) (x_F σ) (x_pg σ) i 8 = true) : smC σ (i + 1) = i + 1 := by
  rw [smC, if_pos ⟨h, hk⟩]
theorem smC_stop {σ : CS} {i : Nat} (h : smC σ i = i) (hk : eqK (rdRow (x_med σ) (x_cb σ) (x_ca σ) (x_nc σ) (pN (x_cx σ)) (x_rw σ) (i + 1)) (x_mem σ) (x_fi σ) (x_F σ) (x_pg σ) i 8 = false) : ∀ {n : Nat}, i < n → smC σ n = i
  | 0, hn => absurd hn (Nat.not_lt_zero _)
  | n + 1, hn => by
    by_cases e : i = n
    · subst e
      rw [smC, if_neg (fun q => by rw [hk] at q; exact absurd q.2 (by decide))]
      exact h
    · have h2 : smC σ n = i := smC_stop h hk (by omega)
      rw [smC, if_neg (fun q => by have := q.1; omega)]
      exact h2
def g_st (σ : CS) (x : Int64) : CS := s_F (s_fi σ x.toInt32) (x_n σ * 8)
def g_caw (σ : CS) : CS := if r_same (g_st σ (x_cp σ)) then g_store (g_st (g_same (g_st σ (x_cp σ))) (x_cq σ)) else g_same (g_st σ (x_cp σ))
def r_caw (σ : CS) : Int32 := if r_same (g_st σ (x_cp σ)) then 0 else 5
abbrev fstO (x : Int64) (n : Nat) : Prop := hpg x ∧ ¬ 1024 < x + (nI (n * 8)).toInt64
abbrev blO (σ : CS) : Prop := isb (x_cx σ) ∧ isb (x_cx σ + (nI (x_n σ)).toInt64 - 1)
def r_wr (σ : CS) : Int32 := if x_op σ < 16 then 1 else if 21 < x_op σ then 1 else if x_op σ = 16 then 0 else if blO σ then (if x_op σ = 20 then 0 else if x_op σ = 21 then (if fstO (x_cp σ) (x_n σ) ∧ fstO (x_cq σ) (x_n σ) then 0 else 4) else if lyOk (x_mem σ) (x_cp σ) (x_cq σ) (x_n σ) then 0 else 4) else 3
def g_wr (σ : CS) : CS := if x_op σ < 16 then σ else if 21 < x_op σ then σ else if x_op σ = 16 then σ else if blO σ then (if x_op σ = 20 then σ else if x_op σ = 21 then σ else g_ly σ) else σ
theorem fsN_lt {n P : Nat} (h : n = 1) : fsN n P < 2048 := by
  unfold fsN
  have := Nat.min_le_left (n * 8) (16 - P % 16)
  omega
