/-! ops of blocks, ops of the admin queue, the answer, a command -/
def blkG (τ : CS) : CS := if x_op τ = 16 then s_nc (s_med τ (flM (x_cb τ) (x_ca τ) (x_med τ) (x_nc τ))) 0 else if x_op τ = 17 then g_store τ else if x_op τ = 18 then g_read τ else if x_op τ = 19 then g_same τ else if x_op τ = 20 then g_zero τ else g_caw τ
def blkR (τ : CS) : Int32 := if x_op τ = 16 then 0 else if x_op τ = 17 then 0 else if x_op τ = 18 then 0 else if x_op τ = 19 then (if r_same τ then 0 else 5) else if x_op τ = 20 then 0 else r_caw τ
def g_blk (σ : CS) : CS := if r_wr σ = 0 then blkG (g_wr σ) else g_wr σ
def r_blk (σ : CS) : Int32 := if r_wr σ = 0 then blkR (g_wr σ) else r_wr σ
/-- what finding the fault leaves -/
theorem g_wr_k (σ : CS) : x_ds (g_wr σ) = x_ds σ ∧ x_cx (g_wr σ) = x_cx σ ∧ x_n (g_wr σ) = x_n σ ∧ x_op (g_wr σ) = x_op σ ∧ x_cg (g_wr σ) = x_cg σ ∧ x_tu (g_wr σ) = x_tu σ ∧ x_T (g_wr σ) = x_T σ ∧ x_fg (g_wr σ) = x_fg σ := by
  unfold g_wr
  repeat' split
  all_goals exact ⟨rfl, rfl, rfl, rfl, rfl, rfl, rfl, rfl⟩
theorem fsN_le (n P : Nat) : fsN n P ≤ 16 := by
  unfold fsN
  have := Nat.min_le_right (n * 8) (16 - P % 16)
  omega
theorem g_wr_F {σ : CS} (h : x_F σ < 2048) : x_F (g_wr σ) < 2048 := by
  unfold g_wr
  repeat' split
  all_goals first | exact h | skip
  show (if hol (x_cp σ) then fsN (x_n σ) (pN (x_cp σ)) else x_F σ) < 2048
  split
  · have := fsN_le (x_n σ) (pN (x_cp σ)); omega
  · exact h
theorem isb_n {x : Int64} (h : isb x) : pN x < 64 ∧ x.toInt32 = nI (pN x) ∧ x = lN (pN x) := by
  obtain ⟨k, hk, rfl⟩ := pk_lOf h.1
  have h2 := h.2
  rw [show (64 : Int64) = lN 64 from rfl, pk_lLE (by omega) (by omega)] at h2
  have e : (lN k).toInt32 = nI k := lN_i k
  refine ⟨?_, ?_, ?_⟩
  · rw [pN, e, nI_clamp (by omega)]; omega
  · rw [pN, e, nI_clamp (by omega)]
  · rw [pN, e, nI_clamp (by omega)]
theorem blO_n {σ : CS} (h : blO σ) (h1 : 1 ≤ x_n σ) (h9 : x_n σ ≤ 256) : pN (x_cx σ) + x_n σ ≤ 64 ∧ (x_cx σ).toInt32 = nI (pN (x_cx σ)) := by
  obtain ⟨a1, a2, a3⟩ := isb_n h.1
  refine ⟨?_, a2⟩
  have h2 := h.2
  rw [a3, nI_l (by omega), lN_add, show (1 : Int64) = lN 1 from rfl, lN_sub (by omega)] at h2
  have h3 := h2.2
  rw [show (64 : Int64) = lN 64 from rfl, pk_lLE (by omega) (by omega)] at h3
  omega
theorem wr_ok {σ : CS} (h : r_wr σ = 0) (h16 : ¬ x_op σ = 16) (h1 : 1 ≤ x_n σ) (h9 : x_n σ ≤ 256) : pN (x_cx σ) + x_n σ ≤ 64 ∧ (x_cx σ).toInt32 = nI (pN (x_cx σ)) := by
  by_cases hb : blO σ
  · exact blO_n hb h1 h9
  · exfalso
    unfold r_wr at h
    rw [if_neg h16, if_neg hb] at h
    split at h
    · exact absurd h (by decide)
    · split at h <;> exact absurd h (by decide)
def g_adm (σ : CS) : CS := if x_op σ = 1 then g_mc σ else if x_op σ = 2 then g_ms σ else if x_op σ = 3 then g_dc σ else if x_op σ = 4 then g_ds σ else if x_op σ = 5 then g_sc σ else if x_op σ = 6 then g_rp σ else if x_op σ = 7 then s_re σ (x_nc σ) else σ
def r_adm (σ : CS) : Int32 := if x_op σ = 1 then r_mc σ else if x_op σ = 2 then r_ms σ else if x_op σ = 3 then r_dc σ else if x_op σ = 4 then r_ds σ else if x_op σ = 5 then r_sc σ else if x_op σ = 6 then r_rp σ else if x_op σ = 7 then 0 else 1
/-- the long of an answer -/
def ent (id : Int32) (j : Nat) (hd st ph : Int32) (re : Nat) : Int64 := id.toInt64 ||| (nI j).toInt64 <<< ((16 : Int32).toInt64 &&& 63) ||| hd.toInt64 <<< ((20 : Int32).toInt64 &&& 63) ||| st.toInt64 <<< ((28 : Int32).toInt64 &&& 63) ||| ph.toInt64 <<< ((36 : Int32).toInt64 &&& 63) ||| (nI re).toInt64 <<< ((40 : Int32).toInt64 &&& 63)
def advC (T : Nat → Nat → Int32) (k : Nat) : Nat → Nat → Int32 := up2 (up2 T 4 (4 + k) (bhd (T 2 (4 + k)) (T 4 (4 + k)))) 6 k (if bhd (T 2 (4 + k)) (T 4 (4 + k)) = 0 then 1 - T 6 k else T 6 k)
def g_an1 (σ : CS) (j k : Nat) (st : Int32) : CS := s_T (s_mem σ (mPut (x_mem σ) (x_T σ 1 (4 + k) + x_T σ 4 (4 + k)) (ent (x_id σ) j (x_T σ 3 j) st (x_T σ 6 k) (x_re σ)))) (advC (x_T σ) k)
def g_ans (σ : CS) (j k : Nat) (st : Int32) : CS := if advC (x_T σ) k 7 k = 0 then g_an1 σ j k st else s_bi (g_an1 σ j k st) (x_bi σ ||| (1 : Int32) <<< (nI k &&& 31))
/-- the command of queue j taken -/
def g_tk (σ : CS) (j : Nat) : CS := s_re (s_tu (s_cx (s_cq (s_cp (s_n (s_fg (s_id (s_op (s_T σ (up2 (x_T σ) 3 j (bhd (x_T σ 2 j) (x_T σ 3 j)))) (cOp (mAt (x_mem σ) (x_T σ 1 j + x_T σ 3 j * 4)))) (cId (mAt (x_mem σ) (x_T σ 1 j + x_T σ 3 j * 4)))) (bI (cFg (mAt (x_mem σ) (x_T σ 1 j + x_T σ 3 j * 4))))) (cNn (mAt (x_mem σ) (x_T σ 1 j + x_T σ 3 j * 4)))) (mAt (x_mem σ) (x_T σ 1 j + x_T σ 3 j * 4 + 1))) (mAt (x_mem σ) (x_T σ 1 j + x_T σ 3 j * 4 + 2))) (mAt (x_mem σ) (x_T σ 1 j + x_T σ 3 j * 4 + 3))) ((j + 1) % 4)) 0
def g_op (σ : CS) (j : Nat) : CS := if j = 0 then g_adm (g_tk σ j) else g_blk (g_tk σ j)
def r_op (σ : CS) (j : Nat) : Int32 := if j = 0 then r_adm (g_tk σ j) else r_blk (g_tk σ j)
def g_cnt (σ : CS) (st : Int32) : CS := if st = 0 then s_dw σ (x_dw σ + 1) else s_dq σ (x_dq σ + 1)
def g_cmd (σ : CS) (j : Nat) : CS := g_ans (g_cnt (g_op σ j) (r_op σ j)) j (x_T σ 5 j).toNatClampNeg (r_op σ j)
