/-! the class's own invariant, kept by a command; a run -/
def CInv (σ : CS) : Prop := DI (x_ds σ) ∧ x_F σ < 2048 ∧ (x_cg σ = 0 ∨ x_cg σ = 1) ∧ x_tu σ < 4
theorem DI0 {med : Nat → Int64} {cb : Nat → Int32} {ca : Nat → Int64} : DI (med, cb, ca, 0) := ⟨Nat.zero_le _, fun k hk => absurd hk (Nat.not_lt_zero _)⟩
theorem ci_of {σ τ : CS} (h : CInv σ) (e1 : x_ds τ = x_ds σ) (e2 : x_F τ < 2048) (e3 : x_cg τ = x_cg σ) (e4 : x_tu τ = x_tu σ) : CInv τ := ⟨by rw [e1]; exact h.1, e2, by rw [e3]; exact h.2.2.1, by rw [e4]; exact h.2.2.2⟩
theorem ci_d {σ τ : CS} (h : CInv σ) (e1 : DI (x_ds τ)) (e2 : x_F τ = x_F σ) (e3 : x_cg τ = x_cg σ) (e4 : x_tu τ = x_tu σ) : CInv τ := ⟨e1, by rw [e2]; exact h.2.1, by rw [e3]; exact h.2.2.1, by rw [e4]; exact h.2.2.2⟩
/-- parts that an op leaves -/
def SB (τ σ : CS) : Prop := x_ds τ = x_ds σ ∧ x_cx τ = x_cx σ ∧ x_n τ = x_n σ ∧ x_cg τ = x_cg σ ∧ x_tu τ = x_tu σ ∧ x_T τ = x_T σ
theorem SB.tr {a b c : CS} (h : SB a b) (k : SB b c) : SB a c := ⟨h.1.trans k.1, h.2.1.trans k.2.1, h.2.2.1.trans k.2.2.1, h.2.2.2.1.trans k.2.2.2.1, h.2.2.2.2.1.trans k.2.2.2.2.1, h.2.2.2.2.2.trans k.2.2.2.2.2⟩
theorem sb_same (σ : CS) : SB (g_same σ) σ := ⟨rfl, rfl, rfl, rfl, rfl, rfl⟩
theorem sb_st (σ : CS) (x : Int64) : SB (g_st σ x) σ := ⟨rfl, rfl, rfl, rfl, rfl, rfl⟩
theorem sb_wr (σ : CS) : SB (g_wr σ) σ := by
  obtain ⟨a1, a2, a3, -, a5, a6, a7, -⟩ := g_wr_k σ
  exact ⟨a1, a2, a3, a5, a6, a7⟩
theorem end_k (σ : CS) : x_F (g_end σ) = x_F σ ∧ x_cg (g_end σ) = x_cg σ ∧ x_tu (g_end σ) = x_tu σ ∧ x_T (g_end σ) = x_T σ := by
  unfold g_end
  split
  · exact ⟨rfl, rfl, rfl, rfl⟩
  · exact ⟨rfl, rfl, rfl, rfl⟩
theorem end_DI {σ : CS} (h : DI (x_ds σ)) : DI (x_ds (g_end σ)) := by
  unfold g_end
  split
  · exact h
  · exact DI0
theorem ci_end {σ : CS} (h : CInv σ) : CInv (g_end σ) := by
  obtain ⟨a1, a2, a3, -⟩ := end_k σ
  exact ci_d h (end_DI h.1) a1 a2 a3
theorem ds_ds (σ : CS) (d : DS) : x_ds (s_ds σ d) = d := rfl
theorem ci_store {σ : CS} (h : CInv σ) (hX : pN (x_cx σ) + x_n σ ≤ 64) : CInv (g_store σ) := by
  unfold g_store
  refine ci_end (ci_d h ?_ rfl rfl rfl)
  exact DI_stF h.1 hX
theorem ci_zero {σ : CS} (h : CInv σ) (hX : pN (x_cx σ) + x_n σ ≤ 64) : CInv (g_zero σ) := by
  unfold g_zero
  refine ci_end (ci_d h ?_ rfl rfl rfl)
  exact DI_stZ h.1 hX
theorem ci_st {σ : CS} {x : Int64} (h : CInv σ) (hX : pN (x_cx σ) + x_n σ ≤ 64) : CInv (g_st σ x) := ci_of h rfl (show x_n σ * 8 < 2048 by omega) rfl rfl
theorem ci_same {σ : CS} (h : CInv σ) : CInv (g_same σ) := ci_d h h.1 rfl rfl rfl
theorem ci_read {σ : CS} (h : CInv σ) : CInv (g_read σ) := ci_d h h.1 rfl rfl rfl
theorem sbX {a b : CS} (h : SB a b) (hX : pN (x_cx b) + x_n b ≤ 64) : pN (x_cx a) + x_n a ≤ 64 := by rw [h.2.1, h.2.2.1]; exact hX
theorem ci_caw {σ : CS} (h : CInv σ) (hX : pN (x_cx σ) + x_n σ ≤ 64) : CInv (g_caw σ) := by
  have b1 := sb_st σ (x_cp σ)
  have c1 : CInv (g_st σ (x_cp σ)) := ci_st h hX
  unfold g_caw
  generalize g_st σ (x_cp σ) = τ at b1 c1 ⊢
  split
  · have b2 := (sb_same τ).tr b1
    have c2 := ci_same c1
    generalize g_same τ = ρ at b2 c2 ⊢
    have b3 := (sb_st ρ (x_cq σ)).tr b2
    have c3 : CInv (g_st ρ (x_cq σ)) := ci_st c2 (sbX b2 hX)
    generalize g_st ρ (x_cq σ) = π at b3 c3 ⊢
    exact ci_store c3 (sbX b3 hX)
  · exact ci_same c1
theorem ci_wr {σ : CS} (h : CInv σ) : CInv (g_wr σ) := by
  obtain ⟨a1, -, -, -, a5, a6, -, -⟩ := g_wr_k σ
  exact ci_of h a1 (g_wr_F h.2.1) a5 a6
theorem ci_flu {σ : CS} (h : CInv σ) : CInv (s_nc (s_med σ (flM (x_cb σ) (x_ca σ) (x_med σ) (x_nc σ))) 0) := ci_d h DI0 rfl rfl rfl
theorem ci_blkG {σ : CS} (h : CInv σ) (hX : ¬ x_op σ = 16 → pN (x_cx σ) + x_n σ ≤ 64) : CInv (blkG σ) := by
  unfold blkG
  by_cases h16 : x_op σ = 16
  · rw [if_pos h16]; exact ci_flu h
  · rw [if_neg h16]
    have hX := hX h16
    by_cases h17 : x_op σ = 17
    · rw [if_pos h17]; exact ci_store h hX
    · rw [if_neg h17]
      by_cases h18 : x_op σ = 18
      · rw [if_pos h18]; exact ci_read h
      · rw [if_neg h18]
        by_cases h19 : x_op σ = 19
        · rw [if_pos h19]; exact ci_same h
        · rw [if_neg h19]
          by_cases h20 : x_op σ = 20
          · rw [if_pos h20]; exact ci_zero h hX
          · rw [if_neg h20]; exact ci_caw h hX
theorem ci_blk {σ : CS} (h : CInv σ) (h1 : 1 ≤ x_n σ) (h9 : x_n σ ≤ 256) : CInv (g_blk σ) := by
  unfold g_blk
  by_cases h0 : r_wr σ = 0
  · rw [if_pos h0]
    refine ci_blkG (ci_wr h) (fun h16 => ?_)
    obtain ⟨-, a2, a3, a4, -⟩ := g_wr_k σ
    rw [a2, a3]
    exact (wr_ok h0 (by rw [← a4]; exact h16) h1 h9).1
  · rw [if_neg h0]; exact ci_wr h
theorem ly_F {σ : CS} (h : x_F σ < 2048) : x_F (g_ly σ) < 2048 := by
  show (if hol (x_cp σ) then fsN (x_n σ) (pN (x_cp σ)) else x_F σ) < 2048
  split
  · have := fsN_le (x_n σ) (pN (x_cp σ)); omega
  · exact h
theorem ci_T {σ : CS} {T : Nat → Nat → Int32} (h : CInv σ) : CInv (s_T σ T) := ci_d h h.1 rfl rfl rfl
theorem ci_mc {σ : CS} (h : CInv σ) : CInv (g_mc σ) := by
  unfold g_mc
  split
  · exact ci_T h
  · exact h
theorem ci_ms {σ : CS} (h : CInv σ) : CInv (g_ms σ) := by
  unfold g_ms
  split
  · exact ci_T h
  · exact h
theorem ci_dc {σ : CS} (h : CInv σ) : CInv (g_dc σ) := by
  unfold g_dc
  split
  · exact ci_T h
  · exact h
theorem ci_ds {σ : CS} (h : CInv σ) : CInv (g_ds σ) := by
  unfold g_ds
  split
  · exact ci_T h
  · exact h
theorem ci_re {σ : CS} {v : Nat} (h : CInv σ) : CInv (s_re σ v) := ci_d h h.1 rfl rfl rfl
theorem ci_cg {σ : CS} {v : Int32} (h : CInv σ) (hv : v = 0 ∨ v = 1) : CInv (s_cg σ v) := ⟨h.1, h.2.1, hv, h.2.2.2⟩
theorem ci_nm {σ : CS} {m : Nat → Int64} (h : CInv σ) : CInv (s_nc (s_med σ m) 0) := ci_d h DI0 rfl rfl rfl
theorem ci_sc {σ : CS} (h : CInv σ) : CInv (g_sc σ) := by
  unfold g_sc
  split
  · exact ci_cg (ci_nm (ci_re h)) (Or.inl rfl)
  · split
    · exact ci_cg (ci_re h) (Or.inr rfl)
    · exact h
theorem ci_ly {σ : CS} (h : CInv σ) : CInv (g_ly σ) := ci_of h rfl (ly_F h.2.1) rfl rfl
theorem ci_rw {σ : CS} {r : Nat → Int64} (h : CInv σ) : CInv (s_rw σ r) := ci_d h h.1 rfl rfl rfl
theorem ci_row {σ : CS} {i : Nat} (h : CInv σ) : CInv (g_row σ i) := ci_d h h.1 rfl rfl rfl
theorem ci_rp {σ : CS} (h : CInv σ) : CInv (g_rp σ) := by
  unfold g_rp
  split
  · split
    · exact ci_row (ci_rw (ci_ly h))
    · exact ci_ly h
  · exact h
theorem ci_adm {σ : CS} (h : CInv σ) : CInv (g_adm σ) := by
  unfold g_adm
  split
  · exact ci_mc h
  · split
    · exact ci_ms h
    · split
      · exact ci_dc h
      · split
        · exact ci_ds h
        · split
          · exact ci_sc h
          · split
            · exact ci_rp h
            · split
              · exact ci_re h
              · exact h
theorem ci_tk {σ : CS} {j : Nat} (h : CInv σ) : CInv (g_tk σ j) := ⟨h.1, h.2.1, h.2.2.1, Nat.mod_lt _ (by decide)⟩
theorem tk_n (σ : CS) (j : Nat) : 1 ≤ x_n (g_tk σ j) ∧ x_n (g_tk σ j) ≤ 256 := cNn_b _
theorem tk_T (σ : CS) (j : Nat) : x_T (g_tk σ j) = up2 (x_T σ) 3 j (bhd (x_T σ 2 j) (x_T σ 3 j)) := rfl
theorem ci_op {σ : CS} {j : Nat} (h : CInv σ) : CInv (g_op σ j) := by
  have c := ci_tk (j := j) h
  have n := tk_n σ j
  unfold g_op
  generalize g_tk σ j = τ at c n ⊢
  split
  · exact ci_adm c
  · exact ci_blk c n.1 n.2
theorem ci_cnt {σ : CS} {st : Int32} (h : CInv σ) : CInv (g_cnt σ st) := by
  unfold g_cnt
  split
  · exact ci_d h h.1 rfl rfl rfl
  · exact ci_d h h.1 rfl rfl rfl
theorem ci_an1 {σ : CS} {j k : Nat} {st : Int32} (h : CInv σ) : CInv (g_an1 σ j k st) := ci_d h h.1 rfl rfl rfl
theorem ci_bi {σ : CS} {v : Int32} (h : CInv σ) : CInv (s_bi σ v) := ci_d h h.1 rfl rfl rfl
theorem ci_ans {σ : CS} {j k : Nat} {st : Int32} (h : CInv σ) : CInv (g_ans σ j k st) := by
  have c := ci_an1 (j := j) (k := k) (st := st) h
  unfold g_ans
  generalize g_an1 σ j k st = τ at c ⊢
  split
  · exact c
  · exact ci_bi c
theorem ci_cmd {σ : CS} {j : Nat} (h : CInv σ) : CInv (g_cmd σ j) := ci_ans (ci_cnt (ci_op h))
/-- which completion queue a submission queue answers to is no business of its own command -/
theorem up2_ne {T : Nat → Nat → Int32} {f q x y : Nat} {v : Int32} (h : x ≠ f ∨ y ≠ q) : up2 T f q v x y = T x y := by
  unfold up2
  by_cases e : x = f
  · rw [if_pos e, if_neg (fun z => h.elim (fun w => w e) (fun w => w z))]
  · rw [if_neg e]
theorem up2_eq {T : Nat → Nat → Int32} {f q : Nat} {v : Int32} : up2 T f q v f q = v := by simp [up2]
theorem mkS_50 {T : Nat → Nat → Int32} {j : Nat} {b s c : Int32} (h : 1 ≤ j) : mkS T j b s c 5 0 = T 5 0 := by
  unfold mkS
  rw [up2_ne (Or.inr (by omega)), up2_ne (Or.inl (by decide)), up2_ne (Or.inl (by decide)), up2_ne (Or.inl (by decide)), up2_ne (Or.inl (by decide)), up2_ne (Or.inl (by decide))]
theorem mkC_5 {T : Nat → Nat → Int32} {j q : Nat} {b s i : Int32} : mkC T j b s i 5 q = T 5 q := by
  unfold mkC
  rw [up2_ne (Or.inl (by decide)), up2_ne (Or.inl (by decide)), up2_ne (Or.inl (by decide)), up2_ne (Or.inl (by decide)), up2_ne (Or.inl (by decide)), up2_ne (Or.inl (by decide)), up2_ne (Or.inl (by decide))]
theorem sT_T (σ : CS) (T : Nat → Nat → Int32) : x_T (s_T σ T) = T := rfl
theorem mc_T5 (σ : CS) : x_T (g_mc σ) 5 0 = x_T σ 5 0 := by
  unfold g_mc
  split
  · rw [sT_T, mkC_5]
  · rfl
theorem ms_T5 (σ : CS) : x_T (g_ms σ) 5 0 = x_T σ 5 0 := by
  unfold g_ms
  split
  · rename_i h
    rw [sT_T, mkS_50 (bes_n h.1).1]
  · rfl
theorem dc_T5 (σ : CS) : x_T (g_dc σ) 5 0 = x_T σ 5 0 := by
  unfold g_dc
  split
  · rw [sT_T, up2_ne (Or.inl (by decide))]
  · rfl
theorem ds_T5 (σ : CS) : x_T (g_ds σ) 5 0 = x_T σ 5 0 := by
  unfold g_ds
  split
  · rw [sT_T, up2_ne (Or.inl (by decide))]
  · rfl
theorem sc_T (σ : CS) : x_T (g_sc σ) = x_T σ := by
  unfold g_sc
  split
  · rfl
  · split
    · rfl
    · rfl
theorem rp_T (σ : CS) : x_T (g_rp σ) = x_T σ := by
  unfold g_rp
  split
  · split
    · rfl
    · rfl
  · rfl
theorem adm_T5 (σ : CS) : x_T (g_adm σ) 5 0 = x_T σ 5 0 := by
  unfold g_adm
  split
  · exact mc_T5 σ
  · split
    · exact ms_T5 σ
    · split
      · exact dc_T5 σ
      · split
        · exact ds_T5 σ
        · split
          · rw [sc_T]
          · split
            · rw [rp_T]
            · split
              · rfl
              · rfl
theorem store_T (σ : CS) : x_T (g_store σ) = x_T σ := by
  unfold g_store
  rw [(end_k _).2.2.2]
  rfl
theorem zero_T (σ : CS) : x_T (g_zero σ) = x_T σ := by
  unfold g_zero
  rw [(end_k _).2.2.2]
  rfl
theorem read_T (σ : CS) : x_T (g_read σ) = x_T σ := rfl
theorem caw_T (σ : CS) : x_T (g_caw σ) = x_T σ := by
  have b1 := (sb_st σ (x_cp σ)).2.2.2.2.2
  unfold g_caw
  generalize g_st σ (x_cp σ) = τ at b1 ⊢
  split
  · rw [store_T, (sb_st _ _).2.2.2.2.2, (sb_same _).2.2.2.2.2, b1]
  · rw [(sb_same _).2.2.2.2.2, b1]
theorem blkG_T (σ : CS) : x_T (blkG σ) = x_T σ := by
  unfold blkG
  by_cases h16 : x_op σ = 16
  · rw [if_pos h16]
  · rw [if_neg h16]
    by_cases h17 : x_op σ = 17
    · rw [if_pos h17, store_T]
    · rw [if_neg h17]
      by_cases h18 : x_op σ = 18
      · rw [if_pos h18, read_T]
      · rw [if_neg h18]
        by_cases h19 : x_op σ = 19
        · rw [if_pos h19, (sb_same _).2.2.2.2.2]
        · rw [if_neg h19]
          by_cases h20 : x_op σ = 20
          · rw [if_pos h20, zero_T]
          · rw [if_neg h20, caw_T]
theorem blk_T (σ : CS) : x_T (g_blk σ) = x_T σ := by
  have hw := (sb_wr σ).2.2.2.2.2
  unfold g_blk
  split
  · rw [blkG_T, hw]
  · exact hw
theorem op_T5 (σ : CS) (j : Nat) : x_T (g_op σ j) 5 j = x_T σ 5 j := by
  unfold g_op
  split
  · rename_i h
    subst h
    rw [adm_T5, tk_T, up2_ne (Or.inl (by decide))]
  · rw [blk_T, tk_T, up2_ne (Or.inl (by decide))]
theorem cnt_T (σ : CS) (st : Int32) : x_T (g_cnt σ st) = x_T σ := by
  unfold g_cnt
  split <;> rfl
def runN : Nat → CS → Nat × CS
  | 0, σ => (0, σ)
  | m + 1, σ => match nxr (x_T σ) (x_tu σ) 4 with
    | none => (0, σ)
    | some q => ((runN m (g_cmd σ q)).1 + 1, (runN m (g_cmd σ q)).2)
theorem nxr_rdy {T : Nat → Nat → Int32} {tu : Nat} : ∀ {n q : Nat}, nxr T tu n = some q → rdy T q ∧ q < 4
  | 0, q, h => by cases h
  | n + 1, q, h => by
    unfold nxr at h
    cases hn : nxr T tu n with
    | some r => rw [hn] at h; cases h; exact nxr_rdy hn
    | none =>
      rw [hn] at h
      simp only at h
      split at h
      · rename_i hr
        cases h
        exact ⟨hr, Nat.mod_lt _ (by decide)⟩
      · cases h
theorem nxtR_s {T : Nat → Nat → Int32} {tu q : Nat} (h : nxr T tu 4 = some q) : nxtR T tu = nI q := by rw [nxtR, h]
theorem nxtR_n {T : Nat → Nat → Int32} {tu : Nat} (h : nxr T tu 4 = none) : nxtR T tu = -2 := by rw [nxtR, h]
theorem nI_m2 {k : Nat} (h : k < 2 ^ 31) : ¬ nI k = -2 := fun e => by
  have := nI_toInt h
  rw [e] at this
  have e1 : (-2 : Int32).toInt = -2 := by decide
  rw [e1] at this
  omega
theorem runN_n {m : Nat} {σ : CS} (h : nxr (x_T σ) (x_tu σ) 4 = none) : runN m σ = (0, σ) := by
  cases m with
  | zero => rfl
  | succ m => rw [runN, h]
theorem runN_s {m q : Nat} {σ : CS} (h : nxr (x_T σ) (x_tu σ) 4 = some q) : runN (m + 1) σ = ((runN m (g_cmd σ q)).1 + 1, (runN m (g_cmd σ q)).2) := by
  rw [runN, h]
def runR (σ : CS) (p : Int32) : Int32 := if x_on σ = 0 then -3 else if p < 0 ∨ 200 < p then -1 else nI (runN p.toNatClampNeg σ).1
def g_run (σ : CS) (p : Int32) : CS := if x_on σ = 0 then σ else if p < 0 ∨ 200 < p then σ else (runN p.toNatClampNeg σ).2
theorem p200 {p : Int32} (h1 : ¬ p < 0) (h2 : p ≤ 200) : p.toNatClampNeg ≤ 200 ∧ p = nI p.toNatClampNeg := by
  obtain ⟨j, hj, e⟩ := nI_of2 (M := 200) (n := 200) (by decide) h1 h2
  rw [e, nI_clamp (by omega)]
  exact ⟨hj, rfl⟩
