/-! the reference's ops of blocks -/
abbrev blP (ρ : RS) : Prop := isb (z_cx ρ) ∧ isb (z_cx ρ + (nI (z_n ρ)).toInt64 - 1)
theorem isb_r {x : Int64} : isb x ↔ ¬ x < 0 ∧ ¬ 63 < x := by
  have e1 : (64 : Int64).toInt = 64 := by decide
  have e2 : (63 : Int64).toInt = 63 := by decide
  rw [isb, Int64.le_iff_toInt_le, Int64.lt_iff_toInt_lt (x := 63), e1, e2]
  have : ¬ (64 ≤ x.toInt) ↔ ¬ (63 < x.toInt) := by omega
  rw [this]
theorem x63 {x : Int64} {n : Nat} (h : isb x) (h1 : 1 ≤ n) (h9 : n ≤ 256) : (x + (nI n).toInt64 - 1 ≤ 63 ↔ pN x + n ≤ 64) ∧ (pN x + n ≤ 64 → isb (x + (nI n).toInt64 - 1)) := by
  obtain ⟨a1, -, a3⟩ := isb_n h
  have e : x + (nI n).toInt64 - 1 = lN (pN x + n - 1) := by
    rw [nI_l (by omega), show (1 : Int64) = lN 1 from rfl]
    conv => lhs; rw [a3]
    rw [lN_add, lN_sub (by omega)]
  rw [e]
  refine ⟨?_, fun q => ⟨?_, ?_⟩⟩
  · rw [show (63 : Int64) = lN 63 from rfl, pk_lLE (by omega) (by omega)]; omega
  · rw [show (0 : Int64) = lN 0 from rfl, pk_lLT (by omega) (by omega)]; omega
  · rw [show (64 : Int64) = lN 64 from rfl, pk_lLE (by omega) (by omega)]; omega
theorem fst_n {x : Int64} {n : Nat} (h : fstO x n) (h9 : n ≤ 256) : pN x + n * 8 ≤ 1024 ∧ x.toInt32 = nI (pN x) := by
  obtain ⟨a1, a2, a3⟩ := hol_n ⟨h.1.1, h.1.2.1⟩
  refine ⟨?_, a2⟩
  have h2 := h.2
  rw [a3, nI_l (by omega), lN_add, show (1024 : Int64) = lN 1024 from rfl, pk_lLT (by omega) (by omega)] at h2
  omega
def cmB (mem : Nat → Int64) (ad : Nat → Nat) (v : Nat → Int64) : Nat → Bool
  | 0 => true
  | k + 1 => cmB mem ad v k && decide (mem (ad k) = v k)
theorem cmB_no {mem : Nat → Int64} {ad : Nat → Nat} {v : Nat → Int64} {k : Nat} (h : ¬ mem (ad k) = v k) : ∀ {n : Nat}, k < n → cmB mem ad v n = false
  | 0, hn => absurd hn (Nat.not_lt_zero _)
  | n + 1, hn => by
    unfold cmB
    by_cases e : k = n
    · subst e; simp [h]
    · rw [cmB_no h (n := n) (by omega)]; rfl
theorem cmB_go {mem : Nat → Int64} {ad : Nat → Nat} {v : Nat → Int64} {k : Nat} (h : cmB mem ad v k = true) (hk : mem (ad k) = v k) : cmB mem ad v (k + 1) = true := by
  unfold cmB; rw [h]; simp [hk]
def onF (src : Nat → Int64) (b : Nat) (one : Nat → Int64) : Nat → Nat → Int64
  | 0 => one
  | k + 1 => vp_updL (onF src b one k) k (src (8 * b + k))
def sbO (one src : Nat → Int64) : Nat → Nat → Int64
  | 0 => one
  | b + 1 => onF src b (sbO one src b) 8
def sbD (one src : Nat → Int64) (cg : Int32) (X : Nat) (d : RD) (nc : Nat) : Nat → RD × Nat
  | 0 => (d, nc)
  | b + 1 => (stU (sbO one src (b + 1)) cg (sbD one src cg X d nc b).1 (sbD one src cg X d nc b).2 (X + b), stV cg (sbD one src cg X d nc b).1.2 (sbD one src cg X d nc b).2 (X + b))
theorem RI_stU {one : Nat → Int64} {cg : Int32} {d : RD} {nc j : Nat} (h : RI d nc) (hn : nc ≤ 6) (hj : j < 64) : RI (stU one cg d nc j) (stV cg d.2 nc j) ∧ stV cg d.2 nc j ≤ 6 := by
  obtain ⟨R, cb⟩ := d
  unfold stU stV
  by_cases hc : cg = 0
  · rw [if_pos hc, if_pos hc]; exact ⟨h, hn⟩
  · rw [if_neg hc, if_neg hc]
    cases hf : fnd cb (nI j) nc with
    | some k => simp only [hf]; exact ⟨h, hn⟩
    | none =>
      simp only [hf]
      by_cases h6 : 6 < nc + 1
      · rw [if_pos h6, if_pos h6]
        exact ⟨RI_gv (RI_st h hj), hn⟩
      · rw [if_neg h6, if_neg h6]
        exact ⟨RI_st h hj, by omega⟩
theorem sbD_ok {one src : Nat → Int64} {cg : Int32} {X : Nat} {d : RD} {nc : Nat} (h : RI d nc) (hn : nc ≤ 6) : ∀ {b : Nat}, X + b ≤ 64 → RI (sbD one src cg X d nc b).1 (sbD one src cg X d nc b).2 ∧ (sbD one src cg X d nc b).2 ≤ 6
  | 0, _ => ⟨h, hn⟩
  | b + 1, hb => by
    obtain ⟨h1, h2⟩ := sbD_ok (one := one) (src := src) (cg := cg) (X := X) h hn (b := b) (by omega)
    exact RI_stU h1 h2 (by omega)
def h_sd (ρ : RS) (src : Nat → Int64) (b : Nat) : RS := w_bs (w_nc (w_cb (w_R (w_one ρ (sbO (z_one ρ) src b)) (sbD (z_one ρ) src (z_cg ρ) (pN (z_cx ρ)) (z_R ρ, z_cb ρ) (z_nc ρ) b).1.1) (sbD (z_one ρ) src (z_cg ρ) (pN (z_cx ρ)) (z_R ρ, z_cb ρ) (z_nc ρ) b).1.2) (sbD (z_one ρ) src (z_cg ρ) (pN (z_cx ρ)) (z_R ρ, z_cb ρ) (z_nc ρ) b).2) (z_bs ρ + b)
def h_fl (ρ : RS) : RS := w_nc (w_cb (w_R ρ (flU (z_nc ρ) (z_R ρ, z_cb ρ)).1) (flU (z_nc ρ) (z_R ρ, z_cb ρ)).2) 0
def h_end (ρ : RS) : RS := if z_fg ρ = 0 then ρ else h_fl ρ
def h_st (ρ : RS) (src : Nat → Int64) : RS := h_end (h_sd ρ src (z_n ρ))
/-- long k of the blocks from X on, as a read finds it -/
def vR (ρ : RS) (k : Nat) : Int64 := z_R ρ (bof (z_cb ρ) (z_nc ρ) (pN (z_cx ρ) + k / 8)) (k % 8)
def aA (ρ : RS) (k : Nat) : Nat := (adN (z_mem ρ) (z_cp ρ) (z_cq ρ) (z_n ρ) k).toNatClampNeg
def h_rd (ρ : RS) : RS := w_br (w_mem ρ (rpM (z_mem ρ) (adN (z_mem ρ) (z_cp ρ) (z_cq ρ) (z_n ρ)) (vR ρ) (z_n ρ * 8))) (z_br ρ + z_n ρ)
abbrev cm19 (ρ : RS) : Prop := cmB (z_mem ρ) (aA ρ) (vR ρ) (z_n ρ * 8) = true
abbrev cm21 (ρ : RS) : Prop := cmB (z_mem ρ) (fun k => pN (z_cp ρ) + k) (vR ρ) (z_n ρ * 8) = true
def q_blk (ρ : RS) : Int32 := if z_op ρ = 16 then 0 else if z_op ρ < 17 then 1 else if 21 < z_op ρ then 1 else if blP ρ then (if z_op ρ = 21 then (if fstO (z_cp ρ) (z_n ρ) ∧ fstO (z_cq ρ) (z_n ρ) then (if cm21 ρ then 0 else 5) else 4) else if z_op ρ = 20 then 0 else if lyOk (z_mem ρ) (z_cp ρ) (z_cq ρ) (z_n ρ) then (if z_op ρ = 18 then 0 else if z_op ρ = 19 then (if cm19 ρ then 0 else 5) else 0) else 4) else 3
def h_blk (ρ : RS) : RS := if z_op ρ = 16 then h_fl ρ else if z_op ρ < 17 then ρ else if 21 < z_op ρ then ρ else if blP ρ then (if z_op ρ = 21 then (if fstO (z_cp ρ) (z_n ρ) ∧ fstO (z_cq ρ) (z_n ρ) then (if cm21 ρ then h_st ρ (fun t => z_mem ρ (pN (z_cq ρ) + t)) else ρ) else ρ) else if z_op ρ = 20 then h_st ρ (fun _ => 0) else if lyOk (z_mem ρ) (z_cp ρ) (z_cq ρ) (z_n ρ) then (if z_op ρ = 18 then h_rd ρ else if z_op ρ = 19 then ρ else h_st ρ (fun t => z_mem ρ (aA ρ t))) else ρ) else ρ
theorem rem8 {a : Nat} (h : a < 2 ^ 31) : nI a - nI a / 8 * 8 = nI (a % 8) := pk_rem (d := 8) h (by decide) (by decide)
