/-! a command of the reference: its first long, its answer, its state -/
theorem shr_and (x : BitVec 64) (k m : Nat) (h : k + m ≤ 64) : x.sshiftRight k &&& BitVec.ofNat 64 (2 ^ m - 1) = x >>> k &&& BitVec.ofNat 64 (2 ^ m - 1) := by
  apply BitVec.eq_of_getLsbD_eq
  intro i hi
  rw [BitVec.getLsbD_and, BitVec.getLsbD_and, BitVec.getLsbD_ofNat, Nat.testBit_two_pow_sub_one]
  by_cases c : i < m
  · rw [BitVec.getLsbD_sshiftRight, BitVec.getLsbD_ushiftRight, if_pos (by omega)]
    have : ¬ 64 ≤ i := by omega
    simp [this]
  · simp [c]
theorem lshr_u (x : Int64) (k : Int32) (kn m : Nat) (hk1 : (k.toInt64 &&& 63).toBitVec.smod 64 = BitVec.ofNat 64 kn) (hk2 : (k.toInt64.toUInt64 &&& Int64.toUInt64 63).toBitVec % 64 = BitVec.ofNat 64 kn) (h : kn + m ≤ 64) (hn : kn < 64) (M : Int64) (hM : M.toBitVec = BitVec.ofNat 64 (2 ^ m - 1)) : x >>> (k.toInt64 &&& 63) &&& M = (x.toUInt64 >>> (k.toInt64.toUInt64 &&& Int64.toUInt64 63)).toInt64 &&& M := by
  apply Int64.toBitVec_inj.mp
  have e1 : (x >>> (k.toInt64 &&& 63)).toBitVec = x.toBitVec.sshiftRight kn := by
    rw [Int64.toBitVec_shiftRight, hk1]
    show x.toBitVec.sshiftRight (BitVec.ofNat 64 kn).toNat = _
    rw [BitVec.toNat_ofNat, Nat.mod_eq_of_lt (by omega)]
  have e2 : ((x.toUInt64 >>> (k.toInt64.toUInt64 &&& Int64.toUInt64 63)).toInt64).toBitVec = x.toBitVec >>> kn := by
    show (x.toUInt64 >>> (k.toInt64.toUInt64 &&& Int64.toUInt64 63)).toBitVec = _
    rw [UInt64.toBitVec_shiftRight, hk2]
    show x.toBitVec >>> (BitVec.ofNat 64 kn).toNat = _
    rw [BitVec.toNat_ofNat, Nat.mod_eq_of_lt (by omega)]
  rw [Int64.toBitVec_and, Int64.toBitVec_and, e1, e2, hM, shr_and x.toBitVec kn m h]
theorem sh8 (x : Int64) : x >>> ((8 : Int32).toInt64 &&& 63) &&& 65535 = (cId x).toInt64 := by
  rw [lshr_u x 8 8 16 (by decide) (by decide) (by decide) (by decide) 65535 (by decide)]
  unfold cId
  generalize (x.toUInt64 >>> ((8 : Int32).toInt64.toUInt64 &&& Int64.toUInt64 63)).toInt64 = y
  have e : ∃ m : Nat, m < 65536 ∧ y &&& 65535 = lN m := ⟨y.toBitVec.toNat % 2 ^ 16, Nat.mod_lt _ (by decide), Int64.toBitVec_inj.mp (BitVec.eq_of_toNat_eq (by
    show (y.toBitVec &&& 65535#64).toNat = (BitVec.ofNat 64 (y.toBitVec.toNat % 2 ^ 16)).toNat
    rw [BitVec.toNat_and, show (65535#64).toNat = 2 ^ 16 - 1 from by decide, Nat.and_two_pow_sub_one_eq_mod, BitVec.toNat_ofNat]
    omega))⟩
  obtain ⟨m, hm, e⟩ := e
  rw [e, lN_i, nI_l (by omega)]
theorem sh24 (x : Int64) : x >>> ((24 : Int32).toInt64 &&& 63) &&& 1 = (x.toUInt64 >>> ((24 : Int32).toInt64.toUInt64 &&& Int64.toUInt64 63)).toInt64 &&& 1 := lshr_u x 24 24 1 (by decide) (by decide) (by decide) (by decide) 1 (by decide)
theorem sh32 (x : Int64) : (x >>> ((32 : Int32).toInt64 &&& 63) &&& 255).toInt32 + 1 = nI (cNn x) := by
  rw [lshr_u x 32 32 8 (by decide) (by decide) (by decide) (by decide) 255 (by decide)]
  exact cN_n x
theorem up2_up2 {T : Nat → Nat → Int32} {f q : Nat} {a b : Int32} : up2 (up2 T f q a) f q b = up2 T f q b := by
  funext x y
  unfold up2
  by_cases e : x = f <;> by_cases e2 : y = q <;> simp [e, e2]
theorem up2_id {T : Nat → Nat → Int32} {f q : Nat} : up2 T f q (T f q) = T := by
  funext x y
  unfold up2
  by_cases e : x = f <;> by_cases e2 : y = q <;> simp [e, e2]
theorem xor1 {v : Int32} (h : v = 0 ∨ v = 1) : v ^^^ 1 = 1 - v := by
  rcases h with rfl | rfl <;> decide
theorem adv_t {T : Nat → Nat → Int32} {k : Nat} (h : QI T (4 + k) 1) (h6 : T 6 k = 0 ∨ T 6 k = 1) (c : T 4 (4 + k) + 1 = T 2 (4 + k)) : up2 (up2 (up2 T 4 (4 + k) (T 4 (4 + k) + 1)) 4 (4 + k) 0) 6 k (T 6 k ^^^ 1) = advC T k := by
  obtain ⟨s, h, t, b, e2, h2, h16, e3, hh, e4, ht, -⟩ := h
  have eb : bhd (T 2 (4 + k)) (T 4 (4 + k)) = 0 := by
    rw [e2, e4, nI_1] at c
    rw [e2, e4, bhd_n ht h16, if_pos (by have := congrArg Int32.toNatClampNeg c; rw [nI_clamp (by omega), nI_clamp (by omega)] at this; exact this), nI_0]
  rw [advC, eb, if_pos rfl, up2_up2, xor1 h6]
theorem adv_f {T : Nat → Nat → Int32} {k : Nat} (h : QI T (4 + k) 1) (c : ¬ T 4 (4 + k) + 1 = T 2 (4 + k)) : up2 T 4 (4 + k) (T 4 (4 + k) + 1) = advC T k := by
  obtain ⟨s, h, t, b, e2, h2, h16, e3, hh, e4, ht, -⟩ := h
  rw [e2, e4, nI_1] at c
  have ct : ¬ t + 1 = s := fun q => c (by rw [q])
  have eb : bhd (T 2 (4 + k)) (T 4 (4 + k)) = T 4 (4 + k) + 1 := by
    rw [e2, e4, bhd_n ht h16, if_neg ct, nI_1]
  have h0 : ¬ T 4 (4 + k) + 1 = 0 := by rw [e4, nI_1]; exact nI_ne0 (by omega) (by omega)
  have e6 : up2 T 4 (4 + k) (T 4 (4 + k) + 1) 6 k = T 6 k := up2_ne (Or.inl (by decide))
  rw [advC, eb, if_neg h0]
  conv => rhs; rw [← e6]
  rw [up2_id]
theorem hol_k {k : Nat} (h : k < 1024) : hol (nI k).toInt64 := by
  rw [nI_l (by omega)]
  refine ⟨?_, ?_⟩
  · rw [show (0 : Int64) = lN 0 from rfl, pk_lLT (by omega) (by omega)]; omega
  · rw [show (1024 : Int64) = lN 1024 from rfl, pk_lLE (by omega) (by omega)]; omega
theorem QI_hol {T : Nat → Nat → Int32} {j : Nat} (h : QI T j 4) : hol (T 1 j + T 3 j * 4).toInt64 ∧ hol (T 1 j + T 3 j * 4 + 1).toInt64 ∧ hol (T 1 j + T 3 j * 4 + 2).toInt64 ∧ hol (T 1 j + T 3 j * 4 + 3).toInt64 := by
  obtain ⟨s, h, t, b, e2, h2, h16, e3, hh, e4, ht, e1, hb⟩ := h
  have e : T 1 j + T 3 j * 4 = nI (b + 4 * h) := by rw [e1, e3, Int32.mul_comm, show (4 : Int32) * nI h = nI (4 * h) from pk_mul 4 h, nI_add]
  rw [e, show (2 : Int32) = nI 2 from rfl, show (3 : Int32) = nI 3 from rfl, nI_1, nI_add, nI_add]
  exact ⟨hol_k (by omega), hol_k (by omega), hol_k (by omega), hol_k (by omega)⟩
theorem QI_hol4 {T : Nat → Nat → Int32} {q : Nat} (h : QI T q 1) : hol (T 1 q + T 4 q).toInt64 := by
  obtain ⟨s, h, t, b, e2, h2, h16, e3, hh, e4, ht, e1, hb⟩ := h
  rw [e1, e4, nI_add]
  exact hol_k (by omega)
abbrev f9 (ρ : RS) (j : Nat) : Int64 := mAt (z_mem ρ) (z_T ρ 1 j + z_T ρ 3 j * 4)
def entR (id : Int32) (j : Nat) (hd st ph : Int32) (re : Int64) : Int64 := id.toInt64 ||| (nI j).toInt64 <<< ((16 : Int32).toInt64 &&& 63) ||| hd.toInt64 <<< ((20 : Int32).toInt64 &&& 63) ||| st.toInt64 <<< ((28 : Int32).toInt64 &&& 63) ||| ph.toInt64 <<< ((36 : Int32).toInt64 &&& 63) ||| re <<< ((40 : Int32).toInt64 &&& 63)
def h_tk (ρ : RS) (j : Nat) : RS := w_fg (w_op (w_n (w_re (w_cx (w_cq (w_cp (w_T ρ (up2 (z_T ρ) 3 j (bhd (z_T ρ 2 j) (z_T ρ 3 j)))) (mAt (z_mem ρ) (z_T ρ 1 j + z_T ρ 3 j * 4 + 1))) (mAt (z_mem ρ) (z_T ρ 1 j + z_T ρ 3 j * 4 + 2))) (mAt (z_mem ρ) (z_T ρ 1 j + z_T ρ 3 j * 4 + 3))) 0) (cNn (f9 ρ j))) (cOp (f9 ρ j))) (bI (cFg (f9 ρ j)))
def h_op (ρ : RS) (j : Nat) : RS := if j = 0 then h_adm (h_tk ρ j) else h_blk (h_tk ρ j)
def q_op (ρ : RS) (j : Nat) : Int32 := if j = 0 then q_adm (h_tk ρ j) else q_blk (h_tk ρ j)
def h_cnt (ρ : RS) (st : Int32) : RS := if st = 0 then w_dn ρ (z_dn ρ + 1) else w_fa ρ (z_fa ρ + 1)
def h_an1 (ρ : RS) (j k : Nat) (st : Int32) (id : Int32) : RS := w_T (w_mem ρ (mPut (z_mem ρ) (z_T ρ 1 (4 + k) + z_T ρ 4 (4 + k)) (entR id j (z_T ρ 3 j) st (z_T ρ 6 k) (z_re ρ)))) (advC (z_T ρ) k)
def h_ans (ρ : RS) (j k : Nat) (st : Int32) (id : Int32) : RS := if advC (z_T ρ) k 7 k = 0 then h_an1 ρ j k st id else w_bi (h_an1 ρ j k st id) (z_bi ρ ||| (1 : Int32) <<< (nI k &&& 31))
def h_cmd (ρ : RS) (j : Nat) : RS := h_ans (h_cnt (h_op ρ j) (q_op ρ j)) j (z_T (h_op ρ j) 5 j).toNatClampNeg (q_op ρ j) (cId (f9 ρ j))
theorem htk_T (ρ : RS) (j : Nat) : z_T (h_tk ρ j) = up2 (z_T ρ) 3 j (bhd (z_T ρ 2 j) (z_T ρ 3 j)) := rfl
theorem htk_n (ρ : RS) (j : Nat) : 1 ≤ z_n (h_tk ρ j) ∧ z_n (h_tk ρ j) ≤ 256 := cNn_b _
theorem htk_f (ρ : RS) (j : Nat) : z_fg (h_tk ρ j) = 0 ∨ z_fg (h_tk ρ j) = 1 := bI_z
theorem hop_TI {ρ : RS} {j : Nat} (hT : TI (z_T ρ)) (h0 : ¬ z_T ρ 0 j = 0) : TI (z_T (h_op ρ j)) ∧ ¬ z_T (h_op ρ j) 0 j = 0 := by
  have t1 : TI (z_T (h_tk ρ j)) := by rw [htk_T]; exact TI_hd hT
  have t2 : ¬ z_T (h_tk ρ j) 0 j = 0 := by rw [htk_T, up2_ne (Or.inl (by decide))]; exact h0
  have t3 := htk_n ρ j
  have t4 := htk_f ρ j
  unfold h_op
  generalize h_tk ρ j = τ at t1 t2 t3 t4 ⊢
  split
  · rename_i e
    subst e
    obtain ⟨a, b⟩ := adm_TI t1 t3.1 t3.2 t4
    exact ⟨a, by rw [b]; exact t2⟩
  · rw [hblk_T]; exact ⟨t1, t2⟩
theorem hcnt_T (ρ : RS) (st : Int32) : z_T (h_cnt ρ st) = z_T ρ := by
  unfold h_cnt
  split <;> rfl
theorem hans_T (ρ : RS) (j k : Nat) (st id : Int32) : z_T (h_ans ρ j k st id) = advC (z_T ρ) k := by
  unfold h_ans
  split <;> rfl
theorem hcmd_TI {ρ : RS} {j : Nat} (hT : TI (z_T ρ)) (h0 : ¬ z_T ρ 0 j = 0) : TI (z_T (h_cmd ρ j)) := by
  unfold h_cmd
  rw [hans_T, hcnt_T]
  exact TI_adv (hop_TI hT h0).1
theorem adv_t' {T : Nat → Nat → Int32} {k : Nat} (h : QI T (4 + k) 1) (h6 : T 6 k = 0 ∨ T 6 k = 1) (c : up2 T 4 (4 + k) (T 4 (4 + k) + 1) 4 (4 + k) = up2 T 4 (4 + k) (T 4 (4 + k) + 1) 2 (4 + k)) : up2 (up2 (up2 T 4 (4 + k) (T 4 (4 + k) + 1)) 4 (4 + k) 0) 6 k (up2 (up2 T 4 (4 + k) (T 4 (4 + k) + 1)) 4 (4 + k) 0 6 k ^^^ 1) = advC T k := by
  rw [up2_eq, up2_ne (Or.inl (by decide))] at c
  rw [show up2 (up2 T 4 (4 + k) (T 4 (4 + k) + 1)) 4 (4 + k) 0 6 k = T 6 k from by rw [up2_ne (Or.inl (by decide)), up2_ne (Or.inl (by decide))]]
  exact adv_t h h6 c
