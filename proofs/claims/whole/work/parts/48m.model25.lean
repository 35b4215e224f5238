/-! side by side: a command, a run -/
theorem rc_cnt {N : Nat} {σ : CS} {ρ : RS} {st : Int32} (h : RC N σ ρ) : RC (N + 1) (g_cnt σ st) (h_cnt ρ st) := by
  obtain ⟨⟨⟨e1, e2, e3, e4, e5, e6⟩, hd, ⟨f1, f2, f3, f4⟩, b1, b2, b3, b4⟩, hc⟩ := h
  unfold g_cnt h_cnt
  split
  · exact ⟨⟨⟨e1, e2, e3, e4, e5, e6⟩, hd, ⟨congrArg (· + 1) f1, f2, f3, f4⟩, Nat.succ_le_succ b1, Nat.le_succ_of_le b2, Nat.le_succ_of_le b3, Nat.le_succ_of_le b4⟩, hc⟩
  · exact ⟨⟨⟨e1, e2, e3, e4, e5, e6⟩, hd, ⟨f1, congrArg (· + 1) f2, f3, f4⟩, Nat.le_succ_of_le b1, Nat.succ_le_succ b2, Nat.le_succ_of_le b3, Nat.le_succ_of_le b4⟩, hc⟩
theorem cnt_i (σ : CS) (st : Int32) : x_id (g_cnt σ st) = x_id σ := by
  unfold g_cnt
  split <;> rfl
theorem an1_e (σ : CS) (j k : Nat) (st : Int32) : g_an1 σ j k st = s_T (s_mem σ (mPut (x_mem σ) (x_T σ 1 (4 + k) + x_T σ 4 (4 + k)) (ent (x_id σ) j (x_T σ 3 j) st (x_T σ 6 k) (x_re σ)))) (advC (x_T σ) k) := rfl
theorem han1_e (ρ : RS) (j k : Nat) (st id : Int32) : h_an1 ρ j k st id = w_T (w_mem ρ (mPut (z_mem ρ) (z_T ρ 1 (4 + k) + z_T ρ 4 (4 + k)) (entR id j (z_T ρ 3 j) st (z_T ρ 6 k) (z_re ρ)))) (advC (z_T ρ) k) := rfl
theorem ent_e {id hd st ph : Int32} {j re : Nat} {r : Int64} (h : (nI re).toInt64 = r) : ent id j hd st ph re = entR id j hd st ph r := by
  unfold ent entR
  rw [h]
theorem rc_an1 {N : Nat} {σ : CS} {ρ : RS} {j k : Nat} {st id : Int32} (h : RC N σ ρ) (hid : x_id σ = id) : RC N (g_an1 σ j k st) (h_an1 ρ j k st id) := by
  have e1 : x_mem σ = z_mem ρ := h.1.1.1
  have e2 : x_T σ = z_T ρ := h.1.1.2.1
  have c7 : (nI (x_re σ)).toInt64 = z_re ρ := h.2.2.2.2.2.2.2
  rw [an1_e, han1_e]
  refine rc_T (rc_mem h ?_) (by rw [e2])
  rw [e1, e2, hid, ent_e c7]
theorem rc_bi {N : Nat} {σ : CS} {ρ : RS} {f f' : Int32} (h : RC N σ ρ) (e : f = f') : RC N (s_bi σ f) (w_bi ρ f') := by
  obtain ⟨⟨⟨e1, e2, e3, e4, e5, e6⟩, hd, hf, hb⟩, hc⟩ := h
  exact ⟨⟨⟨e1, e2, e3, e, e5, e6⟩, hd, hf, hb⟩, hc⟩
theorem rc_ans {N : Nat} {σ : CS} {ρ : RS} {j k : Nat} {st id : Int32} (h : RC N σ ρ) (hid : x_id σ = id) : RC N (g_ans σ j k st) (h_ans ρ j k st id) := by
  have e2 : x_T σ = z_T ρ := h.1.1.2.1
  have e4 : x_bi σ = z_bi ρ := h.1.1.2.2.2.1
  have ha := rc_an1 (j := j) (k := k) (st := st) h hid
  unfold g_ans h_ans
  rw [e2, e4]
  generalize g_an1 σ j k st = τ at ha ⊢
  generalize h_an1 ρ j k st id = π at ha ⊢
  split
  · exact ha
  · exact rc_bi ha rfl
theorem tk_x (σ : CS) (j : Nat) : x_mem (g_tk σ j) = x_mem σ ∧ x_on (g_tk σ j) = x_on σ ∧ x_bi (g_tk σ j) = x_bi σ ∧ x_tu (g_tk σ j) = (j + 1) % 4 ∧ x_cg (g_tk σ j) = x_cg σ ∧ x_ds (g_tk σ j) = x_ds σ ∧ x_dw (g_tk σ j) = x_dw σ ∧ x_dq (g_tk σ j) = x_dq σ ∧ x_br (g_tk σ j) = x_br σ ∧ x_bs (g_tk σ j) = x_bs σ := ⟨rfl, rfl, rfl, rfl, rfl, rfl, rfl, rfl, rfl, rfl⟩
theorem tk_y (σ : CS) (j : Nat) : x_op (g_tk σ j) = cOp (mAt (x_mem σ) (x_T σ 1 j + x_T σ 3 j * 4)) ∧ x_fg (g_tk σ j) = bI (cFg (mAt (x_mem σ) (x_T σ 1 j + x_T σ 3 j * 4))) ∧ x_n (g_tk σ j) = cNn (mAt (x_mem σ) (x_T σ 1 j + x_T σ 3 j * 4)) ∧ x_cp (g_tk σ j) = mAt (x_mem σ) (x_T σ 1 j + x_T σ 3 j * 4 + 1) ∧ x_cq (g_tk σ j) = mAt (x_mem σ) (x_T σ 1 j + x_T σ 3 j * 4 + 2) ∧ x_cx (g_tk σ j) = mAt (x_mem σ) (x_T σ 1 j + x_T σ 3 j * 4 + 3) ∧ x_re (g_tk σ j) = 0 ∧ x_id (g_tk σ j) = cId (mAt (x_mem σ) (x_T σ 1 j + x_T σ 3 j * 4)) := ⟨rfl, rfl, rfl, rfl, rfl, rfl, rfl, rfl⟩
theorem htk_x (ρ : RS) (j t : Nat) : z_mem (h_tk (w_tu ρ t) j) = z_mem ρ ∧ z_on (h_tk (w_tu ρ t) j) = z_on ρ ∧ z_bi (h_tk (w_tu ρ t) j) = z_bi ρ ∧ z_tu (h_tk (w_tu ρ t) j) = t ∧ z_cg (h_tk (w_tu ρ t) j) = z_cg ρ ∧ z_R (h_tk (w_tu ρ t) j) = z_R ρ ∧ z_cb (h_tk (w_tu ρ t) j) = z_cb ρ ∧ z_nc (h_tk (w_tu ρ t) j) = z_nc ρ ∧ z_dn (h_tk (w_tu ρ t) j) = z_dn ρ ∧ z_fa (h_tk (w_tu ρ t) j) = z_fa ρ ∧ z_br (h_tk (w_tu ρ t) j) = z_br ρ ∧ z_bs (h_tk (w_tu ρ t) j) = z_bs ρ := ⟨rfl, rfl, rfl, rfl, rfl, rfl, rfl, rfl, rfl, rfl, rfl, rfl⟩
theorem htk_y (ρ : RS) (j t : Nat) : z_T (h_tk (w_tu ρ t) j) = up2 (z_T ρ) 3 j (bhd (z_T ρ 2 j) (z_T ρ 3 j)) ∧ z_op (h_tk (w_tu ρ t) j) = cOp (mAt (z_mem ρ) (z_T ρ 1 j + z_T ρ 3 j * 4)) ∧ z_fg (h_tk (w_tu ρ t) j) = bI (cFg (mAt (z_mem ρ) (z_T ρ 1 j + z_T ρ 3 j * 4))) ∧ z_n (h_tk (w_tu ρ t) j) = cNn (mAt (z_mem ρ) (z_T ρ 1 j + z_T ρ 3 j * 4)) ∧ z_cp (h_tk (w_tu ρ t) j) = mAt (z_mem ρ) (z_T ρ 1 j + z_T ρ 3 j * 4 + 1) ∧ z_cq (h_tk (w_tu ρ t) j) = mAt (z_mem ρ) (z_T ρ 1 j + z_T ρ 3 j * 4 + 2) ∧ z_cx (h_tk (w_tu ρ t) j) = mAt (z_mem ρ) (z_T ρ 1 j + z_T ρ 3 j * 4 + 3) ∧ z_re (h_tk (w_tu ρ t) j) = 0 := ⟨rfl, rfl, rfl, rfl, rfl, rfl, rfl, rfl⟩
theorem f9_tu (ρ : RS) (j t : Nat) : f9 (w_tu ρ t) j = mAt (z_mem ρ) (z_T ρ 1 j + z_T ρ 3 j * 4) := rfl
theorem rc_tk {N : Nat} {σ : CS} {ρ : RS} {j : Nat} (h : Rel N σ ρ) : RC N (g_tk σ j) (h_tk (w_tu ρ ((j + 1) % 4)) j) ∧ x_id (g_tk σ j) = cId (f9 (w_tu ρ ((j + 1) % 4)) j) := by
  obtain ⟨⟨e1, e2, e3, e4, e5, e6⟩, hd, ⟨f1, f2, f3, f4⟩, b1, b2, b3, b4⟩ := h
  have t1 := tk_T σ j
  obtain ⟨a1, a2, a3, a4, a5, a6, a7, a8, a9, a10⟩ := tk_x σ j
  obtain ⟨y1, y2, y3, y4, y5, y6, y7, y8⟩ := tk_y σ j
  obtain ⟨p1, p2, p3, p4, p5, p6, p7, p8, p9, p10, p11, p12⟩ := htk_x ρ j ((j + 1) % 4)
  obtain ⟨q0, q1, q2, q3, q4, q5, q6, q7⟩ := htk_y ρ j ((j + 1) % 4)
  rw [f9_tu]
  generalize g_tk σ j = τ at *
  generalize h_tk (w_tu ρ ((j + 1) % 4)) j = π at *
  refine ⟨⟨⟨⟨?_, ?_, ?_, ?_, ?_, ?_⟩, ?_, ⟨?_, ?_, ?_, ?_⟩, ?_, ?_, ?_, ?_⟩, ⟨?_, ?_, ?_, ?_, ?_, ?_, ?_⟩⟩, ?_⟩
  · rw [a1, p1, e1]
  · rw [t1, q0, e2]
  · rw [a2, p2, e3]
  · rw [a3, p3, e4]
  · rw [a4, p4]
  · rw [a5, p5, e6]
  · rw [a6, p6, p7, p8]; exact hd
  · rw [a7, p9, f1]
  · rw [a8, p10, f2]
  · rw [a9, p11, f3]
  · rw [a10, p12, f4]
  · rw [p9]; exact b1
  · rw [p10]; exact b2
  · rw [p11]; exact b3
  · rw [p12]; exact b4
  · rw [y1, q1, e1, e2]
  · rw [y2, q2, e1, e2]
  · rw [y3, q3, e1, e2]
  · rw [y4, q4, e1, e2]
  · rw [y5, q5, e1, e2]
  · rw [y6, q6, e1, e2]
  · rw [y7, q7]; rfl
  · rw [y8, e1, e2]
