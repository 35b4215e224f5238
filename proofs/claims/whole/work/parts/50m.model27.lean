/-! side by side: the calls -/
def Jn (N : Nat) (σ : CS) (ρ : RS) : Prop := Rel N σ ρ ∧ CInv σ ∧ RIv ρ ∧ (z_on ρ = 0 → ∀ q, q < 8 → z_T ρ 0 q = 0)
theorem Jn.up {N M : Nat} {σ : CS} {ρ : RS} (h : Jn N σ ρ) (hN : N ≤ M) : Jn M σ ρ := ⟨h.1.up hN, h.2⟩
def g_pok (σ : CS) (p : Int32) (v : Int64) : CS := s_mem σ (mPut (x_mem σ) p v)
def h_pok (ρ : RS) (p : Int32) (v : Int64) : RS := w_mem ρ (mPut (z_mem ρ) p v)
theorem j_pok {N : Nat} {σ : CS} {ρ : RS} {p : Int32} {v : Int64} (h : Jn N σ ρ) : Jn N (g_pok σ p v) (h_pok ρ p v) := by
  obtain ⟨⟨⟨e1, e2, e3, e4, e5, e6⟩, hd, hf, hb⟩, ci, ri, ho⟩ := h
  exact ⟨⟨⟨congrArg (fun m => mPut m p v) e1, e2, e3, e4, e5, e6⟩, hd, hf, hb⟩, ci_d ci ci.1 rfl rfl rfl, ⟨rk_of ri.1 rfl rfl rfl rfl, ri.2⟩, ho⟩
def g_int (σ : CS) (p : Int32) : CS := s_bi σ (x_bi σ &&& (p ^^^ -1))
def h_int (ρ : RS) (p : Int32) : RS := w_bi ρ (z_bi ρ &&& (p ^^^ -1))
theorem j_int {N : Nat} {σ : CS} {ρ : RS} {p : Int32} (h : Jn N σ ρ) : Jn N (g_int σ p) (h_int ρ p) := by
  obtain ⟨⟨⟨e1, e2, e3, e4, e5, e6⟩, hd, hf, hb⟩, ci, ri, ho⟩ := h
  exact ⟨⟨⟨e1, e2, e3, congrArg (fun m => m &&& (p ^^^ -1)) e4, e5, e6⟩, hd, hf, hb⟩, ci_d ci ci.1 rfl rfl rfl, ⟨rk_of ri.1 rfl rfl rfl rfl, ri.2⟩, ho⟩
theorem j_T {N : Nat} {σ : CS} {ρ : RS} {T T' : Nat → Nat → Int32} (h : Jn N σ ρ) (e : T = T') (ht : TI T') (h0 : ∀ q, T' 0 q = z_T ρ 0 q) : Jn N (s_T σ T) (w_T ρ T') := by
  obtain ⟨⟨⟨e1, e2, e3, e4, e5, e6⟩, hd, hf, hb⟩, ci, ri, ho⟩ := h
  exact ⟨⟨⟨e1, e, e3, e4, e5, e6⟩, hd, hf, hb⟩, ci_T ci, ⟨rk_of ri.1 rfl rfl rfl rfl, ht⟩, fun o q hq => (h0 q).trans (ho o q hq)⟩
def g_rng (σ : CS) (p0 p1 : Int32) : CS := s_T σ (ringT (x_T σ) (x_on σ) p0 p1)
def h_rng (ρ : RS) (p0 p1 : Int32) : RS := w_T ρ (ringT (z_T ρ) (z_on ρ) p0 p1)
theorem rng_TI {T : Nat → Nat → Int32} {on p0 p1 : Int32} (h : TI T) : TI (ringT T on p0 p1) ∧ ∀ q, ringT T on p0 p1 0 q = T 0 q := by
  unfold ringT
  split
  · exact ⟨h, fun _ => rfl⟩
  · split
    · rename_i c
      exact ⟨TI_34 h (Or.inr rfl) (fun w hq => QI_t4 hq c.2), fun q => up2_ne (Or.inl (by decide))⟩
    · exact ⟨h, fun _ => rfl⟩
theorem j_rng {N : Nat} {σ : CS} {ρ : RS} {p0 p1 : Int32} (h : Jn N σ ρ) : Jn N (g_rng σ p0 p1) (h_rng ρ p0 p1) ∧ ringR (x_T σ) (x_on σ) p0 p1 = ringR (z_T ρ) (z_on ρ) p0 p1 := by
  have e2 : x_T σ = z_T ρ := h.1.1.2.1
  have e3 : x_on σ = z_on ρ := h.1.1.2.2.1
  have a := rng_TI (on := z_on ρ) (p0 := p0) (p1 := p1) h.2.2.1.2
  refine ⟨j_T h ?_ a.1 a.2, ?_⟩
  · rw [e2, e3]
  · rw [e2, e3]
def g_sen (σ : CS) (p0 p1 : Int32) : CS := s_T σ (seenT (x_T σ) (x_on σ) p0 p1)
def h_sen (ρ : RS) (p0 p1 : Int32) : RS := w_T ρ (seenT (z_T ρ) (z_on ρ) p0 p1)
theorem sen_TI {T : Nat → Nat → Int32} {on p0 p1 : Int32} (h : TI T) : TI (seenT T on p0 p1) ∧ ∀ q, seenT T on p0 p1 0 q = T 0 q := by
  unfold seenT
  split
  · exact ⟨h, fun _ => rfl⟩
  · split
    · rename_i c
      exact ⟨TI_34 h (Or.inl rfl) (fun w hq => QI_t3 hq c.2.1), fun q => up2_ne (Or.inl (by decide))⟩
    · exact ⟨h, fun _ => rfl⟩
theorem j_sen {N : Nat} {σ : CS} {ρ : RS} {p0 p1 : Int32} (h : Jn N σ ρ) : Jn N (g_sen σ p0 p1) (h_sen ρ p0 p1) ∧ seenR (x_T σ) (x_on σ) p0 p1 = seenR (z_T ρ) (z_on ρ) p0 p1 := by
  have e2 : x_T σ = z_T ρ := h.1.1.2.1
  have e3 : x_on σ = z_on ρ := h.1.1.2.2.1
  have a := sen_TI (on := z_on ρ) (p0 := p0) (p1 := p1) h.2.2.1.2
  refine ⟨j_T h ?_ a.1 a.2, ?_⟩
  · rw [e2, e3]
  · rw [e2, e3]
theorem flI_id {f : Nat → Int32} {v : Int32} : ∀ {n : Nat}, (∀ q, q < n → f q = v) → flI f v n = f
  | 0, _ => rfl
  | n + 1, h => by
    rw [flI, flI_id (fun q hq => h q (by omega))]
    funext x
    unfold upd
    by_cases e : x = n
    · rw [if_pos e, e, h n (by omega)]
    · rw [if_neg e]
theorem flI_at {f : Nat → Int32} {v : Int32} : ∀ {n q : Nat}, flI f v n q = if q < n then v else f q
  | 0, q => by rw [if_neg (Nat.not_lt_zero _)]; rfl
  | n + 1, q => by
    rw [flI]
    unfold upd
    by_cases e : q = n
    · rw [if_pos e, if_pos (by omega)]
    · rw [if_neg e, flI_at]
      by_cases c : q < n
      · rw [if_pos c, if_pos (by omega)]
      · rw [if_neg c, if_neg (by omega)]
theorem upr_id {T : Nat → Nat → Int32} (h : ∀ q, q < 8 → T 0 q = 0) : upr T 0 (flI (T 0) 0 8) = T := by
  rw [flI_id h]
  funext x y
  unfold upr
  by_cases e : x = 0
  · rw [if_pos e, e]
  · rw [if_neg e]
theorem i3264 (p : Int32) : p.toInt64.toInt32 = p := by simp
theorem beg_T {T : Nat → Nat → Int32} {p0 p1 p2 p3 : Int32} (h : ∀ q, q < 8 → T 0 q = 0) : mkS (mkC T 0 p2 p3 1) 0 p0 p1 0 = rbT T p0 p1 p2 p3 := by
  rw [rbT, upr_id h, i3264, i3264, i3264, i3264, mkQ, if_neg (by decide), mkQ, if_pos (by decide)]
  funext x y
  unfold mkS mkC mkR up2
  by_cases y0 : y = 0
  · by_cases x0 : x = 0
    · simp [x0, y0]
    by_cases x1 : x = 1
    · simp [x1, y0]
    by_cases x2 : x = 2
    · simp [x2, y0]
    by_cases x3 : x = 3
    · simp [x3, y0]
    by_cases x4 : x = 4
    · simp [x4, y0]
    by_cases x5 : x = 5
    · simp [x5, y0]
    by_cases x6 : x = 6
    · simp [x6, y0]
    by_cases x7 : x = 7
    · simp [x7, y0]
    simp [x0, x1, x2, x3, x4, x5, x6, x7]
  · by_cases y4 : y = 4
    · simp [y4]
    · simp [y0, y4]
theorem beg_TI {T : Nat → Nat → Int32} {p0 p1 p2 p3 : Int32} (h : TI T) (hf : bgF p0 p1 p2 p3) : TI (mkS (mkC T 0 p2 p3 1) 0 p0 p1 0) := by
  obtain ⟨B, S, a1, a2, a3, a4, a5⟩ := fit_n (w := 4) (by decide) (by decide) hf.1
  obtain ⟨B', S', b1, b2, b3, b4, b5⟩ := fit_n (w := 1) (by decide) (by decide) hf.2
  rw [i3264] at a1 a2 b1 b2
  rw [← nI_0]
  refine TI_mkS (c := 0) (TI_mkC h (by decide) b1 b2 b3 b4 b5 (Or.inr rfl)) (by decide) a1 a2 a3 a4 a5 (by decide) ?_
  rw [mkC_0.1]
  decide
def g_beg (σ : CS) (p0 p1 p2 p3 : Int32) : CS := s_tu (s_bi (s_on (s_T σ (if bgF p0 p1 p2 p3 ∧ x_on σ = 0 then mkS (mkC (x_T σ) 0 p2 p3 1) 0 p0 p1 0 else x_T σ)) (if bgF p0 p1 p2 p3 ∧ x_on σ = 0 then 1 else x_on σ)) (if bgF p0 p1 p2 p3 ∧ x_on σ = 0 then 0 else x_bi σ)) (if bgF p0 p1 p2 p3 ∧ x_on σ = 0 then 0 else x_tu σ)
def h_beg (ρ : RS) (p0 p1 p2 p3 : Int32) : RS := w_tu (w_bi (w_on (w_T ρ (if bgF p0 p1 p2 p3 ∧ z_on ρ = 0 then rbT (z_T ρ) p0 p1 p2 p3 else z_T ρ)) (if bgF p0 p1 p2 p3 ∧ z_on ρ = 0 then 1 else z_on ρ)) (if bgF p0 p1 p2 p3 ∧ z_on ρ = 0 then 0 else z_bi ρ)) (if bgF p0 p1 p2 p3 ∧ z_on ρ = 0 then 0 else z_tu ρ)
theorem j_beg {N : Nat} {σ : CS} {ρ : RS} {p0 p1 p2 p3 : Int32} (h : Jn N σ ρ) : Jn N (g_beg σ p0 p1 p2 p3) (h_beg ρ p0 p1 p2 p3) := by
  obtain ⟨⟨⟨e1, e2, e3, e4, e5, e6⟩, hd, hf, hb⟩, ci, ri, ho⟩ := h
  unfold g_beg h_beg
  by_cases c : bgF p0 p1 p2 p3 ∧ z_on ρ = 0
  · have c' : bgF p0 p1 p2 p3 ∧ x_on σ = 0 := ⟨c.1, e3.trans c.2⟩
    have z := ho c.2
    repeat rw [if_pos c]
    repeat rw [if_pos c']
    have et : mkS (mkC (x_T σ) 0 p2 p3 1) 0 p0 p1 0 = rbT (z_T ρ) p0 p1 p2 p3 := by rw [e2]; exact beg_T z
    have ti : TI (rbT (z_T ρ) p0 p1 p2 p3) := by rw [← beg_T z]; exact beg_TI ri.2 c.1
    exact ⟨⟨⟨e1, et, rfl, rfl, rfl, e6⟩, hd, hf, hb⟩, ⟨ci.1, ci.2.1, ci.2.2.1, (by decide : 0 < 4)⟩, ⟨⟨ri.1.1, ri.1.2.1, (by decide : 0 < 4)⟩, ti⟩, fun q => absurd q (by decide : ¬ (1 : Int32) = 0)⟩
  · have c' : ¬ (bgF p0 p1 p2 p3 ∧ x_on σ = 0) := fun q => c ⟨q.1, e3.symm.trans q.2⟩
    repeat rw [if_neg c]
    repeat rw [if_neg c']
    exact ⟨⟨⟨e1, e2, e3, e4, e5, e6⟩, hd, hf, hb⟩, ci, ri, ho⟩
theorem drp_T {T : Nat → Nat → Int32} : drpN T 4 = upr T 0 (flI (T 0) 0 8) := by
  funext x y
  unfold upr
  by_cases x0 : x = 0
  · rw [if_pos x0, flI_at]
    subst x0
    simp only [drpN, up2, ↓reduceIte]
    by_cases y8 : y < 8
    · rw [if_pos y8]
      repeat' split
      all_goals first | rfl | (exfalso; omega)
    · rw [if_neg y8]
      repeat' split
      all_goals first | rfl | (exfalso; omega)
  · rw [if_neg x0]
    simp only [drpN, up2, if_neg x0]
theorem upr_0 {T : Nat → Nat → Int32} {q : Nat} (h : q < 8) : upr T 0 (flI (T 0) 0 8) 0 q = 0 := by
  unfold upr
  rw [if_pos rfl, flI_at, if_pos h]
theorem upr_n {T : Nat → Nat → Int32} {f : Nat → Int32} {x y : Nat} (h : x ≠ 0) : upr T 0 f x y = T x y := by
  unfold upr
  rw [if_neg h]
theorem upr_TI {T : Nat → Nat → Int32} (h : TI T) : TI (upr T 0 (flI (T 0) 0 8)) := by
  refine ⟨fun q hq h0 => absurd (upr_0 (by omega)) h0, fun k hk h0 => absurd (upr_0 (by omega)) h0, fun q hq => Or.inl (upr_0 hq), fun k hk => ?_⟩
  rw [upr_n (by decide)]
  exact h.2.2.2 k hk
def g_stp (σ : CS) (p0 : Int32) : CS := s_on (s_T (s_nc (s_med σ (if x_on σ = 0 ∨ ¬ p0 = 0 then x_med σ else flM (x_cb σ) (x_ca σ) (x_med σ) (x_nc σ))) (if x_on σ = 0 then x_nc σ else 0)) (if x_on σ = 0 then x_T σ else drpN (x_T σ) 4)) 0
def h_stp (ρ : RS) (p0 : Int32) : RS := w_T (w_on (w_nc (w_cb (w_R ρ (if z_on ρ = 0 ∨ ¬ p0 = 0 then z_R ρ else (flU (z_nc ρ) (z_R ρ, z_cb ρ)).1)) (if z_on ρ = 0 ∨ ¬ p0 = 0 then z_cb ρ else (flU (z_nc ρ) (z_R ρ, z_cb ρ)).2)) (if z_on ρ = 0 then z_nc ρ else 0)) 0) (if z_on ρ = 0 then z_T ρ else upr (z_T ρ) 0 (flI (z_T ρ 0) 0 8))
theorem j_stp {N : Nat} {σ : CS} {ρ : RS} {p0 : Int32} (h : Jn N σ ρ) : Jn N (g_stp σ p0) (h_stp ρ p0) := by
  obtain ⟨⟨⟨e1, e2, e3, e4, e5, e6⟩, hd, hf, hb⟩, ci, ri, ho⟩ := h
  unfold g_stp h_stp
  rw [e3]
  by_cases o : z_on ρ = 0
  · repeat rw [if_pos (show z_on ρ = 0 ∨ ¬ p0 = 0 from Or.inl o)]
    repeat rw [if_pos o]
    exact ⟨⟨⟨e1, e2, rfl, e4, e5, e6⟩, hd, hf, hb⟩, ci_d ci ci.1 rfl rfl rfl, ⟨rk_of ri.1 rfl rfl rfl rfl, ri.2⟩, fun _ => ho o⟩
  · repeat rw [if_neg o]
    have et : drpN (x_T σ) 4 = upr (z_T ρ) 0 (flI (z_T ρ 0) 0 8) := by rw [e2]; exact drp_T
    by_cases p : p0 = 0
    · have c : ¬ (z_on ρ = 0 ∨ ¬ p0 = 0) := fun q => q.elim o (fun r => r p)
      repeat rw [if_neg c]
      exact ⟨⟨⟨e1, et, rfl, e4, e5, e6⟩, DR_fl hd ri.1.2.1, hf, hb⟩, ci_d ci DI0 rfl rfl rfl, ⟨rk_0 ri.1 rfl rfl, upr_TI ri.2⟩, fun _ q hq => upr_0 hq⟩
    · repeat rw [if_pos (show z_on ρ = 0 ∨ ¬ p0 = 0 from Or.inr p)]
      exact ⟨⟨⟨e1, et, rfl, e4, e5, e6⟩, ⟨rfl, fun k hk => absurd hk (Nat.not_lt_zero _), fun k hk => absurd hk (Nat.not_lt_zero _), hd.2.2.2⟩, hf, hb⟩, ci_d ci DI0 rfl rfl rfl, ⟨rk_0 ri.1 rfl rfl, upr_TI ri.2⟩, fun _ q hq => upr_0 hq⟩
theorem j_run {N : Nat} {σ : CS} {ρ ρ' : RS} {p r : Int32} (h : Jn N σ ρ) (hN : N + 60000 < 2 ^ 31) (hr : rrP ρ p r ρ') : Jn (N + 60000) (g_run σ p) ρ' ∧ runR σ p = r := by
  have e3 : x_on σ = z_on ρ := h.1.1.2.2.1
  unfold rrP at hr
  unfold g_run runR
  rw [e3]
  by_cases o : z_on ρ = 0
  · rw [if_pos o] at hr
    obtain ⟨rfl, rfl⟩ := hr
    repeat rw [if_pos o]
    exact ⟨h.up (by omega), rfl⟩
  · rw [if_neg o] at hr
    repeat rw [if_neg o]
    by_cases c : p < 0 ∨ 200 < p
    · rw [if_pos c] at hr
      obtain ⟨rfl, rfl⟩ := hr
      repeat rw [if_pos c]
      exact ⟨h.up (by omega), rfl⟩
    · rw [if_neg c] at hr
      obtain ⟨k, rfl, hr⟩ := hr
      repeat rw [if_neg c]
      have hp := (p200' c).1
      obtain ⟨i1, i2, i3, i4, i5⟩ := rel_run h.1 (by omega) h.2.1 h.2.2.1 hr
      exact ⟨⟨i2.up (by omega), i3, i4, fun q => absurd (i5.symm.trans q) o⟩, by rw [i1]⟩
theorem j_que {N : Nat} {σ : CS} {ρ : RS} {p0 p1 : Int32} (h : Jn N σ ρ) : queueR (x_T σ) p0 p1 = queueR (z_T ρ) p0 p1 := by
  have e2 : x_T σ = z_T ρ := h.1.1.2.1
  rw [e2]
theorem j_mat {N : Nat} {σ : CS} {ρ : RS} {p0 : Int32} (h : Jn N σ ρ) : mAt (x_mem σ) p0 = mAt (z_mem ρ) p0 := by
  have e2 : x_mem σ = z_mem ρ := h.1.1.1
  rw [e2]
theorem j_bi {N : Nat} {σ : CS} {ρ : RS} (h : Jn N σ ρ) : x_bi σ = z_bi ρ := h.1.1.2.2.2.1
theorem j_cou {N : Nat} {σ : CS} {ρ : RS} {p : Int32} (h : Jn N σ ρ) : countR (x_nc σ) (x_cg σ) (x_dw σ) (x_dq σ) (x_br σ) (x_bs σ) p = countR (z_nc ρ) (z_cg ρ) (z_dn ρ) (z_fa ρ) (z_br ρ) (z_bs ρ) p := by
  have e6 : x_cg σ = z_cg ρ := h.1.1.2.2.2.2.2
  have e7 : x_nc σ = z_nc ρ := h.1.2.1.1
  obtain ⟨f1, f2, f3, f4⟩ := h.1.2.2.1
  rw [e6, e7, f1, f2, f3, f4]
theorem j_bans {N : Nat} {σ : CS} {ρ : RS} {p0 p1 p2 p3 : Int32} (h : Jn N σ ρ) : (if ¬ bgF p0 p1 p2 p3 then (-1 : Int32) else if ¬ x_on σ = 0 then -2 else 0) = if ¬ bgF p0 p1 p2 p3 then -1 else if ¬ z_on ρ = 0 then -2 else 0 := by
  have e3 : x_on σ = z_on ρ := h.1.1.2.2.1
  rw [e3]
theorem j_sans {N : Nat} {σ : CS} {ρ : RS} (h : Jn N σ ρ) : (if x_on σ = 0 then (-3 : Int32) else nI (x_nc σ)) = if z_on ρ = 0 then -3 else nI (z_nc ρ) := by
  have e3 : x_on σ = z_on ρ := h.1.1.2.2.1
  have e7 : x_nc σ = z_nc ρ := h.1.2.1.1
  rw [e3, e7]
theorem i8_n {j i : Nat} (hj : j < 64) (hi : i < 8) : (nI j * 8 + nI i).toNatClampNeg = j * 8 + i := by
  rw [show (8 : Int32) = nI 8 from rfl, pk_mul, nI_add, nI_clamp (by omega)]
theorem j_blo {N : Nat} {σ : CS} {ρ : RS} {b k m : Int32} (h : Jn N σ ρ) : (if m = 0 then asR (x_med σ) (x_cb σ) (x_ca σ) (x_nc σ) b k else onM (x_med σ) b k) = blkV (z_R ρ) (z_cb ρ) (z_nc ρ) b k m := by
  obtain ⟨d1, d2, d3, d4⟩ := h.1.2.1
  have d1 : x_nc σ = z_nc ρ := d1
  have d2 : ∀ k, k < z_nc ρ → x_cb σ k = z_cb ρ k := d2
  have d3 : ∀ k, k < z_nc ρ → ∀ i, i < 8 → x_ca σ (k * 8 + i) = z_R ρ (64 + k) i := d3
  have d4 : ∀ b, b < 64 → ∀ i, i < 8 → x_med σ (b * 8 + i) = z_R ρ b i := d4
  have hn : z_nc ρ ≤ 6 := h.2.2.1.1.1
  generalize x_med σ = med at d4 ⊢
  generalize x_cb σ = cb at d2 ⊢
  generalize x_ca σ = ca at d3 ⊢
  generalize x_nc σ = nc at d1 ⊢
  subst d1
  unfold blkV
  by_cases hs : isl b k
  · obtain ⟨⟨hj, eb⟩, hi, ek⟩ := isl_n hs
    have om : onM med b k = z_R ρ b.toNatClampNeg k.toNatClampNeg := by
      rw [onM, if_pos hs, ← d4 _ hj _ hi, ← i8_n hj hi, ← eb, ← ek]
    rw [if_pos hs]
    by_cases hm : m = 0
    · rw [if_pos hm, if_pos hm, asR, bof, ← eb, fnd_cong d2]
      cases hf : fnd (z_cb ρ) b (z_nc ρ) with
      | none => exact om
      | some q =>
        have hq := fnd_lt hf
        show (if isl b k then ca (nI q * 8 + k).toNatClampNeg else onM med b k) = z_R ρ (64 + q) k.toNatClampNeg
        rw [if_pos hs, ← d3 _ hq _ hi, ← i8_n (j := q) (by omega) hi, ← ek]
    · rw [if_neg hm, if_neg hm]; exact om
  · have om : onM med b k = 0 := by rw [onM, if_neg hs]
    rw [if_neg hs, om]
    by_cases hm : m = 0
    · rw [if_pos hm, asR]
      cases fnd cb b (z_nc ρ) with
      | none => exact om
      | some q =>
        show (if isl b k then ca (nI q * 8 + k).toNatClampNeg else onM med b k) = 0
        rw [if_neg hs, om]
    · rw [if_neg hm]
