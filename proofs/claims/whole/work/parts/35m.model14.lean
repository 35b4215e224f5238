/-! the invariant of the queues is kept; a command of the reference -/
theorem QI_cong {T T' : Nat → Nat → Int32} {q w : Nat} (h : QI T q w) (e1 : T' 1 q = T 1 q) (e2 : T' 2 q = T 2 q) (e3 : T' 3 q = T 3 q) (e4 : T' 4 q = T 4 q) : QI T' q w := by
  obtain ⟨s, h, t, b, a2, h2, h16, a3, hh, a4, ht, a1, hb⟩ := h
  exact ⟨s, h, t, b, e2.trans a2, h2, h16, e3.trans a3, hh, e4.trans a4, ht, e1.trans a1, hb⟩
theorem TI_34 {T : Nat → Nat → Int32} {f q0 : Nat} {v : Int32} (hT : TI T) (hf : f = 3 ∨ f = 4) (hq : ∀ w, QI T q0 w → QI (up2 T f q0 v) q0 w) : TI (up2 T f q0 v) := by
  have n0 : ∀ x y, x ≠ f → up2 T f q0 v x y = T x y := fun x y hx => up2_ne (Or.inl hx)
  have hQ : ∀ q w, QI T q w → QI (up2 T f q0 v) q w := by
    intro q w h
    by_cases e : q = q0
    · subst e; exact hq w h
    · exact QI_cong h (up2_ne (Or.inr e)) (up2_ne (Or.inr e)) (up2_ne (Or.inr e)) (up2_ne (Or.inr e))
  refine ⟨fun q h4 h0 => ?_, fun k hk h0 => ?_, fun q h8 => ?_, fun k hk => ?_⟩
  · rw [n0 0 q (by omega)] at h0
    obtain ⟨a, k, hk, e5, h5⟩ := hT.1 q h4 h0
    exact ⟨hQ q 4 a, k, hk, by rw [n0 5 q (by omega)]; exact e5, by rw [n0 0 _ (by omega)]; exact h5⟩
  · rw [n0 0 _ (by omega)] at h0
    obtain ⟨a, h6⟩ := hT.2.1 k hk h0
    exact ⟨hQ _ 1 a, by rw [n0 6 k (by omega)]; exact h6⟩
  · rw [n0 0 q (by omega)]; exact hT.2.2.1 q h8
  · rw [n0 7 k (by omega)]; exact hT.2.2.2 k hk
theorem bhd_n {s t : Nat} (h1 : t < s) (h16 : s ≤ 16) : bhd (nI s) (nI t) = nI (if t + 1 = s then 0 else t + 1) := by
  unfold bhd
  rw [nI_1]
  by_cases c : t + 1 < s
  · rw [if_pos (nI_lt c (by omega)), if_neg (by omega)]
  · rw [if_neg (nI_nlt (by omega) (by omega)), if_pos (by omega), nI_0]
theorem QI_h3 {T : Nat → Nat → Int32} {q w : Nat} (h : QI T q w) : QI (up2 T 3 q (bhd (T 2 q) (T 3 q))) q w := by
  obtain ⟨s, h, t, b, e2, h2, h16, e3, hh, e4, ht, e1, hb⟩ := h
  rw [e2, e3, bhd_n hh h16]
  refine ⟨s, if h + 1 = s then 0 else h + 1, t, b, by rw [up2_ne (Or.inl (by decide))]; exact e2, h2, h16, up2_eq, ?_, by rw [up2_ne (Or.inl (by decide))]; exact e4, ht, by rw [up2_ne (Or.inl (by decide))]; exact e1, hb⟩
  split <;> omega
theorem QI_h4 {T : Nat → Nat → Int32} {q w : Nat} (h : QI T q w) : QI (up2 T 4 q (bhd (T 2 q) (T 4 q))) q w := by
  obtain ⟨s, h, t, b, e2, h2, h16, e3, hh, e4, ht, e1, hb⟩ := h
  rw [e2, e4, bhd_n ht h16]
  refine ⟨s, h, if t + 1 = s then 0 else t + 1, b, by rw [up2_ne (Or.inl (by decide))]; exact e2, h2, h16, by rw [up2_ne (Or.inl (by decide))]; exact e3, hh, up2_eq, ?_, by rw [up2_ne (Or.inl (by decide))]; exact e1, hb⟩
  split <;> omega
theorem TI_hd {T : Nat → Nat → Int32} {j : Nat} (hT : TI T) : TI (up2 T 3 j (bhd (T 2 j) (T 3 j))) := TI_34 hT (Or.inl rfl) (fun _ h => QI_h3 h)
theorem TI_ph {T : Nat → Nat → Int32} {k : Nat} {v : Int32} (hT : TI T) (hv : T 6 k = 0 ∨ T 6 k = 1 → v = 0 ∨ v = 1) : TI (up2 T 6 k v) := by
  have n0 : ∀ x y, x ≠ 6 → up2 T 6 k v x y = T x y := fun x y hx => up2_ne (Or.inl hx)
  have hQ : ∀ q w, QI T q w → QI (up2 T 6 k v) q w := fun q w h => QI_cong h (n0 _ _ (by decide)) (n0 _ _ (by decide)) (n0 _ _ (by decide)) (n0 _ _ (by decide))
  refine ⟨fun q h4 h0 => ?_, fun i hi h0 => ?_, fun q h8 => ?_, fun i hi => ?_⟩
  · rw [n0 0 q (by omega)] at h0
    obtain ⟨a, i, hi, e5, h5⟩ := hT.1 q h4 h0
    exact ⟨hQ q 4 a, i, hi, by rw [n0 5 q (by omega)]; exact e5, by rw [n0 0 _ (by omega)]; exact h5⟩
  · rw [n0 0 _ (by omega)] at h0
    obtain ⟨a, h6⟩ := hT.2.1 i hi h0
    refine ⟨hQ _ 1 a, ?_⟩
    by_cases e : i = k
    · subst e; rw [up2_eq]; exact hv h6
    · rw [up2_ne (Or.inr e)]; exact h6
  · rw [n0 0 q (by omega)]; exact hT.2.2.1 q h8
  · rw [n0 7 i (by omega)]; exact hT.2.2.2 i hi
theorem TI_adv {T : Nat → Nat → Int32} {k : Nat} (hT : TI T) : TI (advC T k) := by
  unfold advC
  refine TI_ph (TI_34 hT (Or.inr rfl) (fun _ h => QI_h4 h)) (fun h => ?_)
  rw [up2_ne (Or.inl (by decide))] at h
  split
  · rcases h with h | h
    · rw [h]; exact Or.inr (by decide)
    · rw [h]; exact Or.inl (by decide)
  · exact h
theorem fit_n {b s : Int64} {e : Int32} {w : Nat} (he : e.toInt64 = lN w) (hw : w ≤ 4) (h : fitR b s e) : ∃ B S : Nat, b.toInt32 = nI B ∧ s.toInt32 = nI S ∧ 2 ≤ S ∧ S ≤ 16 ∧ B + S * w ≤ 1024 := by
  obtain ⟨h1, -, h3, h4, h5⟩ := h
  obtain ⟨a1, a2, a3⟩ := hol_n h1
  have p0 : ¬ s < 0 := fun q => h3 (Int64.lt_iff_toInt_lt.mpr (by
    rw [Int64.lt_iff_toInt_lt] at q
    have e0 : (0 : Int64).toInt = 0 := by decide
    have e2 : (2 : Int64).toInt = 2 := by decide
    rw [e0] at q; rw [e2]; omega))
  obtain ⟨S, hS, rfl⟩ := pk_lOf p0
  rw [show (2 : Int64) = lN 2 from rfl, pk_lLT (by omega) (by omega)] at h3
  rw [show (16 : Int64) = lN 16 from rfl, pk_lLT (by omega) (by omega)] at h4
  have hm : S * w ≤ 16 * 4 := Nat.mul_le_mul (by omega) hw
  rw [he, a3, show lN S * lN w = lN (S * w) from (Int64.ofNat_mul S w).symm, lN_add, show (1024 : Int64) = lN 1024 from rfl, pk_lLT (by omega) (by omega)] at h5
  exact ⟨pN b, S, a2, lN_i S, by omega, by omega, by omega⟩
theorem QI_new {T : Nat → Nat → Int32} {q w : Nat} {b s : Int32} {B S : Nat} (eb : b = nI B) (es : s = nI S) (h2 : 2 ≤ S) (h16 : S ≤ 16) (hb : B + S * w ≤ 1024) (e1 : T 1 q = b) (e2 : T 2 q = s) (e3 : T 3 q = 0) (e4 : T 4 q = 0) : QI T q w := ⟨S, 0, 0, B, e2.trans es, h2, h16, by rw [e3, nI_0], by omega, by rw [e4, nI_0], by omega, e1.trans eb, hb⟩
theorem mkC_0 {T : Nat → Nat → Int32} {j : Nat} {b s i : Int32} : mkC T j b s i 0 (4 + j) = 1 ∧ mkC T j b s i 1 (4 + j) = b ∧ mkC T j b s i 2 (4 + j) = s ∧ mkC T j b s i 3 (4 + j) = 0 ∧ mkC T j b s i 4 (4 + j) = 0 ∧ mkC T j b s i 6 j = 1 ∧ mkC T j b s i 7 j = i := by simp [mkC, up2]
theorem mkC_n {T : Nat → Nat → Int32} {j q f : Nat} {b s i : Int32} (h : q ≠ 4 + j) (hf : f ≤ 4) : mkC T j b s i f q = T f q := by
  unfold mkC
  rw [up2_ne (Or.inl (by omega)), up2_ne (Or.inl (by omega)), up2_ne (Or.inr h), up2_ne (Or.inr h), up2_ne (Or.inr h), up2_ne (Or.inr h), up2_ne (Or.inr h)]
theorem mkC_m {T : Nat → Nat → Int32} {j q f : Nat} {b s i : Int32} (h : q ≠ j) (hf : 5 ≤ f) : mkC T j b s i f q = T f q := by
  unfold mkC
  rw [up2_ne (Or.inr h), up2_ne (Or.inr h), up2_ne (Or.inl (by omega)), up2_ne (Or.inl (by omega)), up2_ne (Or.inl (by omega)), up2_ne (Or.inl (by omega)), up2_ne (Or.inl (by omega))]
theorem TI_mkC {T : Nat → Nat → Int32} {j : Nat} {b s i : Int32} {B S : Nat} (hT : TI T) (hj : j < 4) (eb : b = nI B) (es : s = nI S) (h2 : 2 ≤ S) (h16 : S ≤ 16) (hb : B + S * 1 ≤ 1024) (hi : i = 0 ∨ i = 1) : TI (mkC T j b s i) := by
  obtain ⟨m0, m1, m2, m3, m4, m6, m7⟩ := mkC_0 (T := T) (j := j) (b := b) (s := s) (i := i)
  refine ⟨fun q h4 h0 => ?_, fun k hk h0 => ?_, fun q h8 => ?_, fun k hk => ?_⟩
  · have hq : q ≠ 4 + j := by omega
    rw [mkC_n hq (by decide)] at h0
    obtain ⟨a, k, hk, e5, h5⟩ := hT.1 q h4 h0
    refine ⟨QI_cong a (mkC_n hq (by decide)) (mkC_n hq (by decide)) (mkC_n hq (by decide)) (mkC_n hq (by decide)), k, hk, by rw [mkC_5]; exact e5, ?_⟩
    by_cases e : k = j
    · subst e; rw [m0]; decide
    · rw [mkC_n (by omega) (by decide)]; exact h5
  · by_cases e : k = j
    · subst e
      exact ⟨QI_new eb es h2 h16 hb m1 m2 m3 m4, Or.inr m6⟩
    · have hq : 4 + k ≠ 4 + j := by omega
      rw [mkC_n hq (by decide)] at h0
      obtain ⟨a, h6⟩ := hT.2.1 k hk h0
      exact ⟨QI_cong a (mkC_n hq (by decide)) (mkC_n hq (by decide)) (mkC_n hq (by decide)) (mkC_n hq (by decide)), by rw [mkC_m e (by decide)]; exact h6⟩
  · by_cases e : q = 4 + j
    · subst e; exact Or.inr m0
    · rw [mkC_n e (by decide)]; exact hT.2.2.1 q h8
  · by_cases e : k = j
    · subst e; rw [m7]; exact hi
    · rw [mkC_m e (by decide)]; exact hT.2.2.2 k hk
theorem mkS_0 {T : Nat → Nat → Int32} {j : Nat} {b s c : Int32} : mkS T j b s c 0 j = 1 ∧ mkS T j b s c 1 j = b ∧ mkS T j b s c 2 j = s ∧ mkS T j b s c 3 j = 0 ∧ mkS T j b s c 4 j = 0 ∧ mkS T j b s c 5 j = c := by simp [mkS, up2]
theorem mkS_n {T : Nat → Nat → Int32} {j q f : Nat} {b s c : Int32} (h : q ≠ j) : mkS T j b s c f q = T f q := by
  unfold mkS
  rw [up2_ne (Or.inr h), up2_ne (Or.inr h), up2_ne (Or.inr h), up2_ne (Or.inr h), up2_ne (Or.inr h), up2_ne (Or.inr h)]
theorem mkS_f {T : Nat → Nat → Int32} {j q f : Nat} {b s c : Int32} (h : 6 ≤ f) : mkS T j b s c f q = T f q := by
  unfold mkS
  rw [up2_ne (Or.inl (by omega)), up2_ne (Or.inl (by omega)), up2_ne (Or.inl (by omega)), up2_ne (Or.inl (by omega)), up2_ne (Or.inl (by omega)), up2_ne (Or.inl (by omega))]
theorem TI_mkS {T : Nat → Nat → Int32} {j c : Nat} {b s : Int32} {B S : Nat} (hT : TI T) (hj : j < 4) (eb : b = nI B) (es : s = nI S) (h2 : 2 ≤ S) (h16 : S ≤ 16) (hb : B + S * 4 ≤ 1024) (hc : c < 4) (h5 : ¬ T 0 (4 + c) = 0) : TI (mkS T j b s (nI c)) := by
  obtain ⟨m0, m1, m2, m3, m4, m5⟩ := mkS_0 (T := T) (j := j) (b := b) (s := s) (c := nI c)
  refine ⟨fun q h4 h0 => ?_, fun k hk h0 => ?_, fun q h8 => ?_, fun k hk => ?_⟩
  · by_cases e : q = j
    · subst e
      exact ⟨QI_new eb es h2 h16 hb m1 m2 m3 m4, c, hc, m5, by rw [mkS_n (by omega)]; exact h5⟩
    · rw [mkS_n e] at h0
      obtain ⟨a, k, hk, e5, h9⟩ := hT.1 q h4 h0
      exact ⟨QI_cong a (mkS_n e) (mkS_n e) (mkS_n e) (mkS_n e), k, hk, by rw [mkS_n e]; exact e5, by rw [mkS_n (by omega)]; exact h9⟩
  · have hq : 4 + k ≠ j := by omega
    rw [mkS_n hq] at h0
    obtain ⟨a, h6⟩ := hT.2.1 k hk h0
    exact ⟨QI_cong a (mkS_n hq) (mkS_n hq) (mkS_n hq) (mkS_n hq), by rw [mkS_f (by decide)]; exact h6⟩
  · by_cases e : q = j
    · subst e; exact Or.inr m0
    · rw [mkS_n e]; exact hT.2.2.1 q h8
  · rw [mkS_f (by decide)]; exact hT.2.2.2 k hk
theorem TI_drop {T : Nat → Nat → Int32} {q0 : Nat} (hT : TI T) (h : ∀ q, q < 4 → ¬ T 0 q = 0 → q ≠ q0 → ∀ k, k < 4 → T 5 q = nI k → 4 + k ≠ q0) : TI (up2 T 0 q0 0) := by
  have n0 : ∀ x y, x ≠ 0 → up2 T 0 q0 0 x y = T x y := fun x y hx => up2_ne (Or.inl hx)
  have z0 : ∀ y, ¬ up2 T 0 q0 0 0 y = 0 → y ≠ q0 ∧ ¬ T 0 y = 0 := by
    intro y hy
    by_cases e : y = q0
    · subst e; exact absurd up2_eq hy
    · rw [up2_ne (Or.inr e)] at hy; exact ⟨e, hy⟩
  have hQ : ∀ q w, QI T q w → QI (up2 T 0 q0 0) q w := fun q w h => QI_cong h (n0 _ _ (by decide)) (n0 _ _ (by decide)) (n0 _ _ (by decide)) (n0 _ _ (by decide))
  refine ⟨fun q h4 h0 => ?_, fun k hk h0 => ?_, fun q h8 => ?_, fun k hk => ?_⟩
  · obtain ⟨hne, h0⟩ := z0 q h0
    obtain ⟨a, k, hk, e5, h9⟩ := hT.1 q h4 h0
    exact ⟨hQ q 4 a, k, hk, by rw [n0 5 q (by decide)]; exact e5, by rw [up2_ne (Or.inr (h q h4 h0 hne k hk e5))]; exact h9⟩
  · obtain ⟨hne, h0⟩ := z0 _ h0
    obtain ⟨a, h6⟩ := hT.2.1 k hk h0
    exact ⟨hQ _ 1 a, by rw [n0 6 k (by decide)]; exact h6⟩
  · by_cases e : q = q0
    · subst e; exact Or.inl up2_eq
    · rw [up2_ne (Or.inr e)]; exact hT.2.2.1 q h8
  · rw [n0 7 k (by decide)]; exact hT.2.2.2 k hk
theorem ansB_all {T : Nat → Nat → Int32} {x : Int64} : ∀ {n : Nat}, ¬ ansB T x n = true → ∀ q, q < n → ¬ T 0 q = 0 → ¬ (T 5 q).toInt64 = x
  | 0, _, q, hq => absurd hq (Nat.not_lt_zero _)
  | n + 1, h, q, hq => fun h0 e => h (ansB_hit (i := q) (n := n + 1) ⟨h0, e⟩ hq)
theorem zT_w (ρ : RS) (T : Nat → Nat → Int32) : z_T (w_T ρ T) = T := rfl
theorem adm_TI {ρ : RS} (hT : TI (z_T ρ)) (hn1 : 1 ≤ z_n ρ) (hn9 : z_n ρ ≤ 256) (hfg : z_fg ρ = 0 ∨ z_fg ρ = 1) : TI (z_T (h_adm ρ)) ∧ z_T (h_adm ρ) 0 0 = z_T ρ 0 0 := by
  unfold h_adm
  split
  · split
    · rename_i h
      obtain ⟨B, S, eb, es, h2, h16, hb⟩ := fit_n (w := 1) rfl (by decide) h.2.2
      have h4 := bes_n h.1
      rw [zT_w]; exact ⟨TI_mkC hT h4.2.1 eb es h2 h16 hb hfg, mkC_n (q := 0) (f := 0) (by omega) (by decide)⟩
    · exact ⟨hT, rfl⟩
  · split
    · split
      · rename_i h
        obtain ⟨B, S, eb, es, h2, h16, hb⟩ := fit_n (w := 4) rfl (by decide) h.2.2.1
        have h4 := bes_n h.1
        have hm := bes_m h.2.2.2.1 (by omega)
        have h5 := h.2.2.2.2.2.2
        rw [hm.2.2.1] at h5
        rw [zT_w]; exact ⟨TI_mkS hT h4.2.1 eb es h2 h16 hb hm.2.1 h5, mkS_n (q := 0) (f := 0) (by omega)⟩
      · exact ⟨hT, rfl⟩
    · split
      · split
        · rename_i h
          have h4 := bes_n h.1
          rw [zT_w]; refine ⟨TI_drop hT (fun q hq h0 _ k hk e5 e => ansB_all h.2.2 q hq h0 ?_), up2_ne (x := 0) (y := 0) (q := 4 + pN (z_cp ρ)) (Or.inr (by omega))⟩
          rw [e5, nI_l (by omega), h4.2.2.2, show k = pN (z_cp ρ) by omega]
        · exact ⟨hT, rfl⟩
      · split
        · split
          · rename_i h
            have h4 := bes_n h.1
            rw [zT_w]; exact ⟨TI_drop hT (fun q hq h0 _ k hk e5 e => by omega), up2_ne (x := 0) (y := 0) (q := pN (z_cp ρ)) (Or.inr (by omega))⟩
          · exact ⟨hT, rfl⟩
        · split
          · split
            · exact ⟨hT, rfl⟩
            · split
              · exact ⟨hT, rfl⟩
              · exact ⟨hT, rfl⟩
          · split
            · split
              · exact ⟨hT, rfl⟩
              · exact ⟨hT, rfl⟩
            · split
              · exact ⟨hT, rfl⟩
              · exact ⟨hT, rfl⟩
theorem hst_T (ρ : RS) (src : Nat → Int64) : z_T (h_st ρ src) = z_T ρ := by
  unfold h_st h_end
  split <;> rfl
theorem hblk_T (ρ : RS) : z_T (h_blk ρ) = z_T ρ := by
  unfold h_blk
  split
  · rfl
  · split
    · rfl
    · split
      · rfl
      · split
        · split
          · split
            · split
              · rw [hst_T]
              · rfl
            · rfl
          · split
            · rw [hst_T]
            · split
              · split
                · rfl
                · split
                  · rfl
                  · rw [hst_T]
              · rfl
        · rfl
