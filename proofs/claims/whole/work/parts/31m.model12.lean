/-! a new array of longs; the reference's admin ops -/
theorem fr_dropP {D : va_G} {cl : List vw_C} {ws : va_W} {x : Nat × va_E} {H : Heap} (h : va_P D cl (ws ++ [x]) H) : va_P D cl ws H := fun k q hk => h k q (by rw [List.getElem?_append_left (List.getElem?_eq_some_iff.mp hk).1]; exact hk)
theorem fr_dropD {A : Nat → Prop} {ws : va_W} {x : Nat × va_E} (h : va_D A (ws ++ [x])) : va_D A ws := by
  have e : ∀ (k : Nat) (q : Nat × va_E), ws[k]? = some q → (ws ++ [x])[k]? = some q := fun k q hk => by rw [List.getElem?_append_left (List.getElem?_eq_some_iff.mp hk).1]; exact hk
  exact ⟨fun i j a b hi hj hab => h.1 i j a b (e i a hi) (e j b hj) hab, fun k q hk => h.2 k q (e k q hk)⟩
section FRN
variable {p : Program} {l : Launch} {e : Env} {R : Room} {s : State} {m : MethodId} {args : Array Value} {below : List Frame} {meth : Method} {c : Code} {H : Heap} {locs : List Loc} {cells slots : Nat} {Q : State → Prop}
variable {cc : ByteArray} {pc : Nat} {ls : Array Slot} {rest : List Value} {g : GG} {A : Nat → Prop} {ws : va_W} {H0 : Heap}
theorem fr_newaL (hexec : p.tables.exec = Jvm.exec) (hb : c.code = cc) (harr : (Cond.arrayClass .long).before args s = true) (hK : va_K g.1 vwCl (tyG g) s) (hP : va_P g.1 vwCl ws H) (hD : va_D A ws) (hS : va_S A H0 H locs) (hA : ∀ q, H0.size ≤ q → A q)
    {n : Int32} {N' : Nat} (hn : ¬ n < 0) (hN : n.toNatClampNeg = N') (hbytes : N' * componentBytes .long ≤ 536870912) (hcells : cells + 1 ≤ R.cells) (hslots : slots + N' ≤ R.slots) (hdg : decode cc pc = .ok (.newarray .long, 2))
    (kk : ∀ (q : Nat) (H1 : Heap), va_P g.1 vwCl (ws ++ [(q, .inl (g.2 0, N', .inr (.inl (fun _ => 0))))]) H1 → va_D A (ws ++ [(q, .inl (g.2 0, N', .inr (.inl (fun _ => 0))))]) → va_S A H0 H1 locs →
      W p l e R s m args below meth c H1 locs (cells + 1) (slots + N') Q (F0 m (pc + 2) ls (.ref q :: rest))) : W p l e R s m args below meth c H locs cells slots Q (F0 m pc ls (.int n :: rest)) := by
  refine va_newa (atype := .long) (ty := .long) (a0 := (N', .inr (.inl (fun _ => 0)))) hexec hb harr rfl hK hP hD hS hA (fun cA => by rw [vp_cell_l]; rfl) hn hN hbytes hcells hslots hdg (fun q cA H1 hK1 hP1 hD1 hS1 => ?_)
  have h1 : s.vm.findClass ("[" ++ FieldType.long.toString) = some cA := (hK1.2 6 (cA, .long) rfl).2
  have h2 : s.vm.findClass ("[" ++ FieldType.long.toString) = some (g.2 0) := (hK.2 0 (g.2 0, .long) rfl).2
  have h3 : cA = g.2 0 := Option.some.inj (h1.symm.trans h2)
  subst h3
  exact kk q H1 hP1 hD1 hS1
end FRN
section RFX
variable {g : GG} {a : Nat → Nat} {mem : Nat → Int64} {R : Nat → Nat → Int64} {cb : Nat → Int32} {nc : Nat} {tu : Nat} {bi : Int32} {cg : Int32} {on : Int32} {T : Nat → Nat → Int32} {dn fa br bs : Nat} {cp cq cx re : Int64} {n : Nat} {op fg : Int32} {sp : Nat → Int32} {one : Nat → Int64}
theorem rfW_len : (rfW g a mem R cb nc tu bi cg on T dn fa br bs cp cq cx re n op fg sp one).length = 86 := by simp [rfW, rfL]
theorem rfX {x : Nat × va_E} : (rfW g a mem R cb nc tu bi cg on T dn fa br bs cp cq cx re n op fg sp one ++ [x])[86]? = some x := by
  rw [List.getElem?_append_right (by rw [rfW_len]; exact Nat.le_refl _), rfW_len]; rfl
theorem rfX_set {x y : Nat × va_E} : (rfW g a mem R cb nc tu bi cg on T dn fa br bs cp cq cx re n op fg sp one ++ [x]).set 86 y = rfW g a mem R cb nc tu bi cg on T dn fa br bs cp cq cx re n op fg sp one ++ [y] := by
  rw [List.set_append_right _ _ (by rw [rfW_len]; exact Nat.le_refl _), rfW_len]; rfl
end RFX
theorem bes_r {x : Int64} : bes x ↔ ¬ x < 1 ∧ ¬ 3 < x := ⟨fun h => ⟨h.1, fun q => h.2 (l4 q)⟩, fun h => ⟨h.1, fun q => h.2 (l3 q)⟩⟩
theorem hpg_n {x : Int64} (h : hpg x) : ∃ q : Nat, q < 1024 ∧ q % 16 = 0 ∧ x.toInt32 = nI q := by
  obtain ⟨h1, h2, h3⟩ := hol_n ⟨h.1, h.2.1⟩
  refine ⟨pN x, h1, ?_, h2⟩
  have h4 := h.2.2
  rw [lrem_q h3 (by omega), lN_0 (by omega)] at h4
  exact h4
theorem ly_pg {mem : Nat → Int64} {cp cq : Int64} {n i : Nat} (h : lyOk mem cp cq n) (hi : i < ndN (rsN n (pN cp))) : hpg (pgN mem cq (rsN n (pN cp)) i) := Classical.byContradiction fun q => ly_no hi q h
theorem adN_n {mem : Nat → Int64} {cp cq : Int64} {n k : Nat} (h : lyOk mem cp cq n) (hk : k < n * 8) : (adN mem cp cq n k).toNatClampNeg < 1024 ∧ adN mem cp cq n k = nI (adN mem cp cq n k).toNatClampNeg := by
  have hp := (hol_n h.1).1
  have hF : fsN n (pN cp) ≤ 16 - pN cp % 16 := Nat.min_le_right _ _
  have hr : rsN n (pN cp) = n * 8 - fsN n (pN cp) := rfl
  have hd : ndN (rsN n (pN cp)) = (rsN n (pN cp) + 15) / 16 := rfl
  have key : ∃ t : Nat, t < 1024 ∧ adN mem cp cq n k = nI t := by
    by_cases c : k < fsN n (pN cp)
    · exact ⟨pN cp + k, by omega, (adN_lo c).symm⟩
    · obtain ⟨q, h1, h2, h3⟩ := hpg_n (ly_pg h (i := (k - fsN n (pN cp)) / 16) (by omega))
      refine ⟨q + (k - fsN n (pN cp)) % 16, by omega, ?_⟩
      rw [adN, if_neg c, h3, nI_add]
  obtain ⟨t, h1, h2⟩ := key
  rw [h2, nI_clamp (by omega)]
  exact ⟨h1, rfl⟩
abbrev mcP (ρ : RS) : Prop := bes (z_cp ρ) ∧ ¬ hasC (z_T ρ) (z_cp ρ) ∧ fitR (z_cq ρ) (z_cx ρ) 1
abbrev msP (ρ : RS) : Prop := bes (z_cp ρ) ∧ ¬ hasS (z_T ρ) (z_cp ρ) ∧ fitR (z_cq ρ) (z_cx ρ) 4 ∧ bes (nI (z_n ρ - 1)).toInt64 ∧ hasC (z_T ρ) (nI (z_n ρ - 1)).toInt64
abbrev dcP (ρ : RS) : Prop := bes (z_cp ρ) ∧ hasC (z_T ρ) (z_cp ρ) ∧ ¬ ansB (z_T ρ) (z_cp ρ) 4 = true
abbrev dsP (ρ : RS) : Prop := bes (z_cp ρ) ∧ hasS (z_T ρ) (z_cp ρ)
def tldQ (ρ : RS) : Nat → Int64 := vp_updL (vp_updL (vp_updL (vp_updL (vp_updL (vp_updL (vp_updL (vp_updL (fun _ => 0) 0 64) 1 (lN (z_dn ρ))) 2 (lN (z_fa ρ))) 3 (lN (z_br ρ))) 4 (lN (z_bs ρ))) 5 0) 6 0) 7 0
def rpM (mem : Nat → Int64) (ad : Nat → Int32) (v : Nat → Int64) : Nat → Nat → Int64
  | 0 => mem
  | i + 1 => vp_updL (rpM mem ad v i) (ad i).toNatClampNeg (v i)
def h_adm (ρ : RS) : RS := if z_op ρ = 1 then (if mcP ρ then w_T ρ (mkC (z_T ρ) (pN (z_cp ρ)) (z_cq ρ).toInt32 (z_cx ρ).toInt32 (z_fg ρ)) else ρ)
  else if z_op ρ = 2 then (if msP ρ then w_T ρ (mkS (z_T ρ) (pN (z_cp ρ)) (z_cq ρ).toInt32 (z_cx ρ).toInt32 (nI (z_n ρ - 1))) else ρ)
  else if z_op ρ = 3 then (if dcP ρ then w_T ρ (up2 (z_T ρ) 0 (4 + pN (z_cp ρ)) 0) else ρ)
  else if z_op ρ = 4 then (if dsP ρ then w_T ρ (up2 (z_T ρ) 0 (pN (z_cp ρ)) 0) else ρ)
  else if z_op ρ = 5 then (if z_cp ρ = 0 then w_re (w_cg (w_nc (w_cb (w_R ρ (flU (z_nc ρ) (z_R ρ, z_cb ρ)).1) (flU (z_nc ρ) (z_R ρ, z_cb ρ)).2) 0) 0) (if z_cg ρ = 0 then 0 else 1) else if z_cp ρ = 1 then w_re (w_cg ρ 1) (if z_cg ρ = 0 then 0 else 1) else ρ)
  else if z_op ρ = 6 then (if z_n ρ = 1 ∧ lyOk (z_mem ρ) (z_cp ρ) (z_cq ρ) (z_n ρ) then w_mem ρ (rpM (z_mem ρ) (adN (z_mem ρ) (z_cp ρ) (z_cq ρ) (z_n ρ)) (tldQ ρ) 8) else ρ)
  else if z_op ρ = 7 then w_re ρ (nI (z_nc ρ)).toInt64 else ρ
def q_adm (ρ : RS) : Int32 := if z_op ρ = 1 then (if mcP ρ then 0 else 2)
  else if z_op ρ = 2 then (if msP ρ then 0 else 2)
  else if z_op ρ = 3 then (if dcP ρ then 0 else 2)
  else if z_op ρ = 4 then (if dsP ρ then 0 else 2)
  else if z_op ρ = 5 then (if z_cp ρ = 0 then 0 else if z_cp ρ = 1 then 0 else 2)
  else if z_op ρ = 6 then (if z_n ρ = 1 then (if lyOk (z_mem ρ) (z_cp ρ) (z_cq ρ) (z_n ρ) then 0 else 4) else 2)
  else if z_op ρ = 7 then 0 else 1
theorem l01 {x : Int64} (h : ¬ x < 0 ∧ ¬ 1 < x) : x = 0 ∨ x = 1 := by
  have h1 := h.1
  have h2 := h.2
  rw [Int64.lt_iff_toInt_lt] at h1 h2
  have e0 : (0 : Int64).toInt = 0 := by decide
  have e1 : (1 : Int64).toInt = 1 := by decide
  rw [e0] at h1
  rw [e1] at h2
  by_cases e : x.toInt = 0
  · exact Or.inl (Int64.toInt_inj.mp (by rw [e0]; exact e))
  · exact Or.inr (Int64.toInt_inj.mp (by rw [e1]; omega))
theorem z_0 {x : Int64} {k : Nat} (h : x = lN k) (hk : k < 2 ^ 31 := by omega) : ¬ x < 0 := by
  rw [h, show (0 : Int64) = lN 0 from rfl, pk_lLT (by omega) (by omega)]; omega
theorem d_4 {x : Int64} (h : 1 ≤ pN x ∧ pN x < 4 ∧ x.toInt32 = nI (pN x) ∧ x = lN (pN x)) : ¬ 4 ≤ x := by
  rw [h.2.2.2, show (4 : Int64) = lN 4 from rfl, pk_lLE (by omega) (by omega)]; omega
theorem bes_m {m : Nat} (h : bes (nI m).toInt64) (hm : m < 256) : 1 ≤ m ∧ m < 4 ∧ pN (nI m).toInt64 = m ∧ (nI m).toInt64 = lN m ∧ bes (nI m).toInt64 := by
  have e : (nI m).toInt64 = lN m := nI_l (by omega)
  have e2 : pN (lN m) = m := by rw [pN, lN_i, nI_clamp (by omega)]
  have hb := bes_n h
  rw [e] at hb
  rw [e2] at hb
  exact ⟨hb.1, hb.2.1, by rw [e, e2], e, h⟩
theorem mkQ_C {T : Nat → Nat → Int32} {j : Nat} {b s f : Int32} (h : j < 4) : up2 (mkQ T (4 + j) b s) 7 j f = mkC T j b s f := by
  unfold mkQ mkC mkR
  rw [if_neg (by omega), Nat.add_sub_cancel_left]
theorem mkQ_S {T : Nat → Nat → Int32} {j : Nat} {b s c : Int32} (h : j < 4) : up2 (mkQ T j b s) 5 j c = mkS T j b s c := by
  unfold mkQ mkS mkR
  rw [if_pos h]
