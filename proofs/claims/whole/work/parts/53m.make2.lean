/-! constructors: arrays of references, arrays of arrays, the worlds of new objects -/
def mnR (g : GG) (f : Nat → Nat) (N M : Nat) : va_W := (List.range N).map (fun j => (f j, .inl (g.2 0, M, .inr (.inl (fun _ => 0)))))
section FRQ
variable {p : Program} {l : Launch} {e : Env} {R : Room} {s : State} {m : MethodId} {args : Array Value} {below : List Frame} {meth : Method} {c : Code} {H : Heap} {locs : List Loc} {cells slots : Nat} {Q : State → Prop}
variable {cc : ByteArray} {pc : Nat} {ls : Array Slot} {rest : List Value} {D : va_G} {cl : List vw_C} {A : Nat → Prop} {a : Nat} {tys : List (ClassId × FieldType)} {ws : va_W} {H0 : Heap} {g : GG}
theorem fr_astq {i : Int32} {k : Nat} (hexec : p.tables.exec = Jvm.exec) (hb : c.code = cc) (hK : va_K D cl tys s) (hP : va_P D cl ws H) (hD : va_D A ws) (hS : va_S A H0 H locs) (q0 t0 qk ci : Nat) {cA : ClassId} {r : vw_C} {n v : Nat} {vs : List Value} {f : Nat → Option Nat} (ha : ws[q0]? = some (a, .inl (cA, n, .inr (.inr (.inr (.inr f)))))) (ht : tys[t0]? = some (cA, .object r.1)) (hv : ws[qk]? = some (v, .inr (ci, vs))) (hc : cl[ci]? = some r) (hi : i = nI k) (hk : k < n) (hn : n < 2 ^ 31) (hdg : decode cc pc = .ok (.aastore, 1))
    (kk : ∀ (H1 : Heap) (locs1 : List Loc), va_P D cl (ws.set q0 (a, .inl (cA, n, .inr (.inr (.inr (.inr (va_up f k (some v)))))))) H1 → va_D A (ws.set q0 (a, .inl (cA, n, .inr (.inr (.inr (.inr (va_up f k (some v)))))))) → va_S A H0 H1 locs1 → W p l e R s m args below meth c H1 locs1 cells slots Q (F0 m (pc + 1) ls rest)) : W p l e R s m args below meth c H locs cells slots Q (F0 m pc ls (.ref v :: .int i :: .ref a :: rest)) := by
  subst hi
  refine va_astq hexec hb hK hP hD hS q0 t0 qk ci ha ht hv hc (vp_in_nI hk hn) hdg ?_
  rw [nI_clamp (by omega)]
  exact kk
theorem mn_ad {f : Nat → Nat} {q N M k : Nat} {x : Nat × va_E} {y : va_E} (hf : ∀ j, f j = q + 1 + j) (h : ((q, y) :: mnR g f N M)[k]? = some x) : x.1 = q + k := by
  cases k with
  | zero => cases h; rfl
  | succ k =>
    have h2 : (mnR g f N M)[k]? = some x := h
    unfold mnR at h2
    rw [List.getElem?_map] at h2
    cases h3 : (List.range N)[k]? with
    | none => rw [h3] at h2; cases h2
    | some j =>
      rw [h3] at h2
      obtain ⟨h4, h5⟩ := List.getElem?_eq_some_iff.mp h3
      have hj : j = k := by rw [← h5]; simp
      cases h2
      show f j = _
      rw [hf, hj]; omega
theorem mn_row {f : Nat → Nat} {N M k : Nat} {x : Nat × va_E} (h : (mnR g f N M)[k]? = some x) : k < N ∧ x = (f k, .inl (g.2 0, M, .inr (.inl (fun _ => 0)))) := by
  unfold mnR at h
  rw [List.getElem?_map] at h
  cases h3 : (List.range N)[k]? with
  | none => rw [h3] at h; cases h
  | some j =>
    rw [h3] at h
    obtain ⟨h4, h5⟩ := List.getElem?_eq_some_iff.mp h3
    have hj : j = k := by rw [← h5]; simp
    subst hj
    cases h
    exact ⟨by simpa using h4, rfl⟩
theorem fr_manew (hexec : p.tables.exec = Jvm.exec) (hb : c.code = cc) {own : String} {index : Nat} (hown : s.vm.findClass own = some m.cls) (hclink : (Cond.classLink own index "[[J").before args s = true) (hover : va_Nw (.arrayOver (.array .long)) s) (harr : (Cond.arrayClass .long).before args s = true) (hK : va_K g.1 vwCl (tyG g) s) (hP : va_P g.1 vwCl ws H) (hD : va_D A ws) (hS : va_S A H0 H locs) (hA : ∀ q, H0.size ≤ q → A q)
    {n k : Int32} {N M : Nat} (hn : ¬ n < 0) (hk : ¬ k < 0) (hN : n.toNatClampNeg = N) (hM : k.toNatClampNeg = M) (hb1 : N * 4 ≤ 536870912) (hb2 : M * 8 ≤ 536870912) (hcells : cells + (1 + N) ≤ R.cells) (hslots : slots + (N + N * M) ≤ R.slots) (hdg : decode cc pc = .ok (.multianewarray index 2, 4))
    (kk : ∀ (q : Nat) (f : Nat → Nat) (H1 : Heap) (locs1 : List Loc), va_P g.1 vwCl (ws ++ ((q, .inl (g.2 5, N, .inr (.inr (.inr (.inr (fun k => if k < N then some (f k) else none)))))) :: mnR g f N M)) H1 → va_D A (ws ++ ((q, .inl (g.2 5, N, .inr (.inr (.inr (.inr (fun k => if k < N then some (f k) else none)))))) :: mnR g f N M)) → va_S A H0 H1 locs1 →
      W p l e R s m args below meth c H1 locs1 (cells + 1 + N) (slots + N + N * M) Q (F0 m (pc + 4) ls (.ref q :: rest))) : W p l e R s m args below meth c H locs cells slots Q (F0 m pc ls (.int k :: .int n :: rest)) := by
  refine W_manew hexec hb hown hclink hover harr rfl hdg rfl hn hk hN hM hb1 hb2 hcells hslots (fun H1 locs1 cA comp n1 n2 hz ho hi hq hlo => ?_)
  have g5 : s.vm.findClass ("[" ++ (FieldType.array .long).toString) = some (g.2 5) := (hK.2 5 (g.2 5, .array .long) rfl).2
  have g0 : s.vm.findClass (FieldType.array .long).toString = some (g.2 0) := (hK.2 0 (g.2 0, .long) rfl).2
  have e5 : cA = g.2 5 := Option.some.inj (n1.symm.trans g5)
  have e0 : comp = g.2 0 := Option.some.inj (n2.symm.trans g0)
  subst e5; subst e0
  have hlt : ∀ (k : Nat) (x : Nat × va_E), ws[k]? = some x → x.1 < H.size := fun k x hx => (hP k x hx).lt
  refine kk H.size (fun j => H.size + 1 + j) H1 locs1 ((hP.kept fun k x hx => hq x.1 (hlt k x hx)).app ?_) ?_ ⟨Nat.le_trans hS.1 (by omega), fun x h1 h2 => (hq x (Nat.lt_of_lt_of_le h1 hS.1)).trans (hS.2.1 x h1 h2), fun x hx => ?_⟩
  · intro k x hx
    cases k with
    | zero =>
      cases hx
      show H1[H.size]? = some (vp_cell _ _)
      rw [ho, vp_cell_q]
      unfold mnO
      congr 2
      funext j
      split <;> rfl
    | succ k =>
      obtain ⟨h1, rfl⟩ := mn_row (show (mnR g (fun j => H.size + 1 + j) N M)[k]? = some x from hx)
      show H1[H.size + 1 + k]? = some (vp_cell _ _)
      rw [hi k h1]
      rfl
  · refine ⟨fun i j x y hi hj hxy => ?_, fun k x hx => ?_⟩
    · rcases app_c hi with ⟨i1, i2⟩ | ⟨i1, i2⟩
      · rcases app_c hj with ⟨j1, j2⟩ | ⟨j1, j2⟩
        · exact hD.1 i j x y i2 j2 hxy
        · have a1 := hlt i x i2
          have a2 := mn_ad (fun j => rfl) j2
          omega
      · rcases app_c hj with ⟨j1, j2⟩ | ⟨j1, j2⟩
        · have a1 := hlt j y j2
          have a2 := mn_ad (fun j => rfl) i2
          omega
        · have a1 := mn_ad (fun j => rfl) i2
          have a2 := mn_ad (fun j => rfl) j2
          omega
    · rcases app_c hx with ⟨i1, i2⟩ | ⟨i1, i2⟩
      · exact hD.2 k x i2
      · have a1 := mn_ad (fun j => rfl) i2
        have := hS.1
        exact hA _ (by omega)
  · rcases hlo x hx with h | h
    · exact hS.2.2 x h
    · rw [h]; exact hA _ hS.1
end FRQ
theorem fr_four {x0 x1 x2 x3 : Nat} {f : Nat → Nat} (h0 : f 0 = x0) (h1 : f 1 = x1) (h2 : f 2 = x2) (h3 : f 3 = x3) : va_up (va_up (va_up (va_up (fun _ => none) 0 (some x0)) 1 (some x1)) 2 (some x2)) 3 (some x3) = (fun k => if k < 4 then some (f k) else none) := by
  subst h0; subst h1; subst h2; subst h3
  funext k
  match k with
  | 0 => rfl
  | 1 => rfl
  | 2 => rfl
  | 3 => rfl
  | k + 4 =>
    rw [if_neg (by omega)]
    simp [va_up]
def dvI (g : GG) (a : Nat → Nat) : va_W := dvW g a (fun _ => 0) (fun _ => 0) (fun _ => 0) (fun _ => 0) 0 1 (fun _ _ => 0) 0 0 0 0 0 0 0 (fun _ => 0) 0 0 (fun _ => 0) 0 0 0 0 0 0 0 0
def rfI (g : GG) (b : Nat → Nat) : va_W := rfW g b (fun _ => 0) (fun _ _ => 0) (fun _ => 0) 0 0 0 1 0 (fun _ _ => 0) 0 0 0 0 0 0 0 0 0 0 0 (fun _ => 0) (fun _ => 0)
def rfB (l : List Nat) (f h : Nat → Nat) : Nat → Nat := fun k => if k < 15 then l.getD k 0 else if k < 79 then f (k - 15) else h (k - 79)
theorem rfB_f {l : List Nat} {f h : Nat → Nat} {k : Nat} (hk : k < 64) : rfB l f h (15 + k) = f k := by
  rw [rfB, if_neg (by omega), if_pos (by omega), show 15 + k - 15 = k by omega]
theorem rfB_h {l : List Nat} {f h : Nat → Nat} {k : Nat} : rfB l f h (15 + (64 + k)) = h k := by
  rw [rfB, if_neg (by omega), if_neg (by omega), show 15 + (64 + k) - 79 = k by omega]
theorem rf_m {l : List Nat} {f h : Nat → Nat} : (fun k => if k < 64 then some (rfB l f h (15 + k)) else none) = (fun k => if k < 64 then some (f k) else none) := by
  funext k
  by_cases c : k < 64
  · rw [if_pos c, if_pos c, rfB_f c]
  · rw [if_neg c, if_neg c]
theorem rf_h {l : List Nat} {f h : Nat → Nat} : (fun k => if k < 7 then some (rfB l f h (15 + (64 + k))) else none) = (fun k => if k < 7 then some (h k) else none) := by
  funext k
  by_cases c : k < 7
  · rw [if_pos c, if_pos c, rfB_h]
  · rw [if_neg c, if_neg c]
theorem rf_L {g : GG} {l : List Nat} {f h : Nat → Nat} : rfL g (rfB l f h) (fun _ _ => 0) = mnR g f 64 8 ++ mnR g h 7 8 := by
  unfold rfL mnR
  rw [show (71 : Nat) = 64 + 7 from rfl, List.range_add, List.map_append, List.map_map]
  congr 1
theorem D_nodup {A : Nat → Prop} {ws : va_W} (h : va_D A ws) : (ws.map Prod.fst).Pairwise (· ≠ ·) := by
  rw [List.pairwise_iff_getElem]
  intro i j hi hj hij he
  rw [List.length_map] at hi hj
  rw [List.getElem_map, List.getElem_map] at he
  have := h.1 i j _ _ (List.getElem?_eq_getElem hi) (List.getElem?_eq_getElem hj) he
  omega
theorem rf_perm {D : va_G} {cl : List vw_C} {A : Nat → Prop} {H : Heap} {o me md ca : Nat × va_E} {F G C ws tgt : va_W} (hP : va_P D cl ws H) (hD : va_D A ws) (e : ws = o :: me :: (md :: F ++ (ca :: G ++ C))) (e2 : tgt = (o :: me :: md :: ca :: C) ++ (F ++ G)) : va_P D cl tgt H ∧ va_D A tgt := by
  have hp : tgt.Perm ws := by
    rw [e, e2]
    show List.Perm (o :: me :: md :: (ca :: (C ++ (F ++ G)))) (o :: me :: md :: (F ++ (ca :: (G ++ C))))
    refine List.Perm.cons _ (List.Perm.cons _ (List.Perm.cons _ ?_))
    refine List.Perm.trans ?_ (List.perm_middle (l₁ := F)).symm
    refine List.Perm.cons _ ?_
    refine List.Perm.trans List.perm_append_comm ?_
    first | (rw [List.append_assoc]; done) | (rw [List.append_assoc]; exact List.Perm.refl _)
  have hm : ∀ x, x ∈ tgt → x ∈ ws := fun x hx => hp.mem_iff.mp hx
  have nd : (tgt.map Prod.fst).Pairwise (· ≠ ·) := (hp.map Prod.fst).symm.pairwise (D_nodup hD) (fun h => Ne.symm h)
  refine ⟨fun k q hk => ?_, ⟨fun i j p q hi hj hpq => ?_, fun k q hk => ?_⟩⟩
  · obtain ⟨i, hi⟩ := List.getElem?_of_mem (hm q (List.mem_of_getElem? hk))
    exact hP i q hi
  · rw [List.pairwise_iff_getElem] at nd
    obtain ⟨li, ei⟩ := List.getElem?_eq_some_iff.mp hi
    obtain ⟨lj, ej⟩ := List.getElem?_eq_some_iff.mp hj
    rcases Nat.lt_trichotomy i j with h | h | h
    · exact absurd (by rw [List.getElem_map, List.getElem_map, ei, ej]; exact hpq) (nd i j (by rw [List.length_map]; exact li) (by rw [List.length_map]; exact lj) h)
    · exact h
    · exact absurd (by rw [List.getElem_map, List.getElem_map, ei, ej]; exact hpq.symm) (nd j i (by rw [List.length_map]; exact lj) (by rw [List.length_map]; exact li) h)
  · obtain ⟨i, hi⟩ := List.getElem?_of_mem (hm q (List.mem_of_getElem? hk))
    exact hD.2 i q hi
