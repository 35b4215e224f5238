/-! THE FRAME OF ALL CONTRACTS HERE: a world of fixed shape (a list of cells whose addresses stay), contracts over it, calls and returns as single rows -/
/-- the tables of a run: classes and their slots, and the array classes (0 long[], 1 int[], 2 boolean[], 3 Submission[], 4 Completion[], 5 long[][]) -/
abbrev GG : Type := va_G × (Nat → ClassId)
def tyG (g : GG) : List (ClassId × FieldType) := [(g.2 0, .long), (g.2 1, .int), (g.2 2, .boolean), (g.2 3, .object "DoorbellDrive$Submission"), (g.2 4, .object "DoorbellDrive$Completion"), (g.2 5, .array .long)]
/-- the cells at the places ks become those of the list -/
def setl : va_W → List Nat → va_W → va_W
  | ws, k :: ks, x :: xs => setl (ws.set k x) ks xs
  | ws, _, _ => ws
theorem setl_out : ∀ (ks : List Nat) (w1 ws : va_W), ks.length = w1.length → ∀ (i : Nat) (q : Nat × va_E), (setl ws ks w1)[i]? = some q → (∃ j : Nat, w1[j]? = some q) ∨ (i ∉ ks ∧ ws[i]? = some q)
  | [], [], ws, _, i, q, h => Or.inr ⟨List.not_mem_nil, h⟩
  | [], _ :: _, _, hl, _, _, _ => by simp at hl
  | _ :: _, [], _, hl, _, _, _ => by simp at hl
  | k :: ks, x :: xs, ws, hl, i, q, h => by
    rcases setl_out ks xs (ws.set k x) (by simpa using hl) i q h with ⟨j, hj⟩ | ⟨h1, h2⟩
    · exact Or.inl ⟨j + 1, hj⟩
    · by_cases e : i = k
      · subst e
        have hlt : i < ws.length := by
          have := (List.getElem?_eq_some_iff.mp h2).1
          simpa using this
        rw [List.getElem?_set_self hlt] at h2
        exact Or.inl ⟨0, h2⟩
      · rw [List.getElem?_set_ne (Ne.symm e)] at h2
        exact Or.inr ⟨fun hm => (List.mem_cons.mp hm).elim e h1, h2⟩
theorem setl_addr : ∀ (ks : List Nat) (w1 ws : va_W), ks.map (fun i => (ws.map Prod.fst)[i]?) = (w1.map Prod.fst).map some → (setl ws ks w1).map Prod.fst = ws.map Prod.fst
  | [], [], _, _ => rfl
  | [], _ :: _, _, h => by simp at h
  | _ :: _, [], _, h => by simp at h
  | k :: ks, x :: xs, ws, h => by
    simp only [List.map_cons, List.cons.injEq] at h
    have e1 : (ws.set k x).map Prod.fst = ws.map Prod.fst := by
      rw [List.map_set]
      apply List.ext_getElem?
      intro i
      by_cases hi : i = k
      · subst hi
        have hlt : i < (ws.map Prod.fst).length := (List.getElem?_eq_some_iff.mp h.1).1
        rw [List.getElem?_set_self hlt, h.1]
      · rw [List.getElem?_set_ne (Ne.symm hi)]
    show (setl (ws.set k x) ks xs).map Prod.fst = _
    rw [setl_addr ks xs (ws.set k x) (by rw [e1]; exact h.2), e1]
theorem D_addr {A : Nat → Prop} {ws ws' : va_W} (e : ws'.map Prod.fst = ws.map Prod.fst) (hD : va_D A ws) : va_D A ws' := by
  have hx : ∀ (i : Nat) (q : Nat × va_E), ws'[i]? = some q → ∃ q2, ws[i]? = some q2 ∧ q2.1 = q.1 := by
    intro i q h
    have h1 : (ws'.map Prod.fst)[i]? = some q.1 := by rw [List.getElem?_map, h]; rfl
    rw [e, List.getElem?_map] at h1
    cases h2 : ws[i]? with
    | none => rw [h2] at h1; cases h1
    | some q2 => rw [h2] at h1; exact ⟨q2, rfl, Option.some.inj h1⟩
  refine ⟨fun i j a b hi hj hab => ?_, fun k q hk => ?_⟩
  · obtain ⟨a2, h1, h2⟩ := hx i a hi
    obtain ⟨b2, h3, h4⟩ := hx j b hj
    exact hD.1 i j a2 b2 h1 h3 (by rw [h2, h4, hab])
  · obtain ⟨q2, h1, h2⟩ := hx k q hk
    rw [← h2]
    exact hD.2 k q2 h1
theorem mapC_len {ks : List Nat} {ws wc : va_W} (hC : ks.map (fun i => ws[i]?) = wc.map some) : ks.length = wc.length := by
  have := congrArg List.length hC
  simpa using this
theorem mapC_at {ks : List Nat} {ws wc : va_W} (hC : ks.map (fun i => ws[i]?) = wc.map some) {j : Nat} {q : Nat × va_E} (h : wc[j]? = some q) : ∃ k : Nat, ks[j]? = some k ∧ ws[k]? = some q := by
  have h1 : (wc.map some)[j]? = some (some q) := by rw [List.getElem?_map, h]; rfl
  rw [← hC, List.getElem?_map] at h1
  cases h2 : ks[j]? with
  | none => rw [h2] at h1; cases h1
  | some k => rw [h2] at h1; exact ⟨k, rfl, Option.some.inj h1⟩
theorem mapC_addr {ks : List Nat} {ws wc w1 : va_W} (hC : ks.map (fun i => ws[i]?) = wc.map some) (ha : w1.map Prod.fst = wc.map Prod.fst) : ks.map (fun i => (ws.map Prod.fst)[i]?) = (w1.map Prod.fst).map some := by
  rw [ha]
  apply List.ext_getElem?
  intro j
  rw [List.getElem?_map, List.getElem?_map, List.getElem?_map]
  cases h2 : wc[j]? with
  | none =>
    have h3 : ks[j]? = none := List.getElem?_eq_none (by rw [mapC_len hC]; exact List.getElem?_eq_none_iff.mp h2)
    rw [h3]; rfl
  | some q =>
    obtain ⟨k, h3, h4⟩ := mapC_at hC h2
    rw [h3]
    show some ((ws.map Prod.fst)[k]?) = some (some q.1)
    rw [List.getElem?_map, h4]; rfl
/-- behind a call: the callee's cells as it left them, all others as they were -/
theorem setl_P {A : Nat → Prop} {D : va_G} {cl : List vw_C} {ws wc w1 : va_W} {H H1 : Heap} {ks : List Nat} (hP : va_P D cl ws H) (hD : va_D A ws) (hC : ks.map (fun i => ws[i]?) = wc.map some) (ha : w1.map Prod.fst = wc.map Prod.fst) (hP1 : va_P D cl w1 H1) (hk : ∀ q : Nat, q < H.size → ¬ va_A wc H.size q → H1[q]? = H[q]?) : va_P D cl (setl ws ks w1) H1 ∧ va_D A (setl ws ks w1) := by
  have hl : ks.length = w1.length := by
    have := congrArg List.length ha
    rw [mapC_len hC]
    simpa using this.symm
  refine ⟨fun i q h => ?_, D_addr (setl_addr ks w1 ws (mapC_addr hC ha)) hD⟩
  rcases setl_out ks w1 ws hl i q h with ⟨j, hj⟩ | ⟨h1, h2⟩
  · exact hP1 j q hj
  · have hlt := (hP i q h2).lt
    refine (hP i q h2).kept (hk q.1 hlt ?_)
    rintro (⟨j, e, hj⟩ | hge)
    · obtain ⟨k, hk1, hk2⟩ := mapC_at hC hj
      have := hD.1 i k q (q.1, e) h2 hk2 rfl
      subst this
      exact h1 (List.mem_of_getElem? hk1)
    · exact absurd hlt (Nat.not_lt.mpr hge)
/-- a contract's end: the answer and the world behind it by 'post', its addresses those of before -/
def Qst (g : GG) (w : va_W) (post : Option Value → va_W → Prop) (A : Nat → Prop) : Array Value → State → Outcome → State → Prop := fun _ st oc t => (∃ (v : Option Value) (w' : va_W), oc = .returned v ∧ post v w' ∧ w'.map Prod.fst = w.map Prod.fst ∧ va_P g.1 vwCl w' t.heap) ∧ va_F A st t
def Pst (g : GG) (As : List Value) (w : va_W) (sz : Nat) : Array Value → State → Prop := va_Pc As (fun U => U.heap.size = sz ∧ va_P g.1 vwCl w U.heap ∧ va_K g.1 vwCl (tyG g) U ∧ va_D (fun _ => True) w)
/-- THE CONTRACT of a method: from the world w, with the arguments As, it returns v and leaves w', 'post v w'' -/
def Ct (l : Launch) (y : MethodName) (cc : ByteArray) (maxL : Nat) (ret : Option FieldType) (rm : Room) (g : GG) (As : List Value) (w : va_W) (post : Option Value → va_W → Prop) : Prop := ∀ sz : Nat, Met l y (wB y cc maxL ret) rm (Pst g As w sz) (Qst g w post (va_A w sz)) rm.cells rm.slots (va_A w sz)
theorem Pst.blind {g : GG} {As : List Value} {w : va_W} {sz : Nat} : FrameBlind (Pst g As w sz) := fun a U fr mk q => by
  obtain ⟨q0, q1, qP, qK, qD⟩ := q
  exact ⟨q0, q1, qP, va_K.moved (u := U) (U := U.calling fr mk a) (Vm.Alike.refl U.vm) qK, qD⟩
section FR
variable {p : Program} {l : Launch} {e : Env} {R : Room} {s : State} {m : MethodId} {args : Array Value} {below : List Frame} {meth : Method} {c : Code} {H : Heap} {locs : List Loc} {cells slots : Nat} {Q : State → Prop}
variable {cc bytes : ByteArray} {pc : Nat} {ls : Array Slot} {rest st0 : List Value} {g : GG} {A : Nat → Prop} {ws : va_W} {H0 : Heap} {w : va_W} {post : Option Value → va_W → Prop} {As : List Value} {y x : MethodName} {wy : List Cond} {rm : Room} {own C owner host : String} {index nL maxL n b : Nat} {ret : Option FieldType} {Ts : List Cond}
theorem fr_go {a : Array Value} {mc ms : Nat} (hr : va_Run p l e R s m args below meth c H locs cells slots mc ms (F0 m pc ls st0) rest (Qst g w post (va_A w H.size) a) (va_A w H.size)) (hP : va_P g.1 vwCl ws H) (hD : va_D A ws) (hS : va_S A H0 H locs) (hA : ∀ q, H0.size ≤ q → A q) (ks : List Nat) (hC : ks.map (fun i => ws[i]?) = w.map some)
    (kk : ∀ (v : Option Value) (w' : va_W) (H1 : Heap) (locs1 : List Loc), post v w' → va_P g.1 vwCl (setl ws ks w') H1 → va_D A (setl ws ks w') → va_S A H0 H1 locs1 → W p l e R s m args below meth c H1 locs1 (cells + mc) (slots + ms) Q (F0 m (pc + 3) ls (v.toList ++ rest))) : W p l e R s m args below meth c H locs cells slots Q (F0 m pc ls st0) := by
  have hF := va_free hD hS hA ks hC
  intro T hT X
  obtain ⟨v, st₀, t, T', L, h0, X', hL, e1, e2, ⟨⟨v2, w', hv, hp, ha, hP1⟩, hz, hk⟩, st⟩ := hr T hT X
  cases hv
  rw [h0] at hz hk
  obtain ⟨hP2, hD2⟩ := setl_P hP hD hC ha hP1 hk
  obtain ⟨t2, a1, b1⟩ := kk v w' T'.heap (locs ++ L) hp (by rw [e1]; exact hP2) hD2
    ⟨Nat.le_trans hS.1 (by rw [e1]; exact hz), fun q h1 h2 => by rw [e1, hk q (Nat.lt_of_lt_of_le h1 hS.1) (fun z => h2 (hF q z))]; exact hS.2.1 q h1 h2, fun q hq => by
      rcases List.mem_append.mp hq with h | h
      · exact hS.2.2 q h
      · exact hF _ (hL q h)⟩ T' rfl X'
  exact ⟨t2, st t2 a1, b1⟩
theorem fr_pre (hK : va_K g.1 vwCl (tyG g) s) (hP : va_P g.1 vwCl ws H) (hD : va_D A ws) (ks : List Nat) (hn : va_nd ks = true) (hC : ks.map (fun i => ws[i]?) = w.map some) : ∀ U : State, U.heap = H → s.WarmedH U.vm → Pst g As w H.size As.toArray U := by
  intro U hU hW
  refine ⟨rfl, by rw [hU], ?_, va_K.moved hW.alike hK, ?_⟩
  · rw [hU]
    intro j q hj
    obtain ⟨k, -, h2⟩ := mapC_at hC hj
    exact hP k q h2
  · refine ⟨fun i j a d hi hj hab => ?_, fun _ _ _ => trivial⟩
    obtain ⟨k1, h1, h2⟩ := mapC_at hC hi
    obtain ⟨k2, h3, h4⟩ := mapC_at hC hj
    have e := hD.1 k1 k2 a d h2 h4 hab
    subst e
    exact va_nd_inj ks hn i j k1 h1 h3
end FR
/-- a contract out of the walk of its body -/
theorem Ct.of {l : Launch} {y : MethodName} {rm : Room} {g : GG} {As : List Value} {w : va_W} {post : Option Value → va_W → Prop} {ret : Option FieldType} {cc : ByteArray} {maxL : Nat} (hy : plainName y.cls = true) (hen : (lg_sl As).length ≤ maxL)
    (body : ∀ (p : Program) (e : Env) (s : State) (m : MethodId) (below : List Frame) (meth : Method) (c : Code) (A : Nat → Prop) (ls : Array Slot) (H : Heap) (locs : List Loc), p.tables.exec = Jvm.exec → c.code = cc → meth.sig.returnType = ret → c.maxLocals = maxL → meth.locks = false → (∀ w ∈ BW, w.before As.toArray s = true) → s.vm.findClass y.cls = some m.cls → meth.name = y.name → (∀ q, s.heap.size ≤ q → A q) → va_S A s.heap H locs → va_K g.1 vwCl (tyG g) s → va_P g.1 vwCl w H → va_D A w → lv_has ls maxL (lv_args 0 As) →
      W p l e rm s m As.toArray below meth c H locs 0 0 (MQ below (Qst g w post A) As.toArray s rm.cells rm.slots A) (F0 m 0 ls [])) : Ct l y cc maxL ret rm g As w post := by
  intro sz
  refine Met.ofW (cc := cc) (maxL := maxL) (ret := ret) hy rfl ?_
  intro p e s m args below meth c s₁ B hml hv
  obtain ⟨rfl, hsz, hP, hK, hD0⟩ := hv
  subst hsz
  have hl := lv_entry As (n := maxL) hen
  rw [lg_entry_eq]
  generalize (lg_sl As ++ List.replicate (maxL - (lg_sl As).length) Slot.unset).toArray = ls at hl ⊢
  exact body p e s m below meth c (va_A w s.heap.size) ls s.heap [] B.exec B.bytes B.returns hml B.notSynchronized (fun w hw => atoms_spec (ws := wB y cc maxL ret) B.pre w (List.mem_cons_of_mem _ hw)) (findClass_of_methodNamed B.named) (name_of_methodNamed B.named B.method).1 (fun q h => Or.inr h) va_S.rf hK hP hD0.self hl
/-- a truth as the machine holds it -/
def bI (P : Prop) [Decidable P] : Int32 := if P then 1 else 0
theorem bI_f {P : Prop} [Decidable P] (h : bI P = 0) : ¬ P := fun q => by rw [bI, if_pos q] at h; exact absurd h (by decide)
theorem bI_t {P : Prop} [Decidable P] (h : ¬ bI P = 0) : P := Classical.byContradiction fun q => h (by rw [bI, if_neg q])
theorem bI_1 {P : Prop} [Decidable P] (h : P) : (1 : Int32) = bI P := by rw [bI, if_pos h]
theorem bI_0 {P : Prop} [Decidable P] (h : ¬ P) : (0 : Int32) = bI P := by rw [bI, if_neg h]
theorem bI_z {P : Prop} [Decidable P] : bI P = 0 ∨ bI P = 1 := by
  by_cases h : P
  · exact Or.inr (bI_1 h).symm
  · exact Or.inl (bI_0 h).symm
theorem bz_n {x : Int32} (h : x = 0 ∨ x = 1) : narrow .boolean (.int x) = .int x := by rcases h with rfl | rfl <;> rfl
theorem bz_f {x : Int32} (h : x = 0 ∨ x = 1) : fits .boolean (.int x) = true := by rcases h with rfl | rfl <;> decide
theorem bz_v {x : Int32} (h : x = 0 ∨ x = 1) : vp_nar .boolean x = x := by rcases h with rfl | rfl <;> rfl
theorem fr_c1 {ws : va_W} {k : Nat} {q : Nat × va_E} (h : ws[k]? = some q) : [k].map (fun i => ws[i]?) = [q].map some := by simp [h]
section FR2
variable {p : Program} {l : Launch} {e : Env} {R : Room} {s : State} {m : MethodId} {args : Array Value} {below : List Frame} {meth : Method} {c : Code} {H : Heap} {locs : List Loc} {cells slots : Nat} {Q : State → Prop}
variable {cc : ByteArray} {pc : Nat} {ls : Array Slot} {rest : List Value} {D : va_G} {cl : List vw_C} {A : Nat → Prop} {a : Nat} {tys : List (ClassId × FieldType)} {ws : va_W} {H0 : Heap}
theorem fr_topi {x y : Int32} (h : x = y) (k : W p l e R s m args below meth c H locs cells slots Q (F0 m pc ls (.int y :: rest))) : W p l e R s m args below meth c H locs cells slots Q (F0 m pc ls (.int x :: rest)) := h ▸ k
theorem fr_topl {x y : Int64} (h : x = y) (k : W p l e R s m args below meth c H locs cells slots Q (F0 m pc ls (.long y :: rest))) : W p l e R s m args below meth c H locs cells slots Q (F0 m pc ls (.long x :: rest)) := h ▸ k
theorem fr_topr {x y : Nat} (h : x = y) (k : W p l e R s m args below meth c H locs cells slots Q (F0 m pc ls (.ref y :: rest))) : W p l e R s m args below meth c H locs cells slots Q (F0 m pc ls (.ref x :: rest)) := h ▸ k
theorem fr_lald {k : Nat} (hexec : p.tables.exec = Jvm.exec) (hb : c.code = cc) (hK : va_K D cl tys s) (hP : va_P D cl ws H) (q0 t0 : Nat) {cA : ClassId} {n : Nat} {f : Nat → Int64} (ha : ws[q0]? = some (a, .inl (cA, n, .inr (.inl f)))) (ht : tys[t0]? = some (cA, .long)) (hk : k < n) (hn : n < 2 ^ 31) (hdg : decode cc pc = .ok (.laload, 1))
    (kk : W p l e R s m args below meth c H locs cells slots Q (F0 m (pc + 1) ls (.long (f k) :: rest))) : W p l e R s m args below meth c H locs cells slots Q (F0 m pc ls (.int (nI k) :: .ref a :: rest)) :=
  va_lald hexec hb hK hP q0 t0 ha ht (vp_in_nI hk hn) hdg (by rw [nI_clamp (by omega)]; exact kk)
theorem fr_iald {k : Nat} (hexec : p.tables.exec = Jvm.exec) (hb : c.code = cc) (hK : va_K D cl tys s) (hP : va_P D cl ws H) (q0 t0 : Nat) {cA : ClassId} {n : Nat} {f : Nat → Int32} (ha : ws[q0]? = some (a, .inl (cA, n, .inl f))) (ht : tys[t0]? = some (cA, .int)) (hk : k < n) (hn : n < 2 ^ 31) (hdg : decode cc pc = .ok (.iaload, 1))
    (kk : W p l e R s m args below meth c H locs cells slots Q (F0 m (pc + 1) ls (.int (f k) :: rest))) : W p l e R s m args below meth c H locs cells slots Q (F0 m pc ls (.int (nI k) :: .ref a :: rest)) :=
  va_iald hexec hb hK hP q0 t0 ha ht (vp_in_nI hk hn) hdg (by rw [nI_clamp (by omega)]; exact kk)
theorem fr_zald {k : Nat} (hexec : p.tables.exec = Jvm.exec) (hb : c.code = cc) (hK : va_K D cl tys s) (hP : va_P D cl ws H) (q0 t0 : Nat) {cA : ClassId} {n : Nat} {f : Nat → Int32} (ha : ws[q0]? = some (a, .inl (cA, n, .inl f))) (ht : tys[t0]? = some (cA, .boolean)) (hk : k < n) (hn : n < 2 ^ 31) (hdg : decode cc pc = .ok (.baload, 1))
    (kk : W p l e R s m args below meth c H locs cells slots Q (F0 m (pc + 1) ls (.int (f k) :: rest))) : W p l e R s m args below meth c H locs cells slots Q (F0 m pc ls (.int (nI k) :: .ref a :: rest)) :=
  va_zald hexec hb hK hP q0 t0 ha ht (vp_in_nI hk hn) hdg (by rw [nI_clamp (by omega)]; exact kk)
theorem fr_last {k : Nat} (hexec : p.tables.exec = Jvm.exec) (hb : c.code = cc) (hK : va_K D cl tys s) (hP : va_P D cl ws H) (hD : va_D A ws) (hS : va_S A H0 H locs) (q0 t0 : Nat) {cA : ClassId} {n : Nat} {f : Nat → Int64} (ha : ws[q0]? = some (a, .inl (cA, n, .inr (.inl f)))) (ht : tys[t0]? = some (cA, .long)) {x : Int64} (hk : k < n) (hn : n < 2 ^ 31) (hdg : decode cc pc = .ok (.lastore, 1))
    (kk : ∀ (H1 : Heap) (locs1 : List Loc), va_P D cl (ws.set q0 (a, .inl (cA, n, .inr (.inl (vp_updL f k x))))) H1 → va_D A (ws.set q0 (a, .inl (cA, n, .inr (.inl (vp_updL f k x))))) → va_S A H0 H1 locs1 → W p l e R s m args below meth c H1 locs1 cells slots Q (F0 m (pc + 1) ls rest)) : W p l e R s m args below meth c H locs cells slots Q (F0 m pc ls (.long x :: .int (nI k) :: .ref a :: rest)) :=
  va_last hexec hb hK hP hD hS q0 t0 ha ht (vp_in_nI hk hn) hdg (by rw [nI_clamp (by omega)]; exact kk)
theorem fr_iast {k : Nat} (hexec : p.tables.exec = Jvm.exec) (hb : c.code = cc) (hK : va_K D cl tys s) (hP : va_P D cl ws H) (hD : va_D A ws) (hS : va_S A H0 H locs) (q0 t0 : Nat) {cA : ClassId} {n : Nat} {f : Nat → Int32} (ha : ws[q0]? = some (a, .inl (cA, n, .inl f))) (ht : tys[t0]? = some (cA, .int)) {x : Int32} (hk : k < n) (hn : n < 2 ^ 31) (hdg : decode cc pc = .ok (.iastore, 1))
    (kk : ∀ (H1 : Heap) (locs1 : List Loc), va_P D cl (ws.set q0 (a, .inl (cA, n, .inl (upd f k x)))) H1 → va_D A (ws.set q0 (a, .inl (cA, n, .inl (upd f k x)))) → va_S A H0 H1 locs1 → W p l e R s m args below meth c H1 locs1 cells slots Q (F0 m (pc + 1) ls rest)) : W p l e R s m args below meth c H locs cells slots Q (F0 m pc ls (.int x :: .int (nI k) :: .ref a :: rest)) :=
  va_iast hexec hb hK hP hD hS q0 t0 ha ht (vp_in_nI hk hn) hdg (by rw [nI_clamp (by omega)]; exact kk)
theorem fr_zast {k : Nat} (hexec : p.tables.exec = Jvm.exec) (hb : c.code = cc) (hK : va_K D cl tys s) (hP : va_P D cl ws H) (hD : va_D A ws) (hS : va_S A H0 H locs) (q0 t0 : Nat) {cA : ClassId} {n : Nat} {f : Nat → Int32} (ha : ws[q0]? = some (a, .inl (cA, n, .inl f))) (ht : tys[t0]? = some (cA, .boolean)) {x : Int32} (hk : k < n) (hn : n < 2 ^ 31) (hz : vp_nar .boolean x = x) (hdg : decode cc pc = .ok (.bastore, 1))
    (kk : ∀ (H1 : Heap) (locs1 : List Loc), va_P D cl (ws.set q0 (a, .inl (cA, n, .inl (upd f k x)))) H1 → va_D A (ws.set q0 (a, .inl (cA, n, .inl (upd f k x)))) → va_S A H0 H1 locs1 → W p l e R s m args below meth c H1 locs1 cells slots Q (F0 m (pc + 1) ls rest)) : W p l e R s m args below meth c H locs cells slots Q (F0 m pc ls (.int x :: .int (nI k) :: .ref a :: rest)) :=
  va_zast hexec hb hK hP hD hS q0 t0 ha ht (vp_in_nI hk hn) hdg (by rw [nI_clamp (by omega), hz]; exact kk)
theorem fr_aald {i : Int32} {k b : Nat} (hexec : p.tables.exec = Jvm.exec) (hb : c.code = cc) (hK : va_K D cl tys s) (hP : va_P D cl ws H) (q0 t0 : Nat) {cA : ClassId} {C : String} {n : Nat} {f : Nat → Option Nat} (ha : ws[q0]? = some (a, .inl (cA, n, .inr (.inr (.inr (.inr f)))))) (ht : tys[t0]? = some (cA, .object C)) (hi : i = nI k) (hk : k < n) (hn : n < 2 ^ 31) (hf : f k = some b) (hdg : decode cc pc = .ok (.aaload, 1))
    (kk : W p l e R s m args below meth c H locs cells slots Q (F0 m (pc + 1) ls (.ref b :: rest))) : W p l e R s m args below meth c H locs cells slots Q (F0 m pc ls (.int i :: .ref a :: rest)) := by
  subst hi
  refine va_aldq hexec hb hK hP q0 t0 ha ht (vp_in_nI hk hn) hdg ?_
  rw [nI_clamp (by omega), hf]
  exact kk
theorem fr_copyl (hexec : p.tables.exec = Jvm.exec) (hb : c.code = cc) (hml : c.maxLocals = ls.size) {own : String} {index : Nat} (hown : s.vm.findClass own = some m.cls) (hlink : (Cond.methodLink own index arraycopyName).before args s = true) (hnat : (Cond.native arraycopyName).before args s = true) (hstat : (Cond.static arraycopyName).before args s = true) (hini : (Cond.initialized "java/lang/System").before args s = true)
    (hK : va_K D cl tys s) (hP : va_P D cl ws H) (hD : va_D A ws) (hS : va_S A H0 H locs) (q0 q1 t0 t1 : Nat) {a0 : Nat} {c0 c1 : ClassId} {n0 n1 : Nat} {f g : Nat → Int64} (ha0 : ws[q0]? = some (a0, .inl (c0, n0, .inr (.inl f)))) (ha1 : ws[q1]? = some (a, .inl (c1, n1, .inr (.inl g)))) (ht0 : tys[t0]? = some (c0, .long)) (ht1 : tys[t1]? = some (c1, .long))
    {sp dp n : Int32} (i j k : Nat) (hsp : sp = nI i) (hdp : dp = nI j) (hn : n = nI k) (h4 : i + k ≤ n0) (h5 : j + k ≤ n1) (hb0 : n0 < 2 ^ 31) (hb1 : n1 < 2 ^ 31)
    (hframes : 1 ≤ R.frames) (hlocals : (rest.map fun v => v.category).sum + (nativeFrameWords "java/lang/System" "arraycopy" 5 + 11) ≤ R.locals) (hdg : decode cc pc = .ok (.invokestatic index, 3))
    (kk : ∀ (H1 : Heap) (locs1 : List Loc), va_P D cl (ws.set q1 (a, .inl (c1, n1, .inr (.inl (va_cpy f g i j k))))) H1 → va_D A (ws.set q1 (a, .inl (c1, n1, .inr (.inl (va_cpy f g i j k))))) → va_S A H0 H1 locs1 → W p l e R s m args below meth c H1 locs1 cells slots Q (F0 m (pc + 3) ls rest)) : W p l e R s m args below meth c H locs cells slots Q (F0 m pc ls (.int n :: .int dp :: .ref a :: .int sp :: .ref a0 :: rest)) := by
  subst hsp; subst hdp; subst hn
  have e1 : (nI i).toNatClampNeg = i := nI_clamp (by omega)
  have e2 : (nI j).toNatClampNeg = j := nI_clamp (by omega)
  have e3 : (nI k).toNatClampNeg = k := nI_clamp (by omega)
  refine va_copyl hexec hb hml hown hlink hnat hstat hini hK hP hD hS q0 q1 t0 t1 ha0 ha1 ht0 ht1 rfl (nI_pos (by omega)) (nI_pos (by omega)) (nI_pos (by omega)) (by rw [e1, e3]; exact h4) (by rw [e2, e3]; exact h5) (fun _ _ => rfl) hframes hlocals hdg ?_
  rw [e1, e2, e3]
  exact kk
theorem fr_copyi (hexec : p.tables.exec = Jvm.exec) (hb : c.code = cc) (hml : c.maxLocals = ls.size) {own : String} {index : Nat} (hown : s.vm.findClass own = some m.cls) (hlink : (Cond.methodLink own index arraycopyName).before args s = true) (hnat : (Cond.native arraycopyName).before args s = true) (hstat : (Cond.static arraycopyName).before args s = true) (hini : (Cond.initialized "java/lang/System").before args s = true)
    (hK : va_K D cl tys s) (hP : va_P D cl ws H) (hD : va_D A ws) (hS : va_S A H0 H locs) (q0 q1 t0 t1 : Nat) {a0 : Nat} {c0 c1 : ClassId} {n0 n1 : Nat} {f g : Nat → Int32} (ha0 : ws[q0]? = some (a0, .inl (c0, n0, .inl f))) (ha1 : ws[q1]? = some (a, .inl (c1, n1, .inl g))) (ht0 : tys[t0]? = some (c0, .int)) (ht1 : tys[t1]? = some (c1, .int))
    {sp dp n : Int32} (i j k : Nat) (hsp : sp = nI i) (hdp : dp = nI j) (hn : n = nI k) (h4 : i + k ≤ n0) (h5 : j + k ≤ n1) (hb0 : n0 < 2 ^ 31) (hb1 : n1 < 2 ^ 31)
    (hframes : 1 ≤ R.frames) (hlocals : (rest.map fun v => v.category).sum + (nativeFrameWords "java/lang/System" "arraycopy" 5 + 11) ≤ R.locals) (hdg : decode cc pc = .ok (.invokestatic index, 3))
    (kk : ∀ (H1 : Heap) (locs1 : List Loc), va_P D cl (ws.set q1 (a, .inl (c1, n1, .inl (va_cpy f g i j k)))) H1 → va_D A (ws.set q1 (a, .inl (c1, n1, .inl (va_cpy f g i j k)))) → va_S A H0 H1 locs1 → W p l e R s m args below meth c H1 locs1 cells slots Q (F0 m (pc + 3) ls rest)) : W p l e R s m args below meth c H locs cells slots Q (F0 m pc ls (.int n :: .int dp :: .ref a :: .int sp :: .ref a0 :: rest)) := by
  subst hsp; subst hdp; subst hn
  have e1 : (nI i).toNatClampNeg = i := nI_clamp (by omega)
  have e2 : (nI j).toNatClampNeg = j := nI_clamp (by omega)
  have e3 : (nI k).toNatClampNeg = k := nI_clamp (by omega)
  refine va_copyi hexec hb hml hown hlink hnat hstat hini hK hP hD hS q0 q1 t0 t1 ha0 ha1 ht0 ht1 rfl (nI_pos (by omega)) (nI_pos (by omega)) (nI_pos (by omega)) (by rw [e1, e3]; exact h4) (by rw [e2, e3]; exact h5) (fun _ _ => rfl) hframes hlocals hdg ?_
  rw [e1, e2, e3]
  exact kk
end FR2
