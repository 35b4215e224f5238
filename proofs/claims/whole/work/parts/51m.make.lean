/-! constructors: contracts of methods that make cells; words that are kept beside the tables' good ones -/
def isNW : Cond → Bool
  | .methodLinkNest _ _ _ _ => true
  | .arrayOver (.object _) => true
  | .arrayOver (.array _) => true
  | _ => false
def NW : List Cond := lw_tbl.filter isNW
def NWs (U : State) : Prop := ∀ w ∈ NW, va_Nw w U
theorem ao_moved {t : FieldType} {u U : State} (hvm : u.vm.Alike U.vm) (h : va_Nw (.arrayOver (.array t)) u) : va_Nw (.arrayOver (.array t)) U := by
  obtain ⟨comp, c, k, h1, h2, h3, h4, h5⟩ := arrayOverA_spec h
  obtain ⟨k', hk', he⟩ := hvm.2.2 _ _ h3
  have hi : (U.vm.classes.findIdx? fun (x : Class) => match x.kind with | .array component _ => component == comp | _ => false) = some c := by
    rw [hvm.findIdx?_eq _ (fun _ => rfl)]; exact h2
  have hkind : k'.kind = .array comp (.array t) := by rw [he]; exact h4
  have f1 : U.vm.findClass (FieldType.array t).toString = some comp := by rw [hvm.findClass]; exact h1
  have f2 : U.vm.findClass ("[" ++ (FieldType.array t).toString) = some c := by rw [hvm.findClass]; exact h5
  unfold va_Nw Cond.before Cond.holds
  simp only [Cond.value]
  rw [f1, Option.bind_some]
  refine (congrArg (fun o : Option Nat => (o.bind (fun c => (U.vm.classes[c]?).map fun (k : Class) => match k.kind with | .array _ ty => decide (ty = FieldType.array t) && decide (U.vm.findClass ("[" ++ (FieldType.array t).toString) = some c) | _ => false) == some true)) hi).trans ?_
  simp [hk', hkind, f2]
theorem NWs.warm {s U : State} (hW : s.WarmedH U.vm) (h : NWs s) : NWs U := by
  intro w hw
  have hb : isNW w = true := (List.mem_filter.mp hw).2
  have hz := h w hw
  match w, hb, hz with
  | .methodLinkNest a i x hh, _, hz => exact va_Nw.warmM hW hz
  | .arrayOver (.object C), _, hz => exact va_AO.moved hW.alike hz
  | .arrayOver (.array t), _, hz => exact ao_moved hW.alike hz
theorem NWs.calling {U : State} {fr : JFrame} {mk : MethodId} {a : Array Value} (h : NWs U) : NWs (U.calling fr mk a) := by
  intro w hw
  have hb : isNW w = true := (List.mem_filter.mp hw).2
  have hz := h w hw
  match w, hb, hz with
  | .methodLinkNest _ _ _ _, _, hz => exact va_Nw.same rfl rfl hz
  | .arrayOver (.object C), _, hz => exact va_AO.moved (u := U) (U := U.calling fr mk a) (Vm.Alike.refl U.vm) hz
  | .arrayOver (.array t), _, hz => exact ao_moved (u := U) (U := U.calling fr mk a) (Vm.Alike.refl U.vm) hz
theorem NWs.of {A : Array Value} {s : State} (h : ∀ w ∈ lw_tbl, w.before A s = true) : NWs s := by
  intro w hw
  have hb : isNW w = true := (List.mem_filter.mp hw).2
  have hz := h w (List.mem_filter.mp hw).1
  match w, hb, hz with
  | .methodLinkNest _ _ _ _, _, hz => exact va_Nw.of rfl hz
  | .arrayOver (.object C), _, hz => exact va_AO.of hz
  | .arrayOver (.array t), _, hz => exact hz
def Qnw (g : GG) (post : va_W → Prop) (A : Nat → Prop) : Array Value → State → Outcome → State → Prop := fun _ st oc t => (∃ w' : va_W, oc = .returned none ∧ post w' ∧ va_P g.1 vwCl w' t.heap ∧ va_D A w') ∧ va_F A st t
def Pnw (g : GG) (As : List Value) (w : va_W) (sz : Nat) : Array Value → State → Prop := va_Pc As (fun U => U.heap.size = sz ∧ va_P g.1 vwCl w U.heap ∧ va_K g.1 vwCl (tyG g) U ∧ va_D (fun _ => True) w ∧ NWs U)
def CtN (l : Launch) (y : MethodName) (cc : ByteArray) (maxL : Nat) (rm : Room) (g : GG) (As : List Value) (w : va_W) (post : va_W → Prop) : Prop := ∀ sz : Nat, Met l y (wB y cc maxL none) rm (Pnw g As w sz) (Qnw g post (va_A w sz)) rm.cells rm.slots (va_A w sz)
theorem Pnw.blind {g : GG} {As : List Value} {w : va_W} {sz : Nat} : FrameBlind (Pnw g As w sz) := fun a U fr mk q => by
  obtain ⟨q0, q1, qP, qK, qD, qN⟩ := q
  exact ⟨q0, q1, qP, va_K.moved (u := U) (U := U.calling fr mk a) (Vm.Alike.refl U.vm) qK, qD, qN.calling⟩
theorem CtN.of {l : Launch} {y : MethodName} {rm : Room} {g : GG} {As : List Value} {w : va_W} {post : va_W → Prop} {cc : ByteArray} {maxL : Nat} (hy : plainName y.cls = true) (hen : (lg_sl As).length ≤ maxL)
    (body : ∀ (p : Program) (e : Env) (s : State) (m : MethodId) (below : List Frame) (meth : Method) (c : Code) (A : Nat → Prop) (ls : Array Slot) (H : Heap) (locs : List Loc), p.tables.exec = Jvm.exec → c.code = cc → meth.sig.returnType = none → c.maxLocals = maxL → meth.locks = false → (∀ w ∈ BW, w.before As.toArray s = true) → s.vm.findClass y.cls = some m.cls → meth.name = y.name → (∀ q, s.heap.size ≤ q → A q) → va_S A s.heap H locs → va_K g.1 vwCl (tyG g) s → va_P g.1 vwCl w H → va_D A w → NWs s → lv_has ls maxL (lv_args 0 As) →
      W p l e rm s m As.toArray below meth c H locs 0 0 (MQ below (Qnw g post A) As.toArray s rm.cells rm.slots A) (F0 m 0 ls [])) : CtN l y cc maxL rm g As w post := by
  intro sz
  refine Met.ofW (cc := cc) (maxL := maxL) (ret := none) hy rfl ?_
  intro p e s m args below meth c s₁ B hml hv
  obtain ⟨rfl, hsz, hP, hK, hD0, hN⟩ := hv
  subst hsz
  have hl := lv_entry As (n := maxL) hen
  rw [lg_entry_eq]
  generalize (lg_sl As ++ List.replicate (maxL - (lg_sl As).length) Slot.unset).toArray = ls at hl ⊢
  exact body p e s m below meth c (va_A w s.heap.size) ls s.heap [] B.exec B.bytes B.returns hml B.notSynchronized (fun w hw => atoms_spec (ws := wB y cc maxL none) B.pre w (List.mem_cons_of_mem _ hw)) (findClass_of_methodNamed B.named) (name_of_methodNamed B.named B.method).1 (fun q h => Or.inr h) va_S.rf hK hP hD0.self hN hl
theorem D_left {A : Nat → Prop} {w w2 : va_W} (h : va_D A (w ++ w2)) : va_D A w := by
  have e : ∀ (k : Nat) (q : Nat × va_E), w[k]? = some q → (w ++ w2)[k]? = some q := fun k q hk => by rw [List.getElem?_append_left (List.getElem?_eq_some_iff.mp hk).1]; exact hk
  exact ⟨fun i j a b hi hj hab => h.1 i j a b (e i a hi) (e j b hj) hab, fun k q hk => h.2 k q (e k q hk)⟩
theorem app_r {w w2 : va_W} {k : Nat} {q : Nat × va_E} (hk : w2[k]? = some q) : (w ++ w2)[w.length + k]? = some q := by
  rw [List.getElem?_append_right (by omega), show w.length + k - w.length = k by omega]; exact hk
theorem app_l {w w2 : va_W} {k : Nat} {q : Nat × va_E} (hk : w[k]? = some q) : (w ++ w2)[k]? = some q := by
  rw [List.getElem?_append_left (List.getElem?_eq_some_iff.mp hk).1]; exact hk
theorem app_c {w w2 : va_W} {k : Nat} {q : Nat × va_E} (hk : (w ++ w2)[k]? = some q) : (k < w.length ∧ w[k]? = some q) ∨ (w.length ≤ k ∧ w2[k - w.length]? = some q) := by
  by_cases hl : k < w.length
  · rw [List.getElem?_append_left hl] at hk; exact Or.inl ⟨hl, hk⟩
  · rw [List.getElem?_append_right (by omega)] at hk; exact Or.inr ⟨by omega, hk⟩
theorem D_right {A : Nat → Prop} {w w2 : va_W} (h : va_D A (w ++ w2)) : va_D A w2 := by
  refine ⟨fun i j a b hi hj hab => ?_, fun k q hk => h.2 _ q (app_r hk)⟩
  have := h.1 _ _ a b (app_r hi) (app_r hj) hab
  omega
/-- cells that a call doesn't reach stay -/
theorem P_off {A : Nat → Prop} {D : va_G} {cl : List vw_C} {w w2 : va_W} {H H1 : Heap} (hP2 : va_P D cl w2 H) (hD : va_D A (w ++ w2)) (hk : ∀ q : Nat, q < H.size → ¬ va_A w H.size q → H1[q]? = H[q]?) : va_P D cl w2 H1 := by
  refine hP2.kept fun k q hq => hk q.1 (hP2 k q hq).lt ?_
  rintro (⟨j, e, hj⟩ | hge)
  · have := hD.1 _ _ (q.1, e) q (app_l hj) (app_r hq) rfl
    have h2 := (List.getElem?_eq_some_iff.mp hj).1
    omega
  · exact absurd (hP2 k q hq).lt (Nat.not_lt.mpr hge)
theorem P_offR {A : Nat → Prop} {D : va_G} {cl : List vw_C} {w w2 : va_W} {H H1 : Heap} (hP : va_P D cl w H) (hD : va_D A (w ++ w2)) (hk : ∀ q : Nat, q < H.size → ¬ va_A w2 H.size q → H1[q]? = H[q]?) : va_P D cl w H1 := by
  refine hP.kept fun k q hq => hk q.1 (hP k q hq).lt ?_
  rintro (⟨j, e, hj⟩ | hge)
  · have := hD.1 _ _ q (q.1, e) (app_l hq) (app_r hj) rfl
    have h2 := (List.getElem?_eq_some_iff.mp hq).1
    omega
  · exact absurd (hP k q hq).lt (Nat.not_lt.mpr hge)
section FRM
variable {p : Program} {l : Launch} {e : Env} {R : Room} {s : State} {m : MethodId} {args : Array Value} {below : List Frame} {meth : Method} {c : Code} {H : Heap} {locs : List Loc} {cells slots : Nat} {Q : State → Prop}
variable {cc : ByteArray} {pc : Nat} {ls : Array Slot} {rest st0 : List Value} {g : GG} {A : Nat → Prop} {w w2 wr ws : va_W} {H0 : Heap} {post : Option Value → va_W → Prop} {As : List Value}
/-- a call whose world is the left one of two -/
theorem fr_goL {a : Array Value} {mc ms : Nat} (hr : va_Run p l e R s m args below meth c H locs cells slots mc ms (F0 m pc ls st0) rest (Qst g w post (va_A w H.size) a) (va_A w H.size)) (hP2 : va_P g.1 vwCl w2 H) (hD : va_D A (w ++ w2)) (hS : va_S A H0 H locs) (hA : ∀ q, H0.size ≤ q → A q)
    (kk : ∀ (v : Option Value) (w' : va_W) (H1 : Heap) (locs1 : List Loc), post v w' → va_P g.1 vwCl w' H1 → va_P g.1 vwCl w2 H1 → va_D A (w' ++ w2) → va_S A H0 H1 locs1 → W p l e R s m args below meth c H1 locs1 (cells + mc) (slots + ms) Q (F0 m (pc + 3) ls (v.toList ++ rest))) : W p l e R s m args below meth c H locs cells slots Q (F0 m pc ls st0) := by
  have hF : ∀ q, va_A w H.size q → A q := fun q hq => by
    rcases hq with ⟨k, e9, hk⟩ | h
    · exact hD.2 k _ (app_l hk)
    · exact hA q (Nat.le_trans hS.1 h)
  intro T hT X
  obtain ⟨v, st₀, t, T', L, h0, X', hL, e1, e2, ⟨⟨v2, w', hv, hp, ha, hP1⟩, hz, hk⟩, st⟩ := hr T hT X
  cases hv
  rw [h0] at hz hk
  obtain ⟨t2, a1, b1⟩ := kk v w' T'.heap (locs ++ L) hp (by rw [e1]; exact hP1) (by rw [e1]; exact P_off hP2 hD hk) (D_addr (by rw [List.map_append, List.map_append, ha]) hD)
    ⟨Nat.le_trans hS.1 (by rw [e1]; exact hz), fun q h1 h2 => by rw [e1, hk q (Nat.lt_of_lt_of_le h1 hS.1) (fun z => h2 (hF q z))]; exact hS.2.1 q h1 h2, fun q hq => by
      rcases List.mem_append.mp hq with h | h
      · exact hS.2.2 q h
      · exact hF _ (hL q h)⟩ T' rfl X'
  exact ⟨t2, st t2 a1, b1⟩
/-- a call whose world is the right one of two -/
theorem fr_goR {a : Array Value} {mc ms : Nat} (hr : va_Run p l e R s m args below meth c H locs cells slots mc ms (F0 m pc ls st0) rest (Qst g w2 post (va_A w2 H.size) a) (va_A w2 H.size)) (hP : va_P g.1 vwCl w H) (hD : va_D A (w ++ w2)) (hS : va_S A H0 H locs) (hA : ∀ q, H0.size ≤ q → A q)
    (kk : ∀ (v : Option Value) (w' : va_W) (H1 : Heap) (locs1 : List Loc), post v w' → va_P g.1 vwCl w H1 → va_P g.1 vwCl w' H1 → va_D A (w ++ w') → va_S A H0 H1 locs1 → W p l e R s m args below meth c H1 locs1 (cells + mc) (slots + ms) Q (F0 m (pc + 3) ls (v.toList ++ rest))) : W p l e R s m args below meth c H locs cells slots Q (F0 m pc ls st0) := by
  have hF : ∀ q, va_A w2 H.size q → A q := fun q hq => by
    rcases hq with ⟨k, e9, hk⟩ | h
    · exact hD.2 _ _ (app_r hk)
    · exact hA q (Nat.le_trans hS.1 h)
  intro T hT X
  obtain ⟨v, st₀, t, T', L, h0, X', hL, e1, e2, ⟨⟨v2, w', hv, hp, ha, hP1⟩, hz, hk⟩, st⟩ := hr T hT X
  cases hv
  rw [h0] at hz hk
  obtain ⟨t2, a1, b1⟩ := kk v w' T'.heap (locs ++ L) hp (by rw [e1]; exact P_offR hP hD hk) (by rw [e1]; exact hP1) (D_addr (by rw [List.map_append, List.map_append, ha]) hD)
    ⟨Nat.le_trans hS.1 (by rw [e1]; exact hz), fun q h1 h2 => by rw [e1, hk q (Nat.lt_of_lt_of_le h1 hS.1) (fun z => h2 (hF q z))]; exact hS.2.1 q h1 h2, fun q hq => by
      rcases List.mem_append.mp hq with h | h
      · exact hS.2.2 q h
      · exact hF _ (hL q h)⟩ T' rfl X'
  exact ⟨t2, st t2 a1, b1⟩
/-- a call of a constructor, of the object at the world's end -/
theorem fr_goN {a : Array Value} {mc ms : Nat} {po : va_W → Prop} (hr : va_Run p l e R s m args below meth c H locs cells slots mc ms (F0 m pc ls st0) rest (Qnw g po (va_A w H.size) a) (va_A w H.size)) (hP : va_P g.1 vwCl (wr ++ w) H) (hD : va_D A (wr ++ w)) (hS : va_S A H0 H locs) (hA : ∀ q, H0.size ≤ q → A q)
    (kk : ∀ (w' : va_W) (H1 : Heap) (locs1 : List Loc), po w' → va_P g.1 vwCl (wr ++ w') H1 → va_D A (wr ++ w') → va_S A H0 H1 locs1 → W p l e R s m args below meth c H1 locs1 (cells + mc) (slots + ms) Q (F0 m (pc + 3) ls rest)) : W p l e R s m args below meth c H locs cells slots Q (F0 m pc ls st0) := by
  have hPr : va_P g.1 vwCl wr H := fun k q hq => hP k q (app_l hq)
  have hF : ∀ q, va_A w H.size q → A q := fun q hq => by
    rcases hq with ⟨k, e9, hk⟩ | h
    · exact hD.2 _ _ (app_r hk)
    · exact hA q (Nat.le_trans hS.1 h)
  have hO : ∀ (k : Nat) (q : Nat × va_E), wr[k]? = some q → ¬ va_A w H.size q.1 := by
    rintro k q hq (⟨j, e, hj⟩ | hge)
    · have := hD.1 _ _ q (q.1, e) (app_l hq) (app_r hj) rfl
      have h2 := (List.getElem?_eq_some_iff.mp hq).1
      omega
    · exact absurd (hPr k q hq).lt (Nat.not_lt.mpr hge)
  intro T hT X
  obtain ⟨v, st₀, t, T', L, h0, X', hL, e1, e2, ⟨⟨w', hv, hp, hP1, hD1⟩, hz, hk⟩, st⟩ := hr T hT X
  cases hv
  rw [h0] at hz hk
  have hD2 : va_D A (wr ++ w') := by
    refine ⟨fun i j p q hi hj hpq => ?_, fun k q hq => ?_⟩
    · rcases app_c hi with ⟨i1, i2⟩ | ⟨i1, i2⟩
      · rcases app_c hj with ⟨j1, j2⟩ | ⟨j1, j2⟩
        · exact hD.1 i j p q (app_l i2) (app_l j2) hpq
        · exact absurd (by rw [hpq]; exact hD1.2 _ q j2) (hO i p i2)
      · rcases app_c hj with ⟨j1, j2⟩ | ⟨j1, j2⟩
        · exact absurd (by rw [← hpq]; exact hD1.2 _ p i2) (hO j q j2)
        · have := hD1.1 _ _ p q i2 j2 hpq
          omega
    · rcases app_c hq with ⟨i1, i2⟩ | ⟨i1, i2⟩
      · exact hD.2 k q (app_l i2)
      · exact hF _ (hD1.2 _ q i2)
  obtain ⟨t2, a1, b1⟩ := kk w' T'.heap (locs ++ L) hp (by rw [e1]; exact (hPr.kept fun k q hq => hk q.1 (hPr k q hq).lt (hO k q hq)).app hP1) hD2
    ⟨Nat.le_trans hS.1 (by rw [e1]; exact hz), fun q h1 h2 => by rw [e1, hk q (Nat.lt_of_lt_of_le h1 hS.1) (fun z => h2 (hF q z))]; exact hS.2.1 q h1 h2, fun q hq => by
      rcases List.mem_append.mp hq with h | h
      · exact hS.2.2 q h
      · exact hF _ (hL q h)⟩ T' rfl X'
  exact ⟨t2, st t2 a1, b1⟩
theorem fr_preN (hN : NWs s) (hK : va_K g.1 vwCl (tyG g) s) (hP : va_P g.1 vwCl (wr ++ w) H) (hD : va_D A (wr ++ w)) : ∀ U : State, U.heap = H → s.WarmedH U.vm → Pnw g As w H.size As.toArray U := by
  intro U hU hW
  exact ⟨rfl, by rw [hU], by rw [hU]; exact fun k q hq => hP _ q (app_r hq), va_K.moved hW.alike hK, (D_right hD).weaken (fun _ _ _ _ => trivial), hN.warm hW⟩
theorem fr_newaI (hexec : p.tables.exec = Jvm.exec) (hb : c.code = cc) (harr : (Cond.arrayClass .int).before args s = true) (hK : va_K g.1 vwCl (tyG g) s) (hP : va_P g.1 vwCl ws H) (hD : va_D A ws) (hS : va_S A H0 H locs) (hA : ∀ q, H0.size ≤ q → A q)
    {n : Int32} {N' : Nat} (hn : ¬ n < 0) (hN : n.toNatClampNeg = N') (hbytes : N' * componentBytes .int ≤ 536870912) (hcells : cells + 1 ≤ R.cells) (hslots : slots + N' ≤ R.slots) (hdg : decode cc pc = .ok (.newarray .int, 2))
    (kk : ∀ (q : Nat) (H1 : Heap), va_P g.1 vwCl (ws ++ [(q, .inl (g.2 1, N', .inl (fun _ => 0)))]) H1 → va_D A (ws ++ [(q, .inl (g.2 1, N', .inl (fun _ => 0)))]) → va_S A H0 H1 locs →
      W p l e R s m args below meth c H1 locs (cells + 1) (slots + N') Q (F0 m (pc + 2) ls (.ref q :: rest))) : W p l e R s m args below meth c H locs cells slots Q (F0 m pc ls (.int n :: rest)) := by
  refine va_newa (atype := .int) (ty := .int) (a0 := (N', .inl (fun _ => 0))) hexec hb harr rfl hK hP hD hS hA (fun cA => by rw [vp_cell_i]; rfl) hn hN hbytes hcells hslots hdg (fun q cA H1 hK1 hP1 hD1 hS1 => ?_)
  have h1 : s.vm.findClass ("[" ++ FieldType.int.toString) = some cA := (hK1.2 6 (cA, .int) rfl).2
  have h2 : s.vm.findClass ("[" ++ FieldType.int.toString) = some (g.2 1) := (hK.2 1 (g.2 1, .int) rfl).2
  have h3 : cA = g.2 1 := Option.some.inj (h1.symm.trans h2)
  subst h3
  exact kk q H1 hP1 hD1 hS1
theorem fr_newaZ (hexec : p.tables.exec = Jvm.exec) (hb : c.code = cc) (harr : (Cond.arrayClass .boolean).before args s = true) (hK : va_K g.1 vwCl (tyG g) s) (hP : va_P g.1 vwCl ws H) (hD : va_D A ws) (hS : va_S A H0 H locs) (hA : ∀ q, H0.size ≤ q → A q)
    {n : Int32} {N' : Nat} (hn : ¬ n < 0) (hN : n.toNatClampNeg = N') (hbytes : N' * componentBytes .boolean ≤ 536870912) (hcells : cells + 1 ≤ R.cells) (hslots : slots + N' ≤ R.slots) (hdg : decode cc pc = .ok (.newarray .boolean, 2))
    (kk : ∀ (q : Nat) (H1 : Heap), va_P g.1 vwCl (ws ++ [(q, .inl (g.2 2, N', .inl (fun _ => 0)))]) H1 → va_D A (ws ++ [(q, .inl (g.2 2, N', .inl (fun _ => 0)))]) → va_S A H0 H1 locs →
      W p l e R s m args below meth c H1 locs (cells + 1) (slots + N') Q (F0 m (pc + 2) ls (.ref q :: rest))) : W p l e R s m args below meth c H locs cells slots Q (F0 m pc ls (.int n :: rest)) := by
  refine va_newa (atype := .boolean) (ty := .boolean) (a0 := (N', .inl (fun _ => 0))) hexec hb harr rfl hK hP hD hS hA (fun cA => by rw [vp_cell_i]; rfl) hn hN hbytes hcells hslots hdg (fun q cA H1 hK1 hP1 hD1 hS1 => ?_)
  have h1 : s.vm.findClass ("[" ++ FieldType.boolean.toString) = some cA := (hK1.2 6 (cA, .boolean) rfl).2
  have h2 : s.vm.findClass ("[" ++ FieldType.boolean.toString) = some (g.2 2) := (hK.2 2 (g.2 2, .boolean) rfl).2
  have h3 : cA = g.2 2 := Option.some.inj (h1.symm.trans h2)
  subst h3
  exact kk q H1 hP1 hD1 hS1
theorem fr_newq (t : Nat) {C : String} {cq : ClassId} (ht : (tyG g)[t]? = some (cq, .object C)) (hexec : p.tables.exec = Jvm.exec) (hb : c.code = cc) {own : String} {index : Nat} (hown : s.vm.findClass own = some m.cls) (hclink : (Cond.classLink own index C).before args s = true) (hover : va_AO C s) (hK : va_K g.1 vwCl (tyG g) s) (hP : va_P g.1 vwCl ws H) (hD : va_D A ws) (hS : va_S A H0 H locs) (hA : ∀ q, H0.size ≤ q → A q)
    {n : Int32} {N' : Nat} (hn : ¬ n < 0) (hN : n.toNatClampNeg = N') (hbytes : N' * 4 ≤ 536870912) (hcells : cells + 1 ≤ R.cells) (hslots : slots + N' ≤ R.slots) (hdg : decode cc pc = .ok (.anewarray index, 3))
    (kk : ∀ (q : Nat) (H1 : Heap), va_P g.1 vwCl (ws ++ [(q, .inl (cq, N', .inr (.inr (.inr (.inr (fun _ => none))))))]) H1 → va_D A (ws ++ [(q, .inl (cq, N', .inr (.inr (.inr (.inr (fun _ => none))))))]) → va_S A H0 H1 locs →
      W p l e R s m args below meth c H1 locs (cells + 1) (slots + N') Q (F0 m (pc + 3) ls (.ref q :: rest))) : W p l e R s m args below meth c H locs cells slots Q (F0 m pc ls (.int n :: rest)) := by
  refine va_newq hexec hb hown hclink hover hK hP hD hS hA hn hN hbytes hcells hslots hdg (fun q cA H1 hK1 hP1 hD1 hS1 => ?_)
  obtain ⟨-, -, -, -, -, h1⟩ : va_RA s cA (.object C) := (hK1.2 6 (cA, .object C) rfl).2
  obtain ⟨-, -, -, -, -, h2⟩ : va_RA s cq (.object C) := (hK.2 t (cq, .object C) ht).2
  have h3 : cA = cq := Option.some.inj (h1.symm.trans h2)
  subst h3
  exact kk q H1 hP1 hD1 hS1
end FRM
