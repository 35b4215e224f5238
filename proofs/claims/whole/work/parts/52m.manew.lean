/-! multianewarray of two dimensions, of longs -/
def mnO (cA : ClassId) (N h i : Nat) : Cell := arrV cA N (fun j => if j < i then .ref (h + 1 + j) else .null)
def mnI (comp : ClassId) (M : Nat) : Cell := arrV comp M (fun _ => .long 0)
def mnS (T : State) (cA comp : ClassId) (N M : Nat) : Nat → State
  | 0 => T.pushCell (mnO cA N T.heap.size 0)
  | i + 1 => ((mnS T cA comp N M i).pushCell (mnI comp M)).setCell T.heap.size (mnO cA N T.heap.size (i + 1))
theorem mnO_0 {cA : ClassId} {N h : Nat} : ({ cls := cA, slots := Array.replicate N .null, vm := .none } : Cell) = mnO cA N h 0 := by
  rw [arrV_new]
  unfold mnO
  congr 1
theorem mnO_s {cA : ClassId} {N h i : Nat} : (mnO cA N h i).setSlot i (.ref (h + 1 + i)) = mnO cA N h (i + 1) := by
  unfold mnO
  rw [arrV_store]
  congr 1
  funext j
  unfold updV
  by_cases e : j = i
  · rw [if_pos e, if_pos (by omega), e]
  · rw [if_neg e]
    show (if j < i then Value.ref (h + 1 + j) else Value.null) = _
    by_cases c : j < i
    · rw [if_pos c, if_pos (by omega)]
    · rw [if_neg c, if_neg (by omega)]
theorem mnO_sz {cA : ClassId} {N h i : Nat} : (mnO cA N h i).slots.size = N := arrV_size _ _ _
theorem mnI_sz {comp : ClassId} {M : Nat} : (mnI comp M).slots.size = M := arrV_size _ _ _
theorem mnS_f {T : State} {cA comp : ClassId} {N M : Nat} : ∀ i : Nat, (mnS T cA comp N M i).heap.size = T.heap.size + 1 + i ∧ (mnS T cA comp N M i).heap[T.heap.size]? = some (mnO cA N T.heap.size i) ∧ (mnS T cA comp N M i).vm = T.vm ∧ (mnS T cA comp N M i).slotsUsed = T.slotsUsed + N + i * M
  | 0 => by
    refine ⟨by simp [mnS], by simp [mnS], rfl, ?_⟩
    show T.slotsUsed + (mnO cA N T.heap.size 0).slots.size = _
    rw [mnO_sz]; omega
  | i + 1 => by
    obtain ⟨a, b, d, u⟩ := mnS_f (T := T) (cA := cA) (comp := comp) (N := N) (M := M) i
    have hlt : T.heap.size < (mnS T cA comp N M i).heap.size := by omega
    have hb' : ((mnS T cA comp N M i).pushCell (mnI comp M)).heap[T.heap.size]? = some (mnO cA N T.heap.size i) := by rw [State.heap_pushCell_of_lt (h := hlt)]; exact b
    refine ⟨?_, State.heap_setCell_self hb', ?_, ?_⟩
    · simp [mnS, State.setCell, a]; omega
    · exact d
    · show (mnS T cA comp N M i).slotsUsed + (mnI comp M).slots.size = _
      rw [mnI_sz, u, Nat.succ_mul]; omega
theorem mnS_old {T : State} {cA comp : ClassId} {N M a : Nat} (ha : a < T.heap.size) : ∀ i : Nat, (mnS T cA comp N M i).heap[a]? = T.heap[a]?
  | 0 => State.heap_pushCell_of_lt _ _ ha
  | i + 1 => by
    have f1 := (mnS_f (T := T) (cA := cA) (comp := comp) (N := N) (M := M) i).1
    have hlt : a < (mnS T cA comp N M i).heap.size := by omega
    show (((mnS T cA comp N M i).pushCell (mnI comp M)).setCell T.heap.size _).heap[a]? = _
    rw [State.heap_setCell_other (Nat.ne_of_gt ha), State.heap_pushCell_of_lt (h := hlt)]
    exact mnS_old ha i
theorem mnS_in {T : State} {cA comp : ClassId} {N M : Nat} : ∀ i j : Nat, j < i → (mnS T cA comp N M i).heap[T.heap.size + 1 + j]? = some (mnI comp M)
  | 0, _, h => absurd h (Nat.not_lt_zero _)
  | i + 1, j, h => by
    have f1 := (mnS_f (T := T) (cA := cA) (comp := comp) (N := N) (M := M) i).1
    show (((mnS T cA comp N M i).pushCell (mnI comp M)).setCell T.heap.size _).heap[T.heap.size + 1 + j]? = _
    rw [State.heap_setCell_other (show T.heap.size ≠ T.heap.size + 1 + j by omega)]
    rcases Nat.lt_or_ge j i with hj | hj
    · rw [State.heap_pushCell_of_lt (h := show T.heap.size + 1 + j < (mnS T cA comp N M i).heap.size by omega)]
      exact mnS_in i j hj
    · have e : j = i := by omega
      subst e
      rw [← f1]
      exact State.heap_pushCell_size _ _
theorem mnS_top (T : State) (f : JFrame) (cA comp : ClassId) (N M : Nat) : ∀ i : Nat, mnS (T.setTop f) cA comp N M i = (mnS T cA comp N M i).setTop f
  | 0 => rfl
  | i + 1 => by simp only [mnS, mnS_top T f cA comp N M i, State.heap_setTop, State.pushCell_setTop, State.setCell_setTop]
section MNW
variable {E : CtlPost} {e : Env} {d : Bool} {acts : List Action} {s : State}
theorem mn_new {c comp : ClassId} {k : Class} {ty : FieldType} {len : Nat} {x : Value} (hk : s.vm.classes[c]? = some k) (hkind : k.kind = .array comp ty) (hl : ¬ len > e.platform.arrayLengthLimit) (hh : ¬ len * componentBytes ty > e.platform.maxHeapBytes) (hfit : fits ty x = true) (hdef : x.isDefault = true) {Q : Addr → Pre} (h1 : s.heap.size < e.platform.maxCells) (h2 : s.slotsUsed + len ≤ e.platform.maxSlots) (hq : Q s.heap.size d acts (s.pushCell (arrV c len (fun _ => x)))) : wp (Jvm.newArray c len x) Q E e d acts s := by
  rw [← arrV_new] at hq
  have hall : ((Array.replicate len x).all (·.isDefault)) = true := by
    rw [Array.all_replicate]; split <;> simp [hdef]
  have hda : allocActs (Array.replicate len x) s.heap.size acts = acts := by unfold allocActs; rw [if_pos hall]
  have hf : ∀ i v, (Array.replicate len x)[i]? = some v → s.fitsSlot c .none i v = true := by
    intro i v hv
    simp only [Array.getElem?_replicate] at hv
    split at hv
    · cases hv; simp [State.fitsSlot, State.slotType?, hk, hkind, hfit]
    · cases hv
  simp only [Jvm.newArray, Jvm.arrayFits, wp_bind', W.ask, W.ite, hl, if_false, wp_pure', W.theClass, hk, hkind, hh, W.alloc, W.stop, Option.some.injEq, exists_eq_left', Array.size_replicate, hda]
  rw [if_neg (by omega)]
  exact ⟨h1, h2, hf, hq⟩
theorem mn_one {comp cc : ClassId} {kc : Class} {mm : Int32} (hkc : s.vm.classes[comp]? = some kc) (hkindc : kc.kind = .array cc .long) (hm : ¬ mm < 0) (hl : ¬ mm.toNatClampNeg > e.platform.arrayLengthLimit) (hh : ¬ mm.toNatClampNeg * componentBytes .long > e.platform.maxHeapBytes) (h1 : s.heap.size < e.platform.maxCells) (h2 : s.slotsUsed + mm.toNatClampNeg ≤ e.platform.maxSlots) {Q : Addr → Pre} (hq : Q s.heap.size d acts (s.pushCell (mnI comp mm.toNatClampNeg))) : wp (Jvm.Op.multianewarray.make comp [mm]) Q E e d acts s := by
  rw [Jvm.Op.multianewarray.make]
  simp only [wp_bind', W.ite, hm, if_false, wp_pure', W.theClass, hkc, hkindc, Option.some.injEq, exists_eq_left']
  exact mn_new hkc hkindc hl hh rfl rfl h1 h2 hq
theorem mn_two {c comp cc : ClassId} {k kc : Class} {n mm : Int32} (hk : s.vm.classes[c]? = some k) (hkind : k.kind = .array comp (.array .long)) (hkc : s.vm.classes[comp]? = some kc) (hkindc : kc.kind = .array cc .long) (hn : ¬ n < 0) (hm : ¬ mm < 0)
    (hl1 : ¬ n.toNatClampNeg > e.platform.arrayLengthLimit) (hh1 : ¬ n.toNatClampNeg * componentBytes (.array .long) > e.platform.maxHeapBytes) (hl2 : ¬ mm.toNatClampNeg > e.platform.arrayLengthLimit) (hh2 : ¬ mm.toNatClampNeg * componentBytes .long > e.platform.maxHeapBytes)
    (hc : s.heap.size + 1 + n.toNatClampNeg ≤ e.platform.maxCells) (hs : s.slotsUsed + n.toNatClampNeg + n.toNatClampNeg * mm.toNatClampNeg ≤ e.platform.maxSlots)
    {Q : Addr → Pre} (hq : ∀ d' acts', Q s.heap.size d' acts' (mnS s c comp n.toNatClampNeg mm.toNatClampNeg n.toNatClampNeg)) : wp (Jvm.Op.multianewarray.make c [n, mm]) Q E e d acts s := by
  have hfind : ([mm].find? (· < 0)) = none := by simp [hm]
  rw [Jvm.Op.multianewarray.make]
  simp only [wp_bind', W.ite, hn, if_false, wp_pure', W.theClass, hk, hkind, Option.some.injEq, exists_eq_left']
  generalize hNn : n.toNatClampNeg = N at *
  generalize hMm : mm.toNatClampNeg = M at *
  refine mn_new hk hkind hl1 hh1 rfl rfl (by omega) (by omega) ?_
  simp only [hfind]
  rw [ite_self, wp_bind', Std.Legacy.Range.forIn_eq_forIn_range']
  rw [show ([:N] : Std.Legacy.Range).size = N from by simp [Std.Legacy.Range.size]]
  show wp (forIn (List.range' 0 N 1) PUnit.unit _) _ E e d acts _
  refine wp_forIn_inv (fun r s' => ∃ i, i ≤ N ∧ r = List.range' i (N - i) ∧ s' = mnS s c comp N M i) _ _ ⟨0, Nat.zero_le _, rfl, ?_⟩ ?_ ?_
  · show s.pushCell _ = s.pushCell _
    rw [← mnO_0, arrV_new]
  · rintro x r s' d' acts' Q' ⟨i, hi, hr, rfl⟩ hnext
    have hlt : i < N := by
      rcases Nat.lt_or_ge i N with h | h
      · exact h
      · rw [show N - i = 0 by omega] at hr; cases hr
    obtain ⟨rfl, hr⟩ : x = i ∧ r = List.range' (i + 1) (N - (i + 1)) := by
      rw [show N - i = (N - (i + 1)) + 1 by omega, List.range'_succ] at hr
      exact ⟨(List.cons.inj hr).1, (List.cons.inj hr).2⟩
    obtain ⟨f1, f2, f3, f4⟩ := mnS_f (T := s) (cA := c) (comp := comp) (N := N) (M := M) x
    have hmul : x * M + M ≤ N * M := by
      have := Nat.mul_le_mul_right M (show x + 1 ≤ N from hlt)
      rw [Nat.succ_mul] at this; exact this
    simp only [wp_bind']
    refine mn_one (by rw [f3]; exact hkc) hkindc hm (by rw [hMm]; exact hl2) (by rw [hMm]; exact hh2) (by rw [f1]; omega) (by rw [f4, hMm]; omega) ?_
    rw [hMm]
    have hlt0 : s.heap.size < (mnS s c comp N M x).heap.size := by rw [f1]; omega
    simp only [wp_bind', W.writeLoc, wp_pure']
    refine ⟨mnO c N s.heap.size x, by rw [State.heap_pushCell_of_lt (h := hlt0)]; exact f2, by simp [mnO, arrV], by rw [mnO_sz]; exact hlt, ?_, hnext _ _ _ ⟨x + 1, hlt, hr, ?_⟩⟩
    · have : (mnO c N s.heap.size x).cls = c ∧ (mnO c N s.heap.size x).vm = .none := ⟨rfl, rfl⟩
      rw [this.1, this.2]
      simp [State.fitsSlot, State.slotType?, f3, hk, hkind, fits]
    · rw [f1, mnO_s]; rfl
  · rintro s' d' acts' ⟨i, hi, hr, rfl⟩
    have hiN : i = N := by
      rcases Nat.lt_or_ge i N with h | h
      · rw [show N - i = (N - (i + 1)) + 1 by omega, List.range'_succ] at hr; cases hr
      · omega
    subst hiN
    simp only [wp_pure']
    exact hq _ _
end MNW
section MNR
variable {p : Program} {l : Launch} {e : Env} {R : Room} {s : State} {m : MethodId} {args : Array Value} {below : List Frame} {meth : Method} {c : Code} {H : Heap} {locs : List Loc} {cells slots : Nat} {Q : State → Prop}
theorem mn_stand {T : State} (X : Stand p l e R s m args below meth c T locs cells slots) (cA comp : ClassId) (N M : Nat) : ∀ i : Nat, Stand p l e R s m args below meth c (mnS T cA comp N M i) (locs ++ (List.range i).map fun j => ⟨T.heap.size, j⟩) (cells + 1 + i) (slots + N + i * M)
  | 0 => by
    have h := X.pushed (mnO cA N T.heap.size 0)
    rw [mnO_sz] at h
    simpa [mnS] using h
  | i + 1 => by
    have Xi := mn_stand X cA comp N M i
    obtain ⟨f1, f2, f3, f4⟩ := mnS_f (T := T) (cA := cA) (comp := comp) (N := N) (M := M) i
    have hlt0 : T.heap.size < (mnS T cA comp N M i).heap.size := by rw [f1]; omega
    have hcell : ((mnS T cA comp N M i).pushCell (mnI comp M)).heap[T.heap.size]? = some (mnO cA N T.heap.size i) := by rw [State.heap_pushCell_of_lt (h := hlt0)]; exact f2
    have h := (Xi.pushed (mnI comp M)).stored hcell i (.ref (T.heap.size + 1 + i))
    rw [mnI_sz, mnO_s] at h
    have e2 : (locs ++ (List.range (i + 1)).map fun j => (⟨T.heap.size, j⟩ : Loc)) = (locs ++ (List.range i).map fun j => (⟨T.heap.size, j⟩ : Loc)) ++ [⟨T.heap.size, i⟩] := by simp [List.range_succ, List.append_assoc]
    have e3 : slots + N + (i + 1) * M = slots + N + i * M + M := by rw [Nat.succ_mul]; omega
    rw [e2, e3]
    exact h
theorem W_manew {cc : ByteArray} (hexec : p.tables.exec = Jvm.exec) (hb : c.code = cc) {own : String} {index : Nat} (hown : s.vm.findClass own = some m.cls) (hclink : (Cond.classLink own index ("[" ++ (FieldType.array .long).toString)).before args s = true) (hover : (Cond.arrayOver (.array .long)).before args s = true) (harr : (Cond.arrayClass .long).before args s = true)
    {g : JFrame} (hg : g.method = m) (hdg : decode cc g.pc = .ok (.multianewarray index 2, 4)) {n k : Int32} {N M : Nat} {rest : List Value} (hstack : g.stack = .int k :: .int n :: rest) (hn : ¬ n < 0) (hk : ¬ k < 0) (hN : n.toNatClampNeg = N) (hM : k.toNatClampNeg = M) (hb1 : N * 4 ≤ 536870912) (hb2 : M * 8 ≤ 536870912) (hcells : cells + (1 + N) ≤ R.cells) (hslots : slots + (N + N * M) ≤ R.slots)
    (kk : ∀ (H1 : Heap) (locs1 : List Loc) (cA comp : ClassId), s.vm.findClass ("[" ++ (FieldType.array .long).toString) = some cA → s.vm.findClass (FieldType.array .long).toString = some comp → H1.size = H.size + 1 + N → H1[H.size]? = some (mnO cA N H.size N) → (∀ j, j < N → H1[H.size + 1 + j]? = some (mnI comp M)) → (∀ q, q < H.size → H1[q]? = H[q]?) → (∀ x ∈ locs1, x ∈ locs ∨ x.base = H.size) → W p l e R s m args below meth c H1 locs1 (cells + 1 + N) (slots + N + N * M) Q { g with pc := g.pc + 4, stack := .ref H.size :: rest }) : W p l e R s m args below meth c H locs cells slots Q g := by
  intro T hT X
  subst hT; subst hb; subst hg; subst hN; subst hM
  have hpl : e.platform.magicAccessors = ({} : Platform).magicAccessors := by rw [X.admits.platform]
  obtain ⟨comp, cA, kA, hcomp, -, hkA, hkindA, hnameA⟩ := arrayOverA_spec hover
  obtain ⟨comp', kC, ccl, hcomp', hkC, hkindC⟩ := Cond.arrayClass_spec harr
  have ecomp : comp' = comp := Option.some.inj (hcomp'.symm.trans hcomp)
  subst ecomp
  obtain ⟨c0, hfc0, hcl⟩ := Cond.classLink_spec hown hclink e.platform hpl
  cases hnameA.symm.trans hfc0
  obtain ⟨hg₁, hwarm₁, hready₁⟩ := State.classEntry (e := e) X.warmed hcl
  generalize T.vm.noted g.method.cls index (.cls cA) = vm₁ at hg₁ hwarm₁ hready₁
  have hal : s.vm.Alike vm₁ := hwarm₁.alike
  obtain ⟨kA₁, hkA₁, heA⟩ := hal.2.2 _ _ hkA
  obtain ⟨kC₁, hkC₁, heC⟩ := hal.2.2 _ _ hkC
  have hkindA₁ : kA₁.kind = .array comp' (.array .long) := by rw [heA]; exact hkindA
  have hkindC₁ : kC₁.kind = .array ccl .long := by rw [heC]; exact hkindC
  have X₁ := X.noted hwarm₁
  obtain ⟨hr1, hr2⟩ := X.roomAbove hcells hslots
  have XF := mn_stand X₁ cA comp' n.toNatClampNeg k.toNatClampNeg n.toNatClampNeg
  obtain ⟨f1, f2, f3, f4⟩ := mnS_f (T := T.setVm vm₁) (cA := cA) (comp := comp') (N := n.toNatClampNeg) (M := k.toNatClampNeg) n.toNatClampNeg
  obtain ⟨t', a1, b1⟩ := kk (mnS (T.setVm vm₁) cA comp' n.toNatClampNeg k.toNatClampNeg n.toNatClampNeg).heap _ cA comp' hnameA hcomp f1 f2 (fun j hj => mnS_in (T := T.setVm vm₁) _ j hj) (fun q hq => mnS_old (T := T.setVm vm₁) hq _) (fun x hx => by
    rcases List.mem_append.mp hx with h | h
    · exact Or.inl h
    · obtain ⟨j, -, rfl⟩ := List.mem_map.mp h
      exact Or.inr rfl) _ rfl XF
  refine ⟨t', ?_, b1⟩
  have hl1 : ¬ n.toNatClampNeg > e.platform.arrayLengthLimit := by rw [Launch.admits_arrayLengthLimit X.admits]; omega
  have hh1 : ¬ n.toNatClampNeg * componentBytes (.array .long) > e.platform.maxHeapBytes := by
    rw [Launch.admits_maxHeapBytes X.admits]; show ¬ n.toNatClampNeg * 4 > 536870912; omega
  have hl2 : ¬ k.toNatClampNeg > e.platform.arrayLengthLimit := by rw [Launch.admits_arrayLengthLimit X.admits]; omega
  have hh2 : ¬ k.toNatClampNeg * componentBytes .long > e.platform.maxHeapBytes := by
    rw [Launch.admits_maxHeapBytes X.admits]; show ¬ k.toNatClampNeg * 8 > 536870912; omega
  jvm_step X.here [hexec, hdg]
  simp only [Jvm.Op.multianewarray.sem, wp_bind', W.resolveClassAt_links (State.method?_setTop g X.here.top) hg₁]
  rw [W.popN, if_neg (by decide)]
  refine ⟨g, State.topJava?_setTop' (s := T.setVm vm₁) g X.here.top, [.int n, .int k], rest, rfl, hstack, ?_⟩
  simp only [List.mapM_cons, List.mapM_nil, wp_bind', wp_pure']
  refine mn_two (k := kA₁) (kc := kC₁) (comp := comp') (cc := ccl) hkA₁ hkindA₁ hkC₁ hkindC₁ hn hk hl1 hh1 hl2 hh2 (by show T.heap.size + 1 + _ ≤ _; omega) (by show T.slotsUsed + _ + _ ≤ _; omega) (fun d' acts' => ?_)
  have eS : ((T.setTop g).setVm vm₁).setTop { g with stack := rest } = (T.setVm vm₁).setTop { g with stack := rest } := by
    show ((T.setVm vm₁).setTop g).setTop _ = _
    rw [State.setTop_setTop]
  rw [eS, mnS_top]
  simp only [wp_bind', W.mark, W.pushRef, State.topJava?_setTop' _ XF.here.top, Option.some.injEq, exists_eq_left', State.setTop_setTop, State.heap_setTop]
  intro acts
  simp [jvm, XF.here.top]
  exact a1
end MNR
