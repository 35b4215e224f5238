theorem fr_set {ws : va_W} {k : Nat} {q : Nat × va_E} (h : ws[k]? = some q) : ws.set k q = ws := by
  apply List.ext_getElem?
  intro i
  by_cases e : i = k
  · subst e
    rw [List.getElem?_set_self (List.getElem?_eq_some_iff.mp h).1, h]
  · rw [List.getElem?_set_ne (Ne.symm e)]
/-- a callee that leaves its one cell as it was -/
theorem fr_s1 {ws : va_W} {k : Nat} {q : Nat × va_E} (h : ws[k]? = some q) : setl ws [k] [q] = ws := fr_set h
theorem fr_eqP {D : va_G} {cl : List vw_C} {ws ws' : va_W} {H : Heap} (e : ws = ws') (h : va_P D cl ws H) : va_P D cl ws' H := e ▸ h
theorem fr_eqD {A : Nat → Prop} {ws ws' : va_W} (e : ws = ws') (h : va_D A ws) : va_D A ws' := e ▸ h
section FRA
variable {p : Program} {l : Launch} {e : Env} {R : Room} {s : State} {m : MethodId} {args : Array Value} {below : List Frame} {meth : Method} {c : Code} {H : Heap} {locs : List Loc} {cells slots : Nat} {Q : State → Prop}
variable {pc : Nat} {ls : Array Slot} {rest st0 : List Value} {g : GG} {A : Nat → Prop} {ws : va_W} {H0 : Heap} {post : Option Value → va_W → Prop} {As : List Value}
/-- a call of a method whose world is the whole of the caller's -/
theorem fr_goA {a : Array Value} {mc ms : Nat} (hr : va_Run p l e R s m args below meth c H locs cells slots mc ms (F0 m pc ls st0) rest (Qst g ws post (va_A ws H.size) a) (va_A ws H.size)) (hD : va_D A ws) (hS : va_S A H0 H locs) (hA : ∀ q, H0.size ≤ q → A q)
    (kk : ∀ (v : Option Value) (w' : va_W) (H1 : Heap) (locs1 : List Loc), post v w' → va_P g.1 vwCl w' H1 → va_D A w' → va_S A H0 H1 locs1 → W p l e R s m args below meth c H1 locs1 (cells + mc) (slots + ms) Q (F0 m (pc + 3) ls (v.toList ++ rest))) : W p l e R s m args below meth c H locs cells slots Q (F0 m pc ls st0) := by
  have hF : ∀ q, va_A ws H.size q → A q := fun q hq => by
    rcases hq with ⟨k, e9, hk⟩ | h
    · exact hD.2 k _ hk
    · exact hA q (Nat.le_trans hS.1 h)
  intro T hT X
  obtain ⟨v, st₀, t, T', L, h0, X', hL, e1, e2, ⟨⟨v2, w', hv, hp, ha, hP1⟩, hz, hk⟩, st⟩ := hr T hT X
  cases hv
  rw [h0] at hz hk
  obtain ⟨t2, a1, b1⟩ := kk v w' T'.heap (locs ++ L) hp (by rw [e1]; exact hP1) (D_addr ha hD)
    ⟨Nat.le_trans hS.1 (by rw [e1]; exact hz), fun q h1 h2 => by rw [e1, hk q (Nat.lt_of_lt_of_le h1 hS.1) (fun z => h2 (hF q z))]; exact hS.2.1 q h1 h2, fun q hq => by
      rcases List.mem_append.mp hq with h | h
      · exact hS.2.2 q h
      · exact hF _ (hL q h)⟩ T' rfl X'
  exact ⟨t2, st t2 a1, b1⟩
theorem fr_preA (hK : va_K g.1 vwCl (tyG g) s) (hP : va_P g.1 vwCl ws H) (hD : va_D A ws) : ∀ U : State, U.heap = H → s.WarmedH U.vm → Pst g As ws H.size As.toArray U := by
  intro U hU hW
  exact ⟨rfl, by rw [hU], by rw [hU]; exact hP, va_K.moved hW.alike hK, hD.weaken (fun _ _ _ _ => trivial)⟩
end FRA
