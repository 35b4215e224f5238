/-! what holds of the queues; the reference's words for the same -/
theorem l1023 {x : Int64} (h : 1024 ≤ x) : 1023 < x := by
  rw [Int64.le_iff_toInt_le] at h
  rw [Int64.lt_iff_toInt_lt]
  have e0 : (1024 : Int64).toInt = 1024 := by decide
  have e1 : (1023 : Int64).toInt = 1023 := by decide
  rw [e0] at h
  rw [e1]
  omega
theorem l1024 {x : Int64} (h : 1023 < x) : 1024 ≤ x := by
  rw [Int64.le_iff_toInt_le]
  rw [Int64.lt_iff_toInt_lt] at h
  have e0 : (1024 : Int64).toInt = 1024 := by decide
  have e1 : (1023 : Int64).toInt = 1023 := by decide
  rw [e1] at h
  rw [e0]
  omega
def QI (T : Nat → Nat → Int32) (q w : Nat) : Prop := ∃ s h t b : Nat, T 2 q = nI s ∧ 2 ≤ s ∧ s ≤ 16 ∧ T 3 q = nI h ∧ h < s ∧ T 4 q = nI t ∧ t < s ∧ T 1 q = nI b ∧ b + s * w ≤ 1024
theorem QI_nz {T : Nat → Nat → Int32} {q w : Nat} (h : QI T q w) : ¬ T 2 q = 0 := by
  obtain ⟨s, h, t, b, e, h2, h16, -⟩ := h
  rw [e]
  exact nI_ne0 (by omega) (by omega)
theorem sb_ad (a b c : Int32) : a - b + c = a + c - b := by rw [Int32.sub_eq_add_neg, Int32.sub_eq_add_neg, Int32.add_assoc, Int32.add_comm (-b) c, ← Int32.add_assoc]
theorem fht_n {h s t : Nat} (h1 : h < s) (h2 : t < s) (h3 : s ≤ 16) : fht (nI h) (nI s) (nI t) = nI ((t + s - h) % s) := by
  unfold fht
  by_cases c : t < h
  · rw [if_pos (nI_lt c (by omega)), Nat.mod_eq_of_lt (by omega), sb_ad, nI_add, pk_sub (by omega)]
  · rw [if_neg (nI_nlt (by omega) (by omega)), pk_sub (by omega), show t + s - h = (t - h) + s by omega, Nat.add_mod_right, Nat.mod_eq_of_lt (by omega)]
theorem QI_fht {T : Nat → Nat → Int32} {q w : Nat} (h : QI T q w) : (T 4 q - T 3 q + T 2 q) - (T 4 q - T 3 q + T 2 q) / T 2 q * T 2 q = fht (T 3 q) (T 2 q) (T 4 q) := by
  obtain ⟨s, h, t, b, e2, h2, h16, e3, hh, e4, ht, -⟩ := h
  rw [e2, e3, e4, fht_n hh ht h16]
  have e : nI t - nI h + nI s = nI (t + s - h) := by rw [sb_ad, nI_add, pk_sub (by omega)]
  rw [e]
  exact pk_rem (by omega) (by omega) (by omega)
section FR5
variable {p : Program} {l : Launch} {e : Env} {R : Room} {s : State} {m : MethodId} {args : Array Value} {below : List Frame} {meth : Method} {c : Code} {H : Heap} {locs : List Loc} {cells slots : Nat} {Q : State → Prop}
variable {cc : ByteArray} {pc : Nat} {ls : Array Slot} {rest : List Value} {D : va_G} {cl : List vw_C} {a : Nat} {tys : List (ClassId × FieldType)} {ws : va_W}
theorem fr_aaldA {i : Int32} {k b : Nat} (hexec : p.tables.exec = Jvm.exec) (hb : c.code = cc) (hK : va_K D cl tys s) (hP : va_P D cl ws H) (q0 t0 : Nat) {cA : ClassId} {t : FieldType} {n : Nat} {f : Nat → Option Nat} (ha : ws[q0]? = some (a, .inl (cA, n, .inr (.inr (.inr (.inr f)))))) (ht : tys[t0]? = some (cA, .array t)) (hi : i = nI k) (hk : k < n) (hn : n < 2 ^ 31) (hf : f k = some b) (hdg : decode cc pc = .ok (.aaload, 1))
    (kk : W p l e R s m args below meth c H locs cells slots Q (F0 m (pc + 1) ls (.ref b :: rest))) : W p l e R s m args below meth c H locs cells slots Q (F0 m pc ls (.int i :: .ref a :: rest)) := by
  subst hi
  have hin := vp_in_nI hk hn
  have hlt : (nI k).toNatClampNeg < n := Nat.not_le.mp fun q => hin (Or.inr q)
  refine W.aald (v := va_rf (f (nI k).toNatClampNeg)) (ty := .array t) hexec hb (hP q0 _ ha) ((hK.2 t0 _ ht).1 n (fun j => va_rf (f j))) rfl (fun q => by cases q) (by show ¬ (nI k < 0 ∨ (arrV _ _ _).slots.size ≤ _); rw [arrV_size]; exact hin) (by show (arrV _ _ _).slots[_]? = _; rw [arrV_read _ _ hlt]) rfl rfl hdg ?_
  rw [nI_clamp (by omega), hf]
  exact kk
end FR5
