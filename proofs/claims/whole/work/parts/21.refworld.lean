/-! THE REFERENCE'S STATE: a tuple, its parts, its cells (written by gen/ref.py) -/
abbrev RS : Type := (Nat → Int64) × (Nat → Nat → Int64) × (Nat → Int32) × (Nat) × (Nat) × (Int32) × (Int32) × (Int32) × (Nat → Nat → Int32) × (Nat) × (Nat) × (Nat) × (Nat) × (Int64) × (Int64) × (Int64) × (Int64) × (Nat) × (Int32) × (Int32) × (Nat → Int32) × (Nat → Int64)
abbrev z_mem (ρ : RS) : Nat → Int64 := ρ.1
abbrev z_R (ρ : RS) : Nat → Nat → Int64 := ρ.2.1
abbrev z_cb (ρ : RS) : Nat → Int32 := ρ.2.2.1
abbrev z_nc (ρ : RS) : Nat := ρ.2.2.2.1
abbrev z_tu (ρ : RS) : Nat := ρ.2.2.2.2.1
abbrev z_bi (ρ : RS) : Int32 := ρ.2.2.2.2.2.1
abbrev z_cg (ρ : RS) : Int32 := ρ.2.2.2.2.2.2.1
abbrev z_on (ρ : RS) : Int32 := ρ.2.2.2.2.2.2.2.1
abbrev z_T (ρ : RS) : Nat → Nat → Int32 := ρ.2.2.2.2.2.2.2.2.1
abbrev z_dn (ρ : RS) : Nat := ρ.2.2.2.2.2.2.2.2.2.1
abbrev z_fa (ρ : RS) : Nat := ρ.2.2.2.2.2.2.2.2.2.2.1
abbrev z_br (ρ : RS) : Nat := ρ.2.2.2.2.2.2.2.2.2.2.2.1
abbrev z_bs (ρ : RS) : Nat := ρ.2.2.2.2.2.2.2.2.2.2.2.2.1
abbrev z_cp (ρ : RS) : Int64 := ρ.2.2.2.2.2.2.2.2.2.2.2.2.2.1
abbrev z_cq (ρ : RS) : Int64 := ρ.2.2.2.2.2.2.2.2.2.2.2.2.2.2.1
abbrev z_cx (ρ : RS) : Int64 := ρ.2.2.2.2.2.2.2.2.2.2.2.2.2.2.2.1
abbrev z_re (ρ : RS) : Int64 := ρ.2.2.2.2.2.2.2.2.2.2.2.2.2.2.2.2.1
abbrev z_n (ρ : RS) : Nat := ρ.2.2.2.2.2.2.2.2.2.2.2.2.2.2.2.2.2.1
abbrev z_op (ρ : RS) : Int32 := ρ.2.2.2.2.2.2.2.2.2.2.2.2.2.2.2.2.2.2.1
abbrev z_fg (ρ : RS) : Int32 := ρ.2.2.2.2.2.2.2.2.2.2.2.2.2.2.2.2.2.2.2.1
abbrev z_sp (ρ : RS) : Nat → Int32 := ρ.2.2.2.2.2.2.2.2.2.2.2.2.2.2.2.2.2.2.2.2.1
abbrev z_one (ρ : RS) : Nat → Int64 := ρ.2.2.2.2.2.2.2.2.2.2.2.2.2.2.2.2.2.2.2.2.2
abbrev w_mem (ρ : RS) (v : Nat → Int64) : RS := (v, ρ.2)
abbrev w_R (ρ : RS) (v : Nat → Nat → Int64) : RS := (ρ.1, v, ρ.2.2)
abbrev w_cb (ρ : RS) (v : Nat → Int32) : RS := (ρ.1, ρ.2.1, v, ρ.2.2.2)
abbrev w_nc (ρ : RS) (v : Nat) : RS := (ρ.1, ρ.2.1, ρ.2.2.1, v, ρ.2.2.2.2)
abbrev w_tu (ρ : RS) (v : Nat) : RS := (ρ.1, ρ.2.1, ρ.2.2.1, ρ.2.2.2.1, v, ρ.2.2.2.2.2)
abbrev w_bi (ρ : RS) (v : Int32) : RS := (ρ.1, ρ.2.1, ρ.2.2.1, ρ.2.2.2.1, ρ.2.2.2.2.1, v, ρ.2.2.2.2.2.2)
abbrev w_cg (ρ : RS) (v : Int32) : RS := (ρ.1, ρ.2.1, ρ.2.2.1, ρ.2.2.2.1, ρ.2.2.2.2.1, ρ.2.2.2.2.2.1, v, ρ.2.2.2.2.2.2.2)
abbrev w_on (ρ : RS) (v : Int32) : RS := (ρ.1, ρ.2.1, ρ.2.2.1, ρ.2.2.2.1, ρ.2.2.2.2.1, ρ.2.2.2.2.2.1, ρ.2.2.2.2.2.2.1, v, ρ.2.2.2.2.2.2.2.2)
abbrev w_T (ρ : RS) (v : Nat → Nat → Int32) : RS := (ρ.1, ρ.2.1, ρ.2.2.1, ρ.2.2.2.1, ρ.2.2.2.2.1, ρ.2.2.2.2.2.1, ρ.2.2.2.2.2.2.1, ρ.2.2.2.2.2.2.2.1, v, ρ.2.2.2.2.2.2.2.2.2)
abbrev w_dn (ρ : RS) (v : Nat) : RS := (ρ.1, ρ.2.1, ρ.2.2.1, ρ.2.2.2.1, ρ.2.2.2.2.1, ρ.2.2.2.2.2.1, ρ.2.2.2.2.2.2.1, ρ.2.2.2.2.2.2.2.1, ρ.2.2.2.2.2.2.2.2.1, v, ρ.2.2.2.2.2.2.2.2.2.2)
abbrev w_fa (ρ : RS) (v : Nat) : RS := (ρ.1, ρ.2.1, ρ.2.2.1, ρ.2.2.2.1, ρ.2.2.2.2.1, ρ.2.2.2.2.2.1, ρ.2.2.2.2.2.2.1, ρ.2.2.2.2.2.2.2.1, ρ.2.2.2.2.2.2.2.2.1, ρ.2.2.2.2.2.2.2.2.2.1, v, ρ.2.2.2.2.2.2.2.2.2.2.2)
abbrev w_br (ρ : RS) (v : Nat) : RS := (ρ.1, ρ.2.1, ρ.2.2.1, ρ.2.2.2.1, ρ.2.2.2.2.1, ρ.2.2.2.2.2.1, ρ.2.2.2.2.2.2.1, ρ.2.2.2.2.2.2.2.1, ρ.2.2.2.2.2.2.2.2.1, ρ.2.2.2.2.2.2.2.2.2.1, ρ.2.2.2.2.2.2.2.2.2.2.1, v, ρ.2.2.2.2.2.2.2.2.2.2.2.2)
abbrev w_bs (ρ : RS) (v : Nat) : RS := (ρ.1, ρ.2.1, ρ.2.2.1, ρ.2.2.2.1, ρ.2.2.2.2.1, ρ.2.2.2.2.2.1, ρ.2.2.2.2.2.2.1, ρ.2.2.2.2.2.2.2.1, ρ.2.2.2.2.2.2.2.2.1, ρ.2.2.2.2.2.2.2.2.2.1, ρ.2.2.2.2.2.2.2.2.2.2.1, ρ.2.2.2.2.2.2.2.2.2.2.2.1, v, ρ.2.2.2.2.2.2.2.2.2.2.2.2.2)
abbrev w_cp (ρ : RS) (v : Int64) : RS := (ρ.1, ρ.2.1, ρ.2.2.1, ρ.2.2.2.1, ρ.2.2.2.2.1, ρ.2.2.2.2.2.1, ρ.2.2.2.2.2.2.1, ρ.2.2.2.2.2.2.2.1, ρ.2.2.2.2.2.2.2.2.1, ρ.2.2.2.2.2.2.2.2.2.1, ρ.2.2.2.2.2.2.2.2.2.2.1, ρ.2.2.2.2.2.2.2.2.2.2.2.1, ρ.2.2.2.2.2.2.2.2.2.2.2.2.1, v, ρ.2.2.2.2.2.2.2.2.2.2.2.2.2.2)
abbrev w_cq (ρ : RS) (v : Int64) : RS := (ρ.1, ρ.2.1, ρ.2.2.1, ρ.2.2.2.1, ρ.2.2.2.2.1, ρ.2.2.2.2.2.1, ρ.2.2.2.2.2.2.1, ρ.2.2.2.2.2.2.2.1, ρ.2.2.2.2.2.2.2.2.1, ρ.2.2.2.2.2.2.2.2.2.1, ρ.2.2.2.2.2.2.2.2.2.2.1, ρ.2.2.2.2.2.2.2.2.2.2.2.1, ρ.2.2.2.2.2.2.2.2.2.2.2.2.1, ρ.2.2.2.2.2.2.2.2.2.2.2.2.2.1, v, ρ.2.2.2.2.2.2.2.2.2.2.2.2.2.2.2)
abbrev w_cx (ρ : RS) (v : Int64) : RS := (ρ.1, ρ.2.1, ρ.2.2.1, ρ.2.2.2.1, ρ.2.2.2.2.1, ρ.2.2.2.2.2.1, ρ.2.2.2.2.2.2.1, ρ.2.2.2.2.2.2.2.1, ρ.2.2.2.2.2.2.2.2.1, ρ.2.2.2.2.2.2.2.2.2.1, ρ.2.2.2.2.2.2.2.2.2.2.1, ρ.2.2.2.2.2.2.2.2.2.2.2.1, ρ.2.2.2.2.2.2.2.2.2.2.2.2.1, ρ.2.2.2.2.2.2.2.2.2.2.2.2.2.1, ρ.2.2.2.2.2.2.2.2.2.2.2.2.2.2.1, v, ρ.2.2.2.2.2.2.2.2.2.2.2.2.2.2.2.2)
abbrev w_re (ρ : RS) (v : Int64) : RS := (ρ.1, ρ.2.1, ρ.2.2.1, ρ.2.2.2.1, ρ.2.2.2.2.1, ρ.2.2.2.2.2.1, ρ.2.2.2.2.2.2.1, ρ.2.2.2.2.2.2.2.1, ρ.2.2.2.2.2.2.2.2.1, ρ.2.2.2.2.2.2.2.2.2.1, ρ.2.2.2.2.2.2.2.2.2.2.1, ρ.2.2.2.2.2.2.2.2.2.2.2.1, ρ.2.2.2.2.2.2.2.2.2.2.2.2.1, ρ.2.2.2.2.2.2.2.2.2.2.2.2.2.1, ρ.2.2.2.2.2.2.2.2.2.2.2.2.2.2.1, ρ.2.2.2.2.2.2.2.2.2.2.2.2.2.2.2.1, v, ρ.2.2.2.2.2.2.2.2.2.2.2.2.2.2.2.2.2)
abbrev w_n (ρ : RS) (v : Nat) : RS := (ρ.1, ρ.2.1, ρ.2.2.1, ρ.2.2.2.1, ρ.2.2.2.2.1, ρ.2.2.2.2.2.1, ρ.2.2.2.2.2.2.1, ρ.2.2.2.2.2.2.2.1, ρ.2.2.2.2.2.2.2.2.1, ρ.2.2.2.2.2.2.2.2.2.1, ρ.2.2.2.2.2.2.2.2.2.2.1, ρ.2.2.2.2.2.2.2.2.2.2.2.1, ρ.2.2.2.2.2.2.2.2.2.2.2.2.1, ρ.2.2.2.2.2.2.2.2.2.2.2.2.2.1, ρ.2.2.2.2.2.2.2.2.2.2.2.2.2.2.1, ρ.2.2.2.2.2.2.2.2.2.2.2.2.2.2.2.1, ρ.2.2.2.2.2.2.2.2.2.2.2.2.2.2.2.2.1, v, ρ.2.2.2.2.2.2.2.2.2.2.2.2.2.2.2.2.2.2)
abbrev w_op (ρ : RS) (v : Int32) : RS := (ρ.1, ρ.2.1, ρ.2.2.1, ρ.2.2.2.1, ρ.2.2.2.2.1, ρ.2.2.2.2.2.1, ρ.2.2.2.2.2.2.1, ρ.2.2.2.2.2.2.2.1, ρ.2.2.2.2.2.2.2.2.1, ρ.2.2.2.2.2.2.2.2.2.1, ρ.2.2.2.2.2.2.2.2.2.2.1, ρ.2.2.2.2.2.2.2.2.2.2.2.1, ρ.2.2.2.2.2.2.2.2.2.2.2.2.1, ρ.2.2.2.2.2.2.2.2.2.2.2.2.2.1, ρ.2.2.2.2.2.2.2.2.2.2.2.2.2.2.1, ρ.2.2.2.2.2.2.2.2.2.2.2.2.2.2.2.1, ρ.2.2.2.2.2.2.2.2.2.2.2.2.2.2.2.2.1, ρ.2.2.2.2.2.2.2.2.2.2.2.2.2.2.2.2.2.1, v, ρ.2.2.2.2.2.2.2.2.2.2.2.2.2.2.2.2.2.2.2)
abbrev w_fg (ρ : RS) (v : Int32) : RS := (ρ.1, ρ.2.1, ρ.2.2.1, ρ.2.2.2.1, ρ.2.2.2.2.1, ρ.2.2.2.2.2.1, ρ.2.2.2.2.2.2.1, ρ.2.2.2.2.2.2.2.1, ρ.2.2.2.2.2.2.2.2.1, ρ.2.2.2.2.2.2.2.2.2.1, ρ.2.2.2.2.2.2.2.2.2.2.1, ρ.2.2.2.2.2.2.2.2.2.2.2.1, ρ.2.2.2.2.2.2.2.2.2.2.2.2.1, ρ.2.2.2.2.2.2.2.2.2.2.2.2.2.1, ρ.2.2.2.2.2.2.2.2.2.2.2.2.2.2.1, ρ.2.2.2.2.2.2.2.2.2.2.2.2.2.2.2.1, ρ.2.2.2.2.2.2.2.2.2.2.2.2.2.2.2.2.1, ρ.2.2.2.2.2.2.2.2.2.2.2.2.2.2.2.2.2.1, ρ.2.2.2.2.2.2.2.2.2.2.2.2.2.2.2.2.2.2.1, v, ρ.2.2.2.2.2.2.2.2.2.2.2.2.2.2.2.2.2.2.2.2)
abbrev w_sp (ρ : RS) (v : Nat → Int32) : RS := (ρ.1, ρ.2.1, ρ.2.2.1, ρ.2.2.2.1, ρ.2.2.2.2.1, ρ.2.2.2.2.2.1, ρ.2.2.2.2.2.2.1, ρ.2.2.2.2.2.2.2.1, ρ.2.2.2.2.2.2.2.2.1, ρ.2.2.2.2.2.2.2.2.2.1, ρ.2.2.2.2.2.2.2.2.2.2.1, ρ.2.2.2.2.2.2.2.2.2.2.2.1, ρ.2.2.2.2.2.2.2.2.2.2.2.2.1, ρ.2.2.2.2.2.2.2.2.2.2.2.2.2.1, ρ.2.2.2.2.2.2.2.2.2.2.2.2.2.2.1, ρ.2.2.2.2.2.2.2.2.2.2.2.2.2.2.2.1, ρ.2.2.2.2.2.2.2.2.2.2.2.2.2.2.2.2.1, ρ.2.2.2.2.2.2.2.2.2.2.2.2.2.2.2.2.2.1, ρ.2.2.2.2.2.2.2.2.2.2.2.2.2.2.2.2.2.2.1, ρ.2.2.2.2.2.2.2.2.2.2.2.2.2.2.2.2.2.2.2.1, v, ρ.2.2.2.2.2.2.2.2.2.2.2.2.2.2.2.2.2.2.2.2.2)
abbrev w_one (ρ : RS) (v : Nat → Int64) : RS := (ρ.1, ρ.2.1, ρ.2.2.1, ρ.2.2.2.1, ρ.2.2.2.2.1, ρ.2.2.2.2.2.1, ρ.2.2.2.2.2.2.1, ρ.2.2.2.2.2.2.2.1, ρ.2.2.2.2.2.2.2.2.1, ρ.2.2.2.2.2.2.2.2.2.1, ρ.2.2.2.2.2.2.2.2.2.2.1, ρ.2.2.2.2.2.2.2.2.2.2.2.1, ρ.2.2.2.2.2.2.2.2.2.2.2.2.1, ρ.2.2.2.2.2.2.2.2.2.2.2.2.2.1, ρ.2.2.2.2.2.2.2.2.2.2.2.2.2.2.1, ρ.2.2.2.2.2.2.2.2.2.2.2.2.2.2.2.1, ρ.2.2.2.2.2.2.2.2.2.2.2.2.2.2.2.2.1, ρ.2.2.2.2.2.2.2.2.2.2.2.2.2.2.2.2.2.1, ρ.2.2.2.2.2.2.2.2.2.2.2.2.2.2.2.2.2.2.1, ρ.2.2.2.2.2.2.2.2.2.2.2.2.2.2.2.2.2.2.2.1, ρ.2.2.2.2.2.2.2.2.2.2.2.2.2.2.2.2.2.2.2.2.1, v)
def rfL (g : GG) (a : Nat → Nat) (R : Nat → Nat → Int64) : va_W := (List.range 71).map (fun i => (a (15 + i), .inl (g.2 0, 8, .inr (.inl (R i)))))
def rfW (g : GG) (a : Nat → Nat) (mem : Nat → Int64) (R : Nat → Nat → Int64) (cb : Nat → Int32) (nc : Nat) (tu : Nat) (bi : Int32) (cg : Int32) (on : Int32) (T : Nat → Nat → Int32) (dn : Nat) (fa : Nat) (br : Nat) (bs : Nat) (cp : Int64) (cq : Int64) (cx : Int64) (re : Int64) (n : Nat) (op : Int32) (fg : Int32) (sp : Nat → Int32) (one : Nat → Int64) : va_W := [(a 0, .inr (7, [.ref (a 1), .ref (a 2), .ref (a 3), .ref (a 4), .int (nI nc), .int (nI tu), .int bi, .int cg, .int on, .ref (a 5), .ref (a 6), .ref (a 7), .ref (a 8), .ref (a 9), .ref (a 10), .ref (a 11), .ref (a 12), .long (lN dn), .long (lN fa), .long (lN br), .long (lN bs), .long cp, .long cq, .long cx, .long re, .int (nI n), .int op, .int fg, .ref (a 13), .ref (a 14)])),
  (a 1, .inl (g.2 0, 1024, .inr (.inl mem))),
  (a 2, .inl (g.2 5, 64, .inr (.inr (.inr (.inr (fun k => if k < 64 then some (a (15 + k)) else none)))))),
  (a 3, .inl (g.2 5, 7, .inr (.inr (.inr (.inr (fun k => if k < 7 then some (a (15 + (64 + k))) else none)))))),
  (a 4, .inl (g.2 1, 7, .inl cb)),
  (a 5, .inl (g.2 2, 8, .inl (T 0))),
  (a 6, .inl (g.2 2, 4, .inl (T 7))),
  (a 7, .inl (g.2 1, 8, .inl (T 1))),
  (a 8, .inl (g.2 1, 8, .inl (T 2))),
  (a 9, .inl (g.2 1, 8, .inl (T 3))),
  (a 10, .inl (g.2 1, 8, .inl (T 4))),
  (a 11, .inl (g.2 1, 4, .inl (T 5))),
  (a 12, .inl (g.2 1, 4, .inl (T 6))),
  (a 13, .inl (g.2 1, 2048, .inl sp)),
  (a 14, .inl (g.2 0, 8, .inr (.inl one)))] ++ rfL g a R
def upr (T : Nat → Nat → Int32) (r : Nat) (f : Nat → Int32) : Nat → Nat → Int32 := fun x y => if x = r then f y else T x y
section RF
variable {g : GG} {a : Nat → Nat} {mem : Nat → Int64} {R : Nat → Nat → Int64} {cb : Nat → Int32} {nc : Nat} {tu : Nat} {bi : Int32} {cg : Int32} {on : Int32} {T : Nat → Nat → Int32} {dn : Nat} {fa : Nat} {br : Nat} {bs : Nat} {cp : Int64} {cq : Int64} {cx : Int64} {re : Int64} {n : Nat} {op : Int32} {fg : Int32} {sp : Nat → Int32} {one : Nat → Int64}
theorem rfL_at {i : Nat} (hi : i < 71) : (rfL g a R)[i]? = some (a (15 + i), .inl (g.2 0, 8, .inr (.inl (R i)))) := by
  unfold rfL
  rw [List.getElem?_map, List.getElem?_range hi]
  rfl
theorem rfL_set {i : Nat} {f : Nat → Int64} (hi : i < 71) : (rfL g a R).set i (a (15 + i), .inl (g.2 0, 8, .inr (.inl f))) = rfL g a (va_up R i f) := by
  apply List.ext_getElem?
  intro j
  by_cases e : j = i
  · subst e
    rw [List.getElem?_set_self (by unfold rfL; simpa using hi), rfL_at hi, va_up_self]
  · rw [List.getElem?_set_ne (Ne.symm e)]
    unfold rfL
    rw [List.getElem?_map, List.getElem?_map]
    cases h : (List.range 71)[j]? with
    | none => rfl
    | some k =>
      have hk : k = j := by
        obtain ⟨h1, h2⟩ := List.getElem?_eq_some_iff.mp h
        rw [← h2]; simp
      subst hk
      show some (a (15 + k), Sum.inl (g.2 0, 8, Sum.inr (Sum.inl (R k)))) = some (a (15 + k), Sum.inl (g.2 0, 8, Sum.inr (Sum.inl (va_up R i f k))))
      rw [va_up_ne R f e]
theorem rfR {i : Nat} (hi : i < 71) : (rfW g a mem R cb nc tu bi cg on T dn fa br bs cp cq cx re n op fg sp one)[15 + i]? = some (a (15 + i), .inl (g.2 0, 8, .inr (.inl (R i)))) := by
  unfold rfW
  rw [List.getElem?_append_right (by simp), show 15 + i - _ = i from by simp]
  exact rfL_at hi
theorem rfR_set {i : Nat} {f : Nat → Int64} (hi : i < 71) : (rfW g a mem R cb nc tu bi cg on T dn fa br bs cp cq cx re n op fg sp one).set (15 + i) (a (15 + i), .inl (g.2 0, 8, .inr (.inl f))) = rfW g a mem (va_up R i f) cb nc tu bi cg on T dn fa br bs cp cq cx re n op fg sp one := by
  unfold rfW
  rw [List.set_append_right _ _ (by simp), show 15 + i - _ = i from by simp, rfL_set hi]
theorem rfT_0 {q : Nat} {v : Int32} : (rfW g a mem R cb nc tu bi cg on T dn fa br bs cp cq cx re n op fg sp one).set 5 (a 5, .inl (g.2 2, 8, .inl (upd (T 0) q v))) = rfW g a mem R cb nc tu bi cg on (up2 T 0 q v) dn fa br bs cp cq cx re n op fg sp one := rfl
theorem rfU_0 {f : Nat → Int32} : (rfW g a mem R cb nc tu bi cg on T dn fa br bs cp cq cx re n op fg sp one).set 5 (a 5, .inl (g.2 2, 8, .inl f)) = rfW g a mem R cb nc tu bi cg on (upr T 0 f) dn fa br bs cp cq cx re n op fg sp one := rfl
theorem rfT_7 {q : Nat} {v : Int32} : (rfW g a mem R cb nc tu bi cg on T dn fa br bs cp cq cx re n op fg sp one).set 6 (a 6, .inl (g.2 2, 4, .inl (upd (T 7) q v))) = rfW g a mem R cb nc tu bi cg on (up2 T 7 q v) dn fa br bs cp cq cx re n op fg sp one := rfl
theorem rfU_7 {f : Nat → Int32} : (rfW g a mem R cb nc tu bi cg on T dn fa br bs cp cq cx re n op fg sp one).set 6 (a 6, .inl (g.2 2, 4, .inl f)) = rfW g a mem R cb nc tu bi cg on (upr T 7 f) dn fa br bs cp cq cx re n op fg sp one := rfl
theorem rfT_1 {q : Nat} {v : Int32} : (rfW g a mem R cb nc tu bi cg on T dn fa br bs cp cq cx re n op fg sp one).set 7 (a 7, .inl (g.2 1, 8, .inl (upd (T 1) q v))) = rfW g a mem R cb nc tu bi cg on (up2 T 1 q v) dn fa br bs cp cq cx re n op fg sp one := rfl
theorem rfU_1 {f : Nat → Int32} : (rfW g a mem R cb nc tu bi cg on T dn fa br bs cp cq cx re n op fg sp one).set 7 (a 7, .inl (g.2 1, 8, .inl f)) = rfW g a mem R cb nc tu bi cg on (upr T 1 f) dn fa br bs cp cq cx re n op fg sp one := rfl
theorem rfT_2 {q : Nat} {v : Int32} : (rfW g a mem R cb nc tu bi cg on T dn fa br bs cp cq cx re n op fg sp one).set 8 (a 8, .inl (g.2 1, 8, .inl (upd (T 2) q v))) = rfW g a mem R cb nc tu bi cg on (up2 T 2 q v) dn fa br bs cp cq cx re n op fg sp one := rfl
theorem rfU_2 {f : Nat → Int32} : (rfW g a mem R cb nc tu bi cg on T dn fa br bs cp cq cx re n op fg sp one).set 8 (a 8, .inl (g.2 1, 8, .inl f)) = rfW g a mem R cb nc tu bi cg on (upr T 2 f) dn fa br bs cp cq cx re n op fg sp one := rfl
theorem rfT_3 {q : Nat} {v : Int32} : (rfW g a mem R cb nc tu bi cg on T dn fa br bs cp cq cx re n op fg sp one).set 9 (a 9, .inl (g.2 1, 8, .inl (upd (T 3) q v))) = rfW g a mem R cb nc tu bi cg on (up2 T 3 q v) dn fa br bs cp cq cx re n op fg sp one := rfl
theorem rfU_3 {f : Nat → Int32} : (rfW g a mem R cb nc tu bi cg on T dn fa br bs cp cq cx re n op fg sp one).set 9 (a 9, .inl (g.2 1, 8, .inl f)) = rfW g a mem R cb nc tu bi cg on (upr T 3 f) dn fa br bs cp cq cx re n op fg sp one := rfl
theorem rfT_4 {q : Nat} {v : Int32} : (rfW g a mem R cb nc tu bi cg on T dn fa br bs cp cq cx re n op fg sp one).set 10 (a 10, .inl (g.2 1, 8, .inl (upd (T 4) q v))) = rfW g a mem R cb nc tu bi cg on (up2 T 4 q v) dn fa br bs cp cq cx re n op fg sp one := rfl
theorem rfU_4 {f : Nat → Int32} : (rfW g a mem R cb nc tu bi cg on T dn fa br bs cp cq cx re n op fg sp one).set 10 (a 10, .inl (g.2 1, 8, .inl f)) = rfW g a mem R cb nc tu bi cg on (upr T 4 f) dn fa br bs cp cq cx re n op fg sp one := rfl
theorem rfT_5 {q : Nat} {v : Int32} : (rfW g a mem R cb nc tu bi cg on T dn fa br bs cp cq cx re n op fg sp one).set 11 (a 11, .inl (g.2 1, 4, .inl (upd (T 5) q v))) = rfW g a mem R cb nc tu bi cg on (up2 T 5 q v) dn fa br bs cp cq cx re n op fg sp one := rfl
theorem rfU_5 {f : Nat → Int32} : (rfW g a mem R cb nc tu bi cg on T dn fa br bs cp cq cx re n op fg sp one).set 11 (a 11, .inl (g.2 1, 4, .inl f)) = rfW g a mem R cb nc tu bi cg on (upr T 5 f) dn fa br bs cp cq cx re n op fg sp one := rfl
theorem rfT_6 {q : Nat} {v : Int32} : (rfW g a mem R cb nc tu bi cg on T dn fa br bs cp cq cx re n op fg sp one).set 12 (a 12, .inl (g.2 1, 4, .inl (upd (T 6) q v))) = rfW g a mem R cb nc tu bi cg on (up2 T 6 q v) dn fa br bs cp cq cx re n op fg sp one := rfl
theorem rfU_6 {f : Nat → Int32} : (rfW g a mem R cb nc tu bi cg on T dn fa br bs cp cq cx re n op fg sp one).set 12 (a 12, .inl (g.2 1, 4, .inl f)) = rfW g a mem R cb nc tu bi cg on (upr T 6 f) dn fa br bs cp cq cx re n op fg sp one := rfl
end RF
