/-! THE OBJECTS AS THEY STAND ONCE MADE: their shape never changes, what changes is numbers -/
abbrev ZSh : Type := (Nat × List (Option Nat)) ⊕ (Nat × Nat × Int)
abbrev ZMem : Type := Nat → Int → Int
def shl : List ZSh := [
  .inl (6, [some 1, some 14, some 16, some 23, some 49, some 56, some 63, some 70, some 77, none, none]),
  .inl (4, [some 2, some 3, some 4, some 5]),
  .inr (1, 8, 0),
  .inr (0, 8, 0),
  .inr (0, 8, 0),
  .inr (2, 8, 6),
  .inr (0, 40, 0),
  .inr (0, 40, 0),
  .inr (0, 40, 0),
  .inr (0, 40, 0),
  .inr (0, 40, 0),
  .inr (0, 40, 0),
  .inr (0, 40, 0),
  .inr (0, 40, 0),
  .inl (5, [some 15, none, none, none, none]),
  .inr (0, 100, 0),
  .inl (2, [none, none, none, some 17, some 18, some 19, none, none, none, none, some 20, some 21, some 22]),
  .inr (0, 7, 0),
  .inr (0, 7, 0),
  .inr (0, 7, 0),
  .inr (0, 7, 0),
  .inr (0, 7, 0),
  .inr (0, 7, 0),
  .inl (0, [some 24, none, none]),
  .inr (2, 24, 25),
  .inr (0, 25, 0),
  .inr (0, 25, 0),
  .inr (0, 25, 0),
  .inr (0, 25, 0),
  .inr (0, 25, 0),
  .inr (0, 25, 0),
  .inr (0, 25, 0),
  .inr (0, 25, 0),
  .inr (0, 25, 0),
  .inr (0, 25, 0),
  .inr (0, 25, 0),
  .inr (0, 25, 0),
  .inr (0, 25, 0),
  .inr (0, 25, 0),
  .inr (0, 25, 0),
  .inr (0, 25, 0),
  .inr (0, 25, 0),
  .inr (0, 25, 0),
  .inr (0, 25, 0),
  .inr (0, 25, 0),
  .inr (0, 25, 0),
  .inr (0, 25, 0),
  .inr (0, 25, 0),
  .inr (0, 25, 0),
  .inl (2, [none, none, none, some 50, some 51, some 52, none, none, none, none, some 53, some 54, some 55]),
  .inr (0, 7, 0),
  .inr (0, 7, 0),
  .inr (0, 7, 0),
  .inr (0, 7, 0),
  .inr (0, 7, 0),
  .inr (0, 7, 0),
  .inl (2, [none, none, none, some 57, some 58, some 59, none, none, none, none, some 60, some 61, some 62]),
  .inr (0, 7, 0),
  .inr (0, 7, 0),
  .inr (0, 7, 0),
  .inr (0, 7, 0),
  .inr (0, 7, 0),
  .inr (0, 7, 0),
  .inl (2, [none, none, none, some 64, some 65, some 66, none, none, none, none, some 67, some 68, some 69]),
  .inr (0, 7, 0),
  .inr (0, 7, 0),
  .inr (0, 7, 0),
  .inr (0, 7, 0),
  .inr (0, 7, 0),
  .inr (0, 7, 0),
  .inl (2, [none, none, none, some 71, some 72, some 73, none, none, none, none, some 74, some 75, some 76]),
  .inr (0, 7, 0),
  .inr (0, 7, 0),
  .inr (0, 7, 0),
  .inr (0, 7, 0),
  .inr (0, 7, 0),
  .inr (0, 7, 0),
  .inl (1, [some 78, none]),
  .inr (0, 16, 0),
  .inl (7, [none, none, some 80, some 81, some 82, some 83, some 84, some 85, some 86, none, some 87, none, none, none, none, none, none, none, none, some 88, some 89, some 90, some 91, some 92, none]),
  .inr (0, 8, 0),
  .inr (0, 8, 0),
  .inr (0, 320, 0),
  .inr (0, 50, 0),
  .inr (0, 50, 0),
  .inr (0, 50, 0),
  .inr (0, 1200, 0),
  .inr (0, 100, 0),
  .inr (0, 7, 0),
  .inr (0, 7, 0),
  .inr (1, 2, 0),
  .inr (0, 100, 0),
  .inr (0, 16, 0)]
def zfl (mem : ZMem) (q : Nat) : Int → List (Option Nat) → List ZV
  | _, [] => []
  | i, none :: l => zi (mem q i) :: zfl mem q (i + 1) l
  | i, some r :: l => zr r :: zfl mem q (i + 1) l
def hpe (mem : ZMem) (q : Nat) : ZSh → ZC
  | .inl (ci, sl) => .inl (ci, zfl mem q 0 sl)
  | .inr (2, n, b) => .inr (2, n, fun j => b + j)
  | .inr (k, n, _) => .inr (k, n, mem q)
def hpl (mem : ZMem) : Nat → List ZSh → List ZC
  | _, [] => []
  | q, s :: l => hpe mem q s :: hpl mem (q + 1) l
def hp (mem : ZMem) : List ZC := hpl mem 0 shl
theorem hpl_get (mem : ZMem) : ∀ (l : List ZSh) (b q : Nat), (hpl mem b l)[q]? = (l[q]?).map (hpe mem (b + q))
  | [], b, q => by simp [hpl]
  | s :: l, b, 0 => by simp [hpl]
  | s :: l, b, q + 1 => by
    rw [hpl, List.getElem?_cons_succ, List.getElem?_cons_succ, hpl_get mem l (b + 1) q, show b + 1 + q = b + (q + 1) by omega]
theorem hp_get (mem : ZMem) (q : Nat) : (hp mem)[q]? = (shl[q]?).map (hpe mem q) := by
  rw [hp, hpl_get, Nat.zero_add]
theorem hp_at {mem : ZMem} {q : Nat} {s : ZSh} (h : shl[q]? = some s) : (hp mem)[q]? = some (hpe mem q s) := by rw [hp_get, h]; rfl
theorem hpl_len (mem : ZMem) : ∀ (l : List ZSh) (b : Nat), (hpl mem b l).length = l.length
  | [], _ => rfl
  | s :: l, b => by rw [hpl, List.length_cons, List.length_cons, hpl_len mem l (b + 1)]
theorem hp_len (mem : ZMem) : (hp mem).length = 93 := by rw [hp, hpl_len]; rfl
theorem zfl_get (mem : ZMem) (q : Nat) : ∀ (l : List (Option Nat)) (i : Int) (k : Nat), (zfl mem q i l)[k]? = (l[k]?).map (fun o => match o with | none => zi (mem q (i + k)) | some r => zr r)
  | [], i, k => by simp [zfl]
  | none :: l, i, 0 => by simp [zfl]
  | some r :: l, i, 0 => by simp [zfl]
  | none :: l, i, k + 1 => by
    rw [zfl, List.getElem?_cons_succ, List.getElem?_cons_succ, zfl_get mem q l (i + 1) k, show i + 1 + (k : Int) = i + ((k + 1 : Nat) : Int) by omega]
  | some r :: l, i, k + 1 => by
    rw [zfl, List.getElem?_cons_succ, List.getElem?_cons_succ, zfl_get mem q l (i + 1) k, show i + 1 + (k : Int) = i + ((k + 1 : Nat) : Int) by omega]
theorem zfl_len (mem : ZMem) (q : Nat) : ∀ (l : List (Option Nat)) (i : Int), (zfl mem q i l).length = l.length
  | [], _ => rfl
  | none :: l, i => by rw [zfl, List.length_cons, List.length_cons, zfl_len mem q l]
  | some r :: l, i => by rw [zfl, List.length_cons, List.length_cons, zfl_len mem q l]
/-- a row's numbers become f -/
def mrow (mem : ZMem) (q : Nat) (f : Int → Int) : ZMem := fun q' => if q' = q then f else mem q'
def mset (mem : ZMem) (q : Nat) (a v : Int) : ZMem := mrow mem q (zup (mem q) a v)
theorem mrow_s (mem : ZMem) (q : Nat) (f : Int → Int) : mrow mem q f q = f := if_pos rfl
theorem mrow_n {mem : ZMem} {q q' : Nat} {f : Int → Int} (h : q' ≠ q) : mrow mem q f q' = mem q' := if_neg h
theorem mset_q (mem : ZMem) (q : Nat) (a v : Int) : mset mem q a v q = zup (mem q) a v := if_pos rfl
theorem mset_s (mem : ZMem) (q : Nat) (a v : Int) : mset mem q a v q a = v := by rw [mset_q, zup_s]
theorem mset_i {mem : ZMem} {q : Nat} {a v j : Int} (h : j ≠ a) : mset mem q a v q j = mem q j := by rw [mset_q, zup_n h]
theorem mset_n {mem : ZMem} {q q' : Nat} {a v : Int} (h : q' ≠ q) : mset mem q a v q' = mem q' := if_neg h
theorem hpe_ext {mem mem' : ZMem} {q : Nat} (s : ZSh) (h : mem' q = mem q) : hpe mem' q s = hpe mem q s := by
  have hz : ∀ (l : List (Option Nat)) (i : Int), zfl mem' q i l = zfl mem q i l := by
    intro l
    induction l with
    | nil => intro i; rfl
    | cons o l ih =>
      intro i
      cases o with
      | none => rw [zfl, zfl, ih, h]
      | some r => rw [zfl, zfl, ih]
  rcases s with ⟨ci, sl⟩ | ⟨k, n, b⟩
  · show Sum.inl (ci, zfl mem' q 0 sl) = Sum.inl (ci, zfl mem q 0 sl)
    rw [hz]
  · match k with
    | 0 => show Sum.inr (0, n, mem' q) = Sum.inr (0, n, mem q); rw [h]
    | 1 => show Sum.inr (1, n, mem' q) = Sum.inr (1, n, mem q); rw [h]
    | 2 => rfl
    | (k + 3) => show Sum.inr (k + 3, n, mem' q) = Sum.inr (k + 3, n, mem q); rw [h]
theorem hp_set {mem : ZMem} {q : Nat} {s : ZSh} {c : ZC} {f : Int → Int} (hs : shl[q]? = some s) (hc : c = hpe (mrow mem q f) q s) : (hp mem).set q c = hp (mrow mem q f) := by
  apply List.ext_getElem?
  intro i
  rw [hp_get]
  by_cases hi : i = q
  · subst hi
    have hlt : i < (hp mem).length := by
      rw [hp, hpl_len]
      exact (List.getElem?_eq_some_iff.mp hs).1
    rw [List.getElem?_set_self hlt, hs, hc]
    rfl
  · rw [List.getElem?_set_ne (Ne.symm hi), hp_get]
    cases hsi : shl[i]? with
    | none => rfl
    | some s' =>
      show some _ = some _
      rw [hpe_ext s' (mrow_n hi)]
theorem zfl_set {mem : ZMem} {q : Nat} {v : Int} : ∀ (l : List (Option Nat)) (i : Int) (k : Nat), l[k]? = some none → (zfl mem q i l).set k (zi v) = zfl (mrow mem q (zup (mem q) (i + k) v)) q i l
  | [], i, k, h => by simp at h
  | o :: l, i, 0, h => by
    cases h
    have hz : ∀ (l : List (Option Nat)) (j : Int), i < j → zfl (mrow mem q (zup (mem q) (i + (0 : Nat)) v)) q j l = zfl mem q j l := by
      intro l
      induction l with
      | nil => intro j _; rfl
      | cons o l ih =>
        intro j hj
        cases o with
        | none => rw [zfl, zfl, ih _ (by omega), mrow_s, zup_n (by omega)]
        | some r => rw [zfl, zfl, ih _ (by omega)]
    rw [zfl, List.set_cons_zero, zfl, hz l (i + 1) (by omega), mrow_s, show i + ((0 : Nat) : Int) = i by omega, zup_s]
  | o :: l, i, k + 1, h => by
    have ih := zfl_set (mem := mem) (q := q) (v := v) l (i + 1) k (by simpa using h)
    rw [show i + 1 + (k : Int) = i + ((k + 1 : Nat) : Int) by omega] at ih
    cases o with
    | none => rw [zfl, List.set_cons_succ, ih, zfl, mrow_s, zup_n (by omega)]
    | some r => rw [zfl, List.set_cons_succ, ih, zfl]
