/-! THE ABSTRACT MACHINE'S FACE. Values are mathematical integers (an int a stands for Int32.ofInt a), references are places (0 .. 999 our own cells in the order of their making, 1000 .. the constants) -/
abbrev ZV : Type := Int ⊕ (Int ⊕ (Option Nat ⊕ Unit))
def zi (a : Int) : ZV := .inl a
def zl (a : Int) : ZV := .inr (.inl a)
def zr (k : Nat) : ZV := .inr (.inr (.inl (some k)))
def zn : ZV := .inr (.inr (.inl none))
def zu : ZV := .inr (.inr (.inr ()))
/-- the base address, class ids, slots, array classes (0 int, 1 boolean, 2 int[]), addresses of the constants -/
abbrev ZE : Type := Nat × (Nat → ClassId) × (Nat → Nat → Nat) × (Nat → ClassId) × (Nat → Nat)
def zad (E : ZE) (k : Nat) : Nat := if k < 1000 then E.1 + k else E.2.2.2.2 (k - 1000)
def cv (E : ZE) : ZV → Value
  | .inl a => .int (Int32.ofInt a)
  | .inr (.inl a) => .long (Int64.ofInt a)
  | .inr (.inr (.inl (some k))) => .ref (zad E k)
  | .inr (.inr (.inl none)) => .null
  | .inr (.inr (.inr _)) => .null
theorem cv_i (E : ZE) (a : Int) : cv E (zi a) = .int (Int32.ofInt a) := rfl
theorem cv_l (E : ZE) (a : Int) : cv E (zl a) = .long (Int64.ofInt a) := rfl
theorem cv_r (E : ZE) (k : Nat) : cv E (zr k) = .ref (zad E k) := rfl
theorem cv_n (E : ZE) : cv E zn = .null := rfl
def zcat : ZV → Nat
  | .inr (.inl _) => 2
  | _ => 1
theorem cv_cat (E : ZE) (v : ZV) : (cv E v).category = zcat v := by
  rcases v with a | a | (_ | k) | u <;> rfl
theorem zu_ne_i {a : Int} : zi a ≠ zu := fun h => by cases h
theorem zu_ne_l {a : Int} : zl a ≠ zu := fun h => by cases h
theorem zu_ne_r {k : Nat} : zr k ≠ zu := fun h => by cases h
/-! cells -/
abbrev ZC : Type := (Nat × List ZV) ⊕ (Nat × Nat × (Int → Int))
def ce (E : ZE) : ZC → va_E
  | .inl (ci, fs) => .inr (ci, fs.map (cv E))
  | .inr (0, n, f) => .inl (E.2.2.2.1 0, n, .inl (fun j => Int32.ofInt (f (j : Int))))
  | .inr (1, n, f) => .inl (E.2.2.2.1 1, n, .inl (fun j => Int32.ofInt (f (j : Int))))
  | .inr (_, n, f) => .inl (E.2.2.2.1 2, n, .inr (.inr (.inr (.inr (fun j => some (zad E (f (j : Int)).toNat))))))
def zwa (E : ZE) : Nat → List ZC → va_W
  | _, [] => []
  | k, c :: l => (E.1 + k, ce E c) :: zwa E (k + 1) l
def zw (E : ZE) (h : List ZC) : va_W := zwa E 0 h
theorem zwa_get (E : ZE) : ∀ (h : List ZC) (b k : Nat), (zwa E b h)[k]? = (h[k]?).map (fun c => (E.1 + (b + k), ce E c))
  | [], b, k => by simp [zwa]
  | c :: l, b, 0 => by simp [zwa]
  | c :: l, b, k + 1 => by
    rw [zwa, List.getElem?_cons_succ, List.getElem?_cons_succ, zwa_get E l (b + 1) k]
    congr 1
    funext x
    rw [show b + 1 + k = b + (k + 1) by omega]
theorem zw_get (E : ZE) (h : List ZC) (k : Nat) : (zw E h)[k]? = (h[k]?).map (fun c => (E.1 + k, ce E c)) := by
  rw [zw, zwa_get, Nat.zero_add]
theorem zw_at {E : ZE} {h : List ZC} {k : Nat} {c : ZC} (hk : h[k]? = some c) : (zw E h)[k]? = some (E.1 + k, ce E c) := by
  rw [zw_get, hk]; rfl
theorem zwa_set (E : ZE) : ∀ (h : List ZC) (b k : Nat) (c : ZC), zwa E b (h.set k c) = (zwa E b h).set k (E.1 + (b + k), ce E c)
  | [], b, k, c => by simp [zwa]
  | x :: l, b, 0, c => by simp [zwa]
  | x :: l, b, k + 1, c => by
    rw [List.set_cons_succ, zwa, zwa, List.set_cons_succ, zwa_set E l (b + 1) k c, show b + 1 + k = b + (k + 1) by omega]
theorem zw_set (E : ZE) (h : List ZC) (k : Nat) (c : ZC) : zw E (h.set k c) = (zw E h).set k (E.1 + k, ce E c) := by
  rw [zw, zw, zwa_set, Nat.zero_add]
theorem zwa_app (E : ZE) : ∀ (h g : List ZC) (b : Nat), zwa E b (h ++ g) = zwa E b h ++ zwa E (b + h.length) g
  | [], g, b => by simp [zwa]
  | x :: l, g, b => by
    rw [List.cons_append, zwa, zwa, List.cons_append, zwa_app E l g (b + 1), List.length_cons, show b + 1 + l.length = b + (l.length + 1) by omega]
theorem zw_app1 (E : ZE) (h : List ZC) (c : ZC) : zw E (h ++ [c]) = zw E h ++ [(E.1 + h.length, ce E c)] := by
  rw [zw, zw, zwa_app, Nat.zero_add]; rfl
def zA (E : ZE) : Nat → Prop := fun q => E.1 ≤ q
theorem zw_D (E : ZE) (h : List ZC) : va_D (zA E) (zw E h) := by
  have key : ∀ (k : Nat) (q : Nat × va_E), (zw E h)[k]? = some q → q.1 = E.1 + k := by
    intro k q hk
    rw [zw_get] at hk
    cases hc : h[k]? with
    | none => rw [hc] at hk; cases hk
    | some c => rw [hc] at hk; cases hk; rfl
  refine ⟨fun i j p q hi hj e => ?_, fun k q hk => ?_⟩
  · have h1 := key i p hi
    have h2 := key j q hj
    omega
  · have h1 := key k q hk
    show E.1 ≤ q.1
    omega
theorem zw_size {E : ZE} {h : List ZC} {D : va_G} {cl : List vw_C} {H : Heap} (hP : va_P D cl (zw E h) H) (hb : E.1 ≤ H.size) : E.1 + h.length ≤ H.size := by
  by_cases h0 : h.length = 0
  · omega
  · have hlt : h.length - 1 < h.length := by omega
    have h1 : h[h.length - 1]? = some h[h.length - 1] := List.getElem?_eq_getElem hlt
    have h2 := (hP _ _ (zw_at (E := E) h1)).lt
    have h3 : E.1 + (h.length - 1) < H.size := h2
    omega
theorem zad_lt {E : ZE} {k : Nat} (h : k < 1000) : zad E k = E.1 + k := if_pos h
/-! the classes -/
def zcl : List vw_C := [(RX0, TX0, 3), (RX1, TX1, 2), (RX2, TX2, 13), (RX0, TX0, 3), (RX4, TX4, 4), (RX5, TX5, 5), (RX6, TX6, 11), (RX7, TX7, 25)]
def zty (ci : Nat) : Nat → FieldType := match ci with
  | 0 => tyX0
  | 1 => tyX1
  | 2 => tyX2
  | 4 => tyX4
  | 5 => tyX5
  | 6 => tyX6
  | 7 => tyX7
  | _ => tyX0
/-- the words that travel -/
def ztb : List Cond := lw_tbl.filter goodWord
theorem zt {w : Cond} (h : w ∈ lw_tbl) (hg : goodWord w = true) : w ∈ ztb := List.mem_filter.mpr ⟨h, hg⟩
theorem ztb_good {ws : List Cond} (h : ∀ w ∈ ws, w ∈ ztb) : GoodIn ztb ws := fun w hw => ⟨h w hw, good_of_word (List.mem_filter.mp (h w hw)).2⟩
theorem u_ws_good (C : String) (T : u_T) (N : Nat) : ∀ w ∈ u_ws C T N, goodWord w = true := by
  intro w hw
  obtain ⟨k, -, rfl⟩ := List.mem_map.mp hw
  unfold u_lay
  split <;> rfl
theorem zcl_in : ∀ (ci : Nat) (r : vw_C), zcl[ci]? = some r → ∀ w ∈ u_ws r.1 r.2.1 r.2.2, w ∈ ztb := by
  intro ci r hr
  have key : ∀ r ∈ zcl, ∀ w ∈ u_ws r.1 r.2.1 r.2.2, w ∈ ztb := by
    intro r hr w hw
    have hg := u_ws_good _ _ _ w hw
    simp only [zcl, List.mem_cons, List.not_mem_nil, or_false] at hr
    rcases hr with rfl | rfl | rfl | rfl | rfl | rfl | rfl | rfl
    · exact zt (inX0 w hw) hg
    · exact zt (inX1 w hw) hg
    · exact zt (inX2 w hw) hg
    · exact zt (inX0 w hw) hg
    · exact zt (inX4 w hw) hg
    · exact zt (inX5 w hw) hg
    · exact zt (inX6 w hw) hg
    · exact zt (inX7 w hw) hg
  exact key r (List.mem_of_getElem? hr)
theorem zcl_ty : ∀ (ci : Nat) (r : vw_C), zcl[ci]? = some r → ∀ k, k < r.2.2 → parseFieldDescriptor (r.2.1 k).2.2.1 = some (zty ci k) := by
  intro ci r hr
  match ci, hr with
  | 0, hr => cases hr; exact tyX0_ok
  | 1, hr => cases hr; exact tyX1_ok
  | 2, hr => cases hr; exact tyX2_ok
  | 3, hr => cases hr; exact tyX0_ok
  | 4, hr => cases hr; exact tyX4_ok
  | 5, hr => cases hr; exact tyX5_ok
  | 6, hr => cases hr; exact tyX6_ok
  | 7, hr => cases hr; exact tyX7_ok
  | (n + 8), hr => simp [zcl] at hr
theorem zcl_nm : ∀ (ci : Nat) (r : vw_C), zcl[ci]? = some r → ∀ a, a < r.2.2 → ∀ b, b < r.2.2 → a ≠ b → (r.2.1 a).2.1 ≠ (r.2.1 b).2.1 := by
  intro ci r hr
  match ci, hr with
  | 0, hr => cases hr; exact nmX0
  | 1, hr => cases hr; exact nmX1
  | 2, hr => cases hr; exact nmX2
  | 3, hr => cases hr; exact nmX0
  | 4, hr => cases hr; exact nmX4
  | 5, hr => cases hr; exact nmX5
  | 6, hr => cases hr; exact nmX6
  | 7, hr => cases hr; exact nmX7
  | (n + 8), hr => simp [zcl] at hr
