/-! what the tables say of int[][] -/
def zAO (U : State) : Prop := (Cond.arrayOver (.array .int)).before #[] U = true
theorem zAO.moved {u U : State} (hvm : u.vm.Alike U.vm) (h : zAO u) : zAO U := by
  unfold zAO Cond.before at h ⊢
  simp only [Cond.holds, Cond.value, beq_iff_eq] at h ⊢
  rw [hvm.findClass]
  cases hc : u.vm.findClass (FieldType.array .int).toString with
  | none => simp [hc] at h
  | some comp =>
    simp only [hc, Option.bind_some, Option.bind_eq_some_iff, Option.map_eq_some_iff] at h ⊢
    obtain ⟨c, hi, k, hk, hb⟩ := h
    obtain ⟨k', hk', he⟩ := hvm.2.2 _ _ hk
    refine ⟨c, ?_, k', hk', ?_⟩
    · have e1 := va_idx_bare U.vm comp
      have e2 := va_idx_bare u.vm comp
      have e3 : U.vm.bare = u.vm.bare := by first | exact hvm.bare_eq | exact hvm.bare_eq.symm
      rw [e3] at e1
      exact (e1.symm.trans e2).trans hi
    · rw [he, hvm.findClass]
      exact hb
/-- nest mates -/
def znest : List Cond := [.methodLinkNest RX6 9 yX4_init RX6, .methodLinkNest RX6 18 yX5_init RX6, .methodLinkNest RX6 25 yX2_init RX6, .methodLinkNest RX6 32 yX0_init RX6, .methodLinkNest RX6 51 yX1_init RX6, .methodLinkNest RX5 77 yX6_outside RX6, .methodLinkNest RX2 110 yX6_outside RX6, .methodLinkNest RX3 9 yX6_outside RX6]
/-- the constant arrays, by their places -/
def zK (k : Nat) : Option (FieldType × Nat × (Int → Int)) := match k with
  | 1000 => some (.int, 6, fun j => if j = 2 then 1 else if j = 3 then 1 else if j = 5 then 4 else 0)
  | 1001 => some (.int, 6, fun j => if j = 0 then 10 else if j = 1 then 11 else if j = 2 then 12 else if j = 4 then 13 else if j = 5 then 14 else 0)
  | 1002 => some (.int, 6, fun j => if j = 0 then 20 else if j = 1 then 21 else if j = 2 then 24 else if j = 3 then 22 else if j = 4 then 23 else 0)
  | 1004 => some (.byte, 5, fun j => if j = 0 then 115 else if j = 1 then 110 else if j = 2 then 97 else if j = 3 then 98 else if j = 4 then 100 else 0)
  | _ => none
def zD (E : ZE) : va_G := (E.2.1, E.2.2.1)
def ztys (E : ZE) : List (ClassId × FieldType) := [(E.2.2.2.1 0, .int), (E.2.2.2.1 1, .boolean), (E.2.2.2.1 2, .array .int)]
/-- static fields that hold constants -/
def zst : List (String × String × String × ZV) := [(RX3, "NEAREST", "[I", zr 1000), (RX1, "SIZE_BODIES", "[I", zr 1001), (RX1, "MARK_BODIES", "[I", zr 1002), (RJ0, "COMPACT_STRINGS", "Z", zi 1)]
/-- the fields of the constant text -/
def ztx : List (String × String × ZV) := [("coder", "B", zi 0), ("value", "[B", zr 1004)]
def zEnv (E : ZE) (U : State) : Prop :=
  va_K (zD E) zcl (ztys E) U ∧ (∀ w ∈ znest, va_Nw w U) ∧ zAO U ∧
  (∀ q ∈ zst, va_Z q.1 q.2.1 q.2.2.1 (cv E q.2.2.2) (zA E) U U.heap) ∧
  (∀ k ty n f, zK k = some (ty, n, f) → va_T ty (zad E k) n (fun j => .int (Int32.ofInt (f (j : Int)))) (zA E) U U.heap) ∧
  vk_R RX5 54 "snabd" (zad E 1003) U ∧ va_O "java/lang/String" (zad E 1003) (zA E) U U.heap ∧
  ∀ q ∈ ztx, va_OF "java/lang/String" q.1 q.2.1 (cv E q.2.2) (zad E 1003) (zA E) U U.heap
theorem znest_warm {s U : State} (hW : s.WarmedH U.vm) : (∀ w ∈ znest, va_Nw w s) → ∀ w ∈ znest, va_Nw w U := by
  intro h w hw
  have h0 := h w hw
  simp only [znest, List.mem_cons, List.not_mem_nil, or_false] at hw
  rcases hw with rfl | rfl | rfl | rfl | rfl | rfl | rfl | rfl <;> exact va_Nw.warmM hW h0
theorem znest_same {u U : State} (hv : u.vm = U.vm) : (∀ w ∈ znest, va_Nw w u) → ∀ w ∈ znest, va_Nw w U := by
  intro h w hw
  have h0 := h w hw
  simp only [znest, List.mem_cons, List.not_mem_nil, or_false] at hw
  rcases hw with rfl | rfl | rfl | rfl | rfl | rfl | rfl | rfl <;> exact va_Nw.same rfl hv h0
theorem zEnv.warm {E : ZE} {s U : State} (hW : s.WarmedH U.vm) (hk : ∀ q : Nat, q < s.heap.size → ¬ zA E q → U.heap[q]? = s.heap[q]?) (h : zEnv E s) : zEnv E U := by
  obtain ⟨h1, h2, h3, h4, h5, h6, h7, h8⟩ := h
  exact ⟨va_K.moved hW.alike h1, znest_warm hW h2, h3.moved hW.alike, fun q hq => ((h4 q hq).moved hW.alike).kept hk, fun k ty n f hf => ((h5 k ty n f hf).moved hW.alike).kept hk, h6.warm hW, (h7.moved hW.alike).kept hk, fun q hq => ((h8 q hq).moved hW.alike).kept hk⟩
theorem zEnv.same {E : ZE} {u U : State} (hv : u.vm = U.vm) (hh : U.heap = u.heap) (h : zEnv E u) : zEnv E U := by
  obtain ⟨h1, h2, h3, h4, h5, h6, h7, h8⟩ := h
  have ha : u.vm.Alike U.vm := by rw [hv]; exact Vm.Alike.refl _
  have hk : ∀ q : Nat, q < u.heap.size → ¬ zA E q → U.heap[q]? = u.heap[q]? := fun q _ _ => by rw [hh]
  exact ⟨va_K.moved ha h1, znest_same hv h2, h3.moved ha, fun q hq => ((h4 q hq).moved ha).kept hk, fun k ty n f hf => ((h5 k ty n f hf).moved ha).kept hk, vk_R.same hv.symm h6, (h7.moved ha).kept hk, fun q hq => ((h8 q hq).moved ha).kept hk⟩
/-! locals -/
def zlv (E : ZE) : Nat → List ZV → List (Nat × Value)
  | _, [] => []
  | i, .inr (.inr (.inr _)) :: l => zlv E (i + 1) l
  | i, .inl a :: l => (i, cv E (.inl a)) :: zlv E (i + 1) l
  | i, .inr (.inl a) :: l => (i, cv E (.inr (.inl a))) :: zlv E (i + 1) l
  | i, .inr (.inr (.inl a)) :: l => (i, cv E (.inr (.inr (.inl a)))) :: zlv E (i + 1) l
theorem zlv_cons (E : ZE) (i : Nat) (v : ZV) (l : List ZV) : zlv E i (v :: l) = if v = zu then zlv E (i + 1) l else (i, cv E v) :: zlv E (i + 1) l := by
  rcases v with a | a | a | u
  · rw [if_neg (fun h => by cases h)]; rfl
  · rw [if_neg (fun h => by cases h)]; rfl
  · rw [if_neg (fun h => by cases h)]; rfl
  · rw [if_pos (by cases u; rfl)]; rfl
theorem zlv_mem (E : ZE) : ∀ (l : List ZV) (i : Nat) (q : Nat × Value), q ∈ zlv E i l ↔ ∃ (j : Nat) (v : ZV), q.1 = i + j ∧ l[j]? = some v ∧ v ≠ zu ∧ q.2 = cv E v
  | [], i, q => by
    constructor
    · intro h; cases h
    · rintro ⟨j, v, -, h, -⟩; simp at h
  | v :: l, i, q => by
    rw [zlv_cons]
    by_cases hv : v = zu
    · rw [if_pos hv, zlv_mem E l (i + 1) q]
      constructor
      · rintro ⟨j, w, h1, h2, h3, h4⟩
        exact ⟨j + 1, w, by omega, by simpa using h2, h3, h4⟩
      · rintro ⟨j, w, h1, h2, h3, h4⟩
        cases j with
        | zero =>
          simp at h2
          exact absurd (h2.symm.trans hv) h3
        | succ j => exact ⟨j, w, by omega, by simpa using h2, h3, h4⟩
    · rw [if_neg hv, List.mem_cons, zlv_mem E l (i + 1) q]
      constructor
      · rintro (rfl | ⟨j, w, h1, h2, h3, h4⟩)
        · exact ⟨0, v, rfl, rfl, hv, rfl⟩
        · exact ⟨j + 1, w, by omega, by simpa using h2, h3, h4⟩
      · rintro ⟨j, w, h1, h2, h3, h4⟩
        cases j with
        | zero =>
          simp at h2
          subst h2
          exact Or.inl (Prod.ext h1 h4)
        | succ j => exact Or.inr ⟨j, w, by omega, by simpa using h2, h3, h4⟩
def zL (E : ZE) (zs : List ZV) (nL : Nat) (ls : Array Slot) : Prop := lv_has ls nL (zlv E 0 zs)
theorem zL.at {E : ZE} {zs : List ZV} {nL : Nat} {ls : Array Slot} (h : zL E zs nL ls) {i : Nat} {v : ZV} (hi : zs[i]? = some v) (hv : v ≠ zu) : ls[i]? = some (.val (cv E v)) :=
  h.2.2 (i, cv E v) ((zlv_mem E zs 0 _).mpr ⟨i, v, by simp, hi, hv, rfl⟩)
def zlong : ZV → Bool
  | .inr (.inl _) => true
  | _ => false
theorem zlong_cat {E : ZE} {v : ZV} (h : zlong v = false) : ¬ (cv E v).category = 2 := by
  rcases v with a | a | (_ | k) | u
  · exact fun q => by cases q
  · cases h
  · exact fun q => by cases q
  · exact fun q => by cases q
  · exact fun q => by cases q
theorem zL.store1 {E : ZE} {zs : List ZV} {nL : Nat} {ls' : Array Slot} {i : Nat} {v : ZV} (hp : ∀ w, i ≠ 0 → zs[i - 1]? = some w → zlong w = false) (h : lv_has ls' nL ((i, cv E v) :: (zlv E 0 zs).filter (fun q => !(q.1 == i) && !(q.1 + 1 == i && q.2.category == 2)))) : zL E (zs.set i v) nL ls' := by
  refine ⟨h.1, h.2.1, fun q hq => h.2.2 q ?_⟩
  obtain ⟨j, w, h1, h2, h3, h4⟩ := (zlv_mem E _ 0 q).mp hq
  rw [Nat.zero_add] at h1
  by_cases hj : j = i
  · subst hj
    rw [List.getElem?_set] at h2
    simp at h2
    obtain ⟨-, rfl⟩ := h2
    exact List.mem_cons.mpr (Or.inl (Prod.ext h1 h4))
  · rw [List.getElem?_set_ne (Ne.symm hj)] at h2
    refine List.mem_cons.mpr (Or.inr (List.mem_filter.mpr ⟨(zlv_mem E zs 0 q).mpr ⟨j, w, by omega, h2, h3, h4⟩, ?_⟩))
    have hc : ¬ (j + 1 = i ∧ (cv E w).category = 2) := by
      rintro ⟨a, b⟩
      have := hp w (by omega) (by rw [show i - 1 = j by omega]; exact h2)
      exact zlong_cat this b
    rw [h1, h4]
    simp only [Bool.and_eq_true, Bool.not_eq_true', beq_eq_false_iff_ne, ne_eq, Bool.and_eq_false_iff]
    refine ⟨hj, ?_⟩
    by_cases a : j + 1 = i
    · exact Or.inr (fun b => hc ⟨a, b⟩)
    · exact Or.inl a
theorem zL.store2 {E : ZE} {zs : List ZV} {nL : Nat} {ls' : Array Slot} {i : Nat} {v : ZV} (hp : ∀ w, i ≠ 0 → zs[i - 1]? = some w → zlong w = false) (h : lv_has ls' nL ((i, cv E v) :: (zlv E 0 zs).filter (fun q => !(q.1 == i) && (!(q.1 == i + 1) && !(q.1 + 1 == i && q.2.category == 2))))) : zL E ((zs.set i v).set (i + 1) zu) nL ls' := by
  refine ⟨h.1, h.2.1, fun q hq => h.2.2 q ?_⟩
  obtain ⟨j, w, h1, h2, h3, h4⟩ := (zlv_mem E _ 0 q).mp hq
  rw [Nat.zero_add] at h1
  have hj1 : j ≠ i + 1 := by
    intro e
    subst e
    rw [List.getElem?_set] at h2
    simp at h2
    exact h3 h2.2.symm
  rw [List.getElem?_set_ne (Ne.symm hj1)] at h2
  by_cases hj : j = i
  · subst hj
    rw [List.getElem?_set] at h2
    simp at h2
    obtain ⟨-, rfl⟩ := h2
    exact List.mem_cons.mpr (Or.inl (Prod.ext h1 h4))
  · rw [List.getElem?_set_ne (Ne.symm hj)] at h2
    refine List.mem_cons.mpr (Or.inr (List.mem_filter.mpr ⟨(zlv_mem E zs 0 q).mpr ⟨j, w, by omega, h2, h3, h4⟩, ?_⟩))
    have hc : ¬ (j + 1 = i ∧ (cv E w).category = 2) := by
      rintro ⟨a, b⟩
      have := hp w (by omega) (by rw [show i - 1 = j by omega]; exact h2)
      exact zlong_cat this b
    rw [h1, h4]
    simp only [Bool.and_eq_true, Bool.not_eq_true', beq_eq_false_iff_ne, ne_eq, Bool.and_eq_false_iff]
    refine ⟨hj, hj1, ?_⟩
    by_cases a : j + 1 = i
    · exact Or.inr (fun b => hc ⟨a, b⟩)
    · exact Or.inl a
/-- fewer known locals -/
theorem zL.weak {E : ZE} {zs zs' : List ZV} {nL : Nat} {ls : Array Slot} (h : zL E zs nL ls) (hw : ∀ (i : Nat) (v : ZV), zs'[i]? = some v → v = zu ∨ zs[i]? = some v) : zL E zs' nL ls := by
  refine ⟨h.1, h.2.1, fun q hq => h.2.2 q ?_⟩
  obtain ⟨j, w, h1, h2, h3, h4⟩ := (zlv_mem E _ 0 q).mp hq
  rcases hw j w h2 with e | e
  · exact absurd e h3
  · exact (zlv_mem E zs 0 q).mpr ⟨j, w, h1, e, h3, h4⟩
/-- a method's first locals -/
def zent : List ZV → List ZV
  | [] => []
  | .inr (.inl a) :: l => .inr (.inl a) :: zu :: zent l
  | v :: l => v :: zent l
theorem zent_args (E : ZE) : ∀ (l : List ZV) (i : Nat), (∀ v ∈ l, v ≠ zu) → zlv E i (zent l) = lv_args i (l.map (cv E))
  | [], i, _ => rfl
  | v :: l, i, h => by
    have h0 : v ≠ zu := h v List.mem_cons_self
    have h1 : ∀ w ∈ l, w ≠ zu := fun w hw => h w (List.mem_cons_of_mem _ hw)
    rcases v with a | a | a | u
    · show zlv E i (.inl a :: zent l) = _
      rw [zlv_cons, if_neg (fun q => by cases q), List.map_cons, lv_args, zent_args E l (i + 1) h1]
      rfl
    · show zlv E i (.inr (.inl a) :: zu :: zent l) = _
      rw [zlv_cons, if_neg (fun q => by cases q), zlv_cons, if_pos rfl, List.map_cons, lv_args, zent_args E l (i + 1 + 1) h1]
      rfl
    · show zlv E i (.inr (.inr (.inl a)) :: zent l) = _
      rw [zlv_cons, if_neg (fun q => by cases q), List.map_cons, lv_args, zent_args E l (i + 1) h1]
      rcases a with _ | a <;> rfl
    · exact absurd (by cases u; rfl) h0
theorem zent_pad (E : ZE) (n : Nat) : ∀ (l : List ZV) (i : Nat), zlv E i (l ++ List.replicate n zu) = zlv E i l
  | [], i => by
    induction n generalizing i with
    | zero => rfl
    | succ n ih =>
      show zlv E i (zu :: List.replicate n zu) = _
      rw [zlv_cons, if_pos rfl]
      exact ih (i + 1)
  | v :: l, i => by
    rw [List.cons_append, zlv_cons, zlv_cons, zent_pad E n l (i + 1)]
