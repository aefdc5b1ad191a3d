/-! LISTS OF NUMBERS, by whole numbers -/
def lget (L : List Int) (p : Int) : Int := L.getD p.toNat 0
def ins (L : List Int) (p m : Int) : List Int := L.take p.toNat ++ m :: L.drop p.toNat
def era (L : List Int) (p : Int) : List Int := L.take p.toNat ++ L.drop (p.toNat + 1)
theorem lget_nat (L : List Int) (k : Nat) : lget L (k : Int) = L.getD k 0 := rfl
theorem lget_app_l {A B : List Int} {p : Int} (h0 : 0 ≤ p) (h : p < A.length) : lget (A ++ B) p = lget A p := by
  unfold lget
  rw [List.getD_eq_getElem?_getD, List.getD_eq_getElem?_getD, List.getElem?_append_left (by omega)]
theorem lget_app_r {A B : List Int} {p : Int} (h : (A.length : Int) ≤ p) : lget (A ++ B) p = lget B (p - A.length) := by
  unfold lget
  rw [List.getD_eq_getElem?_getD, List.getD_eq_getElem?_getD, List.getElem?_append_right (by omega)]
  congr 2
  omega
theorem lget_c0 (a : Int) (l : List Int) : lget (a :: l) 0 = a := rfl
theorem lget_cs {a p : Int} {l : List Int} (h : 0 < p) : lget (a :: l) p = lget l (p - 1) := by
  unfold lget
  rw [show p.toNat = (p - 1).toNat + 1 by omega]
  rfl
theorem lget_take {L : List Int} {n p : Int} (h0 : 0 ≤ p) (h : p < n) : lget (L.take n.toNat) p = lget L p := by
  unfold lget
  rw [List.getD_eq_getElem?_getD, List.getD_eq_getElem?_getD, List.getElem?_take_of_lt (by omega)]
theorem lget_drop {L : List Int} {n : Nat} {p : Int} (h0 : 0 ≤ p) : lget (L.drop n) p = lget L (n + p) := by
  unfold lget
  rw [List.getD_eq_getElem?_getD, List.getD_eq_getElem?_getD, List.getElem?_drop]
  congr 2
  omega
theorem ins_len {L : List Int} {p m : Int} (h0 : 0 ≤ p) (h : p ≤ L.length) : ((ins L p m).length : Int) = L.length + 1 := by
  unfold ins
  rw [List.length_append, List.length_cons, List.length_take, List.length_drop]
  omega
theorem era_len {L : List Int} {p : Int} (h0 : 0 ≤ p) (h : p < L.length) : ((era L p).length : Int) = L.length - 1 := by
  unfold era
  rw [List.length_append, List.length_take, List.length_drop]
  omega
theorem take_len {L : List Int} {p : Int} (h0 : 0 ≤ p) (h : p ≤ L.length) : ((L.take p.toNat).length : Int) = p := by
  rw [List.length_take]; omega
theorem lget_ins_l {L : List Int} {p m x : Int} (h0 : 0 ≤ x) (hp : p ≤ L.length) (h : x < p) : lget (ins L p m) x = lget L x := by
  unfold ins
  rw [lget_app_l h0 (by rw [take_len (by omega) hp]; exact h), lget_take h0 h]
theorem lget_ins_e {L : List Int} {p m : Int} (h0 : 0 ≤ p) (hp : p ≤ L.length) : lget (ins L p m) p = m := by
  unfold ins
  rw [lget_app_r (by rw [take_len h0 hp]; omega), take_len h0 hp, show p - p = 0 by omega, lget_c0]
theorem lget_ins_r {L : List Int} {p m x : Int} (h0 : 0 ≤ p) (hp : p ≤ L.length) (h : p < x) : lget (ins L p m) x = lget L (x - 1) := by
  unfold ins
  rw [lget_app_r (by rw [take_len h0 hp]; omega), take_len h0 hp, lget_cs (by omega), lget_drop (by omega)]
  congr 1
  omega
theorem lget_era_l {L : List Int} {p x : Int} (h0 : 0 ≤ x) (hp : p ≤ L.length) (h : x < p) : lget (era L p) x = lget L x := by
  unfold era
  rw [lget_app_l h0 (by rw [take_len (by omega) hp]; exact h), lget_take h0 h]
theorem lget_era_r {L : List Int} {p x : Int} (h0 : 0 ≤ p) (hp : p ≤ L.length) (h : p ≤ x) : lget (era L p) x = lget L (x + 1) := by
  unfold era
  rw [lget_app_r (by rw [take_len h0 hp]; exact h), take_len h0 hp, lget_drop (by omega)]
  congr 1
  omega
theorem lget_mem {L : List Int} {p : Int} (h0 : 0 ≤ p) (h : p < L.length) : lget L p ∈ L := by
  unfold lget
  have hl : p.toNat < L.length := by omega
  rw [List.getD_eq_getElem?_getD, List.getElem?_eq_getElem hl]
  exact List.getElem_mem hl
theorem mem_lget {L : List Int} {m : Int} (h : m ∈ L) : ∃ p : Int, 0 ≤ p ∧ p < L.length ∧ lget L p = m := by
  obtain ⟨k, hk⟩ := List.getElem?_of_mem h
  have hl := (List.getElem?_eq_some_iff.mp hk).1
  refine ⟨k, by omega, by omega, ?_⟩
  rw [lget_nat, List.getD_eq_getElem?_getD, hk]
  rfl
theorem mem_ins {L : List Int} {p m x : Int} : x ∈ ins L p m ↔ x = m ∨ x ∈ L := by
  unfold ins
  have h : x ∈ L ↔ x ∈ L.take p.toNat ∨ x ∈ L.drop p.toNat := by rw [← List.mem_append, List.take_append_drop]
  rw [List.mem_append, List.mem_cons, h]
  constructor
  · rintro (q | q | q)
    · exact Or.inr (Or.inl q)
    · exact Or.inl q
    · exact Or.inr (Or.inr q)
  · rintro (q | q | q)
    · exact Or.inr (Or.inl q)
    · exact Or.inl q
    · exact Or.inr (Or.inr q)
theorem nodup_ins {L : List Int} {p m : Int} (h : L.Nodup) (hm : m ∉ L) : (ins L p m).Nodup := by
  unfold ins
  have e : L = L.take p.toNat ++ L.drop p.toNat := (List.take_append_drop _ _).symm
  rw [e] at h hm
  rw [List.nodup_append] at h ⊢
  rw [List.mem_append] at hm
  refine ⟨h.1, List.nodup_cons.mpr ⟨fun q => hm (Or.inr q), h.2.1⟩, fun a ha b hb => ?_⟩
  rcases List.mem_cons.mp hb with rfl | hb
  · intro e2
    subst e2
    exact hm (Or.inl ha)
  · exact h.2.2 a ha b hb
theorem era_mid (A B : List Int) (m : Int) : era (A ++ m :: B) (A.length : Int) = A ++ B := by
  unfold era
  rw [Int.toNat_natCast, List.take_left', List.drop_append]
  · simp
  · rfl
theorem nodup_mid {A B : List Int} {m : Int} (h : (A ++ m :: B).Nodup) : (A ++ B).Nodup ∧ m ∉ A ++ B := by
  rw [List.nodup_append] at h
  obtain ⟨h1, h2, h3⟩ := h
  rw [List.nodup_cons] at h2
  refine ⟨List.nodup_append.mpr ⟨h1, h2.2, fun a ha b hb => h3 a ha b (List.mem_cons_of_mem _ hb)⟩, fun q => ?_⟩
  rcases List.mem_append.mp q with q | q
  · exact h3 m q m List.mem_cons_self rfl
  · exact h2.1 q
theorem nodup_inj {L : List Int} (h : L.Nodup) {p q : Int} (hp0 : 0 ≤ p) (hp : p < L.length) (hq0 : 0 ≤ q) (hq : q < L.length) (e : lget L p = lget L q) : p = q := by
  have h1 : p.toNat < L.length := by omega
  have h2 : q.toNat < L.length := by omega
  unfold lget at e
  rw [List.getD_eq_getElem?_getD, List.getD_eq_getElem?_getD, List.getElem?_eq_getElem h1, List.getElem?_eq_getElem h2] at e
  have e2 : L[p.toNat] = L[q.toNat] := e
  have h3 := (List.getElem_inj h).mp e2
  omega
/-- how many different numbers below n there can be -/
theorem nodup_len : ∀ (n : Nat) (L : List Int), L.Nodup → (∀ m ∈ L, 0 ≤ m ∧ m < n) → L.length ≤ n
  | 0, L, _, h => by
    cases L with
    | nil => exact Nat.le_refl _
    | cons a l => have := h a List.mem_cons_self; omega
  | n + 1, L, hn, h => by
    by_cases hm : (n : Int) ∈ L
    · obtain ⟨A, B, rfl⟩ := List.append_of_mem hm
      obtain ⟨h1, h2⟩ := nodup_mid hn
      have := nodup_len n (A ++ B) h1 (fun m hm2 => by
        have h3 := h m (by
          rcases List.mem_append.mp hm2 with q | q
          · exact List.mem_append_left _ q
          · exact List.mem_append_right _ (List.mem_cons_of_mem _ q))
        have h4 : m ≠ n := fun e => h2 (e ▸ hm2)
        omega)
      rw [List.length_append] at this
      rw [List.length_append, List.length_cons]
      omega
    · have := nodup_len n L hn (fun m hm2 => by
        have h3 := h m hm2
        have h4 : m ≠ n := fun e => hm (e ▸ hm2)
        omega)
      omega
/-- where one sits; -1: he doesn't -/
def plc : List Int → Int → Int
  | [], _ => -1
  | a :: l, m => if a = m then 0 else if plc l m < 0 then -1 else plc l m + 1
theorem plc_spec : ∀ (L : List Int) (m : Int), (m ∉ L ∧ plc L m = -1) ∨ (0 ≤ plc L m ∧ plc L m < L.length ∧ lget L (plc L m) = m ∧ ∀ q, 0 ≤ q → q < plc L m → lget L q ≠ m)
  | [], m => Or.inl ⟨List.not_mem_nil, rfl⟩
  | a :: l, m => by
    unfold plc
    by_cases e : a = m
    · rw [if_pos e]
      refine Or.inr ⟨by omega, by rw [List.length_cons]; omega, by rw [lget_c0]; exact e, fun q h1 h2 => by omega⟩
    · rw [if_neg e]
      rcases plc_spec l m with ⟨h1, h2⟩ | ⟨h1, h2, h3, h4⟩
      · rw [if_pos (by omega)]
        refine Or.inl ⟨fun q => ?_, rfl⟩
        rcases List.mem_cons.mp q with q | q
        · exact e q.symm
        · exact h1 q
      · rw [if_neg (by omega)]
        refine Or.inr ⟨by omega, by rw [List.length_cons]; omega, by rw [lget_cs (by omega), show plc l m + 1 - 1 = plc l m by omega]; exact h3, fun q q1 q2 => ?_⟩
        by_cases hq : q = 0
        · subst hq; rw [lget_c0]; exact e
        · rw [lget_cs (by omega)]; exact h4 _ (by omega) (by omega)
theorem plc_range (L : List Int) (m : Int) : -1 ≤ plc L m ∧ plc L m < L.length := by
  rcases plc_spec L m with ⟨-, h⟩ | ⟨h1, h2, -⟩ <;> omega
theorem plc_at {L : List Int} {m : Int} (h : 0 ≤ plc L m) : lget L (plc L m) = m := by
  rcases plc_spec L m with ⟨-, h2⟩ | ⟨h1, h2, h3, -⟩
  · omega
  · exact h3
theorem plc_first {L : List Int} {m p : Int} (h0 : 0 ≤ p) (hp : p < L.length) (e : lget L p = m) (hf : ∀ q, 0 ≤ q → q < p → lget L q ≠ m) : plc L m = p := by
  rcases plc_spec L m with ⟨h1, h2⟩ | ⟨h1, h2, h3, h4⟩
  · exact absurd (e ▸ lget_mem h0 hp) h1
  · rcases Int.lt_trichotomy p (plc L m) with h | h | h
    · exact absurd e (h4 p h0 h)
    · exact h.symm
    · exact absurd h3 (hf _ h1 h)
theorem plc_none {L : List Int} {m : Int} (hf : ∀ q : Int, 0 ≤ q → q < L.length → lget L q ≠ m) : plc L m = -1 := by
  rcases plc_spec L m with ⟨h1, h2⟩ | ⟨h1, h2, h3, h4⟩
  · exact h2
  · exact absurd h3 (hf _ h1 h2)
theorem plc_mem {L : List Int} {m : Int} : 0 ≤ plc L m ↔ m ∈ L := by
  rcases plc_spec L m with ⟨h1, h2⟩ | ⟨h1, h2, h3, h4⟩
  · constructor
    · intro h; omega
    · intro h; exact absurd h h1
  · constructor
    · intro _; rw [← h3]; exact lget_mem h1 h2
    · intro _; exact h1
theorem plc_nodup {L : List Int} (hn : L.Nodup) {p : Int} (h0 : 0 ≤ p) (hp : p < L.length) : plc L (lget L p) = p :=
  plc_first h0 hp rfl (fun q h1 h2 e => by
    have := nodup_inj hn h1 (by omega) h0 hp e
    omega)
theorem lget_ext {A B : List Int} (hl : A.length = B.length) (h : ∀ p : Int, 0 ≤ p → p < A.length → lget A p = lget B p) : A = B := by
  apply List.ext_getElem? 
  intro i
  by_cases hi : i < A.length
  · have h1 := h i (by omega) (by omega)
    rw [lget_nat, lget_nat, List.getD_eq_getElem?_getD, List.getD_eq_getElem?_getD, List.getElem?_eq_getElem hi, List.getElem?_eq_getElem (by omega)] at h1
    rw [List.getElem?_eq_getElem hi, List.getElem?_eq_getElem (by omega)]
    exact congrArg some h1
  · rw [List.getElem?_eq_none (by omega), List.getElem?_eq_none (by omega)]
