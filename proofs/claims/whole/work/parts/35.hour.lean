/-! AN HOUR -/
noncomputable def cif {α : Type} (c : Prop) (a b : α) : α := by classical exact if c then a else b
theorem cif_t {α : Type} {c : Prop} {a b : α} (h : c) : cif c a b = a := by unfold cif; exact if_pos h
theorem cif_f {α : Type} {c : Prop} {a b : α} (h : ¬ c) : cif c a b = b := by unfold cif; exact if_neg h
def bck (b : BN) (m : Int) : BN := if 0 < gn b.1 m ∧ gn b.1 m ≤ b.1 4 then (zup b.1 (15 + 5 * m + 4) 0, ins b.2 (if kd b.1 m = 3 then (b.2.length : Int) / 2 else (b.2.length : Int)) m) else b
def bckN : Nat → BN → BN
  | 0, b => b
  | k + 1, b => bck (bckN k b) k
noncomputable def callR (F : Int → Prop) : (Int → Int) → List Int → List Int → (Int → Int) × List Int × Int
  | r, pre, [] => (r, pre, 0)
  | r, pre, m :: rest => cif (dn r m = r 4 % 24 ∧ F m ∧ goesR r ((pre.length : Int) + 1 + rest.length) m pre.length)
      ((callR F (zup r (15 + 5 * m + 4) (r 4 + lg r m)) pre rest).1, (callR F (zup r (15 + 5 * m + 4) (r 4 + lg r m)) pre rest).2.1, (callR F (zup r (15 + 5 * m + 4) (r 4 + lg r m)) pre rest).2.2 + 1)
      (callR F r (pre ++ [m]) rest)
noncomputable def wrm (L : List Int) (r : Int → Int) (p : Int) : Int → Int := zup r (15 + 5 * lget L p + 3) (wm r (lget L p) + bi (snyR r L.length p))
noncomputable def wrmN (L : List Int) : Nat → (Int → Int) → Int → Int
  | 0, r => r
  | k + 1, r => wrm L (wrmN L k r) k
noncomputable def hourR (F : Int → Prop) (b : BN) : BN × Int :=
  ((zup (wrmN (callR F (bckN (b.1 3).toNat b).1 [] (bckN (b.1 3).toNat b).2).2.1 (callR F (bckN (b.1 3).toNat b).1 [] (bckN (b.1 3).toNat b).2).2.1.length (callR F (bckN (b.1 3).toNat b).1 [] (bckN (b.1 3).toNat b).2).1) 4 (b.1 4 + 1), (callR F (bckN (b.1 3).toNat b).1 [] (bckN (b.1 3).toNat b).2).2.1), (callR F (bckN (b.1 3).toNat b).1 [] (bckN (b.1 3).toNat b).2).2.2)
/-- what never changes in an hour: all but gone, warm and the hour -/
def Keep (r r' : Int → Int) : Prop := (∀ k, k < 15 → k ≠ 4 → r' k = r k) ∧ (∀ m, 0 ≤ m → kd r' m = kd r m ∧ dn r' m = dn r m ∧ lg r' m = lg r m)
theorem Keep.rf {r : Int → Int} : Keep r r := ⟨fun _ _ _ => rfl, fun _ _ => ⟨rfl, rfl, rfl⟩⟩
theorem Keep.tr {a b c : Int → Int} (h : Keep a b) (g : Keep b c) : Keep a c := ⟨fun k h1 h2 => (g.1 k h1 h2).trans (h.1 k h1 h2), fun m hm => ⟨(g.2 m hm).1.trans (h.2 m hm).1, (g.2 m hm).2.1.trans (h.2 m hm).2.1, (g.2 m hm).2.2.trans (h.2 m hm).2.2⟩⟩
theorem Keep.gone {r : Int → Int} {m v : Int} (h0 : 0 ≤ m) : Keep r (zup r (15 + 5 * m + 4) v) := ⟨fun k h1 _ => zup_n (by omega), fun x hx => ⟨kd_up, dn_up, lg_up⟩⟩
theorem Keep.warm {r : Int → Int} {m v : Int} (h0 : 0 ≤ m) : Keep r (zup r (15 + 5 * m + 3) v) := ⟨fun k h1 _ => zup_n (by omega), fun x hx => ⟨zup_n (by omega), zup_n (by omega), zup_n (by omega)⟩⟩
theorem Keep.hour {r : Int → Int} {v : Int} : Keep r (zup r 4 v) := ⟨fun k h1 h2 => zup_n h2, fun x hx => ⟨zup_n (by omega), zup_n (by omega), zup_n (by omega)⟩⟩
/-- one sits down -/
theorem BInv.sit {r : Int → Int} {L : List Int} (h : BInv r L) {m p : Int} (h0 : 0 ≤ m) (h1 : m < r 3) (hm : m ∉ L) : BInv (zup r (15 + 5 * m + 4) 0) (ins L p m) := by
  obtain ⟨i1, i2, i3, i4, i5, i6, i7, i8⟩ := h
  have e : ∀ k, k < 15 → zup r (15 + 5 * m + 4) 0 k = r k := fun k hk => zup_n (by omega)
  unfold BInv
  rw [e 1 (by omega), e 2 (by omega), e 3 (by omega), e 4 (by omega), e 5 (by omega)]
  refine ⟨i1, nodup_ins i2 hm, fun x hx => ?_, i4, fun x x0 x1 => ?_, i6, i7, i8⟩
  · rcases mem_ins.mp hx with rfl | hx
    · exact ⟨h0, h1⟩
    · exact i3 x hx
  · have h5 := i5 x x0 x1
    rw [kd_up, dn_up, lg_up, wm_up, mem_ins]
    by_cases e2 : x = m
    · subst e2
      rw [gn_up_s]
      exact ⟨h5.1, h5.2.1, h5.2.2.1, h5.2.2.2.1, ⟨by omega, by omega⟩, ⟨fun _ => Or.inl rfl, fun _ => rfl⟩⟩
    · rw [gn_up_n e2]
      refine ⟨h5.1, h5.2.1, h5.2.2.1, h5.2.2.2.1, h5.2.2.2.2.1, ⟨fun q => Or.inr (h5.2.2.2.2.2.mp q), fun q => ?_⟩⟩
      rcases q with q | q
      · exact absurd q e2
      · exact h5.2.2.2.2.2.mpr q
/-- one goes -/
theorem BInv.go {r : Int → Int} {A B : List Int} {m g : Int} (h : BInv r (A ++ m :: B)) (hg : -1 ≤ g ∧ g ≤ r 4 + 9 ∧ g ≠ 0) : BInv (zup r (15 + 5 * m + 4) g) (A ++ B) := by
  obtain ⟨i1, i2, i3, i4, i5, i6, i7, i8⟩ := h
  have hmm : m ∈ A ++ m :: B := List.mem_append_right _ List.mem_cons_self
  have hm := i3 m hmm
  obtain ⟨n1, n2⟩ := nodup_mid i2
  have e : ∀ k, k < 15 → zup r (15 + 5 * m + 4) g k = r k := fun k hk => zup_n (by omega)
  have hsub : ∀ x, x ∈ A ++ B ↔ x ∈ A ++ m :: B ∧ x ≠ m := by
    intro x
    constructor
    · intro q
      refine ⟨?_, fun e => n2 (e ▸ q)⟩
      rcases List.mem_append.mp q with q | q
      · exact List.mem_append_left _ q
      · exact List.mem_append_right _ (List.mem_cons_of_mem _ q)
    · rintro ⟨q, q2⟩
      rcases List.mem_append.mp q with q | q
      · exact List.mem_append_left _ q
      · rcases List.mem_cons.mp q with q | q
        · exact absurd q q2
        · exact List.mem_append_right _ q
  unfold BInv
  rw [e 1 (by omega), e 2 (by omega), e 3 (by omega), e 4 (by omega), e 5 (by omega)]
  refine ⟨i1, n1, fun x hx => i3 x ((hsub x).mp hx).1, i4, fun x x0 x1 => ?_, i6, i7, i8⟩
  have h5 := i5 x x0 x1
  rw [kd_up, dn_up, lg_up, wm_up, hsub]
  by_cases e2 : x = m
  · subst e2
    rw [gn_up_s]
    exact ⟨h5.1, h5.2.1, h5.2.2.1, h5.2.2.2.1, ⟨by omega, by omega⟩, ⟨fun q => by omega, fun q => absurd rfl q.2⟩⟩
  · rw [gn_up_n e2]
    exact ⟨h5.1, h5.2.1, h5.2.2.1, h5.2.2.2.1, h5.2.2.2.2.1, ⟨fun q => ⟨h5.2.2.2.2.2.mp q, e2⟩, fun q => h5.2.2.2.2.2.mpr q.1⟩⟩
/-- one who doesn't sit goes away for good, or comes to be back at another hour -/
theorem BInv.off {r : Int → Int} {L : List Int} {m g : Int} (h : BInv r L) (h0 : 0 ≤ m) (h1 : m < r 3) (hm : m ∉ L) (hg : -1 ≤ g ∧ g ≤ r 4 + 9 ∧ g ≠ 0) : BInv (zup r (15 + 5 * m + 4) g) L := by
  obtain ⟨i1, i2, i3, i4, i5, i6, i7, i8⟩ := h
  have e : ∀ k, k < 15 → zup r (15 + 5 * m + 4) g k = r k := fun k hk => zup_n (by omega)
  unfold BInv
  rw [e 1 (by omega), e 2 (by omega), e 3 (by omega), e 4 (by omega), e 5 (by omega)]
  refine ⟨i1, i2, i3, i4, fun x x0 x1 => ?_, i6, i7, i8⟩
  have h5 := i5 x x0 x1
  rw [kd_up, dn_up, lg_up, wm_up]
  by_cases e2 : x = m
  · subst e2
    rw [gn_up_s]
    exact ⟨h5.1, h5.2.1, h5.2.2.1, h5.2.2.2.1, ⟨by omega, by omega⟩, ⟨fun q => by omega, fun q => absurd q hm⟩⟩
  · rw [gn_up_n e2]
    exact h5
theorem bck_inv {b : BN} (h : BInv b.1 b.2) {m : Int} (h0 : 0 ≤ m) (h1 : m < b.1 3) : BInv (bck b m).1 (bck b m).2 ∧ Keep b.1 (bck b m).1 ∧ (bck b m).1 4 = b.1 4 ∧ (∀ x, wm (bck b m).1 x = wm b.1 x) := by
  unfold bck
  split
  · rename_i q
    refine ⟨h.sit h0 h1 (fun hm => ?_), Keep.gone h0, zup_n (by omega), fun x => wm_up⟩
    have := (h.2.2.2.2.1 m h0 h1).2.2.2.2.2.mpr hm
    omega
  · exact ⟨h, Keep.rf, rfl, fun _ => rfl⟩
theorem bckN_inv {b : BN} (h : BInv b.1 b.2) : ∀ k : Nat, (k : Int) ≤ b.1 3 → BInv (bckN k b).1 (bckN k b).2 ∧ Keep b.1 (bckN k b).1 ∧ (bckN k b).1 4 = b.1 4 ∧ (∀ x, wm (bckN k b).1 x = wm b.1 x)
  | 0, _ => ⟨h, Keep.rf, rfl, fun _ => rfl⟩
  | k + 1, hk => by
    obtain ⟨a1, a2, a3, a4⟩ := bckN_inv h k (by omega)
    have e3 := a2.1 3 (by omega) (by omega)
    obtain ⟨b1, b2, b3, b4⟩ := bck_inv a1 (m := (k : Int)) (by omega) (by omega)
    exact ⟨b1, a2.tr b2, b3.trans a3, fun x => (b4 x).trans (a4 x)⟩
theorem callR_inv (F : Int → Prop) : ∀ (rest : List Int) (r : Int → Int) (pre : List Int), BInv r (pre ++ rest) → BInv (callR F r pre rest).1 (callR F r pre rest).2.1 ∧ Keep r (callR F r pre rest).1 ∧ (callR F r pre rest).1 4 = r 4 ∧ (∀ x, wm (callR F r pre rest).1 x = wm r x) ∧ 0 ≤ (callR F r pre rest).2.2 ∧ (callR F r pre rest).2.2 ≤ rest.length
  | [], r, pre, h => by
    rw [List.append_nil] at h
    exact ⟨h, Keep.rf, rfl, fun _ => rfl, Int.le_refl _, by show (0 : Int) ≤ _; omega⟩
  | m :: rest, r, pre, h => by
    have hm := h.2.2.1 m (List.mem_append_right _ List.mem_cons_self)
    rw [callR]
    by_cases c : dn r m = r 4 % 24 ∧ F m ∧ goesR r ((pre.length : Int) + 1 + rest.length) m pre.length
    · rw [cif_t c]
      have h5 := h.2.2.2.2.1 m hm.1 hm.2
      have h4 := h.2.2.2.1
      have hg := BInv.go (g := r 4 + lg r m) h (by omega)
      obtain ⟨a1, a2, a3, a4, a5, a6⟩ := callR_inv F rest _ pre hg
      refine ⟨a1, (Keep.gone hm.1).tr a2, a3.trans (zup_n (by omega)), fun x => (a4 x).trans wm_up, by show 0 ≤ _ + 1; omega, ?_⟩
      show _ + 1 ≤ _
      rw [List.length_cons]
      omega
    · rw [cif_f c]
      obtain ⟨a1, a2, a3, a4, a5, a6⟩ := callR_inv F rest r (pre ++ [m]) (by rw [List.append_assoc]; exact h)
      exact ⟨a1, a2, a3, a4, a5, by rw [List.length_cons]; omega⟩
theorem wrm_inv {L : List Int} {r : Int → Int} {p : Int} (h0 : 0 ≤ lget L p) : Keep r (wrm L r p) ∧ wrm L r p 4 = r 4 ∧ (∀ x, gn (wrm L r p) x = gn r x) ∧ (∀ x, x ≠ lget L p → wm (wrm L r p) x = wm r x) ∧ wm (wrm L r p) (lget L p) = wm r (lget L p) + bi (snyR r L.length p) := by
  unfold wrm
  exact ⟨Keep.warm h0, zup_n (by omega), fun x => zup_n (by omega), fun x hx => zup_n (by omega), zup_s _ _ _⟩
theorem snyR_keep {r r' : Int → Int} (h : Keep r r') (h4 : r' 4 = r 4) {n p : Int} : snyR r' n p ↔ snyR r n p := by
  unfold snyR sunR
  rw [h.1 1 (by omega) (by omega), h.1 2 (by omega) (by omega), h.1 5 (by omega) (by omega), h4]
/-- behind k places: who sits before them in the sun is warm by one more -/
theorem wrmN_inv {L : List Int} {r : Int → Int} (hn : L.Nodup) (hp : ∀ m ∈ L, 0 ≤ m) : ∀ k : Nat, k ≤ L.length → Keep r (wrmN L k r) ∧ wrmN L k r 4 = r 4 ∧ (∀ x, gn (wrmN L k r) x = gn r x) ∧ (∀ x, (∀ p : Int, 0 ≤ p → p < k → lget L p ≠ x) → wm (wrmN L k r) x = wm r x) ∧ (∀ p : Int, 0 ≤ p → p < k → wm (wrmN L k r) (lget L p) = wm r (lget L p) + bi (snyR r L.length p))
  | 0, _ => ⟨Keep.rf, rfl, fun _ => rfl, fun _ _ => rfl, fun p h1 h2 => by omega⟩
  | k + 1, hk => by
    obtain ⟨a1, a2, a3, a4, a5⟩ := wrmN_inv hn hp k (by omega)
    have h0 : 0 ≤ lget L k := hp _ (lget_mem (by omega) (by omega))
    obtain ⟨b1, b2, b3, b4, b5⟩ := wrm_inv (r := wrmN L k r) (p := (k : Int)) h0
    refine ⟨a1.tr b1, b2.trans a2, fun x => (b3 x).trans (a3 x), fun x hx => ?_, fun p p0 p1 => ?_⟩
    · show wm (wrm L (wrmN L k r) k) x = _
      rw [b4 x (fun e => hx k (by omega) (by omega) e.symm)]
      exact a4 x (fun p q0 q1 => hx p q0 (by omega))
    · show wm (wrm L (wrmN L k r) k) _ = _
      by_cases e : p = k
      · subst e
        rw [b5, a4 _ (fun q q0 q1 e2 => by have := nodup_inj hn q0 (by omega) p0 (by omega) e2; omega), bi_congr (snyR_keep a1 a2)]
      · rw [b4 _ (fun e2 => e (nodup_inj hn p0 (by omega) (by omega) (by omega) e2))]
        exact a5 p p0 (by omega)
theorem hourR_inv (F : Int → Prop) {b : BN} (h : BInv b.1 b.2) : BInv (hourR F b).1.1 (hourR F b).1.2 ∧ Keep b.1 (hourR F b).1.1 ∧ (hourR F b).1.1 4 = b.1 4 + 1 ∧ (∀ x, wm b.1 x ≤ wm (hourR F b).1.1 x ∧ wm (hourR F b).1.1 x ≤ wm b.1 x + 1) ∧ 0 ≤ (hourR F b).2 ∧ (hourR F b).2 ≤ 7 := by
  have i1 := h.1
  obtain ⟨a1, a2, a3, a4⟩ := bckN_inv h (b.1 3).toNat (by omega)
  unfold hourR
  generalize bckN (b.1 3).toNat b = b1 at *
  obtain ⟨c1, c2, c3, c4, c5, c6⟩ := callR_inv F b1.2 b1.1 [] a1
  generalize callR F b1.1 [] b1.2 = c at *
  have hlen := a1.len
  have hr3 := a2.1 3 (by omega) (by omega)
  obtain ⟨d1, d2, d3, d4, d5⟩ := wrmN_inv (L := c.2.1) (r := c.1) c1.2.1 (fun m hm => (c1.2.2.1 m hm).1) c.2.1.length (Nat.le_refl _)
  generalize wrmN c.2.1 c.2.1.length c.1 = w at *
  have hw : ∀ x, wm c.1 x ≤ wm w x ∧ wm w x ≤ wm c.1 x + 1 := by
    intro x
    by_cases hx : x ∈ c.2.1
    · obtain ⟨p, p0, p1, rfl⟩ := mem_lget hx
      rw [d5 p p0 p1]
      rcases bi_01 (snyR c.1 c.2.1.length p) with q | q <;> omega
    · rw [d4 x (fun p p0 p1 e => hx (e ▸ lget_mem p0 p1))]
      omega
  have eW : ∀ x, wm (zup w 4 (b.1 4 + 1)) x = wm w x ∨ 15 + 5 * x + 3 = 4 := fun x => by
    by_cases q : 15 + 5 * x + 3 = 4
    · exact Or.inr q
    · exact Or.inl (zup_n q)
  have eW2 : ∀ x, wm (zup w 4 (b.1 4 + 1)) x = wm w x := fun x => (eW x).elim id (fun q => by omega)
  have eG : ∀ x, 0 ≤ x → gn (zup w 4 (b.1 4 + 1)) x = gn c.1 x := fun x hx => (zup_n (show 15 + 5 * x + 4 ≠ 4 by omega)).trans (d3 x)
  have K : Keep b.1 (zup w 4 (b.1 4 + 1)) := ((a2.tr c2).tr d1).tr Keep.hour
  refine ⟨?_, K, zup_s w 4 (b.1 4 + 1), fun x => ?_, c5, by show c.2.2 ≤ 7; omega⟩
  · obtain ⟨j1, j2, j3, j4, j5, j6, j7, j8⟩ := c1
    have k1 := (c2.tr d1).tr (Keep.hour (v := b.1 4 + 1))
    have k3 := c2.1
    have w4 := d2
    show BInv (zup w 4 (b.1 4 + 1)) c.2.1
    unfold BInv
    rw [zup_s]
    have e3 : zup w 4 (b.1 4 + 1) 3 = c.1 3 := (zup_n (by omega)).trans (d1.1 3 (by omega) (by omega))
    have e1 : zup w 4 (b.1 4 + 1) 1 = c.1 1 := (zup_n (by omega)).trans (d1.1 1 (by omega) (by omega))
    have e2 : zup w 4 (b.1 4 + 1) 2 = c.1 2 := (zup_n (by omega)).trans (d1.1 2 (by omega) (by omega))
    have e5 : zup w 4 (b.1 4 + 1) 5 = c.1 5 := (zup_n (by omega)).trans (d1.1 5 (by omega) (by omega))
    rw [e3, e1, e2, e5]
    have h4 := h.2.2.2.1
    refine ⟨j1, j2, j3, by omega, fun m m0 m1 => ?_, j6, j7, j8⟩
    have h5 := j5 m m0 m1
    have hm := hw m
    have hk := (d1.tr (Keep.hour (v := b.1 4 + 1))).2 m m0
    rw [hk.1, hk.2.1, hk.2.2, eW2, eG m m0]
    refine ⟨h5.1, h5.2.1, h5.2.2.1, ⟨by omega, by omega⟩, ⟨by omega, by omega⟩, h5.2.2.2.2.2⟩
  · show wm b.1 x ≤ wm (zup w 4 (b.1 4 + 1)) x ∧ wm (zup w 4 (b.1 4 + 1)) x ≤ wm b.1 x + 1
    rw [eW2]
    have h1 := hw x
    have h2 := c4 x
    have h3 := a4 x
    omega
