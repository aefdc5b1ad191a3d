/-! one goes; two change -/
def remL (L : List Int) (m : Int) : List Int := if 0 ≤ plc L m then era L (plc L m) else L
def lset (L : List Int) (p v : Int) : List Int := L.set p.toNat v
theorem lset_len (L : List Int) (p v : Int) : (lset L p v).length = L.length := List.length_set
theorem lget_lset {L : List Int} {p v x : Int} (h0 : 0 ≤ p) (hp : p < L.length) (hx : 0 ≤ x) : lget (lset L p v) x = if x = p then v else lget L x := by
  unfold lget lset
  rw [List.getD_eq_getElem?_getD, List.getD_eq_getElem?_getD]
  by_cases e : x = p
  · subst e
    rw [if_pos rfl, List.getElem?_set_self (by omega)]
    rfl
  · rw [if_neg e, List.getElem?_set_ne (by omega)]
def swp (L : List Int) (p : Int) : List Int := lset (lset L p (lget L (p - 1))) (p - 1) (lget L p)
theorem swp_len (L : List Int) (p : Int) : (swp L p).length = L.length := by unfold swp; rw [lset_len, lset_len]
theorem lget_swp {L : List Int} {p x : Int} (h0 : 0 < p) (hp : p < L.length) (hx : 0 ≤ x) : lget (swp L p) x = if x = p - 1 then lget L p else if x = p then lget L (p - 1) else lget L x := by
  unfold swp
  rw [lget_lset (by omega) (by rw [lset_len]; omega) hx, lget_lset (by omega) hp hx]
theorem nodup_of {L : List Int} (h : ∀ p q : Int, 0 ≤ p → p < q → q < L.length → lget L p ≠ lget L q) : L.Nodup := by
  unfold List.Nodup
  rw [List.pairwise_iff_getElem]
  intro i j hi hj hij
  have := h i j (by omega) (by omega) (by omega)
  rw [lget_nat, lget_nat, List.getD_eq_getElem?_getD, List.getD_eq_getElem?_getD, List.getElem?_eq_getElem hi, List.getElem?_eq_getElem hj] at this
  exact this
theorem nodup_swp {L : List Int} (hn : L.Nodup) {p : Int} (h0 : 0 < p) (hp : p < L.length) : (swp L p).Nodup := by
  apply nodup_of
  intro a b a0 ab b1 e
  rw [swp_len] at b1
  rw [lget_swp h0 hp a0, lget_swp h0 hp (by omega)] at e
  split at e
  · split at e
    · omega
    · split at e
      · have := nodup_inj hn (by omega) (by omega) (by omega) (by omega) e; omega
      · have := nodup_inj hn (by omega) (by omega) (by omega) (by omega) e; omega
  · split at e
    · split at e
      · omega
      · split at e
        · omega
        · have := nodup_inj hn (by omega) (by omega) (by omega) (by omega) e; omega
    · split at e
      · have := nodup_inj hn (by omega) (by omega) (by omega) (by omega) e; omega
      · split at e
        · have := nodup_inj hn (by omega) (by omega) (by omega) (by omega) e; omega
        · have := nodup_inj hn (by omega) (by omega) (by omega) (by omega) e; omega
theorem mem_swp {L : List Int} {p x : Int} (h0 : 0 < p) (hp : p < L.length) : x ∈ swp L p ↔ x ∈ L := by
  constructor
  · intro h
    obtain ⟨q, q0, q1, rfl⟩ := mem_lget h
    rw [swp_len] at q1
    rw [lget_swp h0 hp q0]
    split
    · exact lget_mem (by omega) hp
    · split
      · exact lget_mem (by omega) (by omega)
      · exact lget_mem q0 q1
  · intro h
    obtain ⟨q, q0, q1, rfl⟩ := mem_lget h
    have hl := swp_len L p
    by_cases e1 : q = p
    · subst e1
      have h2 := lget_swp h0 hp (x := q - 1) (by omega)
      rw [if_pos rfl] at h2
      rw [← h2]
      exact lget_mem (by omega) (by omega)
    · by_cases e2 : q = p - 1
      · subst e2
        have h2 := lget_swp h0 hp (x := p) (by omega)
        rw [if_neg (by omega), if_pos rfl] at h2
        rw [← h2]
        exact lget_mem (by omega) (by omega)
      · have h2 := lget_swp h0 hp (x := q) (by omega)
        rw [if_neg e2, if_neg e1] at h2
        rw [← h2]
        exact lget_mem (by omega) (by omega)
/-- snuff: he changes with the one a place less, if there is one -/
def snf (b : BN) (m : Int) : BN := if 0 < plc b.2 m then (zup b.1 6 (b.1 6 + 1), swp b.2 (plc b.2 m)) else b
theorem BInv.snuff {r : Int → Int} {L : List Int} (h : BInv r L) {v : Int} : BInv (zup r 6 v) L := by
  obtain ⟨i1, i2, i3, i4, i5, i6, i7, i8⟩ := h
  have e : ∀ k, k ≠ 6 → zup r 6 v k = r k := fun k hk => zup_n hk
  unfold BInv
  rw [e 1 (by omega), e 2 (by omega), e 3 (by omega), e 4 (by omega), e 5 (by omega)]
  refine ⟨i1, i2, i3, i4, fun m m0 m1 => ?_, i6, i7, i8⟩
  have k1 : kd (zup r 6 v) m = kd r m := zup_n (by omega)
  have k2 : dn (zup r 6 v) m = dn r m := zup_n (by omega)
  have k3 : lg (zup r 6 v) m = lg r m := zup_n (by omega)
  have k4 : gn (zup r 6 v) m = gn r m := zup_n (by omega)
  have k5 : wm (zup r 6 v) m = wm r m := zup_n (by omega)
  rw [k1, k2, k3, k4, k5]
  exact i5 m m0 m1
theorem BInv.swap {r : Int → Int} {L : List Int} (h : BInv r L) {p : Int} (h0 : 0 < p) (hp : p < L.length) : BInv r (swp L p) := by
  obtain ⟨i1, i2, i3, i4, i5, i6, i7, i8⟩ := h
  refine ⟨i1, nodup_swp i2 h0 hp, fun m hm => i3 m ((mem_swp h0 hp).mp hm), i4, fun m m0 m1 => ?_, i6, i7, i8⟩
  rw [mem_swp h0 hp]
  exact i5 m m0 m1
theorem snf_inv {b : BN} (h : BInv b.1 b.2) (m : Int) : BInv (snf b m).1 (snf b m).2 := by
  unfold snf
  split
  · exact (h.swap (by omega) (plc_range _ _).2).snuff
  · exact h
theorem CB.snuffd {mem m4 : ZMem} {j : Nat} {r : Int → Int} {L : List Int} {p : Int} (hC : CB mem j r L) (h0 : 0 < p) (h1 : p < L.length)
    (h7 : m4 j 7 = mem j 7 + 1) (hj : ∀ i, i ≠ 7 → m4 j i = mem j i) (hr1 : m4 (j + 1) = mem (j + 1)) (hr2 : m4 (j + 2) = mem (j + 2)) (hr3 : m4 (j + 3) = mem (j + 3)) (hr5 : m4 (j + 5) = mem (j + 5)) (hr6 : m4 (j + 6) = mem (j + 6))
    (ho : ∀ x, x ≠ p → x ≠ p - 1 → m4 (j + 4) x = mem (j + 4) x) (hp : m4 (j + 4) p = mem (j + 4) (p - 1)) (hp1 : m4 (j + 4) (p - 1) = lget L p) : CB m4 j (zup r 6 (r 6 + 1)) (swp L p) := by
  obtain ⟨⟨c0, c1, c2, c6, c7, c8, c9⟩, cO, cM⟩ := hC
  have e : ∀ k, k ≠ 6 → zup r 6 (r 6 + 1) k = r k := fun k hk => zup_n hk
  have hl := swp_len L p
  refine ⟨?_, fun x x0 x1 => ?_, fun m m0 m1 => ?_⟩
  · rw [e 1 (by omega), e 2 (by omega), e 3 (by omega), e 4 (by omega), e 5 (by omega), zup_s, h7, hj 0 (by omega), hj 1 (by omega), hj 2 (by omega), hj 6 (by omega), hj 8 (by omega), hj 9 (by omega), hl]
    exact ⟨c0, c1, c2, c6, by omega, c8, c9⟩
  · rw [hl] at x1
    rw [lget_swp h0 h1 x0]
    split
    · rename_i q; subst q; exact hp1
    · split
      · rename_i q; subst q; rw [hp]; exact cO _ (by omega) (by omega)
      · rename_i q1 q2; rw [ho x q2 q1]; exact cO x x0 x1
  · rw [e 3 (by omega)] at m1
    have k1 : kd (zup r 6 (r 6 + 1)) m = kd r m := zup_n (by omega)
    have k2 : dn (zup r 6 (r 6 + 1)) m = dn r m := zup_n (by omega)
    have k3 : lg (zup r 6 (r 6 + 1)) m = lg r m := zup_n (by omega)
    have k4 : gn (zup r 6 (r 6 + 1)) m = gn r m := zup_n (by omega)
    have k5 : wm (zup r 6 (r 6 + 1)) m = wm r m := zup_n (by omega)
    rw [k1, k2, k3, k4, k5, hr1, hr2, hr3, hr5, hr6]
    exact cM m m0 m1
/-- he goes away, until g (-1: for good) -/
def goneR (b : BN) (m g : Int) : BN := (zup b.1 (15 + 5 * m + 4) g, remL b.2 m)
theorem remL_split {L : List Int} {m : Int} (h : m ∈ L) : ∃ A B, L = A ++ m :: B ∧ remL L m = A ++ B ∧ plc L m = A.length := by
  have h0 := plc_mem.mpr h
  obtain ⟨h1, h2⟩ := plc_range L m
  have h3 := plc_at h0
  have hn : (plc L m).toNat < L.length := by omega
  refine ⟨L.take (plc L m).toNat, L.drop ((plc L m).toNat + 1), ?_, ?_, ?_⟩
  · have h4 : L[(plc L m).toNat] = m := by
      unfold lget at h3
      rw [List.getD_eq_getElem?_getD, List.getElem?_eq_getElem hn] at h3
      exact h3
    conv => lhs; rw [← List.take_append_drop (plc L m).toNat L, List.drop_eq_getElem_cons hn, h4]
  · unfold remL era; rw [if_pos h0]
  · rw [List.length_take]; omega
theorem remL_no {L : List Int} {m : Int} (h : m ∉ L) : remL L m = L := by
  unfold remL
  rw [if_neg (fun q => h (plc_mem.mp q))]
theorem goneR_inv {b : BN} (h : BInv b.1 b.2) {m g : Int} (h0 : 0 ≤ m) (h1 : m < b.1 3) (hg : -1 ≤ g ∧ g ≤ b.1 4 + 9 ∧ g ≠ 0) : BInv (goneR b m g).1 (goneR b m g).2 := by
  unfold goneR
  by_cases hm : m ∈ b.2
  · obtain ⟨A, B, e1, e2, -⟩ := remL_split hm
    show BInv (zup b.1 (15 + 5 * m + 4) g) (remL b.2 m)
    rw [e2]
    rw [e1] at h
    exact h.go hg
  · show BInv (zup b.1 (15 + 5 * m + 4) g) (remL b.2 m)
    rw [remL_no hm]
    exact h.off h0 h1 hm hg
