/-! how the class's cells change with its bench -/
theorem CB.insd {mem m4 : ZMem} {j : Nat} {r : Int → Int} {L : List Int} {p man : Int} (hC : CB mem j r L) (h0 : 0 ≤ p) (h1 : p ≤ L.length) (hm : 0 ≤ man)
    (h9 : m4 j 9 = mem j 9 + 1) (hj : ∀ i, i ≠ 9 → m4 j i = mem j i) (hr1 : m4 (j + 1) = mem (j + 1)) (hr2 : m4 (j + 2) = mem (j + 2)) (hr3 : m4 (j + 3) = mem (j + 3)) (hr5 : m4 (j + 5) = mem (j + 5))
    (hb : m4 (j + 6) man = -1) (hb2 : ∀ x, x ≠ man → m4 (j + 6) x = mem (j + 6) x)
    (ho : ∀ x, 0 ≤ x → x < p → m4 (j + 4) x = mem (j + 4) x) (hoe : m4 (j + 4) p = man) (hor : ∀ x, p < x → x ≤ L.length → m4 (j + 4) x = mem (j + 4) (x - 1)) : CB m4 j (zup r (15 + 5 * man + 4) 0) (ins L p man) := by
  obtain ⟨⟨c0, c1, c2, c6, c7, c8, c9⟩, cO, cM⟩ := hC
  have hl := ins_len (m := man) h0 h1
  have e : ∀ k, k < 15 → zup r (15 + 5 * man + 4) 0 k = r k := fun k hk => zup_n (by omega)
  refine ⟨?_, fun x x0 x1 => ?_, fun m m0 m1 => ?_⟩
  · rw [e 1 (by omega), e 2 (by omega), e 3 (by omega), e 4 (by omega), e 5 (by omega), e 6 (by omega), h9, hj 0 (by omega), hj 1 (by omega), hj 2 (by omega), hj 6 (by omega), hj 7 (by omega), hj 8 (by omega), hl]
    exact ⟨c0, c1, c2, c6, c7, c8, by omega⟩
  · rcases Int.lt_trichotomy x p with q | q | q
    · rw [ho x x0 q, lget_ins_l x0 h1 q]; exact cO x x0 (by omega)
    · subst q; rw [hoe, lget_ins_e h0 h1]
    · rw [hor x q (by omega), lget_ins_r h0 h1 q]; exact cO (x - 1) (by omega) (by omega)
  · rw [e 3 (by omega)] at m1
    have h5 := cM m m0 m1
    rw [hr1, hr2, hr3, hr5, kd_up, dn_up, lg_up, wm_up]
    refine ⟨h5.1, h5.2.1, h5.2.2.1, h5.2.2.2.1, ?_⟩
    by_cases q : m = man
    · subst q; rw [hb, gn_up_s]; rfl
    · rw [hb2 m q, gn_up_n q]; exact h5.2.2.2.2
theorem CB.erad {mem m4 : ZMem} {j : Nat} {r : Int → Int} {L : List Int} {p : Int} (hC : CB mem j r L) (h0 : 0 ≤ p) (h1 : p < L.length)
    (h9 : m4 j 9 = mem j 9 - 1) (hj : ∀ i, i ≠ 9 → m4 j i = mem j i) (hr1 : m4 (j + 1) = mem (j + 1)) (hr2 : m4 (j + 2) = mem (j + 2)) (hr3 : m4 (j + 3) = mem (j + 3)) (hr5 : m4 (j + 5) = mem (j + 5)) (hr6 : m4 (j + 6) = mem (j + 6))
    (ho : ∀ x, 0 ≤ x → x < p → m4 (j + 4) x = mem (j + 4) x) (hor : ∀ x, p ≤ x → x < L.length - 1 → m4 (j + 4) x = mem (j + 4) (x + 1)) : CB m4 j r (era L p) := by
  obtain ⟨⟨c0, c1, c2, c6, c7, c8, c9⟩, cO, cM⟩ := hC
  have hl := era_len h0 h1
  refine ⟨?_, fun x x0 x1 => ?_, fun m m0 m1 => ?_⟩
  · rw [h9, hj 0 (by omega), hj 1 (by omega), hj 2 (by omega), hj 6 (by omega), hj 7 (by omega), hj 8 (by omega), hl]
    exact ⟨c0, c1, c2, c6, c7, c8, by omega⟩
  · by_cases q : x < p
    · rw [ho x x0 q, lget_era_l x0 (by omega) q]; exact cO x x0 (by omega)
    · rw [hor x (by omega) (by omega), lget_era_r h0 (by omega) (by omega)]; exact cO (x + 1) (by omega) (by omega)
  · rw [hr1, hr2, hr3, hr5, hr6]
    exact cM m m0 m1
theorem CB.goned {mem : ZMem} {j : Nat} {r : Int → Int} {L : List Int} {man g : Int} (hC : CB mem j r L) (hm : 0 ≤ man) : CB (mset mem (j + 6) man (bk g)) j (zup r (15 + 5 * man + 4) g) L := by
  obtain ⟨⟨c0, c1, c2, c6, c7, c8, c9⟩, cO, cM⟩ := hC
  have e : ∀ k, k < 15 → zup r (15 + 5 * man + 4) g k = r k := fun k hk => zup_n (by omega)
  unfold CB
  rw [e 1 (by omega), e 2 (by omega), e 3 (by omega), e 4 (by omega), e 5 (by omega), e 6 (by omega), mset_n (show j ≠ j + 6 by omega), mset_n (show j + 1 ≠ j + 6 by omega), mset_n (show j + 2 ≠ j + 6 by omega), mset_n (show j + 3 ≠ j + 6 by omega), mset_n (show j + 4 ≠ j + 6 by omega), mset_n (show j + 5 ≠ j + 6 by omega)]
  refine ⟨⟨c0, c1, c2, c6, c7, c8, c9⟩, cO, fun m m0 m1 => ?_⟩
  have h5 := cM m m0 m1
  rw [kd_up, dn_up, lg_up, wm_up]
  refine ⟨h5.1, h5.2.1, h5.2.2.1, h5.2.2.2.1, ?_⟩
  by_cases q : m = man
  · subst q; rw [mset_s, gn_up_s]
  · rw [mset_i q, gn_up_n q]; exact h5.2.2.2.2
theorem CB.warmd {mem : ZMem} {j : Nat} {r : Int → Int} {L : List Int} {man g : Int} (hC : CB mem j r L) (hm : 0 ≤ man) : CB (mset mem (j + 5) man g) j (zup r (15 + 5 * man + 3) g) L := by
  obtain ⟨⟨c0, c1, c2, c6, c7, c8, c9⟩, cO, cM⟩ := hC
  have e : ∀ k, k < 15 → zup r (15 + 5 * man + 3) g k = r k := fun k hk => zup_n (by omega)
  unfold CB
  rw [e 1 (by omega), e 2 (by omega), e 3 (by omega), e 4 (by omega), e 5 (by omega), e 6 (by omega), mset_n (show j ≠ j + 5 by omega), mset_n (show j + 1 ≠ j + 5 by omega), mset_n (show j + 2 ≠ j + 5 by omega), mset_n (show j + 3 ≠ j + 5 by omega), mset_n (show j + 4 ≠ j + 5 by omega), mset_n (show j + 6 ≠ j + 5 by omega)]
  refine ⟨⟨c0, c1, c2, c6, c7, c8, c9⟩, cO, fun m m0 m1 => ?_⟩
  have h5 := cM m m0 m1
  have k1 : kd (zup r (15 + 5 * man + 3) g) m = kd r m := zup_n (by omega)
  have k2 : dn (zup r (15 + 5 * man + 3) g) m = dn r m := zup_n (by omega)
  have k3 : lg (zup r (15 + 5 * man + 3) g) m = lg r m := zup_n (by omega)
  have k4 : gn (zup r (15 + 5 * man + 3) g) m = gn r m := zup_n (by omega)
  rw [k1, k2, k3, k4]
  refine ⟨h5.1, h5.2.1, h5.2.2.1, ?_, h5.2.2.2.2⟩
  by_cases q : m = man
  · subst q; rw [mset_s]; exact (zup_s _ _ _).symm
  · have k5 : wm (zup r (15 + 5 * man + 3) g) m = wm r m := zup_n (by omega)
    rw [mset_i q, k5]; exact h5.2.2.2.1
theorem CB.hourd {mem : ZMem} {j : Nat} {r : Int → Int} {L : List Int} {v : Int} (hC : CB mem j r L) : CB (mset mem j 6 v) j (zup r 4 v) L := by
  obtain ⟨⟨c0, c1, c2, c6, c7, c8, c9⟩, cO, cM⟩ := hC
  have e : ∀ k, k ≠ 4 → zup r 4 v k = r k := fun k hk => zup_n hk
  unfold CB
  rw [e 1 (by omega), e 2 (by omega), e 3 (by omega), e 5 (by omega), e 6 (by omega), mset_n (show j + 1 ≠ j by omega), mset_n (show j + 2 ≠ j by omega), mset_n (show j + 3 ≠ j by omega), mset_n (show j + 4 ≠ j by omega), mset_n (show j + 5 ≠ j by omega), mset_n (show j + 6 ≠ j by omega), mset_s, zup_s, mset_i (show (0 : Int) ≠ 6 by omega), mset_i (show (1 : Int) ≠ 6 by omega), mset_i (show (2 : Int) ≠ 6 by omega), mset_i (show (7 : Int) ≠ 6 by omega), mset_i (show (8 : Int) ≠ 6 by omega), mset_i (show (9 : Int) ≠ 6 by omega)]
  refine ⟨⟨c0, c1, c2, rfl, c7, c8, c9⟩, cO, fun m m0 m1 => ?_⟩
  have h5 := cM m m0 m1
  have k1 : kd (zup r 4 v) m = kd r m := zup_n (by omega)
  have k2 : dn (zup r 4 v) m = dn r m := zup_n (by omega)
  have k3 : lg (zup r 4 v) m = lg r m := zup_n (by omega)
  have k4 : gn (zup r 4 v) m = gn r m := zup_n (by omega)
  have k5 : wm (zup r 4 v) m = wm r m := zup_n (by omega)
  rw [k1, k2, k3, k4, k5]
  exact h5
