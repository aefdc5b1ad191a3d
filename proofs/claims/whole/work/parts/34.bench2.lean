theorem k_placeOf {mem : ZMem} {j : Nat} {r : Int → Int} {L : List Int} (hj : isB j) (hC : CB mem j r L) (hI : BInv r L) {man : Int} (hm : -2147483648 ≤ man ∧ man < 2147483648) : CI mX2_placeOf 0 [zr j, zi man] mem (fun v mem' => v = plc L man ∧ mem' = mem) := by
  have hl := hI.len
  obtain ⟨⟨c0, c1, c2, c6, c7, c8, c9⟩, cO, cM⟩ := hC
  obtain ⟨i1, i2, i3, i4, i5, i6, i7, i8⟩ := hI
  have loop : ∀ (n : Nat) (k : Int), 0 ≤ k → k ≤ L.length → L.length - k ≤ n → (∀ p, 0 ≤ p → p < k → lget L p ≠ man) → JM mX2_placeOf 0 (QI (fun v mem' => v = plc L man ∧ mem' = mem)) 2 [zr j, zi man, zi k] [] mem := by
    intro n
    induction n with
    | zero =>
      intro k h0 h1 h2 h3
      refine J_il2 dX2_placeOf_2 ?_
      refine J_al0 dX2_placeOf_3 ?_
      refine M_get (ki := 9) dX2_placeOf_4 fl_X2_41 (isB_sh hj) rfl rfl ?_
      refine J_cge (tgt := 28) dX2_placeOf_7 rfl (by omega) (fun c_7 => ?_) (fun c_7 => ?_)
      · skip
        refine J_iconst dX2_placeOf_28 ?_
        refine M_iret dX2_placeOf_29 rfl ?_
        refine ⟨(plc_none (fun q q0 q1 => h3 q q0 (by omega))).symm, rfl⟩
      · skip
        omega
    | succ n ih =>
      intro k h0 h1 h2 h3
      refine J_il2 dX2_placeOf_2 ?_
      refine J_al0 dX2_placeOf_3 ?_
      refine M_get (ki := 9) dX2_placeOf_4 fl_X2_41 (isB_sh hj) rfl rfl ?_
      refine J_cge (tgt := 28) dX2_placeOf_7 rfl (by omega) (fun c_7 => ?_) (fun c_7 => ?_)
      · skip
        refine J_iconst dX2_placeOf_28 ?_
        refine M_iret dX2_placeOf_29 rfl ?_
        refine ⟨(plc_none (fun q q0 q1 => h3 q q0 (by omega))).symm, rfl⟩
      · skip
        refine J_al0 dX2_placeOf_10 ?_
        refine M_getR dX2_placeOf_11 fl_X2_44 (isB_sh hj) rfl ?_
        have hk := cO k h0 (by omega)
        have hkm := i3 _ (lget_mem h0 (L := L) (by omega))
        refine J_il2 dX2_placeOf_14 ?_
        refine M_ald dX2_placeOf_15 (isB_a4 hj) (by decide) (by omega) ?_
        refine J_il1 dX2_placeOf_16 ?_
        refine J_cne (tgt := 22) dX2_placeOf_17 rfl (by omega) (fun c_17 => ?_) (fun c_17 => ?_)
        · skip
          refine J_inc2 dX2_placeOf_22 (by decide) rfl ?_
          refine J_goto (tgt := 2) dX2_placeOf_25 rfl ?_
          exact ih (k + 1) (by omega) (by omega) (by omega) (fun p p0 p1 => by
            by_cases e : p = k
            · subst e; omega
            · exact h3 p p0 (by omega))
        · skip
          refine J_il2 dX2_placeOf_20 ?_
          refine M_iret dX2_placeOf_21 rfl ?_
          exact ⟨(plc_first h0 (by omega) (by omega) h3).symm, rfl⟩
  refine CM.of (by decide +kernel) ([zr j, zi man, zu]) (zok_all rfl) (Nat.le_of_ble_eq_true rfl) rfl ?_
  refine J_iconst dX2_placeOf_0 ?_
  refine J_is2 dX2_placeOf_1 (by decide) rfl ?_
  exact loop L.length 0 (by omega) (by omega) (by omega) (fun p p0 p1 => by omega)
theorem k_sitsInSun {mem : ZMem} {j : Nat} {r : Int → Int} {L : List Int} (hj : isB j) (hC : CB mem j r L) (hI : BInv r L) {man : Int} (hm : -2147483648 ≤ man ∧ man < 2147483648) (hh : r 4 ≤ 3000) : CI mX2_sitsInSun 3 [zr j, zi man] mem (fun v mem' => v = bi (0 ≤ plc L man ∧ snyR r L.length (plc L man)) ∧ mem' = mem) := by
  have hl := hI.len
  have hp := plc_range L man
  have i1 := hI.1
  refine CM.of (by decide +kernel) ([zr j, zi man, zu]) (zok_all rfl) (Nat.le_of_ble_eq_true rfl) rfl ?_
  refine J_al0 dX2_sitsInSun_0 ?_
  refine J_il1 dX2_sitsInSun_1 ?_
  refine M_cvI1 dX2_sitsInSun_2 lk_X2_73 cw_X2_placeOf (isB_sh hj) rfl rfl (k_placeOf hj hC hI hm) (by decide) (Nat.le_of_ble_eq_true rfl) (fun v_2 mem_2 hq => ?_)
  obtain ⟨rfl, hq⟩ := hq; have hq := hq.symm; subst hq
  refine J_is2 dX2_sitsInSun_5 (by decide) rfl ?_
  refine J_il2 dX2_sitsInSun_6 ?_
  refine J_iflt (tgt := 26) dX2_sitsInSun_7 rfl (by omega) (fun c_7 => ?_) (fun c_7 => ?_)
  · skip
    refine J_iconst dX2_sitsInSun_26 ?_
    refine M_zret dX2_sitsInSun_27 rfl (by decide) ?_
    first | exact ⟨(bi_t ⟨c_7, c_19⟩).symm, rfl⟩ | exact ⟨(bi_f (by omega)).symm, rfl⟩
  · skip
    refine J_al0 dX2_sitsInSun_10 ?_
    refine J_il2 dX2_sitsInSun_11 ?_
    refine J_al0 dX2_sitsInSun_12 ?_
    refine M_cvI0 dX2_sitsInSun_13 lk_X2_76 cw_X2_sunNow (isB_sh hj) rfl rfl (k_sunNow hj hC hI.lt hh) (by decide) (Nat.le_of_ble_eq_true rfl) (fun v_13 mem_13 hq => ?_)
    obtain ⟨rfl, hq⟩ := hq; have hq := hq.symm; subst hq
    refine M_cvI2 dX2_sitsInSun_16 lk_X2_80 cw_X2_hasSun (isB_sh hj) rfl rfl (k_hasSun hj hC hI.lt (by omega) rfl) (by decide) (Nat.le_of_ble_eq_true rfl) (fun v_16 mem_16 hq => ?_)
    obtain ⟨rfl, hq⟩ := hq; have hq := hq.symm; subst hq
    refine J_ifeq_b (tgt := 26) dX2_sitsInSun_19 rfl (fun c_19 => ?_) (fun c_19 => ?_)
    · skip
      refine J_iconst dX2_sitsInSun_26 ?_
      refine M_zret dX2_sitsInSun_27 rfl (by decide) ?_
      exact ⟨(bi_f (fun q => c_19 q.2)).symm, rfl⟩
    · skip
      refine J_iconst dX2_sitsInSun_22 ?_
      refine J_goto (tgt := 27) dX2_sitsInSun_23 rfl ?_
      refine M_zret dX2_sitsInSun_27 rfl (by decide) ?_
      first | exact ⟨(bi_t ⟨c_7, c_19⟩).symm, rfl⟩ | exact ⟨(bi_f (by omega)).symm, rfl⟩
theorem k_isDue {mem : ZMem} {j : Nat} {r : Int → Int} {L : List Int} (hj : isB j) (hC : CB mem j r L) (hI : BInv r L) {man : Int} (h0 : 0 ≤ man) (h1 : man < r 3) (hh : r 4 ≤ 3000) : CI mX2_isDue 0 [zr j, zi man] mem (fun v mem' => v = bi (dn r man = r 4 % 24) ∧ mem' = mem) := by
  obtain ⟨⟨c0, c1, c2, c6, c7, c8, c9⟩, cO, cM⟩ := hC
  obtain ⟨i1, i2, i3, i4, i5, i6, i7, i8⟩ := hI
  have hM := cM man h0 h1
  have hN := i5 man h0 h1
  clear cO cM i2 i3 i5
  refine CM.of (by decide +kernel) ([zr j, zi man]) (zok_all rfl) (Nat.le_of_ble_eq_true rfl) rfl ?_
  refine J_al0 dX2_isDue_0 ?_
  refine M_getR dX2_isDue_1 fl_X2_25 (isB_sh hj) rfl ?_
  refine J_il1 dX2_isDue_4 ?_
  refine M_ald dX2_isDue_5 (isB_a2 hj) (by decide) (by omega) ?_
  refine J_al0 dX2_isDue_6 ?_
  refine M_get (ki := 6) dX2_isDue_7 fl_X2_31 (isB_sh hj) rfl rfl ?_
  refine J_bipush dX2_isDue_10 rfl ?_
  refine J_irem dX2_isDue_12 (by omega) ?_
  refine J_cne (tgt := 20) dX2_isDue_13 rfl (by omega) (fun c_13 => ?_) (fun c_13 => ?_)
  · skip
    refine J_iconst dX2_isDue_20 ?_
    refine M_zret dX2_isDue_21 rfl (by decide) ?_
    exact ⟨(bi_f (by omega)).symm, rfl⟩
  · skip
    refine J_iconst dX2_isDue_16 ?_
    refine J_goto (tgt := 21) dX2_isDue_17 rfl ?_
    refine M_zret dX2_isDue_21 rfl (by decide) ?_
    exact ⟨(bi_t (by omega)).symm, rfl⟩
theorem k_isAtDinner {mem : ZMem} {j : Nat} {r : Int → Int} {L : List Int} (hj : isB j) (hC : CB mem j r L) (hI : BInv r L) {man : Int} (h0 : 0 ≤ man) (h1 : man < r 3) (hh : r 4 ≤ 3000) : CI mX2_isAtDinner 0 [zr j, zi man] mem (fun v mem' => v = bi (0 < gn r man) ∧ mem' = mem) := by
  obtain ⟨⟨c0, c1, c2, c6, c7, c8, c9⟩, cO, cM⟩ := hC
  obtain ⟨i1, i2, i3, i4, i5, i6, i7, i8⟩ := hI
  have hM := (cM man h0 h1).2.2.2.2
  have hN := (i5 man h0 h1).2.2.2.2.1
  have hb := bk_neg hN.1
  have hb2 := bk_range hN.1 (by omega)
  clear cO cM i2 i3 i5
  refine CM.of (by decide +kernel) ([zr j, zi man]) (zok_all rfl) (Nat.le_of_ble_eq_true rfl) rfl ?_
  refine J_al0 dX2_isAtDinner_0 ?_
  refine M_getR dX2_isAtDinner_1 fl_X2_50 (isB_sh hj) rfl ?_
  refine J_il1 dX2_isAtDinner_4 ?_
  refine M_ald dX2_isAtDinner_5 (isB_a6 hj) (by decide) (by omega) ?_
  refine J_iflt (tgt := 13) dX2_isAtDinner_6 rfl (by omega) (fun c_6 => ?_) (fun c_6 => ?_)
  · skip
    refine J_iconst dX2_isAtDinner_13 ?_
    refine M_zret dX2_isAtDinner_14 rfl (by decide) ?_
    exact ⟨(bi_f (by omega)).symm, rfl⟩
  · skip
    refine J_iconst dX2_isAtDinner_9 ?_
    refine J_goto (tgt := 14) dX2_isAtDinner_10 rfl ?_
    refine M_zret dX2_isAtDinner_14 rfl (by decide) ?_
    exact ⟨(bi_t (by omega)).symm, rfl⟩
theorem k_isAwayForGood {mem : ZMem} {j : Nat} {r : Int → Int} {L : List Int} (hj : isB j) (hC : CB mem j r L) (hI : BInv r L) {man : Int} (h0 : 0 ≤ man) (h1 : man < r 3) (hh : r 4 ≤ 3000) : CI mX2_isAwayForGood 0 [zr j, zi man] mem (fun v mem' => v = bi (gn r man < 0) ∧ mem' = mem) := by
  obtain ⟨⟨c0, c1, c2, c6, c7, c8, c9⟩, cO, cM⟩ := hC
  obtain ⟨i1, i2, i3, i4, i5, i6, i7, i8⟩ := hI
  have hM := (cM man h0 h1).2.2.2.2
  have hN := (i5 man h0 h1).2.2.2.2.1
  have hb := bk_away hN.1
  have hb2 := bk_range hN.1 (by omega)
  clear cO cM i2 i3 i5
  refine CM.of (by decide +kernel) ([zr j, zi man]) (zok_all rfl) (Nat.le_of_ble_eq_true rfl) rfl ?_
  refine J_al0 dX2_isAwayForGood_0 ?_
  refine M_getR dX2_isAwayForGood_1 fl_X2_50 (isB_sh hj) rfl ?_
  refine J_il1 dX2_isAwayForGood_4 ?_
  refine M_ald dX2_isAwayForGood_5 (isB_a6 hj) (by decide) (by omega) ?_
  refine J_bipush dX2_isAwayForGood_6 rfl ?_
  refine J_cne (tgt := 15) dX2_isAwayForGood_8 rfl (by omega) (fun c_8 => ?_) (fun c_8 => ?_)
  · skip
    refine J_iconst dX2_isAwayForGood_15 ?_
    refine M_zret dX2_isAwayForGood_16 rfl (by decide) ?_
    exact ⟨(bi_f (by omega)).symm, rfl⟩
  · skip
    refine J_iconst dX2_isAwayForGood_11 ?_
    refine J_goto (tgt := 16) dX2_isAwayForGood_12 rfl ?_
    refine M_zret dX2_isAwayForGood_16 rfl (by decide) ?_
    exact ⟨(bi_t (by omega)).symm, rfl⟩
theorem k_goesWhenCalled {mem : ZMem} {r : Int → Int} {n m p k : Int} (hk : k = kd r m) (hr : 1 ≤ kd r m ∧ kd r m ≤ 5) : CI mX2_goesWhenCalled 3 [zi k, zi (bi (snyR r n p))] mem (fun v mem' => v = bi (goesR r n m p) ∧ mem' = mem) := by
  refine CM.of (by decide +kernel) ([zi k, zi (bi (snyR r n p))]) (zok_all rfl) (Nat.le_of_ble_eq_true rfl) rfl ?_
  refine J_il0 dX2_goesWhenCalled_0 ?_
  by_cases c_1 : k < 1 ∨ 5 < k
  · skip
    refine J_tsOut (tgt := 50) dX2_goesWhenCalled_1 c_1 (by omega) rfl ?_
    refine J_iconst dX2_goesWhenCalled_50 ?_
    refine M_zret dX2_goesWhenCalled_51 rfl (by decide) ?_
    exact ⟨(bi_f (by unfold goesR; rintro (q | q | q | q) <;> omega)).symm, rfl⟩
  have c_1 : k = 1 ∨ k = 2 ∨ k = 3 ∨ k = 4 ∨ k = 5 := by omega
  rcases c_1 with e_1 | e_1 | e_1 | e_1 | e_1
  · skip
    refine J_tsIn (off := 35) (tgt := 36) dX2_goesWhenCalled_1 (by omega) (by omega) (by omega) (by rw [e_1]; rfl) rfl ?_
    refine J_iconst dX2_goesWhenCalled_36 ?_
    refine M_zret dX2_goesWhenCalled_37 rfl (by decide) ?_
    exact ⟨(bi_t (by first | exact Or.inl (by omega) | exact Or.inr (Or.inl (by omega)))).symm, rfl⟩
  · skip
    refine J_tsIn (off := 37) (tgt := 38) dX2_goesWhenCalled_1 (by omega) (by omega) (by omega) (by rw [e_1]; rfl) rfl ?_
    refine J_il1 dX2_goesWhenCalled_38 ?_
    refine J_ifne_b (tgt := 46) dX2_goesWhenCalled_39 rfl (fun c_39 => ?_) (fun c_39 => ?_)
    · skip
      refine J_iconst dX2_goesWhenCalled_46 ?_
      refine M_zret dX2_goesWhenCalled_47 rfl (by decide) ?_
      first | exact ⟨(bi_t (Or.inr (Or.inr (Or.inl ⟨by omega, c_39⟩)))).symm, rfl⟩ | exact ⟨(bi_f (by unfold goesR; rintro (q | q | q | q) <;> first | omega | exact q.2 c_39)).symm, rfl⟩
    · skip
      refine J_iconst dX2_goesWhenCalled_42 ?_
      refine J_goto (tgt := 47) dX2_goesWhenCalled_43 rfl ?_
      refine M_zret dX2_goesWhenCalled_47 rfl (by decide) ?_
      first | exact ⟨(bi_t (Or.inr (Or.inr (Or.inl ⟨by omega, c_39⟩)))).symm, rfl⟩ | exact ⟨(bi_f (by unfold goesR; rintro (q | q | q | q) <;> first | omega | exact q.2 c_39)).symm, rfl⟩
  · skip
    refine J_tsIn (off := 35) (tgt := 36) dX2_goesWhenCalled_1 (by omega) (by omega) (by omega) (by rw [e_1]; rfl) rfl ?_
    refine J_iconst dX2_goesWhenCalled_36 ?_
    refine M_zret dX2_goesWhenCalled_37 rfl (by decide) ?_
    exact ⟨(bi_t (by first | exact Or.inl (by omega) | exact Or.inr (Or.inl (by omega)))).symm, rfl⟩
  · skip
    refine J_tsIn (off := 49) (tgt := 50) dX2_goesWhenCalled_1 (by omega) (by omega) (by omega) (by rw [e_1]; rfl) rfl ?_
    refine J_iconst dX2_goesWhenCalled_50 ?_
    refine M_zret dX2_goesWhenCalled_51 rfl (by decide) ?_
    exact ⟨(bi_f (by unfold goesR; rintro (q | q | q | q) <;> omega)).symm, rfl⟩
  · skip
    refine J_tsIn (off := 47) (tgt := 48) dX2_goesWhenCalled_1 (by omega) (by omega) (by omega) (by rw [e_1]; rfl) rfl ?_
    refine J_il1 dX2_goesWhenCalled_48 ?_
    refine M_zret dX2_goesWhenCalled_49 rfl (bi_01 _) ?_
    refine ⟨bi_congr ?_, rfl⟩
    unfold goesR
    constructor
    · intro q; exact Or.inr (Or.inr (Or.inr ⟨by omega, q⟩))
    · rintro (q | q | q | q)
      · omega
      · omega
      · omega
      · exact q.2
