theorem k_sendAway {mem : ZMem} {j : Nat} {r : Int → Int} {L : List Int} (hj : isB j) (hC : CB mem j r L) (hI : BInv r L) {man : Int} (h0 : 0 ≤ man) (h1 : man < r 3) : CV mX2_sendAway 1 [zr j, zi man] mem (fun mem' => CB mem' j (goneR (r, L) man (-1)).1 (goneR (r, L) man (-1)).2 ∧ FrB j mem mem') := by
  have hl := hI.len
  have i1 := hI.1
  have hp := plc_range L man
  refine CM.of (by decide +kernel) ([zr j, zi man, zu]) (zok_all rfl) (Nat.le_of_ble_eq_true rfl) rfl ?_
  refine J_al0 dX2_sendAway_0 ?_
  refine J_il1 dX2_sendAway_1 ?_
  refine M_cvI1 dX2_sendAway_2 lk_X2_73 cw_X2_placeOf (isB_sh hj) rfl rfl (k_placeOf hj hC hI (by omega)) (by decide) (Nat.le_of_ble_eq_true rfl) (fun v_2 mem_2 hq => ?_)
  obtain ⟨rfl, hq⟩ := hq; have hq := hq.symm; subst hq
  refine J_is2 dX2_sendAway_5 (by decide) rfl ?_
  refine J_il2 dX2_sendAway_6 ?_
  refine J_iflt (tgt := 15) dX2_sendAway_7 rfl (by omega) (fun c_7 => ?_) (fun c_7 => ?_)
  · skip
    refine J_al0 dX2_sendAway_15 ?_
    refine M_getR dX2_sendAway_16 fl_X2_50 (isB_sh hj) rfl ?_
    refine J_il1 dX2_sendAway_19 ?_
    refine J_bipush dX2_sendAway_20 rfl ?_
    refine M_ast dX2_sendAway_22 (isB_a6 hj) (by decide) (by omega) ?_
    refine M_vret dX2_sendAway_23 rfl ?_
    first | (refine ⟨?_, (FrB.set hF2 (by omega) (by omega))⟩; unfold goneR remL; rw [if_pos c_7]; exact CB.goned (g := -1) hC2 h0) | (refine ⟨?_, (FrB.set FrB.rf (by omega) (by omega))⟩; unfold goneR remL; rw [if_neg (by show ¬ 0 ≤ plc L man; omega)]; exact CB.goned (g := -1) hC h0)
  · skip
    refine J_al0 dX2_sendAway_10 ?_
    refine J_il2 dX2_sendAway_11 ?_
    refine M_cvV1 dX2_sendAway_12 lk_X2_106 cw_X2_unseat (isB_sh hj) rfl rfl (k_unseat hj hC c_7 hp.2 (by omega)) (by decide) (Nat.le_of_ble_eq_true rfl) (fun mem_12 hq => ?_)
    obtain ⟨hC2, hF2⟩ := hq
    refine J_al0 dX2_sendAway_15 ?_
    refine M_getR dX2_sendAway_16 fl_X2_50 (isB_sh hj) rfl ?_
    refine J_il1 dX2_sendAway_19 ?_
    refine J_bipush dX2_sendAway_20 rfl ?_
    refine M_ast dX2_sendAway_22 (isB_a6 hj) (by decide) (by omega) ?_
    refine M_vret dX2_sendAway_23 rfl ?_
    first | (refine ⟨?_, (FrB.set hF2 (by omega) (by omega))⟩; unfold goneR remL; rw [if_pos c_7]; exact CB.goned (g := -1) hC2 h0) | (refine ⟨?_, (FrB.set FrB.rf (by omega) (by omega))⟩; unfold goneR remL; rw [if_neg (by show ¬ 0 ≤ plc L man; omega)]; exact CB.goned (g := -1) hC h0)
theorem k_takeSnuff {mem : ZMem} {j : Nat} {r : Int → Int} {L : List Int} (hj : isB j) (hC : CB mem j r L) (hI : BInv r L) {man : Int} (hm : -2147483648 ≤ man ∧ man < 2147483648) : CV mX2_takeSnuff 1 [zr j, zi man] mem (fun mem' => CB mem' j (snf (r, L) man).1 (snf (r, L) man).2 ∧ FrB j mem mem') := by
  have hl := hI.len
  have i1 := hI.1
  have hp := plc_range L man
  have hv := plc_at (L := L) (m := man)
  refine CM.of (by decide +kernel) ([zr j, zi man, zu]) (zok_all rfl) (Nat.le_of_ble_eq_true rfl) rfl ?_
  refine J_al0 dX2_takeSnuff_0 ?_
  refine J_il1 dX2_takeSnuff_1 ?_
  refine M_cvI1 dX2_takeSnuff_2 lk_X2_73 cw_X2_placeOf (isB_sh hj) rfl rfl (k_placeOf hj hC hI hm) (by decide) (Nat.le_of_ble_eq_true rfl) (fun v_2 mem_2 hq => ?_)
  obtain ⟨rfl, hq⟩ := hq; have hq := hq.symm; subst hq
  refine J_is2 dX2_takeSnuff_5 (by decide) rfl ?_
  refine J_il2 dX2_takeSnuff_6 ?_
  refine J_ifgt (tgt := 11) dX2_takeSnuff_7 rfl (by omega) (fun c_7 => ?_) (fun c_7 => ?_)
  · skip
    refine J_al0 dX2_takeSnuff_11 ?_
    refine M_getR dX2_takeSnuff_12 fl_X2_44 (isB_sh hj) rfl ?_
    refine J_il2 dX2_takeSnuff_15 ?_
    refine J_al0 dX2_takeSnuff_16 ?_
    refine M_getR dX2_takeSnuff_17 fl_X2_44 (isB_sh hj) rfl ?_
    refine J_il2 dX2_takeSnuff_20 ?_
    refine J_iconst dX2_takeSnuff_21 ?_
    refine J_isub dX2_takeSnuff_22 ?_
    refine M_ald dX2_takeSnuff_23 (isB_a4 hj) (by decide) (by omega) ?_
    refine M_ast dX2_takeSnuff_24 (isB_a4 hj) (by decide) (by omega) ?_
    refine J_al0 dX2_takeSnuff_25 ?_
    refine M_getR dX2_takeSnuff_26 fl_X2_44 (isB_sh hj) rfl ?_
    refine J_il2 dX2_takeSnuff_29 ?_
    refine J_iconst dX2_takeSnuff_30 ?_
    refine J_isub dX2_takeSnuff_31 ?_
    refine J_il1 dX2_takeSnuff_32 ?_
    refine M_ast dX2_takeSnuff_33 (isB_a4 hj) (by decide) (by omega) ?_
    refine J_al0 dX2_takeSnuff_34 ?_
    refine J_dup dX2_takeSnuff_35 rfl ?_
    refine M_get (ki := 7) dX2_takeSnuff_36 fl_X2_34 (isB_sh hj) rfl rfl ?_
    refine J_iconst dX2_takeSnuff_39 ?_
    refine J_iadd dX2_takeSnuff_40 ?_
    refine M_put (ki := 7) dX2_takeSnuff_41 fl_X2_34 (isB_sh hj) rfl rfl rfl (fun r hr => by cases hr; rfl) ?_
    refine M_vret dX2_takeSnuff_44 rfl ?_
    refine ⟨?_, FrB.set (FrB.set (FrB.set FrB.rf (by omega) (by omega)) (by omega) (by omega)) (by omega) (by omega)⟩
    unfold snf
    rw [if_pos (show 0 < plc (r, L).2 man from c_7)]
    show CB _ j (zup r 6 (r 6 + 1)) (swp L (plc L man))
    exact CB.snuffd hC c_7 hp.2 (by rw [mset_s, mset_n (by omega), mset_n (by omega)]) (fun i hi => by rw [mset_i hi, mset_n (by omega), mset_n (by omega)]) (by rw [mset_n (by omega), mset_n (by omega), mset_n (by omega)]) (by rw [mset_n (by omega), mset_n (by omega), mset_n (by omega)]) (by rw [mset_n (by omega), mset_n (by omega), mset_n (by omega)]) (by rw [mset_n (by omega), mset_n (by omega), mset_n (by omega)]) (by rw [mset_n (by omega), mset_n (by omega), mset_n (by omega)]) (fun x x0 x1 => by rw [mset_n (by omega), mset_i x1, mset_i x0]) (by rw [mset_n (by omega), mset_i (by omega), mset_s]) (by rw [mset_n (by omega), mset_s]; exact (hv (Int.le_of_lt c_7)).symm)
  · skip
    refine M_vret dX2_takeSnuff_10 rfl ?_
    refine ⟨?_, FrB.rf⟩
    unfold snf
    rw [if_neg (by show ¬ 0 < plc L man; omega)]
    exact hC
