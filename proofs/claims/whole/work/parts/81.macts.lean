theorem MS.bn {mem mem' : ZMem} {S : ZS} {b : BN} {U : List BN} (h : MS mem S) (r : MB (mem' 83) b.1 b.2) (u : MU mem' U) (h79 : ∀ x : Int, x = 1 ∨ x = 11 ∨ x = 18 ∨ x = 24 → mem' 79 x = mem 79 x) (e : ∀ q : Nat, 80 ≤ q → q ≤ 92 → q ≠ 83 → q ≠ 84 → q ≠ 85 → q ≠ 86 → q ≠ 88 → q ≠ 89 → mem' q = mem q) : MS mem' (S.uB b U) := by
  obtain ⟨g1, g2, g3, g4, g5, g6, g7, g8, g9⟩ := h
  refine ⟨?_, ?_, r, u, ?_, ?_, ?_, ?_, ?_⟩
  · unfold MRw at g1 ⊢
    rw [e 80 (by omega) (by omega) (by omega) (by omega) (by omega) (by omega) (by omega) (by omega), e 81 (by omega) (by omega) (by omega) (by omega) (by omega) (by omega) (by omega) (by omega), e 82 (by omega) (by omega) (by omega) (by omega) (by omega) (by omega) (by omega) (by omega)]
    exact g1
  · unfold MTp at g2 ⊢
    rw [h79 11 (by omega), e 87 (by omega) (by omega) (by omega) (by omega) (by omega) (by omega) (by omega) (by omega)]
    exact g2
  · unfold MIm at g5 ⊢
    rw [e 90 (by omega) (by omega) (by omega) (by omega) (by omega) (by omega) (by omega) (by omega), e 91 (by omega) (by omega) (by omega) (by omega) (by omega) (by omega) (by omega) (by omega)]
    exact g5
  · unfold MIm at g6 ⊢
    rw [e 90 (by omega) (by omega) (by omega) (by omega) (by omega) (by omega) (by omega) (by omega), e 91 (by omega) (by omega) (by omega) (by omega) (by omega) (by omega) (by omega) (by omega)]
    exact g6
  · unfold MTr at g7 ⊢
    rw [h79 24 (by omega), e 92 (by omega) (by omega) (by omega) (by omega) (by omega) (by omega) (by omega) (by omega)]
    exact g7
  · rw [h79 18 (by omega)]; exact g8
  · rw [h79 1 (by omega)]; exact g9
theorem MU.ext {mem mem' : ZMem} {U : List BN} (h : MU mem U) (h9 : mem' 79 9 = mem 79 9) (e : mem' 86 = mem 86) : MU mem' U := by
  unfold MU at h ⊢
  rw [h9, e]
  exact h
theorem SInv.ub {S : ZS} (h : SInv S) : ∀ u ∈ S.U, BInv u.1 u.2 := fun u hu => (h.2.2.1.2 u hu).1.1
theorem m_leave {mem : ZMem} {S : ZS} (hS : MS mem S) (hI : SInv S) {m : Int} (hmr : In32 m) : CI mX7_leave 2 [zr 79, zi m] mem (QM mem (sLeave S m)) := by
  have hb := hI.bi
  have b1 := hb.1
  have hr := hI.hr
  have h0 := hS.thr
  have hF : FrM mem (mset mem 79 0 0) := FrM.rf.set (by omega)
  generalize hm : mset mem 79 0 0 = m0 at *
  have hen := h0.men
  have hX := mbch h0
  refine CM.of (by decide +kernel) ([zr 79, zi m]) (zok_all rfl) (Nat.le_of_ble_eq_true rfl) rfl ?_
  refine J_al0 dX7_leave_0 ?_
  refine J_iconst dX7_leave_1 ?_
  refine M_put (ki := 0) dX7_leave_2 fl_X7_50 sh_79 rfl rfl rfl (fun r hr => by cases hr; rfl) ?_
  rw [hm]
  refine J_al0 dX7_leave_5 ?_
  refine J_il1 dX7_leave_6 ?_
  refine M_cvI1 dX7_leave_7 lk_X7_199 cw_X7_isMan sh_79 rfl rfl (k_isMan hmr (by omega)) (by decide) (Nat.le_of_ble_eq_true rfl) (fun v_7 mem_7 hq => ?_)
  obtain ⟨rfl, hq⟩ := hq; have hq := hq.symm; subst hq
  refine J_ifne_b (tgt := 16) dX7_leave_10 rfl (fun c_10 => ?_) (fun c_10 => ?_)
  · skip
    obtain ⟨k0, k1, k2, k3, k4⟩ := hX.2.2 m (by omega) (by omega)
    have hg := (hb.2.2.2.2.1 m (by omega) (by omega)).2.2.2.2.1
    refine J_al0 dX7_leave_16 ?_
    refine M_getR dX7_leave_17 fl_X7_19 sh_79 rfl ?_
    refine J_il1 dX7_leave_20 ?_
    refine J_iconst dX7_leave_21 ?_
    refine M_csI3 dX7_leave_22 lk_X7_163 cw_X7_of (k_of isW83 (by omega) (by omega)) (by decide) (Nat.le_of_ble_eq_true rfl) (fun v_22 mem_22 hq => ?_)
    obtain ⟨rfl, hq⟩ := hq; have hq := hq.symm; subst hq
    refine J_ifge (tgt := 31) dX7_leave_25 rfl (by omega) (fun c_25 => ?_) (fun c_25 => ?_)
    · skip
      refine J_al0 dX7_leave_31 ?_
      refine M_cvV0 dX7_leave_32 lk_X7_192 cw_X7_keep sh_79 rfl rfl (k_mkeep h0.2.2.2.1 hI.2.2.1.1 h0.2.2.1 hb hI.ub) (by decide) (Nat.le_of_ble_eq_true rfl) (fun mem_32 hq => ?_)
      obtain ⟨g1, g2, g3⟩ := hq
      refine J_al0 dX7_leave_35 ?_
      refine M_getR dX7_leave_36 fl_X7_19 sh_79 rfl ?_
      refine J_il1 dX7_leave_39 ?_
      refine J_iconst dX7_leave_40 ?_
      refine M_csV3 dX7_leave_41 lk_X7_177 cw_X7_getUp (k_getUp isW83 (by rw [g3 83 (by omega) (by omega)]; exact hX) hb (by omega)) (by decide) (Nat.le_of_ble_eq_true rfl) (fun mem_41 hq => ?_)
      obtain ⟨hM2, hF2, hs6, hs0⟩ := hq
      refine J_al0 dX7_leave_44 ?_
      refine M_getR dX7_leave_45 fl_X7_19 sh_79 rfl ?_
      refine J_bipush dX7_leave_48 rfl ?_
      refine M_ald dX7_leave_50 sh_83 (by decide) (by omega) ?_
      refine M_iret dX7_leave_51 rfl ?_
      unfold sLeave; rw [if_neg (by omega), if_neg (by omega)]
      refine ⟨hM2.1.2.2.2.2.2, h0.bn ⟨hM2, ?_, ?_⟩ (g1.ext (by rw [hF2 79 (by omega)]) (hF2 86 (by omega))) (fun x hx => by rw [hF2 79 (by omega)]; exact g2 x (by omega)) (fun q q1 q2 q3 q4 q5 q6 q7 q8 => by rw [hF2 q q3]; exact g3 q (by omega) q6), fun q hq => by rw [hF2 q (by omega), g3 q (by omega) (by omega)]; exact hF q hq⟩
      · rw [hs6, g3 83 (by omega) (by omega), h0.2.2.1.2.1]; show _ = zup S.b.1 (15 + 5 * m + 4) (-1) 6; rw [zup_n (by omega)]
      · rw [hs0, g3 83 (by omega) (by omega), h0.2.2.1.2.2]; show _ = bi (¬ zup S.b.1 (15 + 5 * m + 4) (-1) 3 = 0); rw [zup_n (by omega)]
    · skip
      refine J_ldc (n := -1000002) dX7_leave_28 co_X7_189 (by decide) ?_
      refine M_iret dX7_leave_30 rfl ?_
      unfold sLeave; rw [if_neg (by omega), if_pos (by omega)]; exact ⟨rfl, h0, hF⟩
  · skip
    refine J_ldc (n := -1000001) dX7_leave_13 co_X7_70 (by decide) ?_
    refine M_iret dX7_leave_15 rfl ?_
    unfold sLeave; rw [if_pos (by omega)]; exact ⟨rfl, h0, hF⟩
theorem m_come {mem : ZMem} {S : ZS} (hS : MS mem S) (hI : SInv S) {m : Int} (hmr : In32 m) : CI mX7_come 2 [zr 79, zi m] mem (QM mem (sCome S m)) := by
  have hb := hI.bi
  have b1 := hb.1
  have hr := hI.hr
  have h0 := hS.thr
  have hF : FrM mem (mset mem 79 0 0) := FrM.rf.set (by omega)
  generalize hm : mset mem 79 0 0 = m0 at *
  have hen := h0.men
  have hX := mbch h0
  refine CM.of (by decide +kernel) ([zr 79, zi m]) (zok_all rfl) (Nat.le_of_ble_eq_true rfl) rfl ?_
  refine J_al0 dX7_come_0 ?_
  refine J_iconst dX7_come_1 ?_
  refine M_put (ki := 0) dX7_come_2 fl_X7_50 sh_79 rfl rfl rfl (fun r hr => by cases hr; rfl) ?_
  rw [hm]
  refine J_al0 dX7_come_5 ?_
  refine J_il1 dX7_come_6 ?_
  refine M_cvI1 dX7_come_7 lk_X7_199 cw_X7_isMan sh_79 rfl rfl (k_isMan hmr (by omega)) (by decide) (Nat.le_of_ble_eq_true rfl) (fun v_7 mem_7 hq => ?_)
  obtain ⟨rfl, hq⟩ := hq; have hq := hq.symm; subst hq
  refine J_ifne_b (tgt := 16) dX7_come_10 rfl (fun c_10 => ?_) (fun c_10 => ?_)
  · skip
    obtain ⟨k0, k1, k2, k3, k4⟩ := hX.2.2 m (by omega) (by omega)
    have hg := (hb.2.2.2.2.1 m (by omega) (by omega)).2.2.2.2.1
    refine J_al0 dX7_come_16 ?_
    refine M_getR dX7_come_17 fl_X7_19 sh_79 rfl ?_
    refine J_il1 dX7_come_20 ?_
    refine J_iconst dX7_come_21 ?_
    refine M_csI3 dX7_come_22 lk_X7_163 cw_X7_of (k_of isW83 (by omega) (by omega)) (by decide) (Nat.le_of_ble_eq_true rfl) (fun v_22 mem_22 hq => ?_)
    obtain ⟨rfl, hq⟩ := hq; have hq := hq.symm; subst hq
    refine J_iflt (tgt := 31) dX7_come_25 rfl (by omega) (fun c_25 => ?_) (fun c_25 => ?_)
    · skip
      refine J_al0 dX7_come_31 ?_
      refine M_cvV0 dX7_come_32 lk_X7_192 cw_X7_keep sh_79 rfl rfl (k_mkeep h0.2.2.2.1 hI.2.2.1.1 h0.2.2.1 hb hI.ub) (by decide) (Nat.le_of_ble_eq_true rfl) (fun mem_32 hq => ?_)
      obtain ⟨g1, g2, g3⟩ := hq
      have hX2 : MX (mem_32 83) S.b.1 S.b.2 := by rw [g3 83 (by omega) (by omega)]; exact hX
      have h7 : mem_32 83 7 = (S.b.2.length : Int) := hX2.1.2.2.2.2.2
      have hnm : m ∉ S.b.2 := fun q => by
        have := (hb.2.2.2.2.1 m (by omega) (by omega)).2.2.2.2.2.mpr q
        omega
      have hl1 := hb.len1 (m := m) (by omega) (by omega) hnm
      have hcI := cmR_inv (b := S.b) hb (m := m) (by omega) (by omega) (by omega)
      have hpp : 0 ≤ plc (cmR S.b m).2 m := plc_mem.mpr (mem_ins.mpr (Or.inl rfl))
      refine J_al0 dX7_come_35 ?_
      refine M_getR dX7_come_36 fl_X7_19 sh_79 rfl ?_
      refine J_il1 dX7_come_39 ?_
      refine J_al0 dX7_come_40 ?_
      refine M_getR dX7_come_41 fl_X7_19 sh_79 rfl ?_
      refine J_bipush dX7_come_44 rfl ?_
      refine M_ald dX7_come_46 sh_83 (by decide) (by omega) ?_
      rw [h7]
      refine M_csV3 dX7_come_47 lk_X7_170 cw_X7_sitDown (k_sitDown isW83 hX2 (by omega) (by omega) (by omega)) (by decide) (Nat.le_of_ble_eq_true rfl) (fun mem_47 hq => ?_)
      obtain ⟨hM2, hF2, hs6, hs0⟩ := hq
      have hM2 : MX (mem_47 83) (cmR S.b m).1 (cmR S.b m).2 := hM2
      refine J_al0 dX7_come_50 ?_
      refine M_getR dX7_come_51 fl_X7_19 sh_79 rfl ?_
      refine J_il1 dX7_come_54 ?_
      refine M_csI2 dX7_come_55 lk_X7_156 cw_X7_placeOf (k_mplaceOf isW83 hM2 hcI hmr) (by decide) (Nat.le_of_ble_eq_true rfl) (fun v_55 mem_55 hq => ?_)
      obtain ⟨rfl, hq⟩ := hq; have hq := hq.symm; subst hq
      refine M_iret dX7_come_58 rfl ?_
      unfold sCome; rw [if_neg (by omega), if_pos (by omega)]
      refine ⟨by unfold pN; rw [if_neg (by omega)], h0.bn ⟨hM2, ?_, ?_⟩ (g1.ext (by rw [hF2 79 (by omega)]) (hF2 86 (by omega))) (fun x hx => by rw [hF2 79 (by omega)]; exact g2 x (by omega)) (fun q q1 q2 q3 q4 q5 q6 q7 q8 => by rw [hF2 q q3]; exact g3 q (by omega) q6), fun q hq => by rw [hF2 q (by omega), g3 q (by omega) (by omega)]; exact hF q hq⟩
      · rw [hs6, g3 83 (by omega) (by omega), h0.2.2.1.2.1]; show _ = zup S.b.1 (15 + 5 * m + 4) 0 6; rw [zup_n (by omega)]
      · rw [hs0, g3 83 (by omega) (by omega), h0.2.2.1.2.2]; show _ = bi (¬ zup S.b.1 (15 + 5 * m + 4) 0 3 = 0); rw [zup_n (by omega)]
    · skip
      refine J_ldc (n := -1000002) dX7_come_28 co_X7_189 (by decide) ?_
      refine M_iret dX7_come_30 rfl ?_
      unfold sCome; rw [if_neg (by omega), if_neg (by omega)]; exact ⟨rfl, h0, hF⟩
  · skip
    refine J_ldc (n := -1000001) dX7_come_13 co_X7_70 (by decide) ?_
    refine M_iret dX7_come_15 rfl ?_
    unfold sCome; rw [if_pos (by omega)]; exact ⟨rfl, h0, hF⟩
