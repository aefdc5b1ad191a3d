theorem kp_len (b : BN) (U : List BN) : (kp b U).length ≤ 24 := by unfold kp; rw [List.length_take]; omega
theorem hkN_inv {b : BN} (h : BInv b.1 b.2) (U : List BN) : ∀ k : Nat, (hkN k (b, U)).1 = (hrs k b).1
  | 0 => rfl
  | k + 1 => by
    show (hourR (fun _ => True) (hkN k (b, U)).1).1 = (hourR (fun _ => True) (hrs k b).1).1
    rw [hkN_inv h U k]
theorem c_hours {mem : ZMem} {S : ZS} (hC : CS mem S) (hI : SInv S) {n : Int} (hn : In32 n) : CI mX6_hours 6 [zr 0, zi n] mem (QS mem (sHours S n)) := by
  have hb := hI.bi
  have hr := hI.hr
  have hm := hC.men
  have h4 : mem 16 6 = S.b.1 4 := hC.2.2.1.1.2.2.2.1
  have b1 := hb.1
  have b4 := hb.2.2.2.1
  have loop : 1 ≤ n → n ≤ 24 → S.b.1 4 + n ≤ 999 → ¬ S.b.1 3 = 0 → ∀ (c kn : Nat) (k : Int) (m2 : ZMem), k = kn → k ≤ n → n - k ≤ c → CB m2 16 (hkN kn (S.b, S.U)).1.1 (hkN kn (S.b, S.U)).1.2 → AcC m2 (hkN kn (S.b, S.U)).2 → (∀ q : Nat, (q < 16 ∨ 48 < q) → m2 q = mem q) → JM mX6_hours 6 (QI (QS mem (sHours S n))) 43 [zr 0, zi n, zi k] [] m2 := by
    intro n1 n2 n3 n4 c
    have fin : ∀ (kn : Nat) (k : Int) (m2 : ZMem), k = kn → k = n → CB m2 16 (hkN kn (S.b, S.U)).1.1 (hkN kn (S.b, S.U)).1.2 → AcC m2 (hkN kn (S.b, S.U)).2 → (∀ q : Nat, (q < 16 ∨ 48 < q) → m2 q = mem q) → JM mX6_hours 6 (QI (QS mem (sHours S n))) 74 [zr 0, zi n, zi k] [] m2 := by
      intro kn k m2 e0 e1 a3 a4 a5
      have e : kn = n.toNat := by omega
      have hI2 := (hrs_inv (b := S.b) hb kn).1
      rw [← hkN_inv hb S.U kn] at hI2
      have hl := hI2.len
      have hl2 := hI2.1
      refine J_al0 dX6_hours_74 ?_
      refine M_getR dX6_hours_75 fl_X6_26 sh_0 rfl ?_
      refine M_cvI0 dX6_hours_78 lk_X6_155 cw_X2_sittersAsBits sh_16 rfl rfl (k_sittersAsBits (Or.inl rfl) a3 (by omega)) (by decide) (Nat.le_of_ble_eq_true rfl) (fun v_78 mem_78 hq => ?_)
      obtain ⟨rfl, hq⟩ := hq; have hq := hq.symm; subst hq
      refine M_iret dX6_hours_81 rfl ?_
      unfold sHours; rw [if_neg n4, if_neg (by omega), if_neg (by omega), ← e]
      exact ⟨rfl, hC.bn a3 a4 (fun q q1 q2 => a5 q q1), fun q hq => a5 q (by omega)⟩
    induction c with
    | zero =>
      intro kn k m2 e0 a1 a2 a3 a4 a5
      refine J_il2 dX6_hours_43 ?_
      refine J_il1 dX6_hours_44 ?_
      refine J_cge (tgt := 74) dX6_hours_45 rfl (by omega) (fun c_45 => ?_) (fun c_45 => ?_)
      · skip
        exact fin kn k m2 e0 (by omega) a3 a4 a5
      · skip
        omega
    | succ c ih =>
      intro kn k m2 e0 a1 a2 a3 a4 a5
      obtain ⟨hI2, hK2, h42, -⟩ := hrs_inv (b := S.b) hb kn
      rw [← hkN_inv hb S.U kn] at hI2 h42
      have hl := hI2.len
      have hl2 := hI2.1
      refine J_il2 dX6_hours_43 ?_
      refine J_il1 dX6_hours_44 ?_
      refine J_cge (tgt := 74) dX6_hours_45 rfl (by omega) (fun c_45 => ?_) (fun c_45 => ?_)
      · skip
        exact fin kn k m2 e0 (by omega) a3 a4 a5
      · skip
        refine J_al0 dX6_hours_48 ?_
        refine M_getR dX6_hours_49 fl_X6_33 sh_0 rfl ?_
        refine J_al0 dX6_hours_52 ?_
        refine M_getR dX6_hours_53 fl_X6_26 sh_0 rfl ?_
        refine M_cvV1 dX6_hours_56 lk_X6_149 cw_X0_keep sh_23 rfl rfl (k_keep a4 a3 (by omega) (by omega) hI2.2.2.2.2.2.2.2) (by decide) (Nat.le_of_ble_eq_true rfl) (fun mem_56 hq => ?_)
        obtain ⟨hA, hF⟩ := hq
        refine J_al0 dX6_hours_59 ?_
        refine M_getR dX6_hours_60 fl_X6_26 sh_0 rfl ?_
        refine J_iconst dX6_hours_63 ?_
        refine M_cvI1 dX6_hours_64 lk_X6_152 cw_X2_passHour sh_16 rfl rfl (k_passHour (Or.inl rfl) (a3.ext (fun q q0 q1 => hF q (by omega) (by omega))) hI2 (by omega) (fun _ => True) fgt0) (by decide) (Nat.le_of_ble_eq_true rfl) (fun v_64 mem_64 hq => ?_)
        obtain ⟨rfl, hC2, hF2⟩ := hq
        refine J_pop dX6_hours_67 rfl ?_
        refine J_inc2 dX6_hours_68 (by decide) rfl ?_
        refine J_goto (tgt := 43) dX6_hours_71 rfl ?_
        exact ih (kn + 1) (k + 1) _ (by omega) (by omega) (by omega) hC2 (hA.ext (fun q q0 q1 => hF2 q (by omega))) (fun q hq => by rw [hF2 q (by omega), hF q (by omega) (by omega), a5 q hq])
  refine CM.of (by decide +kernel) ([zr 0, zi n, zu]) (zok_all rfl) (Nat.le_of_ble_eq_true rfl) rfl ?_
  refine J_al0 dX6_hours_0 ?_
  refine M_cvI0 dX6_hours_1 lk_X6_143 cw_X6_noBench sh_0 rfl rfl (k_noBench (by omega)) (by decide) (Nat.le_of_ble_eq_true rfl) (fun v_1 mem_1 hq => ?_)
  obtain ⟨rfl, hq⟩ := hq; have hq := hq.symm; subst hq
  refine J_ifeq_b (tgt := 10) dX6_hours_4 rfl (fun c_4 => ?_) (fun c_4 => ?_)
  · skip
    refine J_il1 dX6_hours_10 ?_
    refine J_iconst dX6_hours_11 ?_
    refine J_bipush dX6_hours_12 rfl ?_
    refine M_csI3 dX6_hours_14 lk_X6_67 cw_X6_outside (k_outside hn (by omega) (by omega)) (by decide) (Nat.le_of_ble_eq_true rfl) (fun v_14 mem_14 hq => ?_)
    obtain ⟨rfl, hq⟩ := hq; have hq := hq.symm; subst hq
    refine J_ifeq_b (tgt := 23) dX6_hours_17 rfl (fun c_17 => ?_) (fun c_17 => ?_)
    · skip
      refine J_al0 dX6_hours_23 ?_
      refine M_getR dX6_hours_24 fl_X6_26 sh_0 rfl ?_
      refine M_get (ki := 6) dX6_hours_27 fl_X6_146 sh_16 rfl rfl ?_
      refine J_il1 dX6_hours_30 ?_
      refine J_iadd dX6_hours_31 ?_
      refine J_sipush dX6_hours_32 rfl ?_
      refine J_cle (tgt := 41) dX6_hours_35 rfl (by omega) (fun c_35 => ?_) (fun c_35 => ?_)
      · skip
        refine J_iconst dX6_hours_41 ?_
        refine J_is2 dX6_hours_42 (by decide) rfl ?_
        exact loop (by omega) (by omega) (by omega) (by omega) n.toNat 0 0 _ rfl (by omega) (by omega) hC.2.2.1 hC.2.2.2.1 (fun _ _ => rfl)
      · skip
        refine J_ldc (n := -1000003) dX6_hours_38 co_X6_110 (by decide) ?_
        refine M_iret dX6_hours_40 rfl ?_
        unfold sHours; rw [if_neg (by omega), if_neg (by omega), if_pos (by omega)]; exact ⟨rfl, hC, FrC.rf⟩
    · skip
      refine J_ldc (n := -1000001) dX6_hours_20 co_X6_71 (by decide) ?_
      refine M_iret dX6_hours_22 rfl ?_
      unfold sHours; rw [if_neg (by omega), if_pos (by omega)]; exact ⟨rfl, hC, FrC.rf⟩
  · skip
    refine J_ldc (n := -1000002) dX6_hours_7 co_X6_139 (by decide) ?_
    refine M_iret dX6_hours_9 rfl ?_
    unfold sHours; rw [if_pos (by omega)]; exact ⟨rfl, hC, FrC.rf⟩
theorem c_snuff {mem : ZMem} {S : ZS} (hC : CS mem S) (hI : SInv S) {m : Int} (hm : In32 m) : CI mX6_snuff 2 [zr 0, zi m] mem (QS mem (sSnuff S m)) := by
  have hb := hI.bi
  have hen := hC.men
  have b1 := hb.1
  have hl := hb.len
  have hp := plc_range S.b.2 m
  refine CM.of (by decide +kernel) ([zr 0, zi m]) (zok_all rfl) (Nat.le_of_ble_eq_true rfl) rfl ?_
  refine J_al0 dX6_snuff_0 ?_
  refine J_il1 dX6_snuff_1 ?_
  refine M_cvI1 dX6_snuff_2 lk_X6_159 cw_X6_noMan sh_0 rfl rfl (k_noMan hm (by omega)) (by decide) (Nat.le_of_ble_eq_true rfl) (fun v_2 mem_2 hq => ?_)
  obtain ⟨rfl, hq⟩ := hq; have hq := hq.symm; subst hq
  refine J_ifeq_b (tgt := 11) dX6_snuff_5 rfl (fun c_5 => ?_) (fun c_5 => ?_)
  · skip
    refine J_al0 dX6_snuff_11 ?_
    refine M_getR dX6_snuff_12 fl_X6_26 sh_0 rfl ?_
    refine J_il1 dX6_snuff_15 ?_
    refine M_cvI1 dX6_snuff_16 lk_X6_162 cw_X2_placeOf sh_16 rfl rfl (k_placeOf (Or.inl rfl) hC.2.2.1 hb hm) (by decide) (Nat.le_of_ble_eq_true rfl) (fun v_16 mem_16 hq => ?_)
    obtain ⟨rfl, hq⟩ := hq; have hq := hq.symm; subst hq
    refine J_ifgt (tgt := 25) dX6_snuff_19 rfl (by omega) (fun c_19 => ?_) (fun c_19 => ?_)
    · skip
      refine J_al0 dX6_snuff_25 ?_
      refine M_getR dX6_snuff_26 fl_X6_33 sh_0 rfl ?_
      refine J_al0 dX6_snuff_29 ?_
      refine M_getR dX6_snuff_30 fl_X6_26 sh_0 rfl ?_
      refine M_cvV1 dX6_snuff_33 lk_X6_149 cw_X0_keep sh_23 rfl rfl (k_keep hC.2.2.2.1 hC.2.2.1 (by omega) (by omega) hb.2.2.2.2.2.2.2) (by decide) (Nat.le_of_ble_eq_true rfl) (fun mem_33 hq => ?_)
      obtain ⟨hA, hF⟩ := hq
      refine J_al0 dX6_snuff_36 ?_
      refine M_getR dX6_snuff_37 fl_X6_26 sh_0 rfl ?_
      refine J_il1 dX6_snuff_40 ?_
      refine M_cvV1 dX6_snuff_41 lk_X6_165 cw_X2_takeSnuff sh_16 rfl rfl (k_takeSnuff (Or.inl rfl) (hC.2.2.1.ext (fun q q0 q1 => hF q (by omega) (by omega))) hb hm) (by decide) (Nat.le_of_ble_eq_true rfl) (fun mem_41 hq => ?_)
      obtain ⟨hB, hG⟩ := hq
      refine J_al0 dX6_snuff_44 ?_
      refine M_getR dX6_snuff_45 fl_X6_26 sh_0 rfl ?_
      refine J_il1 dX6_snuff_48 ?_
      refine M_cvI1 dX6_snuff_49 lk_X6_162 cw_X2_placeOf sh_16 rfl rfl (k_placeOf (Or.inl rfl) hB (snf_inv hb m) hm) (by decide) (Nat.le_of_ble_eq_true rfl) (fun v_49 mem_49 hq => ?_)
      obtain ⟨rfl, hq⟩ := hq; have hq := hq.symm; subst hq
      refine M_iret dX6_snuff_52 rfl ?_
      unfold sSnuff; rw [if_neg (by omega), if_neg (by omega)]
      exact ⟨rfl, hC.bn hB (hA.ext (fun q q0 q1 => hG q (by omega))) (fun q q1 q2 => by rw [hG q (by omega), hF q (by omega) (by omega)]), fun q hq => by rw [hG q (by omega), hF q (by omega) (by omega)]⟩
    · skip
      refine J_ldc (n := -1000002) dX6_snuff_22 co_X6_139 (by decide) ?_
      refine M_iret dX6_snuff_24 rfl ?_
      unfold sSnuff; rw [if_neg (by omega), if_pos (by omega)]; exact ⟨rfl, hC, FrC.rf⟩
  · skip
    refine J_ldc (n := -1000001) dX6_snuff_8 co_X6_71 (by decide) ?_
    refine M_iret dX6_snuff_10 rfl ?_
    unfold sSnuff; rw [if_pos (by omega)]; exact ⟨rfl, hC, FrC.rf⟩
theorem c_leave {mem : ZMem} {S : ZS} (hC : CS mem S) (hI : SInv S) {m : Int} (hm : In32 m) : CI mX6_leave 2 [zr 0, zi m] mem (QS mem (sLeave S m)) := by
  have hb := hI.bi
  have hr := hI.hr
  have hen := hC.men
  have b1 := hb.1
  have hl := hb.len
  refine CM.of (by decide +kernel) ([zr 0, zi m]) (zok_all rfl) (Nat.le_of_ble_eq_true rfl) rfl ?_
  refine J_al0 dX6_leave_0 ?_
  refine J_il1 dX6_leave_1 ?_
  refine M_cvI1 dX6_leave_2 lk_X6_159 cw_X6_noMan sh_0 rfl rfl (k_noMan hm (by omega)) (by decide) (Nat.le_of_ble_eq_true rfl) (fun v_2 mem_2 hq => ?_)
  obtain ⟨rfl, hq⟩ := hq; have hq := hq.symm; subst hq
  refine J_ifeq_b (tgt := 11) dX6_leave_5 rfl (fun c_5 => ?_) (fun c_5 => ?_)
  · skip
    refine J_al0 dX6_leave_11 ?_
    refine M_getR dX6_leave_12 fl_X6_26 sh_0 rfl ?_
    refine J_il1 dX6_leave_15 ?_
    refine M_cvI1 dX6_leave_16 lk_X6_169 cw_X2_isAwayForGood sh_16 rfl rfl (k_isAwayForGood (Or.inl rfl) hC.2.2.1 hb (by omega) (by omega) (by omega)) (by decide) (Nat.le_of_ble_eq_true rfl) (fun v_16 mem_16 hq => ?_)
    obtain ⟨rfl, hq⟩ := hq; have hq := hq.symm; subst hq
    refine J_ifeq_b (tgt := 25) dX6_leave_19 rfl (fun c_19 => ?_) (fun c_19 => ?_)
    · skip
      refine J_al0 dX6_leave_25 ?_
      refine M_getR dX6_leave_26 fl_X6_33 sh_0 rfl ?_
      refine J_al0 dX6_leave_29 ?_
      refine M_getR dX6_leave_30 fl_X6_26 sh_0 rfl ?_
      refine M_cvV1 dX6_leave_33 lk_X6_149 cw_X0_keep sh_23 rfl rfl (k_keep hC.2.2.2.1 hC.2.2.1 (by omega) (by omega) hb.2.2.2.2.2.2.2) (by decide) (Nat.le_of_ble_eq_true rfl) (fun mem_33 hq => ?_)
      obtain ⟨hA, hF⟩ := hq
      refine J_al0 dX6_leave_36 ?_
      refine M_getR dX6_leave_37 fl_X6_26 sh_0 rfl ?_
      refine J_il1 dX6_leave_40 ?_
      refine M_cvV1 dX6_leave_41 lk_X6_172 cw_X2_sendAway sh_16 rfl rfl (k_sendAway (Or.inl rfl) (hC.2.2.1.ext (fun q q0 q1 => hF q (by omega) (by omega))) hb (by omega) (by omega)) (by decide) (Nat.le_of_ble_eq_true rfl) (fun mem_41 hq => ?_)
      obtain ⟨hB, hG⟩ := hq
      refine J_al0 dX6_leave_44 ?_
      refine M_getR dX6_leave_45 fl_X6_26 sh_0 rfl ?_
      refine M_get (ki := 9) dX6_leave_48 fl_X6_175 sh_16 rfl rfl ?_
      refine M_iret dX6_leave_51 rfl ?_
      unfold sLeave; rw [if_neg (by omega), if_neg (by omega)]
      exact ⟨hB.1.2.2.2.2.2.2, hC.bn hB (hA.ext (fun q q0 q1 => hG q (by omega))) (fun q q1 q2 => by rw [hG q (by omega), hF q (by omega) (by omega)]), fun q hq => by rw [hG q (by omega), hF q (by omega) (by omega)]⟩
    · skip
      refine J_ldc (n := -1000002) dX6_leave_22 co_X6_139 (by decide) ?_
      refine M_iret dX6_leave_24 rfl ?_
      unfold sLeave; rw [if_neg (by omega), if_pos (by omega)]; exact ⟨rfl, hC, FrC.rf⟩
  · skip
    refine J_ldc (n := -1000001) dX6_leave_8 co_X6_71 (by decide) ?_
    refine M_iret dX6_leave_10 rfl ?_
    unfold sLeave; rw [if_pos (by omega)]; exact ⟨rfl, hC, FrC.rf⟩
theorem c_come {mem : ZMem} {S : ZS} (hC : CS mem S) (hI : SInv S) {m : Int} (hm : In32 m) : CI mX6_come 2 [zr 0, zi m] mem (QS mem (sCome S m)) := by
  have hb := hI.bi
  have hr := hI.hr
  have hen := hC.men
  have b1 := hb.1
  have hl := hb.len
  refine CM.of (by decide +kernel) ([zr 0, zi m]) (zok_all rfl) (Nat.le_of_ble_eq_true rfl) rfl ?_
  refine J_al0 dX6_come_0 ?_
  refine J_il1 dX6_come_1 ?_
  refine M_cvI1 dX6_come_2 lk_X6_159 cw_X6_noMan sh_0 rfl rfl (k_noMan hm (by omega)) (by decide) (Nat.le_of_ble_eq_true rfl) (fun v_2 mem_2 hq => ?_)
  obtain ⟨rfl, hq⟩ := hq; have hq := hq.symm; subst hq
  refine J_ifeq_b (tgt := 11) dX6_come_5 rfl (fun c_5 => ?_) (fun c_5 => ?_)
  · skip
    refine J_al0 dX6_come_11 ?_
    refine M_getR dX6_come_12 fl_X6_26 sh_0 rfl ?_
    refine J_il1 dX6_come_15 ?_
    refine M_cvI1 dX6_come_16 lk_X6_169 cw_X2_isAwayForGood sh_16 rfl rfl (k_isAwayForGood (Or.inl rfl) hC.2.2.1 hb (by omega) (by omega) (by omega)) (by decide) (Nat.le_of_ble_eq_true rfl) (fun v_16 mem_16 hq => ?_)
    obtain ⟨rfl, hq⟩ := hq; have hq := hq.symm; subst hq
    refine J_ifne_b (tgt := 25) dX6_come_19 rfl (fun c_19 => ?_) (fun c_19 => ?_)
    · skip
      refine J_al0 dX6_come_25 ?_
      refine M_getR dX6_come_26 fl_X6_33 sh_0 rfl ?_
      refine J_al0 dX6_come_29 ?_
      refine M_getR dX6_come_30 fl_X6_26 sh_0 rfl ?_
      refine M_cvV1 dX6_come_33 lk_X6_149 cw_X0_keep sh_23 rfl rfl (k_keep hC.2.2.2.1 hC.2.2.1 (by omega) (by omega) hb.2.2.2.2.2.2.2) (by decide) (Nat.le_of_ble_eq_true rfl) (fun mem_33 hq => ?_)
      obtain ⟨hA, hF⟩ := hq
      have hB0 := hC.2.2.1.ext (mem' := mem_33) (fun q q0 q1 => hF q (by omega) (by omega))
      have h9 : mem_33 16 9 = (S.b.2.length : Int) := hB0.1.2.2.2.2.2.2
      have hnm : m ∉ S.b.2 := fun q => by
        have := (hb.2.2.2.2.1 m (by omega) (by omega)).2.2.2.2.2.mpr q
        omega
      have hl1 := hb.len1 (m := m) (by omega) (by omega) hnm
      refine J_al0 dX6_come_36 ?_
      refine M_getR dX6_come_37 fl_X6_26 sh_0 rfl ?_
      refine J_il1 dX6_come_40 ?_
      refine J_al0 dX6_come_41 ?_
      refine M_getR dX6_come_42 fl_X6_26 sh_0 rfl ?_
      refine M_get (ki := 9) dX6_come_45 fl_X6_175 sh_16 rfl rfl ?_
      rw [h9]
      refine M_cvV2 dX6_come_48 lk_X6_178 cw_X2_seat sh_16 rfl rfl (k_seat (Or.inl rfl) hB0 (by omega) (by omega) (by omega) (by omega) (by omega)) (by decide) (Nat.le_of_ble_eq_true rfl) (fun mem_48 hq => ?_)
      obtain ⟨hB, hG⟩ := hq
      refine J_al0 dX6_come_51 ?_
      refine M_getR dX6_come_52 fl_X6_26 sh_0 rfl ?_
      refine J_il1 dX6_come_55 ?_
      refine M_cvI1 dX6_come_56 lk_X6_162 cw_X2_placeOf sh_16 rfl rfl (k_placeOf (Or.inl rfl) hB (cmR_inv (b := S.b) hb (by omega) (by omega) (by omega)) hm) (by decide) (Nat.le_of_ble_eq_true rfl) (fun v_56 mem_56 hq => ?_)
      obtain ⟨rfl, hq⟩ := hq; have hq := hq.symm; subst hq
      refine M_iret dX6_come_59 rfl ?_
      unfold sCome; rw [if_neg (by omega), if_pos (by omega)]
      exact ⟨rfl, hC.bn hB (hA.ext (fun q q0 q1 => hG q (by omega))) (fun q q1 q2 => by rw [hG q (by omega), hF q (by omega) (by omega)]), fun q hq => by rw [hG q (by omega), hF q (by omega) (by omega)]⟩
    · skip
      refine J_ldc (n := -1000002) dX6_come_22 co_X6_139 (by decide) ?_
      refine M_iret dX6_come_24 rfl ?_
      unfold sCome; rw [if_neg (by omega), if_neg (by omega)]; exact ⟨rfl, hC, FrC.rf⟩
  · skip
    refine J_ldc (n := -1000001) dX6_come_8 co_X6_71 (by decide) ?_
    refine M_iret dX6_come_10 rfl ?_
    unfold sCome; rw [if_pos (by omega)]; exact ⟨rfl, hC, FrC.rf⟩
theorem c_june {mem : ZMem} {S : ZS} (hC : CS mem S) (hI : SInv S) {o : Int} (ho : In32 o) : CI mX6_june 4 [zr 0, zi o] mem (QS mem (sJune S o)) := by
  have hb := hI.bi
  have hr := hI.hr
  have hen := hC.men
  have h8 : mem 16 8 = S.b.1 5 := hC.2.2.1.1.2.2.2.2.2.1
  have b1 := hb.1
  have hl := hb.len
  have h5 := hb.2.2.2.2.2.2.2
  have go : ¬ S.b.1 3 = 0 → (o = 0 ∨ o = 1) → ¬ S.b.1 5 = o → JM mX6_june 4 (QI (QS mem (sJune S o))) 45 [zr 0, zi o] [] mem := by
    intro z0 z1 z2
    refine J_al0 dX6_june_45 ?_
    refine M_getR dX6_june_46 fl_X6_33 sh_0 rfl ?_
    refine J_al0 dX6_june_49 ?_
    refine M_getR dX6_june_50 fl_X6_26 sh_0 rfl ?_
    refine M_cvV1 dX6_june_53 lk_X6_149 cw_X0_keep sh_23 rfl rfl (k_keep hC.2.2.2.1 hC.2.2.1 (by omega) (by omega) hb.2.2.2.2.2.2.2) (by decide) (Nat.le_of_ble_eq_true rfl) (fun mem_53 hq => ?_)
    obtain ⟨hA, hF⟩ := hq
    have hB0 := hC.2.2.1.ext (mem' := mem_53) (fun q q0 q1 => hF q (by omega) (by omega))
    have hJ := juR_inv hb z1
    refine J_al0 dX6_june_56 ?_
    refine M_getR dX6_june_57 fl_X6_26 sh_0 rfl ?_
    refine J_il1 dX6_june_60 ?_
    refine J_iconst dX6_june_61 ?_
    refine J_cne (tgt := 69) dX6_june_62 rfl (by omega) (fun c_62 => ?_) (fun c_62 => ?_)
    · skip
      refine J_iconst dX6_june_69 ?_
      first
      | (have eo : o = 1 := by omega)
      | (have eo : o = 0 := by omega)
      subst eo
      refine M_putZ (ki := 8) dX6_june_70 fl_X6_182 sh_16 rfl rfl rfl (fun r hr => by cases hr; rfl) (by omega) ?_
      refine J_al0 dX6_june_73 ?_
      refine M_getR dX6_june_74 fl_X6_26 sh_0 rfl ?_
      refine M_cvI0 dX6_june_77 lk_X6_186 cw_X2_sunnyAsBits sh_16 rfl rfl (k_sunnyAsBits (Or.inl rfl) hB0.juned hJ.lt (by show zup S.b.1 5 _ 4 ≤ 3000; rw [zup_n (by omega)]; omega)) (by decide) (Nat.le_of_ble_eq_true rfl) (fun v_77 mem_77 hq => ?_)
      obtain ⟨rfl, hq⟩ := hq; have hq := hq.symm; subst hq
      refine M_iret dX6_june_80 rfl ?_
      unfold sJune; rw [if_neg z0, if_neg (by omega), if_neg z2]
      exact ⟨rfl, hC.bn (hB0.juned) (hA.ext (fun q q0 q1 => mset_n (by omega))) (fun q q1 q2 => by rw [mset_n (by omega), hF q (by omega) (by omega)]), fun q hq => by rw [mset_n (by omega), hF q (by omega) (by omega)]⟩
    · skip
      refine J_iconst dX6_june_65 ?_
      refine J_goto (tgt := 70) dX6_june_66 rfl ?_
      first
      | (have eo : o = 1 := by omega)
      | (have eo : o = 0 := by omega)
      subst eo
      refine M_putZ (ki := 8) dX6_june_70 fl_X6_182 sh_16 rfl rfl rfl (fun r hr => by cases hr; rfl) (by omega) ?_
      refine J_al0 dX6_june_73 ?_
      refine M_getR dX6_june_74 fl_X6_26 sh_0 rfl ?_
      refine M_cvI0 dX6_june_77 lk_X6_186 cw_X2_sunnyAsBits sh_16 rfl rfl (k_sunnyAsBits (Or.inl rfl) hB0.juned hJ.lt (by show zup S.b.1 5 _ 4 ≤ 3000; rw [zup_n (by omega)]; omega)) (by decide) (Nat.le_of_ble_eq_true rfl) (fun v_77 mem_77 hq => ?_)
      obtain ⟨rfl, hq⟩ := hq; have hq := hq.symm; subst hq
      refine M_iret dX6_june_80 rfl ?_
      unfold sJune; rw [if_neg z0, if_neg (by omega), if_neg z2]
      exact ⟨rfl, hC.bn (hB0.juned) (hA.ext (fun q q0 q1 => mset_n (by omega))) (fun q q1 q2 => by rw [mset_n (by omega), hF q (by omega) (by omega)]), fun q hq => by rw [mset_n (by omega), hF q (by omega) (by omega)]⟩
  refine CM.of (by decide +kernel) ([zr 0, zi o]) (zok_all rfl) (Nat.le_of_ble_eq_true rfl) rfl ?_
  refine J_al0 dX6_june_0 ?_
  refine M_cvI0 dX6_june_1 lk_X6_143 cw_X6_noBench sh_0 rfl rfl (k_noBench (by omega)) (by decide) (Nat.le_of_ble_eq_true rfl) (fun v_1 mem_1 hq => ?_)
  obtain ⟨rfl, hq⟩ := hq; have hq := hq.symm; subst hq
  refine J_ifeq_b (tgt := 10) dX6_june_4 rfl (fun c_4 => ?_) (fun c_4 => ?_)
  · skip
    refine J_il1 dX6_june_10 ?_
    refine J_iconst dX6_june_11 ?_
    refine J_iconst dX6_june_12 ?_
    refine M_csI3 dX6_june_13 lk_X6_67 cw_X6_outside (k_outside ho (by omega) (by omega)) (by decide) (Nat.le_of_ble_eq_true rfl) (fun v_13 mem_13 hq => ?_)
    obtain ⟨rfl, hq⟩ := hq; have hq := hq.symm; subst hq
    refine J_ifeq_b (tgt := 22) dX6_june_16 rfl (fun c_16 => ?_) (fun c_16 => ?_)
    · skip
      refine J_al0 dX6_june_22 ?_
      refine M_getR dX6_june_23 fl_X6_26 sh_0 rfl ?_
      refine M_get (ki := 8) dX6_june_26 fl_X6_182 sh_16 rfl rfl ?_
      refine J_il1 dX6_june_29 ?_
      refine J_iconst dX6_june_30 ?_
      refine J_cne (tgt := 38) dX6_june_31 rfl (by omega) (fun c_31 => ?_) (fun c_31 => ?_)
      · skip
        refine J_iconst dX6_june_38 ?_
        refine J_cne (tgt := 45) dX6_june_39 rfl (by omega) (fun c_39 => ?_) (fun c_39 => ?_)
        · skip
          exact go (by omega) (by omega) (by omega)
        · skip
          refine J_ldc (n := -1000002) dX6_june_42 co_X6_139 (by decide) ?_
          refine M_iret dX6_june_44 rfl ?_
          unfold sJune; rw [if_neg (by omega), if_neg (by omega), if_pos (by omega)]; exact ⟨rfl, hC, FrC.rf⟩
      · skip
        refine J_iconst dX6_june_34 ?_
        refine J_goto (tgt := 39) dX6_june_35 rfl ?_
        refine J_cne (tgt := 45) dX6_june_39 rfl (by omega) (fun c_39 => ?_) (fun c_39 => ?_)
        · skip
          exact go (by omega) (by omega) (by omega)
        · skip
          refine J_ldc (n := -1000002) dX6_june_42 co_X6_139 (by decide) ?_
          refine M_iret dX6_june_44 rfl ?_
          unfold sJune; rw [if_neg (by omega), if_neg (by omega), if_pos (by omega)]; exact ⟨rfl, hC, FrC.rf⟩
    · skip
      refine J_ldc (n := -1000001) dX6_june_19 co_X6_71 (by decide) ?_
      refine M_iret dX6_june_21 rfl ?_
      unfold sJune; rw [if_neg (by omega), if_pos (by omega)]; exact ⟨rfl, hC, FrC.rf⟩
  · skip
    refine J_ldc (n := -1000002) dX6_june_7 co_X6_139 (by decide) ?_
    refine M_iret dX6_june_9 rfl ?_
    unfold sJune; rw [if_pos (by omega)]; exact ⟨rfl, hC, FrC.rf⟩
