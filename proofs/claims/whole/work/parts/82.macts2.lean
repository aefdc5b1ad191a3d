theorem m_snuff {mem : ZMem} {S : ZS} (hS : MS mem S) (hI : SInv S) {m : Int} (hmr : In32 m) : CI mX7_snuff 2 [zr 79, zi m] mem (QM mem (sSnuff S m)) := by
  have hb := hI.bi
  have b1 := hb.1
  have hl := hb.len
  have h0 := hS.thr
  have hF : FrM mem (mset mem 79 0 0) := FrM.rf.set (by omega)
  generalize hm : mset mem 79 0 0 = m0 at *
  have hen := h0.men
  have hX := mbch h0
  have hp := plc_range S.b.2 m
  have hpN : (plc S.b.2 m < 0 ∧ pN (plc S.b.2 m) = -1000000) ∨ (0 ≤ plc S.b.2 m ∧ pN (plc S.b.2 m) = plc S.b.2 m) := by unfold pN; split <;> omega
  refine CM.of (by decide +kernel) ([zr 79, zi m]) (zok_all rfl) (Nat.le_of_ble_eq_true rfl) rfl ?_
  refine J_al0 dX7_snuff_0 ?_
  refine J_iconst dX7_snuff_1 ?_
  refine M_put (ki := 0) dX7_snuff_2 fl_X7_50 sh_79 rfl rfl rfl (fun r hr => by cases hr; rfl) ?_
  rw [hm]
  refine J_al0 dX7_snuff_5 ?_
  refine J_il1 dX7_snuff_6 ?_
  refine M_cvI1 dX7_snuff_7 lk_X7_199 cw_X7_isMan sh_79 rfl rfl (k_isMan hmr (by omega)) (by decide) (Nat.le_of_ble_eq_true rfl) (fun v_7 mem_7 hq => ?_)
  obtain ⟨rfl, hq⟩ := hq; have hq := hq.symm; subst hq
  refine J_ifne_b (tgt := 16) dX7_snuff_10 rfl (fun c_10 => ?_) (fun c_10 => ?_)
  · skip
    refine J_al0 dX7_snuff_16 ?_
    refine M_getR dX7_snuff_17 fl_X7_19 sh_79 rfl ?_
    refine J_il1 dX7_snuff_20 ?_
    refine M_csI2 dX7_snuff_21 lk_X7_156 cw_X7_placeOf (k_mplaceOf isW83 hX hb hmr) (by decide) (Nat.le_of_ble_eq_true rfl) (fun v_21 mem_21 hq => ?_)
    obtain ⟨rfl, hq⟩ := hq; have hq := hq.symm; subst hq
    refine J_iconst dX7_snuff_24 ?_
    refine J_cge (tgt := 31) dX7_snuff_25 rfl (by omega) (fun c_25 => ?_) (fun c_25 => ?_)
    · skip
      refine J_al0 dX7_snuff_31 ?_
      refine M_cvV0 dX7_snuff_32 lk_X7_192 cw_X7_keep sh_79 rfl rfl (k_mkeep h0.2.2.2.1 hI.2.2.1.1 h0.2.2.1 hb hI.ub) (by decide) (Nat.le_of_ble_eq_true rfl) (fun mem_32 hq => ?_)
      obtain ⟨g1, g2, g3⟩ := hq
      refine J_al0 dX7_snuff_35 ?_
      refine M_getR dX7_snuff_36 fl_X7_19 sh_79 rfl ?_
      refine J_il1 dX7_snuff_39 ?_
      refine M_csV2 dX7_snuff_40 lk_X7_202 cw_X7_change (k_change isW83 (by rw [g3 83 (by omega) (by omega)]; exact hX) hb (by omega) (by omega)) (by decide) (Nat.le_of_ble_eq_true rfl) (fun mem_40 hq => ?_)
      obtain ⟨hM2, hF2, hs6, hs0⟩ := hq
      have hM2 : MX (mem_40 83) (snf S.b m).1 (snf S.b m).2 := hM2
      have es : snf S.b m = (zup S.b.1 6 (S.b.1 6 + 1), swp S.b.2 (plc S.b.2 m)) := by unfold snf; rw [if_pos (by omega)]
      have e6 : mem_40 83 6 = S.b.1 6 := by rw [hs6, g3 83 (by omega) (by omega)]; exact h0.2.2.1.2.1
      have hsI := snf_inv hb m
      have hX3 : MX (mset mem_40 83 6 (mem_40 83 6 + 1) 83) (snf S.b m).1 (snf S.b m).2 := by
        rw [mset_q]
        obtain ⟨c1, c2, c3⟩ := hM2
        have hl3 := hsI.len
        have h33 := hsI.1
        refine ⟨?_, fun p p0 p1 => ?_, fun x x0 x1 => ?_⟩
        · rw [zup_n (by omega), zup_n (by omega), zup_n (by omega), zup_n (by omega), zup_n (by omega), zup_n (by omega)]; exact c1
        · rw [zup_n (by omega)]; exact c2 p p0 p1
        · rw [zup_n (by omega), zup_n (by omega), zup_n (by omega), zup_n (by omega), zup_n (by omega)]; exact c3 x x0 x1
      have hpp : 0 ≤ plc (snf S.b m).2 m := by
        rw [es]
        exact plc_mem.mpr ((mem_swp (by omega) hp.2).mpr (plc_mem.mp (by omega)))
      refine J_al0 dX7_snuff_43 ?_
      refine M_getR dX7_snuff_44 fl_X7_19 sh_79 rfl ?_
      refine J_bipush dX7_snuff_47 rfl ?_
      refine J_dup2 dX7_snuff_49 rfl rfl ?_
      refine M_ald dX7_snuff_50 sh_83 (by decide) (by omega) ?_
      refine J_iconst dX7_snuff_51 ?_
      refine J_iadd dX7_snuff_52 ?_
      refine M_ast dX7_snuff_53 sh_83 (by decide) (by omega) ?_
      refine J_al0 dX7_snuff_54 ?_
      refine M_getR dX7_snuff_55 fl_X7_19 sh_79 rfl ?_
      refine J_il1 dX7_snuff_58 ?_
      refine M_csI2 dX7_snuff_59 lk_X7_156 cw_X7_placeOf (k_mplaceOf isW83 hX3 hsI hmr) (by decide) (Nat.le_of_ble_eq_true rfl) (fun v_59 mem_59 hq => ?_)
      obtain ⟨rfl, hq⟩ := hq; have hq := hq.symm; subst hq
      refine M_iret dX7_snuff_62 rfl ?_
      unfold sSnuff; rw [if_neg (by omega), if_neg (by omega)]
      refine ⟨by unfold pN; rw [if_neg (by omega)], h0.bn ⟨hX3, ?_, ?_⟩ (g1.ext (by rw [mset_n (by omega), hF2 79 (by omega)]) (by rw [mset_n (by omega)]; exact hF2 86 (by omega))) (fun x hx => by rw [mset_n (by omega), hF2 79 (by omega)]; exact g2 x (by omega)) (fun q q1 q2 q3 q4 q5 q6 q7 q8 => by rw [mset_n q3, hF2 q q3]; exact g3 q (by omega) q6), fun q hq => by rw [mset_n (by omega), hF2 q (by omega), g3 q (by omega) (by omega)]; exact hF q hq⟩
      · rw [mset_s, e6, es]; show _ = zup S.b.1 6 (S.b.1 6 + 1) 6; rw [zup_s]
      · rw [mset_i (by omega), hs0, g3 83 (by omega) (by omega), h0.2.2.1.2.2, es]; show _ = bi (¬ zup S.b.1 6 (S.b.1 6 + 1) 3 = 0); rw [zup_n (by omega)]
    · skip
      refine J_ldc (n := -1000002) dX7_snuff_28 co_X7_189 (by decide) ?_
      refine M_iret dX7_snuff_30 rfl ?_
      unfold sSnuff; rw [if_neg (by omega), if_pos (by omega)]; exact ⟨rfl, h0, hF⟩
  · skip
    refine J_ldc (n := -1000001) dX7_snuff_13 co_X7_70 (by decide) ?_
    refine M_iret dX7_snuff_15 rfl ?_
    unfold sSnuff; rw [if_pos (by omega)]; exact ⟨rfl, h0, hF⟩
theorem m_hours {mem : ZMem} {S : ZS} (hS : MS mem S) (hI : SInv S) {n : Int} (hn : In32 n) : CI mX7_hours 5 [zr 79, zi n] mem (QM mem (sHours S n)) := by
  have hb := hI.bi
  have b1 := hb.1
  have hr := hI.hr
  have b4 := hb.2.2.2.1
  have h0 := hS.thr
  have htt := h0.th
  have hF : FrM mem (mset mem 79 0 0) := FrM.rf.set (by omega)
  generalize hm : mset mem 79 0 0 = m0 at *
  have h4 : m0 83 4 = S.b.1 4 := (mbch h0).1.2.2.2.1
  have fin : 1 ≤ n → n ≤ 24 → S.b.1 4 + n ≤ 999 → ¬ S.b.1 3 = 0 → ∀ (kn : Nat) (k : Int) (z : ZV) (m2 : ZMem), k = kn → k = n → MB (m2 83) (hkN kn (S.b, S.U)).1.1 (hkN kn (S.b, S.U)).1.2 → MU m2 (hkN kn (S.b, S.U)).2 → (∀ x : Int, x ≠ 9 → m2 79 x = m0 79 x) → (∀ q : Nat, q ≠ 79 → q ≠ 83 → q ≠ 86 → q ≠ 88 → m2 q = m0 q) → JM mX7_hours 5 (QI (QM mem (sHours S n))) 74 [zr 79, zi n, zi k, z] [] m2 := by
    intro n1 n2 n3 n4 kn k z m2 e0 e1 a3 a4 a5 a6
    have e : kn = n.toNat := by omega
    have hI2 := (hrs_inv (b := S.b) hb kn).1
    rw [← hkN_inv hb S.U kn] at hI2
    have hl := hI2.len
    have hl2 := hI2.1
    refine J_al0 dX7_hours_74 ?_
    refine M_getR dX7_hours_75 fl_X7_19 sh_79 rfl ?_
    refine M_csI1 dX7_hours_78 lk_X7_195 cw_X7_sitting (k_sitting isW83 a3.1 (by omega)) (by decide) (Nat.le_of_ble_eq_true rfl) (fun v_78 mem_78 hq => ?_)
    obtain ⟨rfl, hq⟩ := hq; have hq := hq.symm; subst hq
    refine M_iret dX7_hours_81 rfl ?_
    unfold sHours; rw [if_neg n4, if_neg (by omega), if_neg (by omega), ← e]
    exact ⟨rfl, h0.bn a3 a4 (fun x hx => a5 x (by omega)) (fun q q1 q2 q3 q4 q5 q6 q7 q8 => a6 q (by omega) q3 q6 q7), fun q hq => by rw [a6 q (by omega) (by omega) (by omega) (by omega)]; exact hF q hq⟩
  have loop : 1 ≤ n → n ≤ 24 → S.b.1 4 + n ≤ 999 → ¬ S.b.1 3 = 0 → ∀ (c kn : Nat) (k : Int) (z : ZV) (m2 : ZMem), k = kn → (c : Int) + k = n → MB (m2 83) (hkN kn (S.b, S.U)).1.1 (hkN kn (S.b, S.U)).1.2 → MU m2 (hkN kn (S.b, S.U)).2 → (∀ x : Int, x ≠ 9 → m2 79 x = m0 79 x) → (∀ q : Nat, q ≠ 79 → q ≠ 83 → q ≠ 86 → q ≠ 88 → m2 q = m0 q) → JM mX7_hours 5 (QI (QM mem (sHours S n))) 49 [zr 79, zi n, zi k, z] [] m2 := by
    intro n1 n2 n3 n4 c
    induction c with
    | zero =>
      intro kn k z m2 e0 a1 a3 a4 a5 a6
      refine J_il2 dX7_hours_49 ?_
      refine J_il1 dX7_hours_50 ?_
      refine J_cge (tgt := 74) dX7_hours_51 rfl (by omega) (fun c_51 => ?_) (fun c_51 => ?_)
      · skip
        exact fin n1 n2 n3 n4 kn k z m2 e0 (by omega) a3 a4 a5 a6
      · skip
        omega
    | succ c ih =>
      intro kn k z m2 e0 a1 a3 a4 a5 a6
      obtain ⟨o1, o2, o3⟩ := hkN_ok hI.2.1 hI.2.2.1 kn (by omega)
      obtain ⟨p1, p2, p3, p4, -⟩ := hourR_inv (fun _ => True) o1.1
      have q3 := p2.1 3 (by omega) (by omega)
      have q6 := p2.1 6 (by omega) (by omega)
      refine J_il2 dX7_hours_49 ?_
      refine J_il1 dX7_hours_50 ?_
      refine J_cge (tgt := 74) dX7_hours_51 rfl (by omega) (fun c_51 => ?_) (fun c_51 => ?_)
      · skip
        omega
      · skip
        refine J_al0 dX7_hours_54 ?_
        refine M_cvV0 dX7_hours_55 lk_X7_192 cw_X7_keep sh_79 rfl rfl (k_mkeep a4 o2 a3 o1.1 (fun u hu => (o3 u hu).1.1)) (by decide) (Nat.le_of_ble_eq_true rfl) (fun mem_55 hq => ?_)
        obtain ⟨g1, g2, g3⟩ := hq
        refine J_al0 dX7_hours_58 ?_
        refine J_al0 dX7_hours_59 ?_
        refine M_getR dX7_hours_60 fl_X7_19 sh_79 rfl ?_
        refine J_iconst dX7_hours_63 ?_
        refine M_cvI2 dX7_hours_64 lk_X7_180 cw_X7_hour sh_79 rfl rfl (k_mhour isW83 (by rw [g3 83 (by omega) (by omega)]; exact a3.1) o1.1 (by have := o1.2.1; omega) (fun _ => True) mgt0) (by decide) (Nat.le_of_ble_eq_true rfl) (fun v_64 mem_64 hq => ?_)
        obtain ⟨rfl, hM2, hF2, hs6, hs0⟩ := hq
        refine J_is3 dX7_hours_67 (by decide) rfl ?_
        refine J_inc2 dX7_hours_68 (by decide) rfl ?_
        refine J_goto (tgt := 49) dX7_hours_71 rfl ?_
        refine ih (kn + 1) _ _ _ (by omega) (by omega) ⟨hM2, ?_, ?_⟩ (g1.ext (by rw [hF2 79 (by omega) (by omega)]) (hF2 86 (by omega) (by omega))) (fun x hx => by rw [hF2 79 (by omega) (by omega), g2 x hx]; exact a5 x hx) (fun q q1 q2 q3 q4 => by rw [hF2 q q2 q4, g3 q q1 q3]; exact a6 q q1 q2 q3 q4)
        · rw [hs6, g3 83 (by omega) (by omega), a3.2.1]; exact q6.symm
        · rw [hs0, g3 83 (by omega) (by omega), a3.2.2]; show _ = bi (¬ (hourR (fun _ => True) (hkN kn (S.b, S.U)).1).1.1 3 = 0); rw [q3]
  refine CM.of (by decide +kernel) ([zr 79, zi n, zu, zu]) (zok_all rfl) (Nat.le_of_ble_eq_true rfl) rfl ?_
  refine J_al0 dX7_hours_0 ?_
  refine J_iconst dX7_hours_1 ?_
  refine M_put (ki := 0) dX7_hours_2 fl_X7_50 sh_79 rfl rfl rfl (fun r hr => by cases hr; rfl) ?_
  rw [hm]
  refine J_al0 dX7_hours_5 ?_
  refine M_cvI0 dX7_hours_6 lk_X7_186 cw_X7_isThere sh_79 rfl rfl (k_isThere htt.1) (by decide) (Nat.le_of_ble_eq_true rfl) (fun v_6 mem_6 hq => ?_)
  obtain ⟨rfl, hq⟩ := hq; have hq := hq.symm; subst hq
  refine J_ifne_b (tgt := 15) dX7_hours_9 rfl (fun c_9 => ?_) (fun c_9 => ?_)
  · skip
    refine J_il1 dX7_hours_15 ?_
    refine J_i2l dX7_hours_16 (by omega) ?_
    refine J_lconst1 dX7_hours_17 ?_
    refine J_ldc2 (n := 24) dX7_hours_18 col_X7_190 (by decide) ?_
    refine M_csI3 dX7_hours_21 lk_X7_60 cw_X7_in (k_in (by omega) (by omega) (by omega)) (by decide) (Nat.le_of_ble_eq_true rfl) (fun v_21 mem_21 hq => ?_)
    obtain ⟨rfl, hq⟩ := hq; have hq := hq.symm; subst hq
    refine J_ifne_b (tgt := 30) dX7_hours_24 rfl (fun c_24 => ?_) (fun c_24 => ?_)
    · skip
      refine J_al0 dX7_hours_30 ?_
      refine M_getR dX7_hours_31 fl_X7_19 sh_79 rfl ?_
      refine J_iconst dX7_hours_34 ?_
      refine M_ald dX7_hours_35 sh_83 (by decide) (by omega) ?_
      refine J_il1 dX7_hours_36 ?_
      refine J_iadd dX7_hours_37 ?_
      refine J_sipush dX7_hours_38 rfl ?_
      refine J_cle (tgt := 47) dX7_hours_41 rfl (by omega) (fun c_41 => ?_) (fun c_41 => ?_)
      · skip
        refine J_iconst dX7_hours_47 ?_
        refine J_is2 dX7_hours_48 (by decide) rfl ?_
        exact loop (by omega) (by omega) (by omega) (by omega) n.toNat 0 0 _ _ rfl (by omega) h0.2.2.1 h0.2.2.2.1 (fun _ _ => rfl) (fun _ _ _ _ _ => rfl)
      · skip
        refine J_ldc (n := -1000003) dX7_hours_44 co_X7_80 (by decide) ?_
        refine M_iret dX7_hours_46 rfl ?_
        unfold sHours; rw [if_neg (by omega), if_neg (by omega), if_pos (by omega)]; exact ⟨rfl, h0, hF⟩
    · skip
      refine J_ldc (n := -1000001) dX7_hours_27 co_X7_70 (by decide) ?_
      refine M_iret dX7_hours_29 rfl ?_
      unfold sHours; rw [if_neg (by omega), if_pos (by omega)]; exact ⟨rfl, h0, hF⟩
  · skip
    refine J_ldc (n := -1000002) dX7_hours_12 co_X7_189 (by decide) ?_
    refine M_iret dX7_hours_14 rfl ?_
    unfold sHours; rw [if_pos (by omega)]; exact ⟨rfl, h0, hF⟩
