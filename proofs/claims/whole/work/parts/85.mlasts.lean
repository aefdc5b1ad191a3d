theorem m_lasts {mem : ZMem} {S : ZS} (hS : MS mem S) (hI : SInv S) : CI mX7_lasts 2 [zr 79] mem (QM mem (vLasts S, S)) := by
  have hb := hI.bi
  have h0 := hS.thr
  have htt := h0.th
  have hF : FrM mem (mset mem 79 0 0) := FrM.rf.set (by omega)
  generalize hm : mset mem 79 0 0 = m0 at *
  have loop : ¬ S.b.1 3 = 0 → ∀ (c kn : Nat) (s k : Int), k = kn → (c : Int) + k = 24 → s = ltN S.b.1 kn → JM mX7_lasts 2 (QI (QM mem (vLasts S, S))) 19 [zr 79, zi s, zi k] [] m0 := by
    intro hz c
    induction c with
    | zero =>
      intro kn s k e0 a1 a2
      refine J_il2 dX7_lasts_19 ?_
      refine J_bipush dX7_lasts_20 rfl ?_
      refine J_cge (tgt := 50) dX7_lasts_22 rfl (by omega) (fun c_22 => ?_) (fun c_22 => ?_)
      · skip
        refine J_il1 dX7_lasts_50 ?_
        refine M_iret dX7_lasts_51 rfl ?_
        exact ⟨by unfold vLasts; rw [if_neg hz, a2, show kn = 24 by omega], h0, hF⟩
      · skip
        omega
    | succ c ih =>
      intro kn s k e0 a1 a2
      have hs := sunR_range (r := S.b.1) hb.2.2.2.2.2.2.1 hb.2.2.2.2.2.1 (h := k)
      refine J_il2 dX7_lasts_19 ?_
      refine J_bipush dX7_lasts_20 rfl ?_
      refine J_cge (tgt := 50) dX7_lasts_22 rfl (by omega) (fun c_22 => ?_) (fun c_22 => ?_)
      · skip
        omega
      · skip
        refine J_il1 dX7_lasts_25 ?_
        refine J_al0 dX7_lasts_26 ?_
        refine M_getR dX7_lasts_27 fl_X7_19 sh_79 rfl ?_
        refine J_il2 dX7_lasts_30 ?_
        refine M_csI2 dX7_lasts_31 lk_X7_152 cw_X7_sunOf (k_sunOf isW83 (mbch h0) hb.lt (by omega)) (by decide) (Nat.le_of_ble_eq_true rfl) (fun v_31 mem_31 hq => ?_)
        obtain ⟨rfl, hq⟩ := hq; have hq := hq.symm; subst hq
        have hs' := hs (by omega)
        refine J_ifle (tgt := 41) dX7_lasts_34 rfl (by omega) (fun c_34 => ?_) (fun c_34 => ?_)
        · skip
          refine J_iconst dX7_lasts_41 ?_
          refine J_iadd dX7_lasts_42 ?_
          refine J_is1 dX7_lasts_43 (by decide) rfl ?_
          refine J_inc2 dX7_lasts_44 (by decide) rfl ?_
          refine J_goto (tgt := 19) dX7_lasts_47 rfl ?_
          refine ih (kn + 1) _ _ (by omega) (by omega) ?_
          unfold ltN
          rw [← e0, a2]
          first | rw [if_pos (by omega)] | (rw [if_neg (by omega)]; omega)
        · skip
          refine J_iconst dX7_lasts_37 ?_
          refine J_goto (tgt := 42) dX7_lasts_38 rfl ?_
          refine J_iadd dX7_lasts_42 ?_
          refine J_is1 dX7_lasts_43 (by decide) rfl ?_
          refine J_inc2 dX7_lasts_44 (by decide) rfl ?_
          refine J_goto (tgt := 19) dX7_lasts_47 rfl ?_
          refine ih (kn + 1) _ _ (by omega) (by omega) ?_
          unfold ltN
          rw [← e0, a2]
          first | rw [if_pos (by omega)] | (rw [if_neg (by omega)]; omega)
  refine CM.of (by decide +kernel) ([zr 79, zu, zu]) (zok_all rfl) (Nat.le_of_ble_eq_true rfl) rfl ?_
  refine J_al0 dX7_lasts_0 ?_
  refine J_iconst dX7_lasts_1 ?_
  refine M_put (ki := 0) dX7_lasts_2 fl_X7_50 sh_79 rfl rfl rfl (fun r hr => by cases hr; rfl) ?_
  rw [hm]
  refine J_al0 dX7_lasts_5 ?_
  refine M_cvI0 dX7_lasts_6 lk_X7_186 cw_X7_isThere sh_79 rfl rfl (k_isThere htt.1) (by decide) (Nat.le_of_ble_eq_true rfl) (fun v_6 mem_6 hq => ?_)
  obtain ⟨rfl, hq⟩ := hq; have hq := hq.symm; subst hq
  refine J_ifne_b (tgt := 15) dX7_lasts_9 rfl (fun c_9 => ?_) (fun c_9 => ?_)
  · skip
    refine J_iconst dX7_lasts_15 ?_
    refine J_is1 dX7_lasts_16 (by decide) rfl ?_
    refine J_iconst dX7_lasts_17 ?_
    refine J_is2 dX7_lasts_18 (by decide) rfl ?_
    exact loop (by omega) 24 0 0 0 rfl (by omega) rfl
  · skip
    refine J_ldc (n := -1000002) dX7_lasts_12 co_X7_189 (by decide) ?_
    refine M_iret dX7_lasts_14 rfl ?_
    exact ⟨by unfold vLasts; rw [if_pos (by omega)], h0, hF⟩
