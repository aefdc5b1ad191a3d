theorem m_trace {mem : ZMem} {S : ZS} (hS : MS mem S) (hI : SInv S) {i : Int} (hi : In32 i) : CI mX7_trace 1 [zr 79, zi i] mem (QM mem (vTrace S i, S)) := by
  have h0 := hS.thr
  have hF : FrM mem (mset mem 79 0 0) := FrM.rf.set (by omega)
  have hl := hI.2.2.2.2.2.1
  generalize hm : mset mem 79 0 0 = m0 at *
  obtain ⟨t1, t2⟩ := h0.2.2.2.2.2.2.1
  refine CM.of (by decide +kernel) ([zr 79, zi i]) (zok_all rfl) (Nat.le_of_ble_eq_true rfl) rfl ?_
  refine J_al0 dX7_trace_0 ?_
  refine J_iconst dX7_trace_1 ?_
  refine M_put (ki := 0) dX7_trace_2 fl_X7_50 sh_79 rfl rfl rfl (fun r hr => by cases hr; rfl) ?_
  rw [hm]
  refine J_il1 dX7_trace_5 ?_
  refine J_i2l dX7_trace_6 (by omega) ?_
  refine J_lconst0 dX7_trace_7 ?_
  refine J_al0 dX7_trace_8 ?_
  refine M_get (ki := 24) dX7_trace_9 fl_X7_241 sh_79 rfl rfl ?_
  refine J_iconst dX7_trace_12 ?_
  refine J_isub dX7_trace_13 ?_
  refine J_i2l dX7_trace_14 (by omega) ?_
  refine M_csI3 dX7_trace_15 lk_X7_60 cw_X7_in (k_in (by omega) (by omega) (by omega)) (by decide) (Nat.le_of_ble_eq_true rfl) (fun v_15 mem_15 hq => ?_)
  obtain ⟨rfl, hq⟩ := hq; have hq := hq.symm; subst hq
  refine J_ifeq_b (tgt := 30) dX7_trace_18 rfl (fun c_18 => ?_) (fun c_18 => ?_)
  · skip
    refine J_ldc (n := -1000000) dX7_trace_30 co_X7_93 (by decide) ?_
    refine M_iret dX7_trace_32 rfl ?_
    first
    | exact ⟨by unfold vTrace; rw [if_pos (by omega)], h0, hF⟩
    | exact ⟨by unfold vTrace; rw [if_neg (by omega)]; exact t2 i (by omega) (by omega), h0, hF⟩
  · skip
    refine J_al0 dX7_trace_21 ?_
    refine M_getR dX7_trace_22 fl_X7_47 sh_79 rfl ?_
    refine J_il1 dX7_trace_25 ?_
    refine M_ald dX7_trace_26 sh_92 (by decide) (by omega) ?_
    refine J_goto (tgt := 32) dX7_trace_27 rfl ?_
    refine M_iret dX7_trace_32 rfl ?_
    first
    | exact ⟨by unfold vTrace; rw [if_pos (by omega)], h0, hF⟩
    | exact ⟨by unfold vTrace; rw [if_neg (by omega)]; exact t2 i (by omega) (by omega), h0, hF⟩
theorem m_sunny {mem : ZMem} {S : ZS} (hS : MS mem S) (hI : SInv S) {m : Int} (hmr : In32 m) : CI mX7_sunny 5 [zr 79, zi m] mem (QM mem (vSunny S m, S)) := by
  have hb := hI.bi
  have b1 := hb.1
  have hl := hb.len
  have hr := hI.hr
  have h0 := hS.thr
  have hF : FrM mem (mset mem 79 0 0) := FrM.rf.set (by omega)
  generalize hm : mset mem 79 0 0 = m0 at *
  have hen := h0.men
  have loop : ∀ (c kn : Nat) (k : Int) (z : ZV) (m2 : ZMem), k = kn → (c : Int) + k = 61 → MX (m2 85) (hrs kn S.b).1.1 (hrs kn S.b).1.2 → FrX m0 m2 → vSunny S m = fsN S.b m c kn → JM mX7_sunny 5 (QI (QM mem (vSunny S m, S))) 22 [zr 79, zi m, zi k, z] [] m2 := by
    intro c
    induction c with
    | zero =>
      intro kn k z m2 e0 a1 a2 a3 a4
      refine J_il2 dX7_sunny_22 ?_
      refine J_bipush dX7_sunny_23 rfl ?_
      refine J_cge (tgt := 57) dX7_sunny_25 rfl (by omega) (fun c_25 => ?_) (fun c_25 => ?_)
      · skip
        refine J_ldc (n := -1000000) dX7_sunny_57 co_X7_93 (by decide) ?_
        refine M_iret dX7_sunny_59 rfl ?_
        exact ⟨a4.symm, h0.x a3, hF.tr a3.m⟩
      · skip
        omega
    | succ c ih =>
      intro kn k z m2 e0 a1 a2 a3 a4
      obtain ⟨i1, i2, i3, i4⟩ := hrs_inv (b := S.b) hb kn
      refine J_il2 dX7_sunny_22 ?_
      refine J_bipush dX7_sunny_23 rfl ?_
      refine J_cge (tgt := 57) dX7_sunny_25 rfl (by omega) (fun c_25 => ?_) (fun c_25 => ?_)
      · skip
        omega
      · skip
        refine J_al0 dX7_sunny_28 ?_
        refine M_getR dX7_sunny_29 fl_X7_25 sh_79 rfl ?_
        refine J_il1 dX7_sunny_32 ?_
        refine M_csI2 dX7_sunny_33 lk_X7_167 cw_X7_hasSun (k_mhasSun isW85 a2 i1 (by omega) hmr) (by decide) (Nat.le_of_ble_eq_true rfl) (fun v_33 mem_33 hq => ?_)
        obtain ⟨rfl, hq⟩ := hq; have hq := hq.symm; subst hq
        refine J_ifeq_b (tgt := 41) dX7_sunny_36 rfl (fun c_36 => ?_) (fun c_36 => ?_)
        · skip
          refine J_al0 dX7_sunny_41 ?_
          refine J_al0 dX7_sunny_42 ?_
          refine M_getR dX7_sunny_43 fl_X7_25 sh_79 rfl ?_
          refine J_iconst dX7_sunny_46 ?_
          refine M_cvI2 dX7_sunny_47 lk_X7_180 cw_X7_hour sh_79 rfl rfl (k_mhour isW85 a2 i1 (by omega) (fun _ => True) mgt0) (by decide) (Nat.le_of_ble_eq_true rfl) (fun v_47 mem_47 hq => ?_)
          obtain ⟨rfl, hM2, hF2⟩ := hq
          refine J_is3 dX7_sunny_50 (by decide) rfl ?_
          refine J_inc2 dX7_sunny_51 (by decide) rfl ?_
          refine J_goto (tgt := 22) dX7_sunny_54 rfl ?_
          exact ih (kn + 1) _ _ _ (by omega) (by omega) hM2 (a3.tr hF2.x) (by rw [a4, fsN, cif_f c_36])
        · skip
          refine J_il2 dX7_sunny_39 ?_
          refine M_iret dX7_sunny_40 rfl ?_
          exact ⟨by rw [a4, fsN, cif_t c_36]; exact e0, h0.x a3, hF.tr a3.m⟩
  refine CM.of (by decide +kernel) ([zr 79, zi m, zu, zu]) (zok_all rfl) (Nat.le_of_ble_eq_true rfl) rfl ?_
  refine J_al0 dX7_sunny_0 ?_
  refine J_iconst dX7_sunny_1 ?_
  refine M_put (ki := 0) dX7_sunny_2 fl_X7_50 sh_79 rfl rfl rfl (fun r hr => by cases hr; rfl) ?_
  rw [hm]
  refine J_al0 dX7_sunny_5 ?_
  refine J_il1 dX7_sunny_6 ?_
  refine M_cvI1 dX7_sunny_7 lk_X7_199 cw_X7_isMan sh_79 rfl rfl (k_isMan hmr (by omega)) (by decide) (Nat.le_of_ble_eq_true rfl) (fun v_7 mem_7 hq => ?_)
  obtain ⟨rfl, hq⟩ := hq; have hq := hq.symm; subst hq
  refine J_ifne_b (tgt := 16) dX7_sunny_10 rfl (fun c_10 => ?_) (fun c_10 => ?_)
  · skip
    refine J_al0 dX7_sunny_16 ?_
    refine M_cvV0 dX7_sunny_17 lk_X7_212 cw_X7_layThen sh_79 rfl rfl k_layThen (by decide) (Nat.le_of_ble_eq_true rfl) (fun mem_17 hq => ?_)
    obtain ⟨g1, g2⟩ := hq
    refine J_iconst dX7_sunny_20 ?_
    refine J_is2 dX7_sunny_21 (by decide) rfl ?_
    exact loop 61 0 0 _ _ rfl (by omega) ((mbch h0).ext (by omega) (by omega) g1) (fun q q1 _ _ => g2 q q1) (by unfold vSunny; rw [if_neg (by omega)])
  · skip
    refine J_ldc (n := -1000001) dX7_sunny_13 co_X7_70 (by decide) ?_
    refine M_iret dX7_sunny_15 rfl ?_
    exact ⟨by unfold vSunny; rw [if_pos (by omega)], h0, hF⟩
