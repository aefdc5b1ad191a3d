/-- only 'then', 'called' and 'warms' have changed -/
def FrX (mem mem' : ZMem) : Prop := ∀ q : Nat, q ≠ 85 → q ≠ 88 → q ≠ 89 → mem' q = mem q
theorem FrX.rf {mem : ZMem} : FrX mem mem := fun _ _ _ _ => rfl
theorem FrX.tr {a b c : ZMem} (h : FrX a b) (g : FrX b c) : FrX a c := fun q q1 q2 q3 => (g q q1 q2 q3).trans (h q q1 q2 q3)
theorem FrH.x {a b : ZMem} (h : FrH 85 a b) : FrX a b := fun q q1 q2 _ => h.1 q q1 q2
theorem FrR.x {a b : ZMem} (h : FrR 85 a b) : FrX a b := fun q q1 _ _ => h.1 q q1
theorem FrX.m {a b : ZMem} (h : FrX a b) : FrM a b := fun q hq => h q (by omega) (by omega) (by omega)
theorem MS.x {mem mem' : ZMem} {S : ZS} (h : MS mem S) (e : FrX mem mem') : MS mem' S := h.ext (fun x _ => by rw [e 79 (by omega) (by omega) (by omega)]) (fun q q1 q2 q3 q4 q5 q6 => e q q4 q5 q6)
theorem m_calls {mem : ZMem} {S : ZS} (hS : MS mem S) (hI : SInv S) {n : Int} (hn : In32 n) : CI mX7_calls 6 [zr 79, zi n] mem (QM mem (vCalls S n, S)) := by
  have hb := hI.bi
  have b1 := hb.1
  have hl := hb.len
  have hr := hI.hr
  have h0 := hS.thr
  have htt := h0.th
  have hF : FrM mem (mset mem 79 0 0) := FrM.rf.set (by omega)
  generalize hm : mset mem 79 0 0 = m0 at *
  refine CM.of (by decide +kernel) ([zr 79, zi n]) (zok_all rfl) (Nat.le_of_ble_eq_true rfl) rfl ?_
  refine J_al0 dX7_calls_0 ?_
  refine J_iconst dX7_calls_1 ?_
  refine M_put (ki := 0) dX7_calls_2 fl_X7_50 sh_79 rfl rfl rfl (fun r hr => by cases hr; rfl) ?_
  rw [hm]
  refine J_al0 dX7_calls_5 ?_
  refine M_cvI0 dX7_calls_6 lk_X7_186 cw_X7_isThere sh_79 rfl rfl (k_isThere htt.1) (by decide) (Nat.le_of_ble_eq_true rfl) (fun v_6 mem_6 hq => ?_)
  obtain ⟨rfl, hq⟩ := hq; have hq := hq.symm; subst hq
  refine J_ifne_b (tgt := 15) dX7_calls_9 rfl (fun c_9 => ?_) (fun c_9 => ?_)
  · skip
    refine J_il1 dX7_calls_15 ?_
    refine J_i2l dX7_calls_16 (by omega) ?_
    refine J_lconst1 dX7_calls_17 ?_
    refine J_ldc2 (n := 60) dX7_calls_18 col_X7_210 (by decide) ?_
    refine M_csI3 dX7_calls_21 lk_X7_60 cw_X7_in (k_in (by omega) (by omega) (by omega)) (by decide) (Nat.le_of_ble_eq_true rfl) (fun v_21 mem_21 hq => ?_)
    obtain ⟨rfl, hq⟩ := hq; have hq := hq.symm; subst hq
    refine J_ifne_b (tgt := 30) dX7_calls_24 rfl (fun c_24 => ?_) (fun c_24 => ?_)
    · skip
      refine J_al0 dX7_calls_30 ?_
      refine M_cvV0 dX7_calls_31 lk_X7_212 cw_X7_layThen sh_79 rfl rfl k_layThen (by decide) (Nat.le_of_ble_eq_true rfl) (fun mem_31 hq => ?_)
      obtain ⟨g1, g2⟩ := hq
      have hX : MX (mem_31 85) S.b.1 S.b.2 := (mbch h0).ext (by omega) (by omega) g1
      have x1 : FrX m0 mem_31 := fun q q1 _ _ => g2 q q1
      refine J_al0 dX7_calls_34 ?_
      refine J_al0 dX7_calls_35 ?_
      refine M_getR dX7_calls_36 fl_X7_25 sh_79 rfl ?_
      refine J_il1 dX7_calls_39 ?_
      refine M_cvI2 dX7_calls_40 lk_X7_183 cw_X7_hoursOf sh_79 rfl rfl (k_hoursOf isW85 hX hb (by omega) (by omega)) (by decide) (Nat.le_of_ble_eq_true rfl) (fun v_40 mem_40 hq => ?_)
      obtain ⟨rfl, hM2, hF2⟩ := hq
      refine M_iret dX7_calls_43 rfl ?_
      exact ⟨by unfold vCalls; rw [if_neg (by omega), if_neg (by omega)], h0.x (x1.tr hF2.x), hF.tr (x1.tr hF2.x).m⟩
    · skip
      refine J_ldc (n := -1000001) dX7_calls_27 co_X7_70 (by decide) ?_
      refine M_iret dX7_calls_29 rfl ?_
      exact ⟨by unfold vCalls; rw [if_neg (by omega), if_pos (by omega)], h0, hF⟩
  · skip
    refine J_ldc (n := -1000002) dX7_calls_12 co_X7_189 (by decide) ?_
    refine M_iret dX7_calls_14 rfl ?_
    exact ⟨by unfold vCalls; rw [if_pos (by omega)], h0, hF⟩
theorem m_kind {mem : ZMem} {S : ZS} (hS : MS mem S) (hI : SInv S) {m : Int} (hmr : In32 m) : CI mX7_kind 2 [zr 79, zi m] mem (QM mem (vKind S m, S)) := by
  have b1 := hI.bi.1
  have h0 := hS.thr
  have hF : FrM mem (mset mem 79 0 0) := FrM.rf.set (by omega)
  generalize hm : mset mem 79 0 0 = m0 at *
  have hen := h0.men
  refine CM.of (by decide +kernel) ([zr 79, zi m]) (zok_all rfl) (Nat.le_of_ble_eq_true rfl) rfl ?_
  refine J_al0 dX7_kind_0 ?_
  refine J_iconst dX7_kind_1 ?_
  refine M_put (ki := 0) dX7_kind_2 fl_X7_50 sh_79 rfl rfl rfl (fun r hr => by cases hr; rfl) ?_
  rw [hm]
  refine J_al0 dX7_kind_5 ?_
  refine J_il1 dX7_kind_6 ?_
  refine M_cvI1 dX7_kind_7 lk_X7_199 cw_X7_isMan sh_79 rfl rfl (k_isMan hmr (by omega)) (by decide) (Nat.le_of_ble_eq_true rfl) (fun v_7 mem_7 hq => ?_)
  obtain ⟨rfl, hq⟩ := hq; have hq := hq.symm; subst hq
  refine J_ifeq_b (tgt := 25) dX7_kind_10 rfl (fun c_10 => ?_) (fun c_10 => ?_)
  · skip
    refine J_ldc (n := -1000001) dX7_kind_25 co_X7_70 (by decide) ?_
    refine M_iret dX7_kind_27 rfl ?_
    first
    | exact ⟨by unfold vKind; rw [if_pos (by omega)], h0, hF⟩
    | exact ⟨by unfold vKind; rw [if_neg (by omega), Int.add_zero]; exact ((mbch h0).2.2 m (by omega) (by omega)).1, h0, hF⟩
  · skip
    refine J_al0 dX7_kind_13 ?_
    refine M_getR dX7_kind_14 fl_X7_19 sh_79 rfl ?_
    refine J_il1 dX7_kind_17 ?_
    refine J_iconst dX7_kind_18 ?_
    refine M_csI3 dX7_kind_19 lk_X7_163 cw_X7_of (k_of isW83 (by omega) (by omega)) (by decide) (Nat.le_of_ble_eq_true rfl) (fun v_19 mem_19 hq => ?_)
    obtain ⟨rfl, hq⟩ := hq; have hq := hq.symm; subst hq
    refine J_goto (tgt := 27) dX7_kind_22 rfl ?_
    refine M_iret dX7_kind_27 rfl ?_
    first
    | exact ⟨by unfold vKind; rw [if_pos (by omega)], h0, hF⟩
    | exact ⟨by unfold vKind; rw [if_neg (by omega), Int.add_zero]; exact ((mbch h0).2.2 m (by omega) (by omega)).1, h0, hF⟩
