theorem k_warmBehind {mem : ZMem} {b : BN} (hM : MX (mem 85) b.1 b.2) (hI : BInv b.1 b.2) {m n : Int} (hm : 0 ≤ m ∧ m < b.1 3) (hn : 0 ≤ n ∧ n ≤ 100) (hh : b.1 4 + n ≤ 2999) : CI mX7_warmBehind 6 [zr 79, zi m, zi n] mem (fun v mem' => v = wm (hrs n.toNat b).1.1 m ∧ MX (mem' 85) (hrs n.toNat b).1.1 (hrs n.toNat b).1.2 ∧ FrH 85 mem mem') := by
  have b1 := hI.1
  obtain ⟨i1, i2, i3, i4⟩ := hrs_inv (b := b) hI n.toNat
  have e3 := i2.1 3 (by omega) (by omega)
  refine CM.of (by decide +kernel) ([zr 79, zi m, zi n, zu]) (zok_all rfl) (Nat.le_of_ble_eq_true rfl) rfl ?_
  refine J_al0 dX7_warmBehind_0 ?_
  refine J_al0 dX7_warmBehind_1 ?_
  refine M_getR dX7_warmBehind_2 fl_X7_25 sh_79 rfl ?_
  refine J_il2 dX7_warmBehind_5 ?_
  refine M_cvI2 dX7_warmBehind_6 lk_X7_183 cw_X7_hoursOf sh_79 rfl rfl (k_hoursOf isW85 hM hI hn hh) (by decide) (Nat.le_of_ble_eq_true rfl) (fun v_6 mem_6 hq => ?_)
  obtain ⟨rfl, hM2, hF2⟩ := hq
  refine J_is3 dX7_warmBehind_9 (by decide) rfl ?_
  refine J_al0 dX7_warmBehind_10 ?_
  refine M_getR dX7_warmBehind_11 fl_X7_25 sh_79 rfl ?_
  refine J_il1 dX7_warmBehind_14 ?_
  refine J_iconst dX7_warmBehind_15 ?_
  refine M_csI3 dX7_warmBehind_16 lk_X7_163 cw_X7_of (k_of isW85 (by omega) (by omega)) (by decide) (Nat.le_of_ble_eq_true rfl) (fun v_16 mem_16 hq => ?_)
  obtain ⟨rfl, hq⟩ := hq; have hq := hq.symm; subst hq
  refine M_iret dX7_warmBehind_19 rfl ?_
  exact ⟨(hM2.2.2 m (by omega) (by omega)).2.2.2.1, hM2, hF2⟩
theorem m_ahead {mem : ZMem} {S : ZS} (hS : MS mem S) (hI : SInv S) {m n w : Int} (hmr : In32 m) (hn : In32 n) (hw : In32 w) : CI mX7_ahead 7 [zr 79, zi m, zi n, zi w] mem (QM mem (vAhead S m n w, S)) := by
  have hb := hI.bi
  have b1 := hb.1
  have hl := hb.len
  have hr := hI.hr
  have h0 := hS.thr
  have hF : FrM mem (mset mem 79 0 0) := FrM.rf.set (by omega)
  generalize hm : mset mem 79 0 0 = m0 at *
  have hen := h0.men
  have bad : (noM S m ∨ n < 0 ∨ 60 < n ∨ w < 0 ∨ 1 < w) → QM mem (vAhead S m n w, S) (-1000001) m0 := fun q => ⟨by unfold vAhead; rw [if_pos q], h0, hF⟩
  obtain ⟨i1, i2, i3, i4⟩ := hrs_inv (b := S.b) hb n.toNat
  refine CM.of (by decide +kernel) ([zr 79, zi m, zi n, zi w, zu]) (zok_all rfl) (Nat.le_of_ble_eq_true rfl) rfl ?_
  refine J_al0 dX7_ahead_0 ?_
  refine J_iconst dX7_ahead_1 ?_
  refine M_put (ki := 0) dX7_ahead_2 fl_X7_50 sh_79 rfl rfl rfl (fun r hr => by cases hr; rfl) ?_
  rw [hm]
  refine J_al0 dX7_ahead_5 ?_
  refine J_il1 dX7_ahead_6 ?_
  refine M_cvI1 dX7_ahead_7 lk_X7_199 cw_X7_isMan sh_79 rfl rfl (k_isMan hmr (by omega)) (by decide) (Nat.le_of_ble_eq_true rfl) (fun v_7 mem_7 hq => ?_)
  obtain ⟨rfl, hq⟩ := hq; have hq := hq.symm; subst hq
  refine J_ifeq_b (tgt := 35) dX7_ahead_10 rfl (fun c_10 => ?_) (fun c_10 => ?_)
  · skip
    refine J_ldc (n := -1000001) dX7_ahead_35 co_X7_70 (by decide) ?_
    refine M_iret dX7_ahead_37 rfl ?_
    exact bad (by omega)
  · skip
    refine J_il2 dX7_ahead_13 ?_
    refine J_i2l dX7_ahead_14 (by omega) ?_
    refine J_lconst0 dX7_ahead_15 ?_
    refine J_ldc2 (n := 60) dX7_ahead_16 col_X7_210 (by decide) ?_
    refine M_csI3 dX7_ahead_19 lk_X7_60 cw_X7_in (k_in (by omega) (by omega) (by omega)) (by decide) (Nat.le_of_ble_eq_true rfl) (fun v_19 mem_19 hq => ?_)
    obtain ⟨rfl, hq⟩ := hq; have hq := hq.symm; subst hq
    refine J_ifeq_b (tgt := 35) dX7_ahead_22 rfl (fun c_22 => ?_) (fun c_22 => ?_)
    · skip
      refine J_ldc (n := -1000001) dX7_ahead_35 co_X7_70 (by decide) ?_
      refine M_iret dX7_ahead_37 rfl ?_
      exact bad (by omega)
    · skip
      refine J_il3 dX7_ahead_25 ?_
      refine J_i2l dX7_ahead_26 (by omega) ?_
      refine J_lconst0 dX7_ahead_27 ?_
      refine J_lconst1 dX7_ahead_28 ?_
      refine M_csI3 dX7_ahead_29 lk_X7_60 cw_X7_in (k_in (by omega) (by omega) (by omega)) (by decide) (Nat.le_of_ble_eq_true rfl) (fun v_29 mem_29 hq => ?_)
      obtain ⟨rfl, hq⟩ := hq; have hq := hq.symm; subst hq
      refine J_ifne_b (tgt := 38) dX7_ahead_32 rfl (fun c_32 => ?_) (fun c_32 => ?_)
      · skip
        refine J_al0 dX7_ahead_38 ?_
        refine M_cvV0 dX7_ahead_39 lk_X7_212 cw_X7_layThen sh_79 rfl rfl k_layThen (by decide) (Nat.le_of_ble_eq_true rfl) (fun mem_39 hq => ?_)
        obtain ⟨g1, g2⟩ := hq
        have hX : MX (mem_39 85) S.b.1 S.b.2 := (mbch h0).ext (by omega) (by omega) g1
        have x1 : FrX m0 mem_39 := fun q q1 _ _ => g2 q q1
        refine J_al0 dX7_ahead_42 ?_
        refine J_il1 dX7_ahead_43 ?_
        refine J_il2 dX7_ahead_44 ?_
        refine M_cvI2 dX7_ahead_45 lk_X7_215 cw_X7_warmBehind sh_79 rfl rfl (k_warmBehind hX hb (by omega) (by omega) (by omega)) (by decide) (Nat.le_of_ble_eq_true rfl) (fun v_45 mem_45 hq => ?_)
        obtain ⟨rfl, hM2, hF2⟩ := hq
        refine J_is4 dX7_ahead_48 (by decide) rfl ?_
        refine J_il3 dX7_ahead_50 ?_
        refine J_ifne (tgt := 65) dX7_ahead_51 rfl (by omega) (fun c_51 => ?_) (fun c_51 => ?_)
        · skip
          refine J_il4 dX7_ahead_65 ?_
          refine M_iret dX7_ahead_67 rfl ?_
          first
          | exact ⟨by unfold vAhead; rw [if_neg (by omega), if_pos (by omega)], h0.x (x1.tr hF2.x), hF.tr (x1.tr hF2.x).m⟩
          | exact ⟨by unfold vAhead; rw [if_neg (by omega), if_neg (by omega)], h0.x (x1.tr hF2.x), hF.tr (x1.tr hF2.x).m⟩
        · skip
          refine J_al0 dX7_ahead_54 ?_
          refine M_getR dX7_ahead_55 fl_X7_25 sh_79 rfl ?_
          refine J_il1 dX7_ahead_58 ?_
          refine M_csI2 dX7_ahead_59 lk_X7_156 cw_X7_placeOf (k_mplaceOf isW85 hM2 i1 hmr) (by decide) (Nat.le_of_ble_eq_true rfl) (fun v_59 mem_59 hq => ?_)
          obtain ⟨rfl, hq⟩ := hq; have hq := hq.symm; subst hq
          refine J_goto (tgt := 67) dX7_ahead_62 rfl ?_
          refine M_iret dX7_ahead_67 rfl ?_
          first
          | exact ⟨by unfold vAhead; rw [if_neg (by omega), if_pos (by omega)], h0.x (x1.tr hF2.x), hF.tr (x1.tr hF2.x).m⟩
          | exact ⟨by unfold vAhead; rw [if_neg (by omega), if_neg (by omega)], h0.x (x1.tr hF2.x), hF.tr (x1.tr hF2.x).m⟩
      · skip
        refine J_ldc (n := -1000001) dX7_ahead_35 co_X7_70 (by decide) ?_
        refine M_iret dX7_ahead_37 rfl ?_
        exact bad (by omega)
theorem m_wager {mem : ZMem} {S : ZS} (hS : MS mem S) (hI : SInv S) {m o n : Int} (hmr : In32 m) (ho : In32 o) (hn : In32 n) : CI mX7_wager 7 [zr 79, zi m, zi o, zi n] mem (QM mem (vWager S m o n, S)) := by
  have hb := hI.bi
  have b1 := hb.1
  have hl := hb.len
  have hr := hI.hr
  have h0 := hS.thr
  have hF : FrM mem (mset mem 79 0 0) := FrM.rf.set (by omega)
  generalize hm : mset mem 79 0 0 = m0 at *
  have hen := h0.men
  have bad : (noM S m ∨ noM S o ∨ m = o ∨ n < 1 ∨ 60 < n) → QM mem (vWager S m o n, S) (-1000001) m0 := fun q => ⟨by unfold vWager; rw [if_pos q], h0, hF⟩
  obtain ⟨i1, i2, i3, i4⟩ := hrs_inv (b := S.b) hb n.toNat
  have e3 := i2.1 3 (by omega) (by omega)
  refine CM.of (by decide +kernel) ([zr 79, zi m, zi o, zi n, zu]) (zok_all rfl) (Nat.le_of_ble_eq_true rfl) rfl ?_
  refine J_al0 dX7_wager_0 ?_
  refine J_iconst dX7_wager_1 ?_
  refine M_put (ki := 0) dX7_wager_2 fl_X7_50 sh_79 rfl rfl rfl (fun r hr => by cases hr; rfl) ?_
  rw [hm]
  refine J_al0 dX7_wager_5 ?_
  refine J_il1 dX7_wager_6 ?_
  refine M_cvI1 dX7_wager_7 lk_X7_199 cw_X7_isMan sh_79 rfl rfl (k_isMan hmr (by omega)) (by decide) (Nat.le_of_ble_eq_true rfl) (fun v_7 mem_7 hq => ?_)
  obtain ⟨rfl, hq⟩ := hq; have hq := hq.symm; subst hq
  refine J_ifeq_b (tgt := 38) dX7_wager_10 rfl (fun c_10 => ?_) (fun c_10 => ?_)
  · skip
    refine J_ldc (n := -1000001) dX7_wager_38 co_X7_70 (by decide) ?_
    refine M_iret dX7_wager_40 rfl ?_
    exact bad (by omega)
  · skip
    refine J_al0 dX7_wager_13 ?_
    refine J_il2 dX7_wager_14 ?_
    refine M_cvI1 dX7_wager_15 lk_X7_199 cw_X7_isMan sh_79 rfl rfl (k_isMan ho (by omega)) (by decide) (Nat.le_of_ble_eq_true rfl) (fun v_15 mem_15 hq => ?_)
    obtain ⟨rfl, hq⟩ := hq; have hq := hq.symm; subst hq
    refine J_ifeq_b (tgt := 38) dX7_wager_18 rfl (fun c_18 => ?_) (fun c_18 => ?_)
    · skip
      refine J_ldc (n := -1000001) dX7_wager_38 co_X7_70 (by decide) ?_
      refine M_iret dX7_wager_40 rfl ?_
      exact bad (by omega)
    · skip
      refine J_il1 dX7_wager_21 ?_
      refine J_il2 dX7_wager_22 ?_
      refine J_ceq (tgt := 38) dX7_wager_23 rfl (by omega) (fun c_23 => ?_) (fun c_23 => ?_)
      · skip
        refine J_ldc (n := -1000001) dX7_wager_38 co_X7_70 (by decide) ?_
        refine M_iret dX7_wager_40 rfl ?_
        exact bad (by omega)
      · skip
        refine J_il3 dX7_wager_26 ?_
        refine J_i2l dX7_wager_27 (by omega) ?_
        refine J_lconst1 dX7_wager_28 ?_
        refine J_ldc2 (n := 60) dX7_wager_29 col_X7_210 (by decide) ?_
        refine M_csI3 dX7_wager_32 lk_X7_60 cw_X7_in (k_in (by omega) (by omega) (by omega)) (by decide) (Nat.le_of_ble_eq_true rfl) (fun v_32 mem_32 hq => ?_)
        obtain ⟨rfl, hq⟩ := hq; have hq := hq.symm; subst hq
        refine J_ifne_b (tgt := 41) dX7_wager_35 rfl (fun c_35 => ?_) (fun c_35 => ?_)
        · skip
          refine J_al0 dX7_wager_41 ?_
          refine M_cvV0 dX7_wager_42 lk_X7_212 cw_X7_layThen sh_79 rfl rfl k_layThen (by decide) (Nat.le_of_ble_eq_true rfl) (fun mem_42 hq => ?_)
          obtain ⟨g1, g2⟩ := hq
          have hX : MX (mem_42 85) S.b.1 S.b.2 := (mbch h0).ext (by omega) (by omega) g1
          have x1 : FrX m0 mem_42 := fun q q1 _ _ => g2 q q1
          refine J_al0 dX7_wager_45 ?_
          refine J_il1 dX7_wager_46 ?_
          refine J_il3 dX7_wager_47 ?_
          refine M_cvI2 dX7_wager_48 lk_X7_215 cw_X7_warmBehind sh_79 rfl rfl (k_warmBehind hX hb (by omega) (by omega) (by omega)) (by decide) (Nat.le_of_ble_eq_true rfl) (fun v_48 mem_48 hq => ?_)
          obtain ⟨rfl, hM2, hF2⟩ := hq
          refine J_is4 dX7_wager_51 (by decide) rfl ?_
          refine J_sipush dX7_wager_53 rfl ?_
          refine J_il4 dX7_wager_56 ?_
          refine J_iadd dX7_wager_58 ?_
          refine J_al0 dX7_wager_59 ?_
          refine M_getR dX7_wager_60 fl_X7_25 sh_79 rfl ?_
          refine J_il2 dX7_wager_63 ?_
          refine J_iconst dX7_wager_64 ?_
          refine M_csI3 dX7_wager_65 lk_X7_163 cw_X7_of (k_of isW85 (by omega) (by omega)) (by decide) (Nat.le_of_ble_eq_true rfl) (fun v_65 mem_65 hq => ?_)
          obtain ⟨rfl, hq⟩ := hq; have hq := hq.symm; subst hq
          refine J_isub dX7_wager_68 ?_
          refine M_iret dX7_wager_69 rfl ?_
          have e := (hM2.2.2 o (by omega) (by omega)).2.2.2.1
          exact ⟨by unfold vWager; rw [if_neg (by omega), e]; show _ = wm (hrs n.toNat S.b).1.1 m - wm (hrs n.toNat S.b).1.1 o + 1000; omega, h0.x (x1.tr hF2.x), hF.tr (x1.tr hF2.x).m⟩
        · skip
          refine J_ldc (n := -1000001) dX7_wager_38 co_X7_70 (by decide) ?_
          refine M_iret dX7_wager_40 rfl ?_
          exact bad (by omega)
