theorem c_ahead {mem : ZMem} {S : ZS} (hC : CS mem S) (hI : SInv S) {m n w : Int} (hm : In32 m) (hn : In32 n) (hw : In32 w) : CI mX6_ahead 8 [zr 0, zi m, zi n, zi w] mem (QS mem (vAhead S m n w, S)) := by
  have hb := hI.bi
  have b1 := hb.1
  have hr := hI.hr
  have hen := hC.men
  have hB := bch hC
  have bad : (noM S m ∨ n < 0 ∨ 60 < n ∨ w < 0 ∨ 1 < w) → QS mem (vAhead S m n w, S) (-1000001) mem := fun q => ⟨by unfold vAhead; rw [if_pos q], hC, FrC.rf⟩
  refine CM.of (by decide +kernel) ([zr 0, zi m, zi n, zi w]) (zok_all rfl) (Nat.le_of_ble_eq_true rfl) rfl ?_
  refine J_al0 dX6_ahead_0 ?_
  refine J_il1 dX6_ahead_1 ?_
  refine M_cvI1 dX6_ahead_2 lk_X6_159 cw_X6_noMan sh_0 rfl rfl (k_noMan hm (by omega)) (by decide) (Nat.le_of_ble_eq_true rfl) (fun v_2 mem_2 hq => ?_)
  obtain ⟨rfl, hq⟩ := hq; have hq := hq.symm; subst hq
  refine J_ifne_b (tgt := 27) dX6_ahead_5 rfl (fun c_5 => ?_) (fun c_5 => ?_)
  · skip
    refine J_ldc (n := -1000001) dX6_ahead_27 co_X6_71 (by decide) ?_
    refine M_iret dX6_ahead_29 rfl ?_
    exact bad (by omega)
  · skip
    refine J_il2 dX6_ahead_8 ?_
    refine J_iconst dX6_ahead_9 ?_
    refine J_bipush dX6_ahead_10 rfl ?_
    refine M_csI3 dX6_ahead_12 lk_X6_67 cw_X6_outside (k_outside hn (by omega) (by omega)) (by decide) (Nat.le_of_ble_eq_true rfl) (fun v_12 mem_12 hq => ?_)
    obtain ⟨rfl, hq⟩ := hq; have hq := hq.symm; subst hq
    refine J_ifne_b (tgt := 27) dX6_ahead_15 rfl (fun c_15 => ?_) (fun c_15 => ?_)
    · skip
      refine J_ldc (n := -1000001) dX6_ahead_27 co_X6_71 (by decide) ?_
      refine M_iret dX6_ahead_29 rfl ?_
      exact bad (by omega)
    · skip
      refine J_il3 dX6_ahead_18 ?_
      refine J_iconst dX6_ahead_19 ?_
      refine J_iconst dX6_ahead_20 ?_
      refine M_csI3 dX6_ahead_21 lk_X6_67 cw_X6_outside (k_outside hw (by omega) (by omega)) (by decide) (Nat.le_of_ble_eq_true rfl) (fun v_21 mem_21 hq => ?_)
      obtain ⟨rfl, hq⟩ := hq; have hq := hq.symm; subst hq
      refine J_ifeq_b (tgt := 30) dX6_ahead_24 rfl (fun c_24 => ?_) (fun c_24 => ?_)
      · skip
        refine J_al0 dX6_ahead_30 ?_
        refine J_al0 dX6_ahead_31 ?_
        refine M_getR dX6_ahead_32 fl_X6_43 sh_0 rfl ?_
        refine J_il2 dX6_ahead_35 ?_
        refine M_cvI2 dX6_ahead_36 lk_X6_219 cw_X6_foretell sh_0 rfl rfl (k_foretell (Or.inr (Or.inr (Or.inr (Or.inl rfl)))) (Or.inl rfl) hB hb (by omega) hr) (by decide) (Nat.le_of_ble_eq_true rfl) (fun v_36 mem_36 hq => ?_)
        obtain ⟨rfl, hB2, hF⟩ := hq
        have hB2 : CB mem_36 63 (hrs n.toNat S.b).1.1 (hrs n.toNat S.b).1.2 := hB2
        obtain ⟨i1, i2, i3, i4⟩ := hrs_inv (b := S.b) hb n.toNat
        have e3 := i2.1 3 (by omega) (by omega)
        refine J_pop dX6_ahead_39 rfl ?_
        refine J_il3 dX6_ahead_40 ?_
        refine J_ifne (tgt := 55) dX6_ahead_41 rfl (by omega) (fun c_41 => ?_) (fun c_41 => ?_)
        · skip
          refine J_al0 dX6_ahead_55 ?_
          refine M_getR dX6_ahead_56 fl_X6_43 sh_0 rfl ?_
          refine M_getR dX6_ahead_59 fl_X6_193 sh_63 rfl ?_
          refine J_il1 dX6_ahead_62 ?_
          refine M_ald dX6_ahead_63 sh_68 (by decide) (by omega) ?_
          refine M_iret dX6_ahead_64 rfl ?_
          first
          | exact ⟨by unfold vAhead; rw [if_neg (by omega), if_pos (by omega)], hC.ext (hF.t (Or.inl rfl)), (hF.t (Or.inl rfl)).c⟩
          | exact ⟨by unfold vAhead; rw [if_neg (by omega), if_neg (by omega)]; exact (hB2.2.2 m (by omega) (by omega)).2.2.2.1, hC.ext (hF.t (Or.inl rfl)), (hF.t (Or.inl rfl)).c⟩
        · skip
          refine J_al0 dX6_ahead_44 ?_
          refine M_getR dX6_ahead_45 fl_X6_43 sh_0 rfl ?_
          refine J_il1 dX6_ahead_48 ?_
          refine M_csI2 dX6_ahead_49 lk_X6_189 cw_X6_placeOrNone (k_placeOrNone (Or.inr (Or.inr (Or.inr (Or.inl rfl)))) hB2 i1 hm) (by decide) (Nat.le_of_ble_eq_true rfl) (fun v_49 mem_49 hq => ?_)
          obtain ⟨rfl, hq⟩ := hq; have hq := hq.symm; subst hq
          refine J_goto (tgt := 64) dX6_ahead_52 rfl ?_
          refine M_iret dX6_ahead_64 rfl ?_
          first
          | exact ⟨by unfold vAhead; rw [if_neg (by omega), if_pos (by omega)], hC.ext (hF.t (Or.inl rfl)), (hF.t (Or.inl rfl)).c⟩
          | exact ⟨by unfold vAhead; rw [if_neg (by omega), if_neg (by omega)]; exact (hB2.2.2 m (by omega) (by omega)).2.2.2.1, hC.ext (hF.t (Or.inl rfl)), (hF.t (Or.inl rfl)).c⟩
      · skip
        refine J_ldc (n := -1000001) dX6_ahead_27 co_X6_71 (by decide) ?_
        refine M_iret dX6_ahead_29 rfl ?_
        exact bad (by omega)
theorem c_wager {mem : ZMem} {S : ZS} (hC : CS mem S) (hI : SInv S) {m o n : Int} (hm : In32 m) (ho : In32 o) (hn : In32 n) : CI mX6_wager 8 [zr 0, zi m, zi o, zi n] mem (QS mem (vWager S m o n, S)) := by
  have hb := hI.bi
  have b1 := hb.1
  have hr := hI.hr
  have hen := hC.men
  have hB := bch hC
  have bad : (noM S m ∨ noM S o ∨ m = o ∨ n < 1 ∨ 60 < n) → QS mem (vWager S m o n, S) (-1000001) mem := fun q => ⟨by unfold vWager; rw [if_pos q], hC, FrC.rf⟩
  refine CM.of (by decide +kernel) ([zr 0, zi m, zi o, zi n]) (zok_all rfl) (Nat.le_of_ble_eq_true rfl) rfl ?_
  refine J_al0 dX6_wager_0 ?_
  refine J_il1 dX6_wager_1 ?_
  refine M_cvI1 dX6_wager_2 lk_X6_159 cw_X6_noMan sh_0 rfl rfl (k_noMan hm (by omega)) (by decide) (Nat.le_of_ble_eq_true rfl) (fun v_2 mem_2 hq => ?_)
  obtain ⟨rfl, hq⟩ := hq; have hq := hq.symm; subst hq
  refine J_ifne_b (tgt := 31) dX6_wager_5 rfl (fun c_5 => ?_) (fun c_5 => ?_)
  · skip
    refine J_ldc (n := -1000001) dX6_wager_31 co_X6_71 (by decide) ?_
    refine M_iret dX6_wager_33 rfl ?_
    exact bad (by omega)
  · skip
    refine J_al0 dX6_wager_8 ?_
    refine J_il2 dX6_wager_9 ?_
    refine M_cvI1 dX6_wager_10 lk_X6_159 cw_X6_noMan sh_0 rfl rfl (k_noMan ho (by omega)) (by decide) (Nat.le_of_ble_eq_true rfl) (fun v_10 mem_10 hq => ?_)
    obtain ⟨rfl, hq⟩ := hq; have hq := hq.symm; subst hq
    refine J_ifne_b (tgt := 31) dX6_wager_13 rfl (fun c_13 => ?_) (fun c_13 => ?_)
    · skip
      refine J_ldc (n := -1000001) dX6_wager_31 co_X6_71 (by decide) ?_
      refine M_iret dX6_wager_33 rfl ?_
      exact bad (by omega)
    · skip
      refine J_il1 dX6_wager_16 ?_
      refine J_il2 dX6_wager_17 ?_
      refine J_ceq (tgt := 31) dX6_wager_18 rfl (by omega) (fun c_18 => ?_) (fun c_18 => ?_)
      · skip
        refine J_ldc (n := -1000001) dX6_wager_31 co_X6_71 (by decide) ?_
        refine M_iret dX6_wager_33 rfl ?_
        exact bad (by omega)
      · skip
        refine J_il3 dX6_wager_21 ?_
        refine J_iconst dX6_wager_22 ?_
        refine J_bipush dX6_wager_23 rfl ?_
        refine M_csI3 dX6_wager_25 lk_X6_67 cw_X6_outside (k_outside hn (by omega) (by omega)) (by decide) (Nat.le_of_ble_eq_true rfl) (fun v_25 mem_25 hq => ?_)
        obtain ⟨rfl, hq⟩ := hq; have hq := hq.symm; subst hq
        refine J_ifeq_b (tgt := 34) dX6_wager_28 rfl (fun c_28 => ?_) (fun c_28 => ?_)
        · skip
          refine J_al0 dX6_wager_34 ?_
          refine J_al0 dX6_wager_35 ?_
          refine M_getR dX6_wager_36 fl_X6_43 sh_0 rfl ?_
          refine J_il3 dX6_wager_39 ?_
          refine M_cvI2 dX6_wager_40 lk_X6_219 cw_X6_foretell sh_0 rfl rfl (k_foretell (Or.inr (Or.inr (Or.inr (Or.inl rfl)))) (Or.inl rfl) hB hb (by omega) hr) (by decide) (Nat.le_of_ble_eq_true rfl) (fun v_40 mem_40 hq => ?_)
          obtain ⟨rfl, hB2, hF⟩ := hq
          have hB2 : CB mem_40 63 (hrs n.toNat S.b).1.1 (hrs n.toNat S.b).1.2 := hB2
          obtain ⟨i1, i2, i3, i4⟩ := hrs_inv (b := S.b) hb n.toNat
          have e3 := i2.1 3 (by omega) (by omega)
          refine J_pop dX6_wager_43 rfl ?_
          refine J_al0 dX6_wager_44 ?_
          refine M_getR dX6_wager_45 fl_X6_43 sh_0 rfl ?_
          refine M_getR dX6_wager_48 fl_X6_193 sh_63 rfl ?_
          refine J_il1 dX6_wager_51 ?_
          refine M_ald dX6_wager_52 sh_68 (by decide) (by omega) ?_
          refine J_al0 dX6_wager_53 ?_
          refine M_getR dX6_wager_54 fl_X6_43 sh_0 rfl ?_
          refine M_getR dX6_wager_57 fl_X6_193 sh_63 rfl ?_
          refine J_il2 dX6_wager_60 ?_
          refine M_ald dX6_wager_61 sh_68 (by decide) (by omega) ?_
          refine J_isub dX6_wager_62 ?_
          refine J_sipush dX6_wager_63 rfl ?_
          refine J_iadd dX6_wager_66 ?_
          refine M_iret dX6_wager_67 rfl ?_
          refine ⟨?_, hC.ext (hF.t (Or.inl rfl)), (hF.t (Or.inl rfl)).c⟩
          have e1 : mem_40 68 m = wm (hrs n.toNat S.b).1.1 m := (hB2.2.2 m (by omega) (by omega)).2.2.2.1
          have e2 : mem_40 68 o = wm (hrs n.toNat S.b).1.1 o := (hB2.2.2 o (by omega) (by omega)).2.2.2.1
          unfold vWager; rw [if_neg (by omega), e1, e2]
        · skip
          refine J_ldc (n := -1000001) dX6_wager_31 co_X6_71 (by decide) ?_
          refine M_iret dX6_wager_33 rfl ?_
          exact bad (by omega)
theorem c_calls {mem : ZMem} {S : ZS} (hC : CS mem S) (hI : SInv S) {n : Int} (hn : In32 n) : CI mX6_calls 8 [zr 0, zi n] mem (QS mem (vCalls S n, S)) := by
  have hb := hI.bi
  have b1 := hb.1
  have hr := hI.hr
  have hen := hC.men
  have hB := bch hC
  refine CM.of (by decide +kernel) ([zr 0, zi n]) (zok_all rfl) (Nat.le_of_ble_eq_true rfl) rfl ?_
  refine J_al0 dX6_calls_0 ?_
  refine M_cvI0 dX6_calls_1 lk_X6_143 cw_X6_noBench sh_0 rfl rfl (k_noBench (by omega)) (by decide) (Nat.le_of_ble_eq_true rfl) (fun v_1 mem_1 hq => ?_)
  obtain ⟨rfl, hq⟩ := hq; have hq := hq.symm; subst hq
  refine J_ifeq_b (tgt := 10) dX6_calls_4 rfl (fun c_4 => ?_) (fun c_4 => ?_)
  · skip
    refine J_il1 dX6_calls_10 ?_
    refine J_iconst dX6_calls_11 ?_
    refine J_bipush dX6_calls_12 rfl ?_
    refine M_csI3 dX6_calls_14 lk_X6_67 cw_X6_outside (k_outside hn (by omega) (by omega)) (by decide) (Nat.le_of_ble_eq_true rfl) (fun v_14 mem_14 hq => ?_)
    obtain ⟨rfl, hq⟩ := hq; have hq := hq.symm; subst hq
    refine J_ifeq_b (tgt := 25) dX6_calls_17 rfl (fun c_17 => ?_) (fun c_17 => ?_)
    · skip
      refine J_al0 dX6_calls_25 ?_
      refine J_al0 dX6_calls_26 ?_
      refine M_getR dX6_calls_27 fl_X6_43 sh_0 rfl ?_
      refine J_il1 dX6_calls_30 ?_
      refine M_cvI2 dX6_calls_31 lk_X6_219 cw_X6_foretell sh_0 rfl rfl (k_foretell (Or.inr (Or.inr (Or.inr (Or.inl rfl)))) (Or.inl rfl) hB hb (by omega) hr) (by decide) (Nat.le_of_ble_eq_true rfl) (fun v_31 mem_31 hq => ?_)
      obtain ⟨rfl, hB2, hF⟩ := hq
      refine M_iret dX6_calls_34 rfl ?_
      first
      | exact ⟨by unfold vCalls; rw [if_neg (by omega), if_pos (by omega)], hC, FrC.rf⟩
      | exact ⟨by unfold vCalls; rw [if_neg (by omega), if_neg (by omega)], hC.ext (hF.t (Or.inl rfl)), (hF.t (Or.inl rfl)).c⟩
    · skip
      refine J_ldc (n := -1000001) dX6_calls_20 co_X6_71 (by decide) ?_
      refine J_goto (tgt := 34) dX6_calls_22 rfl ?_
      refine M_iret dX6_calls_34 rfl ?_
      first
      | exact ⟨by unfold vCalls; rw [if_neg (by omega), if_pos (by omega)], hC, FrC.rf⟩
      | exact ⟨by unfold vCalls; rw [if_neg (by omega), if_neg (by omega)], hC.ext (hF.t (Or.inl rfl)), (hF.t (Or.inl rfl)).c⟩
  · skip
    refine J_ldc (n := -1000002) dX6_calls_7 co_X6_139 (by decide) ?_
    refine M_iret dX6_calls_9 rfl ?_
    exact ⟨by unfold vCalls; rw [if_pos (by omega)], hC, FrC.rf⟩
theorem c_most {mem : ZMem} {S : ZS} (hC : CS mem S) (hI : SInv S) {n w : Int} (hn : In32 n) (hw : In32 w) : CI mX6_most 8 [zr 0, zi n, zi w] mem (QS mem (vMost S n w, S)) := by
  have hb := hI.bi
  have b1 := hb.1
  have hr := hI.hr
  have hen := hC.men
  have hB := bch hC
  have bad : ¬ S.b.1 3 = 0 → (n < 0 ∨ 60 < n ∨ w < 0 ∨ 1 < w) → QS mem (vMost S n w, S) (-1000001) mem := fun q0 q => ⟨by unfold vMost; rw [if_neg q0, if_pos q], hC, FrC.rf⟩
  have fin : ∀ (m2 : ZMem) (best k : Int), ¬ S.b.1 3 = 0 → ¬ (n < 0 ∨ 60 < n ∨ w < 0 ∨ 1 < w) → CB m2 63 (hrs n.toNat S.b).1.1 (hrs n.toNat S.b).1.2 → FrB 63 mem m2 → best = bstN (hrs n.toNat S.b).1.1 (S.b.1 3 - 1).toNat → JM mX6_most 8 (QI (QS mem (vMost S n w, S))) 90 [zr 0, zi n, zi w, zi best, zi k] [] m2 := by
    intro m2 best k z0 z1 hB2 hF e
    have hbr := bstN_range (hrs n.toNat S.b).1.1 (S.b.1 3 - 1).toNat
    obtain ⟨i1, i2, i3, i4⟩ := hrs_inv (b := S.b) hb n.toNat
    have e3 := i2.1 3 (by omega) (by omega)
    refine J_il2 dX6_most_90 ?_
    refine J_ifne (tgt := 98) dX6_most_91 rfl (by omega) (fun c_91 => ?_) (fun c_91 => ?_)
    · skip
      refine J_al0 dX6_most_98 ?_
      refine M_getR dX6_most_99 fl_X6_43 sh_0 rfl ?_
      refine M_getR dX6_most_102 fl_X6_193 sh_63 rfl ?_
      refine J_il3 dX6_most_105 ?_
      refine M_ald dX6_most_106 sh_68 (by decide) (by omega) ?_
      refine M_iret dX6_most_107 rfl ?_
      first
      | exact ⟨by unfold vMost; rw [if_neg z0, if_neg z1, if_pos (by omega)]; exact e, hC.ext (hF.t (Or.inl rfl)), (hF.t (Or.inl rfl)).c⟩
      | exact ⟨by unfold vMost; rw [if_neg z0, if_neg z1, if_neg (by omega), ← e]; exact (hB2.2.2 best (by omega) (by omega)).2.2.2.1, hC.ext (hF.t (Or.inl rfl)), (hF.t (Or.inl rfl)).c⟩
    · skip
      refine J_il3 dX6_most_94 ?_
      refine J_goto (tgt := 107) dX6_most_95 rfl ?_
      refine M_iret dX6_most_107 rfl ?_
      first
      | exact ⟨by unfold vMost; rw [if_neg z0, if_neg z1, if_pos (by omega)]; exact e, hC.ext (hF.t (Or.inl rfl)), (hF.t (Or.inl rfl)).c⟩
      | exact ⟨by unfold vMost; rw [if_neg z0, if_neg z1, if_neg (by omega), ← e]; exact (hB2.2.2 best (by omega) (by omega)).2.2.2.1, hC.ext (hF.t (Or.inl rfl)), (hF.t (Or.inl rfl)).c⟩
  have loop : ¬ S.b.1 3 = 0 → ¬ (n < 0 ∨ 60 < n ∨ w < 0 ∨ 1 < w) → ∀ (c kn : Nat) (m2 : ZMem) (best k : Int), k = kn + 1 → k ≤ S.b.1 3 → S.b.1 3 - k ≤ c → CB m2 63 (hrs n.toNat S.b).1.1 (hrs n.toNat S.b).1.2 → FrB 63 mem m2 → best = bstN (hrs n.toNat S.b).1.1 kn → JM mX6_most 8 (QI (QS mem (vMost S n w, S))) 47 [zr 0, zi n, zi w, zi best, zi k] [] m2 := by
    intro z0 z1 c
    obtain ⟨i1, i2, i3, i4⟩ := hrs_inv (b := S.b) hb n.toNat
    have e3 := i2.1 3 (by omega) (by omega)
    induction c with
    | zero =>
      intro kn m2 best k ek k1 k2 hB2 hF e
      have h3 : m2 63 2 = S.b.1 3 := hB2.1.2.2.1.trans e3
      refine J_il4 dX6_most_47 ?_
      refine J_al0 dX6_most_49 ?_
      refine M_getR dX6_most_50 fl_X6_43 sh_0 rfl ?_
      refine M_get (ki := 2) dX6_most_53 fl_X6_133 sh_63 rfl rfl ?_
      refine J_cge (tgt := 90) dX6_most_56 rfl (by omega) (fun c_56 => ?_) (fun c_56 => ?_)
      · skip
        exact fin m2 best k z0 z1 hB2 hF (by rw [e]; congr 1; omega)
      · skip
        omega
    | succ c ih =>
      intro kn m2 best k ek k1 k2 hB2 hF e
      have h3 : m2 63 2 = S.b.1 3 := hB2.1.2.2.1.trans e3
      have hbr := bstN_range (hrs n.toNat S.b).1.1 kn
      refine J_il4 dX6_most_47 ?_
      refine J_al0 dX6_most_49 ?_
      refine M_getR dX6_most_50 fl_X6_43 sh_0 rfl ?_
      refine M_get (ki := 2) dX6_most_53 fl_X6_133 sh_63 rfl rfl ?_
      refine J_cge (tgt := 90) dX6_most_56 rfl (by omega) (fun c_56 => ?_) (fun c_56 => ?_)
      · skip
        exact fin m2 best k z0 z1 hB2 hF (by rw [e]; congr 1; omega)
      · skip
        have e4 : m2 68 k = wm (hrs n.toNat S.b).1.1 (kn + 1) := by rw [← ek]; exact (hB2.2.2 k (by omega) (by omega)).2.2.2.1
        have e5 : m2 68 best = wm (hrs n.toNat S.b).1.1 (bstN (hrs n.toNat S.b).1.1 kn) := by rw [← e]; exact (hB2.2.2 best (by omega) (by omega)).2.2.2.1
        have r4 := (i1.2.2.2.2.1 k (by omega) (by omega)).2.2.2.1
        have r5 := (i1.2.2.2.2.1 best (by omega) (by omega)).2.2.2.1
        rw [ek] at r4
        rw [e] at r5
        refine J_al0 dX6_most_59 ?_
        refine M_getR dX6_most_60 fl_X6_43 sh_0 rfl ?_
        refine M_getR dX6_most_63 fl_X6_193 sh_63 rfl ?_
        refine J_il4 dX6_most_66 ?_
        refine M_ald dX6_most_68 sh_68 (by decide) (by omega) ?_
        refine J_al0 dX6_most_69 ?_
        refine M_getR dX6_most_70 fl_X6_43 sh_0 rfl ?_
        refine M_getR dX6_most_73 fl_X6_193 sh_63 rfl ?_
        refine J_il3 dX6_most_76 ?_
        refine M_ald dX6_most_77 sh_68 (by decide) (by omega) ?_
        refine J_cle (tgt := 84) dX6_most_78 rfl (by omega) (fun c_78 => ?_) (fun c_78 => ?_)
        · skip
          refine J_inc4 dX6_most_84 (by decide) rfl ?_
          refine J_goto (tgt := 47) dX6_most_87 rfl ?_
          refine ih (kn + 1) m2 _ _ (by omega) (by omega) (by omega) hB2 hF ?_
          unfold bstN
          first | (rw [if_pos (by omega)]; exact ek) | (rw [if_neg (by omega)]; exact e)
        · skip
          refine J_il4 dX6_most_81 ?_
          refine J_is3 dX6_most_83 (by decide) rfl ?_
          refine J_inc4 dX6_most_84 (by decide) rfl ?_
          refine J_goto (tgt := 47) dX6_most_87 rfl ?_
          refine ih (kn + 1) m2 _ _ (by omega) (by omega) (by omega) hB2 hF ?_
          unfold bstN
          first | (rw [if_pos (by omega)]; exact ek) | (rw [if_neg (by omega)]; exact e)
  refine CM.of (by decide +kernel) ([zr 0, zi n, zi w, zu, zu]) (zok_all rfl) (Nat.le_of_ble_eq_true rfl) rfl ?_
  refine J_al0 dX6_most_0 ?_
  refine M_cvI0 dX6_most_1 lk_X6_143 cw_X6_noBench sh_0 rfl rfl (k_noBench (by omega)) (by decide) (Nat.le_of_ble_eq_true rfl) (fun v_1 mem_1 hq => ?_)
  obtain ⟨rfl, hq⟩ := hq; have hq := hq.symm; subst hq
  refine J_ifeq_b (tgt := 10) dX6_most_4 rfl (fun c_4 => ?_) (fun c_4 => ?_)
  · skip
    refine J_il1 dX6_most_10 ?_
    refine J_iconst dX6_most_11 ?_
    refine J_bipush dX6_most_12 rfl ?_
    refine M_csI3 dX6_most_14 lk_X6_67 cw_X6_outside (k_outside hn (by omega) (by omega)) (by decide) (Nat.le_of_ble_eq_true rfl) (fun v_14 mem_14 hq => ?_)
    obtain ⟨rfl, hq⟩ := hq; have hq := hq.symm; subst hq
    refine J_ifne_b (tgt := 29) dX6_most_17 rfl (fun c_17 => ?_) (fun c_17 => ?_)
    · skip
      refine J_ldc (n := -1000001) dX6_most_29 co_X6_71 (by decide) ?_
      refine M_iret dX6_most_31 rfl ?_
      exact bad (by omega) (by omega)
    · skip
      refine J_il2 dX6_most_20 ?_
      refine J_iconst dX6_most_21 ?_
      refine J_iconst dX6_most_22 ?_
      refine M_csI3 dX6_most_23 lk_X6_67 cw_X6_outside (k_outside hw (by omega) (by omega)) (by decide) (Nat.le_of_ble_eq_true rfl) (fun v_23 mem_23 hq => ?_)
      obtain ⟨rfl, hq⟩ := hq; have hq := hq.symm; subst hq
      refine J_ifeq_b (tgt := 32) dX6_most_26 rfl (fun c_26 => ?_) (fun c_26 => ?_)
      · skip
        refine J_al0 dX6_most_32 ?_
        refine J_al0 dX6_most_33 ?_
        refine M_getR dX6_most_34 fl_X6_43 sh_0 rfl ?_
        refine J_il1 dX6_most_37 ?_
        refine M_cvI2 dX6_most_38 lk_X6_219 cw_X6_foretell sh_0 rfl rfl (k_foretell (Or.inr (Or.inr (Or.inr (Or.inl rfl)))) (Or.inl rfl) hB hb (by omega) hr) (by decide) (Nat.le_of_ble_eq_true rfl) (fun v_38 mem_38 hq => ?_)
        obtain ⟨rfl, hB2, hF⟩ := hq
        refine J_pop dX6_most_41 rfl ?_
        refine J_iconst dX6_most_42 ?_
        refine J_is3 dX6_most_43 (by decide) rfl ?_
        refine J_iconst dX6_most_44 ?_
        refine J_is4 dX6_most_45 (by decide) rfl ?_
        exact loop (by omega) (by omega) (S.b.1 3).toNat 0 _ 0 1 rfl (by omega) (by omega) hB2 hF rfl
      · skip
        refine J_ldc (n := -1000001) dX6_most_29 co_X6_71 (by decide) ?_
        refine M_iret dX6_most_31 rfl ?_
        exact bad (by omega) (by omega)
  · skip
    refine J_ldc (n := -1000002) dX6_most_7 co_X6_139 (by decide) ?_
    refine M_iret dX6_most_9 rfl ?_
    exact ⟨by unfold vMost; rw [if_pos (by omega)], hC, FrC.rf⟩
theorem k_image0 {mem : ZMem} : ZM mX6_imageOf 0 0 0 [zr 0, zi 0] (hp mem) (QR (fun v mem' => v = 49 ∧ mem' = mem)) := by
  refine CM.of (by decide +kernel) ([zr 0, zi 0]) (zok_all rfl) (Nat.le_of_ble_eq_true rfl) rfl ?_
  refine J_il1 dX6_imageOf_0 ?_
  refine J_ifne (tgt := 11) dX6_imageOf_1 rfl (by decide) (fun c => absurd c (by decide)) (fun _ => ?_)
  refine J_al0 dX6_imageOf_4 ?_
  refine M_getR dX6_imageOf_5 fl_X6_37 sh_0 rfl ?_
  refine J_goto (tgt := 15) dX6_imageOf_8 rfl ?_
  refine M_aret dX6_imageOf_15 rfl ?_
  exact ⟨rfl, rfl⟩
theorem k_image1 {mem : ZMem} : ZM mX6_imageOf 0 0 0 [zr 0, zi 1] (hp mem) (QR (fun v mem' => v = 56 ∧ mem' = mem)) := by
  refine CM.of (by decide +kernel) ([zr 0, zi 1]) (zok_all rfl) (Nat.le_of_ble_eq_true rfl) rfl ?_
  refine J_il1 dX6_imageOf_0 ?_
  refine J_ifne (tgt := 11) dX6_imageOf_1 rfl (by decide) (fun _ => ?_) (fun c => absurd c (by decide))
  refine J_al0 dX6_imageOf_11 ?_
  refine M_getR dX6_imageOf_12 fl_X6_40 sh_0 rfl ?_
  refine M_aret dX6_imageOf_15 rfl ?_
  exact ⟨rfl, rfl⟩
theorem CS.im {mem mem' : ZMem} {S : ZS} {i0 i1 : BN} (h : CS mem S) (c0 : CB mem' 49 i0.1 i0.2) (c1 : CB mem' 56 i1.1 i1.2) (e : ∀ q : Nat, (q < 49 ∨ 62 < q) → mem' q = mem q) : CS mem' (S.uIm i0 i1) := by
  obtain ⟨a, b, c, d, f, g, i, j, k⟩ := h
  exact ⟨a.ext (fun q q0 q1 => e q (by omega)), b.ext (by rw [e 14 (by omega)]) (e 15 (by omega)), c.ext (fun q q0 q1 => e q (by omega)), d.ext (fun q q0 q1 => e q (by omega)), c0, c1, i.ext (fun q q0 q1 => e q (by omega)), by rw [e 0 (by omega)]; exact j, by rw [e 0 (by omega)]; exact k⟩
theorem c_image {mem : ZMem} {S : ZS} (hC : CS mem S) (hI : SInv S) {k : Int} (hk : In32 k) : CI mX6_image 2 [zr 0, zi k] mem (QS mem (sImage S k)) := by
  have hb := hI.bi
  have b1 := hb.1
  have hl := hb.len
  have hen := hC.men
  have hB := bch hC
  have go0 : ¬ S.b.1 3 = 0 → JM mX6_image 2 (QI (QS mem (sImage S 0))) 22 [zr 0, zi 0] [] mem := by
    intro z
    refine J_al0 dX6_image_22 ?_
    refine J_il1 dX6_image_23 ?_
    refine M_cvR1 dX6_image_24 lk_X6_273 cw_X6_imageOf sh_0 rfl rfl k_image0 (by decide) (Nat.le_of_ble_eq_true rfl) (fun v_24 mem_24 hq => ?_)
    obtain ⟨rfl, hq⟩ := hq; have hq := hq.symm; subst hq
    refine J_al0 dX6_image_27 ?_
    refine M_getR dX6_image_28 fl_X6_26 sh_0 rfl ?_
    refine M_cvV1 dX6_image_31 lk_X6_128 cw_X2_become sh_49 rfl rfl (k_become (Or.inr (Or.inl rfl)) (Or.inl rfl) (by decide) hB (by omega) (by omega) hb.2.2.2.2.2.2.2) (by decide) (Nat.le_of_ble_eq_true rfl) (fun mem_31 hq => ?_)
    obtain ⟨hB2, hF⟩ := hq
    refine J_iconst dX6_image_34 ?_
    refine M_iret dX6_image_35 rfl ?_
    unfold sImage; rw [if_neg (by omega), if_neg z, if_pos rfl]
    exact ⟨rfl, hC.im hB2 (hC.2.2.2.2.2.1.ext (fun q q0 q1 => hF q (by omega))) (fun q hq => hF q (by omega)), fun q hq => hF q (by omega)⟩
  have go1 : ¬ S.b.1 3 = 0 → JM mX6_image 2 (QI (QS mem (sImage S 1))) 22 [zr 0, zi 1] [] mem := by
    intro z
    refine J_al0 dX6_image_22 ?_
    refine J_il1 dX6_image_23 ?_
    refine M_cvR1 dX6_image_24 lk_X6_273 cw_X6_imageOf sh_0 rfl rfl k_image1 (by decide) (Nat.le_of_ble_eq_true rfl) (fun v_24 mem_24 hq => ?_)
    obtain ⟨rfl, hq⟩ := hq; have hq := hq.symm; subst hq
    refine J_al0 dX6_image_27 ?_
    refine M_getR dX6_image_28 fl_X6_26 sh_0 rfl ?_
    refine M_cvV1 dX6_image_31 lk_X6_128 cw_X2_become sh_56 rfl rfl (k_become (Or.inr (Or.inr (Or.inl rfl))) (Or.inl rfl) (by decide) hB (by omega) (by omega) hb.2.2.2.2.2.2.2) (by decide) (Nat.le_of_ble_eq_true rfl) (fun mem_31 hq => ?_)
    obtain ⟨hB2, hF⟩ := hq
    refine J_iconst dX6_image_34 ?_
    refine M_iret dX6_image_35 rfl ?_
    unfold sImage; rw [if_neg (by omega), if_neg z, if_neg (by omega)]
    exact ⟨rfl, hC.im (hC.2.2.2.2.1.ext (fun q q0 q1 => hF q (by omega))) hB2 (fun q hq => hF q (by omega)), fun q hq => hF q (by omega)⟩
  refine CM.of (by decide +kernel) ([zr 0, zi k]) (zok_all rfl) (Nat.le_of_ble_eq_true rfl) rfl ?_
  refine J_il1 dX6_image_0 ?_
  refine J_iconst dX6_image_1 ?_
  refine J_iconst dX6_image_2 ?_
  refine M_csI3 dX6_image_3 lk_X6_67 cw_X6_outside (k_outside hk (by omega) (by omega)) (by decide) (Nat.le_of_ble_eq_true rfl) (fun v_3 mem_3 hq => ?_)
  obtain ⟨rfl, hq⟩ := hq; have hq := hq.symm; subst hq
  refine J_ifeq_b (tgt := 12) dX6_image_6 rfl (fun c_6 => ?_) (fun c_6 => ?_)
  · skip
    refine J_al0 dX6_image_12 ?_
    refine M_cvI0 dX6_image_13 lk_X6_143 cw_X6_noBench sh_0 rfl rfl (k_noBench (by omega)) (by decide) (Nat.le_of_ble_eq_true rfl) (fun v_13 mem_13 hq => ?_)
    obtain ⟨rfl, hq⟩ := hq; have hq := hq.symm; subst hq
    refine J_ifeq_b (tgt := 22) dX6_image_16 rfl (fun c_16 => ?_) (fun c_16 => ?_)
    · skip
      have ek : k = 0 ∨ k = 1 := by omega
      rcases ek with rfl | rfl
      · exact go0 (by omega)
      · exact go1 (by omega)
    · skip
      refine J_ldc (n := -1000002) dX6_image_19 co_X6_139 (by decide) ?_
      refine M_iret dX6_image_21 rfl ?_
      unfold sImage; rw [if_neg (by omega), if_pos (by omega)]; exact ⟨rfl, hC, FrC.rf⟩
  · skip
    refine J_ldc (n := -1000001) dX6_image_9 co_X6_71 (by decide) ?_
    refine M_iret dX6_image_11 rfl ?_
    unfold sImage; rw [if_pos (by omega)]; exact ⟨rfl, hC, FrC.rf⟩
theorem c_restore {mem : ZMem} {S : ZS} (hC : CS mem S) (hI : SInv S) {k : Int} (hk : In32 k) : CI mX6_restore 2 [zr 0, zi k] mem (QS mem (sRestore S k)) := by
  have go0 : JM mX6_restore 2 (QI (QS mem (sRestore S 0))) 12 [zr 0, zi 0] [] mem := by
    have hb := hI.2.2.2.1.1
    have b1 := hb.1
    have hl := hb.len
    have hB := hC.2.2.2.2.1
    have hen : mem 49 2 = S.i0.1 3 := hB.1.2.2.1
    refine J_al0 dX6_restore_12 ?_
    refine J_il1 dX6_restore_13 ?_
    refine M_cvR1 dX6_restore_14 lk_X6_273 cw_X6_imageOf sh_0 rfl rfl k_image0 (by decide) (Nat.le_of_ble_eq_true rfl) (fun v_14 mem_14 hq => ?_)
    obtain ⟨rfl, hq⟩ := hq; have hq := hq.symm; subst hq
    refine M_get (ki := 2) dX6_restore_17 fl_X6_133 sh_49 rfl rfl ?_
    refine J_ifne (tgt := 26) dX6_restore_20 rfl (by omega) (fun c_20 => ?_) (fun c_20 => ?_)
    · skip
      refine J_al0 dX6_restore_26 ?_
      refine M_getR dX6_restore_27 fl_X6_26 sh_0 rfl ?_
      refine J_al0 dX6_restore_30 ?_
      refine J_il1 dX6_restore_31 ?_
      refine M_cvR1 dX6_restore_32 lk_X6_273 cw_X6_imageOf sh_0 rfl rfl k_image0 (by decide) (Nat.le_of_ble_eq_true rfl) (fun v_32 mem_32 hq => ?_)
      obtain ⟨rfl, hq⟩ := hq; have hq := hq.symm; subst hq
      refine M_cvV1 dX6_restore_35 lk_X6_128 cw_X2_become sh_16 rfl rfl (k_become (Or.inl rfl) (Or.inr (Or.inl rfl)) (by decide) hB (by omega) (by omega) hb.2.2.2.2.2.2.2) (by decide) (Nat.le_of_ble_eq_true rfl) (fun mem_35 hq => ?_)
      obtain ⟨hB2, hF⟩ := hq
      refine J_al0 dX6_restore_38 ?_
      refine M_getR dX6_restore_39 fl_X6_33 sh_0 rfl ?_
      refine M_cvV0 dX6_restore_42 lk_X6_132 cw_X0_clear sh_23 rfl rfl (k_aclear (U := S.U) (hC.2.2.2.1.ext (fun q q0 q1 => hF q (by omega)))) (by decide) (Nat.le_of_ble_eq_true rfl) (fun mem_42 hq => ?_)
      obtain ⟨hA, hG⟩ := hq
      refine J_iconst dX6_restore_45 ?_
      refine M_iret dX6_restore_46 rfl ?_
      unfold sRestore; rw [if_neg (by omega), if_pos rfl, if_neg (by omega)]
      exact ⟨rfl, hC.bn (hB2.ext (fun q q0 q1 => hG q (by omega))) hA (fun q q1 q2 => by rw [hG q (by omega), hF q (by omega)]), fun q hq => by rw [hG q (by omega), hF q (by omega)]⟩
    · skip
      refine J_ldc (n := -1000002) dX6_restore_23 co_X6_139 (by decide) ?_
      refine M_iret dX6_restore_25 rfl ?_
      unfold sRestore; rw [if_neg (by omega), if_pos rfl, if_pos (by omega)]; exact ⟨rfl, hC, FrC.rf⟩
  have go1 : JM mX6_restore 2 (QI (QS mem (sRestore S 1))) 12 [zr 0, zi 1] [] mem := by
    have hb := hI.2.2.2.2.1.1
    have b1 := hb.1
    have hl := hb.len
    have hB := hC.2.2.2.2.2.1
    have hen : mem 56 2 = S.i1.1 3 := hB.1.2.2.1
    refine J_al0 dX6_restore_12 ?_
    refine J_il1 dX6_restore_13 ?_
    refine M_cvR1 dX6_restore_14 lk_X6_273 cw_X6_imageOf sh_0 rfl rfl k_image1 (by decide) (Nat.le_of_ble_eq_true rfl) (fun v_14 mem_14 hq => ?_)
    obtain ⟨rfl, hq⟩ := hq; have hq := hq.symm; subst hq
    refine M_get (ki := 2) dX6_restore_17 fl_X6_133 sh_56 rfl rfl ?_
    refine J_ifne (tgt := 26) dX6_restore_20 rfl (by omega) (fun c_20 => ?_) (fun c_20 => ?_)
    · skip
      refine J_al0 dX6_restore_26 ?_
      refine M_getR dX6_restore_27 fl_X6_26 sh_0 rfl ?_
      refine J_al0 dX6_restore_30 ?_
      refine J_il1 dX6_restore_31 ?_
      refine M_cvR1 dX6_restore_32 lk_X6_273 cw_X6_imageOf sh_0 rfl rfl k_image1 (by decide) (Nat.le_of_ble_eq_true rfl) (fun v_32 mem_32 hq => ?_)
      obtain ⟨rfl, hq⟩ := hq; have hq := hq.symm; subst hq
      refine M_cvV1 dX6_restore_35 lk_X6_128 cw_X2_become sh_16 rfl rfl (k_become (Or.inl rfl) (Or.inr (Or.inr (Or.inl rfl))) (by decide) hB (by omega) (by omega) hb.2.2.2.2.2.2.2) (by decide) (Nat.le_of_ble_eq_true rfl) (fun mem_35 hq => ?_)
      obtain ⟨hB2, hF⟩ := hq
      refine J_al0 dX6_restore_38 ?_
      refine M_getR dX6_restore_39 fl_X6_33 sh_0 rfl ?_
      refine M_cvV0 dX6_restore_42 lk_X6_132 cw_X0_clear sh_23 rfl rfl (k_aclear (U := S.U) (hC.2.2.2.1.ext (fun q q0 q1 => hF q (by omega)))) (by decide) (Nat.le_of_ble_eq_true rfl) (fun mem_42 hq => ?_)
      obtain ⟨hA, hG⟩ := hq
      refine J_iconst dX6_restore_45 ?_
      refine M_iret dX6_restore_46 rfl ?_
      unfold sRestore; rw [if_neg (by omega), show (if (1 : Int) = 0 then S.i0 else S.i1) = S.i1 from rfl, if_neg (by omega)]
      exact ⟨rfl, hC.bn (hB2.ext (fun q q0 q1 => hG q (by omega))) hA (fun q q1 q2 => by rw [hG q (by omega), hF q (by omega)]), fun q hq => by rw [hG q (by omega), hF q (by omega)]⟩
    · skip
      refine J_ldc (n := -1000002) dX6_restore_23 co_X6_139 (by decide) ?_
      refine M_iret dX6_restore_25 rfl ?_
      unfold sRestore; rw [if_neg (by omega), show (if (1 : Int) = 0 then S.i0 else S.i1) = S.i1 from rfl, if_pos (by omega)]; exact ⟨rfl, hC, FrC.rf⟩
  refine CM.of (by decide +kernel) ([zr 0, zi k]) (zok_all rfl) (Nat.le_of_ble_eq_true rfl) rfl ?_
  refine J_il1 dX6_restore_0 ?_
  refine J_iconst dX6_restore_1 ?_
  refine J_iconst dX6_restore_2 ?_
  refine M_csI3 dX6_restore_3 lk_X6_67 cw_X6_outside (k_outside hk (by omega) (by omega)) (by decide) (Nat.le_of_ble_eq_true rfl) (fun v_3 mem_3 hq => ?_)
  obtain ⟨rfl, hq⟩ := hq; have hq := hq.symm; subst hq
  refine J_ifeq_b (tgt := 12) dX6_restore_6 rfl (fun c_6 => ?_) (fun c_6 => ?_)
  · skip
    have ek : k = 0 ∨ k = 1 := by omega
    rcases ek with rfl | rfl
    · exact go0
    · exact go1
  · skip
    refine J_ldc (n := -1000001) dX6_restore_9 co_X6_71 (by decide) ?_
    refine M_iret dX6_restore_11 rfl ?_
    unfold sRestore; rw [if_pos (by omega)]; exact ⟨rfl, hC, FrC.rf⟩
