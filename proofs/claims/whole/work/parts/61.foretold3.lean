theorem isB63 : isB 63 := Or.inr (Or.inr (Or.inr (Or.inl rfl)))
theorem isB70 : isB 70 := by unfold isB; omega
/-- benches 63 and 70 apart -/
theorem CB.off {mem mem' : ZMem} {j k : Nat} {r : Int → Int} {L : List Int} (h : CB mem k r L) (hF : FrB j mem mem') (hjk : j + 6 < k ∨ k + 6 < j) : CB mem' k r L := h.ext (fun q q0 q1 => hF q (by omega))
theorem wrt {mem mem' : ZMem} (a : FrT mem mem') (j : Nat) {m2 : ZMem} (hF : FrB j mem' m2) (hj : j = 63 ∨ j = 70) : FrT mem m2 := a.tr (hF.t hj)
theorem c_least {mem : ZMem} {S : ZS} (hC : CS mem S) (hI : SInv S) {m n w : Int} (hm : In32 m) (hn : In32 n) (hw : In32 w) : CI mX6_leastSnuff 8 [zr 0, zi m, zi n, zi w] mem (QS mem (vLeast S m n w, S)) := by
  have hb := hI.bi
  have b1 := hb.1
  have hl := hb.len
  have hr := hI.hr
  have hen := hC.men
  have hB := bch hC
  have hp := plc_range S.b.2 m
  have bad : (noM S m ∨ n < 1 ∨ 60 < n ∨ w < 1 ∨ 60 < w) → QS mem (vLeast S m n w, S) (-1000001) mem := fun q => ⟨by unfold vLeast; rw [if_pos q], hC, FrC.rf⟩
  have loop : ¬ (noM S m ∨ n < 1 ∨ 60 < n ∨ w < 1 ∨ 60 < w) → 0 ≤ plc S.b.2 m → ∀ (c kn : Nat) (k : Int) (m2 : ZMem), k = kn → (c : Int) + k = plc S.b.2 m + 1 → CB m2 70 (snfN S.b m kn).1 (snfN S.b m kn).2 → FrT mem m2 → vLeast S m n w = lsN S.b m n w c kn → JM mX6_leastSnuff 8 (QI (QS mem (vLeast S m n w, S))) 63 [zr 0, zi m, zi n, zi w, zi (plc S.b.2 m), zi k] [] m2 := by
    intro hz hpl c
    induction c with
    | zero =>
      intro kn k m2 e0 a1 a2 a3 a4
      refine J_il5 dX6_leastSnuff_63 ?_
      refine J_il4 dX6_leastSnuff_65 ?_
      refine J_cgt (tgt := 130) dX6_leastSnuff_67 rfl (by omega) (fun c_67 => ?_) (fun c_67 => ?_)
      · skip
        refine J_ldc (n := -1000000) dX6_leastSnuff_130 co_X6_203 (by decide) ?_
        refine M_iret dX6_leastSnuff_132 rfl ?_
        exact ⟨a4.symm, hC.ext a3, a3.c⟩
      · skip
        omega
    | succ c ih =>
      intro kn k m2 e0 a1 a2 a3 a4
      obtain ⟨i1, i2⟩ := snfN_inv (b := S.b) hb m kn
      have e3 := i2 3 (by omega)
      have e4 := i2 4 (by omega)
      have hl2 := i1.len
      obtain ⟨j1, j2, j3, j4⟩ := hrs_inv (b := snfN S.b m kn) i1 n.toNat
      have f3 := j2.1 3 (by omega) (by omega)
      have wb := (hb.2.2.2.2.1 m (by omega) (by omega)).2.2.2.1
      have wt := (j1.2.2.2.2.1 m (by omega) (by omega)).2.2.2.1
      refine J_il5 dX6_leastSnuff_63 ?_
      refine J_il4 dX6_leastSnuff_65 ?_
      refine J_cgt (tgt := 130) dX6_leastSnuff_67 rfl (by omega) (fun c_67 => ?_) (fun c_67 => ?_)
      · skip
        omega
      · skip
        refine J_al0 dX6_leastSnuff_70 ?_
        refine M_getR dX6_leastSnuff_71 fl_X6_43 sh_0 rfl ?_
        refine J_al0 dX6_leastSnuff_74 ?_
        refine M_getR dX6_leastSnuff_75 fl_X6_46 sh_0 rfl ?_
        refine M_cvV1 dX6_leastSnuff_78 lk_X6_128 cw_X2_become sh_63 rfl rfl (k_become isB63 isB70 (by decide) a2 (by omega) (by omega) i1.2.2.2.2.2.2.2) (by decide) (Nat.le_of_ble_eq_true rfl) (fun mem_78 hq => ?_)
        obtain ⟨hB2, hF2⟩ := hq
        have A2 := a2.off hF2 (by omega)
        have T2 := wrt a3 63 hF2 (by omega)
        refine J_al0 dX6_leastSnuff_81 ?_
        refine M_getR dX6_leastSnuff_82 fl_X6_43 sh_0 rfl ?_
        refine J_il2 dX6_leastSnuff_85 ?_
        refine M_cvI1 dX6_leastSnuff_86 lk_X6_222 cw_X2_passHours sh_63 rfl rfl (k_passHours isB63 hB2 i1 (by omega) (by omega)) (by decide) (Nat.le_of_ble_eq_true rfl) (fun v_86 mem_86 hq => ?_)
        obtain ⟨rfl, hB3, hF3⟩ := hq
        have hB3 : CB mem_86 63 (hrs n.toNat (snfN S.b m kn)).1.1 (hrs n.toNat (snfN S.b m kn)).1.2 := hB3
        have A3 := A2.off hF3 (by omega)
        have T3 := wrt T2 63 hF3 (by omega)
        have e5 : mem_86 68 m = wm (hrs n.toNat (snfN S.b m kn)).1.1 m := (hB3.2.2 m (by omega) (by omega)).2.2.2.1
        have e6 : mem_86 21 m = wm S.b.1 m := by rw [T3 21 (by omega)]; exact (hB.2.2 m (by omega) (by omega)).2.2.2.1
        refine J_pop dX6_leastSnuff_89 rfl ?_
        refine J_al0 dX6_leastSnuff_90 ?_
        refine M_getR dX6_leastSnuff_91 fl_X6_43 sh_0 rfl ?_
        refine M_getR dX6_leastSnuff_94 fl_X6_193 sh_63 rfl ?_
        refine J_il1 dX6_leastSnuff_97 ?_
        refine M_ald dX6_leastSnuff_98 sh_68 (by decide) (by omega) ?_
        refine J_al0 dX6_leastSnuff_99 ?_
        refine M_getR dX6_leastSnuff_100 fl_X6_26 sh_0 rfl ?_
        refine M_getR dX6_leastSnuff_103 fl_X6_193 sh_16 rfl ?_
        refine J_il1 dX6_leastSnuff_106 ?_
        refine M_ald dX6_leastSnuff_107 sh_21 (by decide) (by omega) ?_
        refine J_isub dX6_leastSnuff_108 ?_
        refine J_il3 dX6_leastSnuff_109 ?_
        refine J_clt (tgt := 116) dX6_leastSnuff_110 rfl (by omega) (fun c_110 => ?_) (fun c_110 => ?_)
        · skip
          refine J_al0 dX6_leastSnuff_116 ?_
          refine M_getR dX6_leastSnuff_117 fl_X6_46 sh_0 rfl ?_
          refine J_il1 dX6_leastSnuff_120 ?_
          refine M_cvV1 dX6_leastSnuff_121 lk_X6_165 cw_X2_takeSnuff sh_70 rfl rfl (k_takeSnuff isB70 A3 i1 hm) (by decide) (Nat.le_of_ble_eq_true rfl) (fun mem_121 hq => ?_)
          obtain ⟨hB4, hF4⟩ := hq
          refine J_inc5 dX6_leastSnuff_124 (by decide) rfl ?_
          refine J_goto (tgt := 63) dX6_leastSnuff_127 rfl ?_
          exact ih (kn + 1) _ _ (by omega) (by omega) hB4 (wrt T3 70 hF4 (by omega)) (by rw [a4, lsN, cif_f (by omega)])
        · skip
          refine J_il5 dX6_leastSnuff_113 ?_
          refine M_iret dX6_leastSnuff_115 rfl ?_
          exact ⟨by rw [a4, lsN, cif_t (by omega)]; exact e0, hC.ext T3, T3.c⟩
  refine CM.of (by decide +kernel) ([zr 0, zi m, zi n, zi w, zu, zu]) (zok_all rfl) (Nat.le_of_ble_eq_true rfl) rfl ?_
  refine J_al0 dX6_leastSnuff_0 ?_
  refine J_il1 dX6_leastSnuff_1 ?_
  refine M_cvI1 dX6_leastSnuff_2 lk_X6_159 cw_X6_noMan sh_0 rfl rfl (k_noMan hm (by omega)) (by decide) (Nat.le_of_ble_eq_true rfl) (fun v_2 mem_2 hq => ?_)
  obtain ⟨rfl, hq⟩ := hq; have hq := hq.symm; subst hq
  refine J_ifne_b (tgt := 28) dX6_leastSnuff_5 rfl (fun c_5 => ?_) (fun c_5 => ?_)
  · skip
    refine J_ldc (n := -1000001) dX6_leastSnuff_28 co_X6_71 (by decide) ?_
    refine M_iret dX6_leastSnuff_30 rfl ?_
    exact bad (by omega)
  · skip
    refine J_il2 dX6_leastSnuff_8 ?_
    refine J_iconst dX6_leastSnuff_9 ?_
    refine J_bipush dX6_leastSnuff_10 rfl ?_
    refine M_csI3 dX6_leastSnuff_12 lk_X6_67 cw_X6_outside (k_outside hn (by omega) (by omega)) (by decide) (Nat.le_of_ble_eq_true rfl) (fun v_12 mem_12 hq => ?_)
    obtain ⟨rfl, hq⟩ := hq; have hq := hq.symm; subst hq
    refine J_ifne_b (tgt := 28) dX6_leastSnuff_15 rfl (fun c_15 => ?_) (fun c_15 => ?_)
    · skip
      refine J_ldc (n := -1000001) dX6_leastSnuff_28 co_X6_71 (by decide) ?_
      refine M_iret dX6_leastSnuff_30 rfl ?_
      exact bad (by omega)
    · skip
      refine J_il3 dX6_leastSnuff_18 ?_
      refine J_iconst dX6_leastSnuff_19 ?_
      refine J_bipush dX6_leastSnuff_20 rfl ?_
      refine M_csI3 dX6_leastSnuff_22 lk_X6_67 cw_X6_outside (k_outside hw (by omega) (by omega)) (by decide) (Nat.le_of_ble_eq_true rfl) (fun v_22 mem_22 hq => ?_)
      obtain ⟨rfl, hq⟩ := hq; have hq := hq.symm; subst hq
      refine J_ifeq_b (tgt := 31) dX6_leastSnuff_25 rfl (fun c_25 => ?_) (fun c_25 => ?_)
      · skip
        refine J_al0 dX6_leastSnuff_31 ?_
        refine M_getR dX6_leastSnuff_32 fl_X6_26 sh_0 rfl ?_
        refine J_il1 dX6_leastSnuff_35 ?_
        refine M_cvI1 dX6_leastSnuff_36 lk_X6_162 cw_X2_placeOf sh_16 rfl rfl (k_placeOf (Or.inl rfl) hB hb hm) (by decide) (Nat.le_of_ble_eq_true rfl) (fun v_36 mem_36 hq => ?_)
        obtain ⟨rfl, hq⟩ := hq; have hq := hq.symm; subst hq
        refine J_is4 dX6_leastSnuff_39 (by decide) rfl ?_
        refine J_il4 dX6_leastSnuff_41 ?_
        refine J_ifge (tgt := 49) dX6_leastSnuff_43 rfl (by omega) (fun c_43 => ?_) (fun c_43 => ?_)
        · skip
          refine J_al0 dX6_leastSnuff_49 ?_
          refine M_getR dX6_leastSnuff_50 fl_X6_46 sh_0 rfl ?_
          refine J_al0 dX6_leastSnuff_53 ?_
          refine M_getR dX6_leastSnuff_54 fl_X6_26 sh_0 rfl ?_
          refine M_cvV1 dX6_leastSnuff_57 lk_X6_128 cw_X2_become sh_70 rfl rfl (k_become isB70 (Or.inl rfl) (by decide) hB (by omega) (by omega) hb.2.2.2.2.2.2.2) (by decide) (Nat.le_of_ble_eq_true rfl) (fun mem_57 hq => ?_)
          obtain ⟨hB2, hF⟩ := hq
          refine J_iconst dX6_leastSnuff_60 ?_
          refine J_is5 dX6_leastSnuff_61 (by decide) rfl ?_
          exact loop (by omega) (by omega) ((plc S.b.2 m).toNat + 1) 0 0 _ rfl (by omega) hB2 (hF.t (Or.inr rfl)) (by unfold vLeast; rw [if_neg (by omega), if_neg (by omega)])
        · skip
          refine J_ldc (n := -1000002) dX6_leastSnuff_46 co_X6_139 (by decide) ?_
          refine M_iret dX6_leastSnuff_48 rfl ?_
          exact ⟨by unfold vLeast; rw [if_neg (by omega), if_pos (by omega)], hC, FrC.rf⟩
      · skip
        refine J_ldc (n := -1000001) dX6_leastSnuff_28 co_X6_71 (by decide) ?_
        refine M_iret dX6_leastSnuff_30 rfl ?_
        exact bad (by omega)
theorem c_when {mem : ZMem} {S : ZS} (hC : CS mem S) (hI : SInv S) {m n w : Int} (hm : In32 m) (hn : In32 n) (hw : In32 w) : CI mX6_whenToCome 8 [zr 0, zi m, zi n, zi w] mem (QS mem (vWhen S m n w, S)) := by
  have hb := hI.bi
  have b1 := hb.1
  have hl := hb.len
  have hr := hI.hr
  have hen := hC.men
  have hB := bch hC
  have bad : (noM S m ∨ n < 1 ∨ 40 < n ∨ w < 0 ∨ 1 < w) → QS mem (vWhen S m n w, S) (-1000001) mem := fun q => ⟨by unfold vWhen; rw [if_pos q], hC, FrC.rf⟩
  have fin : ¬ (noM S m ∨ n < 1 ∨ 40 < n ∨ w < 0 ∨ 1 < w) → gn S.b.1 m < 0 → ∀ (kn : Nat) (k best most x : Int) (z : ZV) (m2 : ZMem), kn = n.toNat → FrT mem m2 → best = (wcN S.b m n kn).1 → most = (wcN S.b m n kn).2 → JM mX6_whenToCome 8 (QI (QS mem (vWhen S m n w, S))) 159 [zr 0, zi m, zi n, zi w, zi best, zi most, zi k, z] [] m2 := by
    intro hz hg kn k best most x z m2 e0 a1 a2 a3
    refine J_il3 dX6_whenToCome_159 ?_
    refine J_ifne (tgt := 168) dX6_whenToCome_160 rfl (by omega) (fun c_160 => ?_) (fun c_160 => ?_)
    · skip
      refine J_il5 dX6_whenToCome_168 ?_
      refine M_iret dX6_whenToCome_170 rfl ?_
      first
      | exact ⟨by unfold vWhen; rw [if_neg hz, if_pos hg, if_pos (by omega), ← e0]; exact a2, hC.ext a1, a1.c⟩
      | exact ⟨by unfold vWhen; rw [if_neg hz, if_pos hg, if_neg (by omega), ← e0]; exact a3, hC.ext a1, a1.c⟩
    · skip
      refine J_il4 dX6_whenToCome_163 ?_
      refine J_goto (tgt := 170) dX6_whenToCome_165 rfl ?_
      refine M_iret dX6_whenToCome_170 rfl ?_
      first
      | exact ⟨by unfold vWhen; rw [if_neg hz, if_pos hg, if_pos (by omega), ← e0]; exact a2, hC.ext a1, a1.c⟩
      | exact ⟨by unfold vWhen; rw [if_neg hz, if_pos hg, if_neg (by omega), ← e0]; exact a3, hC.ext a1, a1.c⟩
  have loop : ¬ (noM S m ∨ n < 1 ∨ 40 < n ∨ w < 0 ∨ 1 < w) → gn S.b.1 m < 0 → ∀ (c kn : Nat) (k best most : Int) (z : ZV) (m2 : ZMem), k = kn → (c : Int) + k = n → CB m2 70 (hrs kn S.b).1.1 (hrs kn S.b).1.2 → FrT mem m2 → best = (wcN S.b m n kn).1 → most = (wcN S.b m n kn).2 → (-1 ≤ most ∧ most ≤ 5000) → JM mX6_whenToCome 8 (QI (QS mem (vWhen S m n w, S))) 64 [zr 0, zi m, zi n, zi w, zi best, zi most, zi k, z] [] m2 := by
    intro hz hg c
    have m0 : 0 ≤ m := by omega
    have m1 : m < S.b.1 3 := by omega
    have wb := (hb.2.2.2.2.1 m (by omega) (by omega)).2.2.2.1
    induction c with
    | zero =>
      intro kn k best most z m2 e0 a1 a2 a3 a4 a5 a6
      refine J_il6 dX6_whenToCome_64 ?_
      refine J_il2 dX6_whenToCome_66 ?_
      refine J_cge (tgt := 159) dX6_whenToCome_67 rfl (by omega) (fun c_67 => ?_) (fun c_67 => ?_)
      · skip
        exact fin hz hg kn k best most 0 z m2 (by omega) a3 a4 a5
      · skip
        omega
    | succ c ih =>
      intro kn k best most z m2 e0 a1 a2 a3 a4 a5 a6
      obtain ⟨i1, i2, i3, i4⟩ := hrs_inv (b := S.b) hb kn
      have e3 := i2.1 3 (by omega) (by omega)
      have hl2 := i1.len
      have hg2 := hrs_away hb m0 m1 hg kn
      have hI3 := cmR_inv i1 m0 (by omega) (by omega)
      have hnm : m ∉ (hrs kn S.b).1.2 := fun q => by
        have := (i1.2.2.2.2.1 m (by omega) (by omega)).2.2.2.2.2.mpr q
        omega
      have hl1 := i1.len1 m0 (by omega) hnm
      have c4 : (cmR (hrs kn S.b).1 m).1 4 = (hrs kn S.b).1.1 4 := zup_n (by omega)
      have c3 : (cmR (hrs kn S.b).1 m).1 3 = (hrs kn S.b).1.1 3 := zup_n (by omega)
      have en : (n - k).toNat = n.toNat - kn := by omega
      obtain ⟨j1, j2, j3, j4⟩ := hrs_inv hI3 (n.toNat - kn)
      have f3 := j2.1 3 (by omega) (by omega)
      have wt := (j1.2.2.2.2.1 m (by omega) (by omega)).2.2.2.1
      have cw : wm (cmR (hrs kn S.b).1 m).1 m = wm (hrs kn S.b).1.1 m := wm_up
      have w1 := i4 m
      have w2 := j4 m
      have hv : wcV S.b m n kn = wm (hrs (n.toNat - kn) (cmR (hrs kn S.b).1 m)).1.1 m - wm S.b.1 m := rfl
      have ew : wcN S.b m n (kn + 1) = if (wcN S.b m n kn).2 < wcV S.b m n kn then ((kn : Int), wcV S.b m n kn) else wcN S.b m n kn := rfl
      refine J_il6 dX6_whenToCome_64 ?_
      refine J_il2 dX6_whenToCome_66 ?_
      refine J_cge (tgt := 159) dX6_whenToCome_67 rfl (by omega) (fun c_67 => ?_) (fun c_67 => ?_)
      · skip
        omega
      · skip
        refine J_al0 dX6_whenToCome_70 ?_
        refine M_getR dX6_whenToCome_71 fl_X6_43 sh_0 rfl ?_
        refine J_al0 dX6_whenToCome_74 ?_
        refine M_getR dX6_whenToCome_75 fl_X6_46 sh_0 rfl ?_
        refine M_cvV1 dX6_whenToCome_78 lk_X6_128 cw_X2_become sh_63 rfl rfl (k_become isB63 isB70 (by decide) a2 (by omega) (by omega) i1.2.2.2.2.2.2.2) (by decide) (Nat.le_of_ble_eq_true rfl) (fun mem_78 hq => ?_)
        obtain ⟨hB2, hF2⟩ := hq
        have A2 := a2.off hF2 (by omega)
        have T2 := wrt a3 63 hF2 (by omega)
        have h9 : mem_78 63 9 = ((hrs kn S.b).1.2.length : Int) := hB2.1.2.2.2.2.2.2
        refine J_al0 dX6_whenToCome_81 ?_
        refine M_getR dX6_whenToCome_82 fl_X6_43 sh_0 rfl ?_
        refine J_il1 dX6_whenToCome_85 ?_
        refine J_al0 dX6_whenToCome_86 ?_
        refine M_getR dX6_whenToCome_87 fl_X6_43 sh_0 rfl ?_
        refine M_get (ki := 9) dX6_whenToCome_90 fl_X6_175 sh_63 rfl rfl ?_
        rw [h9]
        refine M_cvV2 dX6_whenToCome_93 lk_X6_178 cw_X2_seat sh_63 rfl rfl (k_seat isB63 hB2 (by omega) (by omega) (by omega) (by omega) (by omega)) (by decide) (Nat.le_of_ble_eq_true rfl) (fun mem_93 hq => ?_)
        obtain ⟨hB3, hF3⟩ := hq
        have hB3 : CB mem_93 63 (cmR (hrs kn S.b).1 m).1 (cmR (hrs kn S.b).1 m).2 := hB3
        have A3 := A2.off hF3 (by omega)
        have T3 := wrt T2 63 hF3 (by omega)
        refine J_al0 dX6_whenToCome_96 ?_
        refine M_getR dX6_whenToCome_97 fl_X6_43 sh_0 rfl ?_
        refine J_il2 dX6_whenToCome_100 ?_
        refine J_il6 dX6_whenToCome_101 ?_
        refine J_isub dX6_whenToCome_103 ?_
        refine M_cvI1 dX6_whenToCome_104 lk_X6_222 cw_X2_passHours sh_63 rfl rfl (k_passHours isB63 hB3 hI3 (by omega) (by omega)) (by decide) (Nat.le_of_ble_eq_true rfl) (fun v_104 mem_104 hq => ?_)
        obtain ⟨rfl, hB4, hF4⟩ := hq
        rw [en] at hB4
        have hB4 : CB mem_104 63 (hrs (n.toNat - kn) (cmR (hrs kn S.b).1 m)).1.1 (hrs (n.toNat - kn) (cmR (hrs kn S.b).1 m)).1.2 := hB4
        have A4 := A3.off hF4 (by omega)
        have T4 := wrt T3 63 hF4 (by omega)
        have e5 : mem_104 68 m = wm (hrs (n.toNat - kn) (cmR (hrs kn S.b).1 m)).1.1 m := (hB4.2.2 m (by omega) (by omega)).2.2.2.1
        have e6 : mem_104 21 m = wm S.b.1 m := by rw [T4 21 (by omega)]; exact (hB.2.2 m (by omega) (by omega)).2.2.2.1
        refine J_pop dX6_whenToCome_107 rfl ?_
        refine J_al0 dX6_whenToCome_108 ?_
        refine M_getR dX6_whenToCome_109 fl_X6_43 sh_0 rfl ?_
        refine M_getR dX6_whenToCome_112 fl_X6_193 sh_63 rfl ?_
        refine J_il1 dX6_whenToCome_115 ?_
        refine M_ald dX6_whenToCome_116 sh_68 (by decide) (by omega) ?_
        refine J_al0 dX6_whenToCome_117 ?_
        refine M_getR dX6_whenToCome_118 fl_X6_26 sh_0 rfl ?_
        refine M_getR dX6_whenToCome_121 fl_X6_193 sh_16 rfl ?_
        refine J_il1 dX6_whenToCome_124 ?_
        refine M_ald dX6_whenToCome_125 sh_21 (by decide) (by omega) ?_
        refine J_isub dX6_whenToCome_126 ?_
        refine J_is7 dX6_whenToCome_127 (by decide) rfl ?_
        refine J_il7 dX6_whenToCome_129 ?_
        refine J_il5 dX6_whenToCome_131 ?_
        refine J_cle (tgt := 144) dX6_whenToCome_133 rfl (by omega) (fun c_133 => ?_) (fun c_133 => ?_)
        · skip
          refine J_al0 dX6_whenToCome_144 ?_
          refine M_getR dX6_whenToCome_145 fl_X6_46 sh_0 rfl ?_
          refine J_iconst dX6_whenToCome_148 ?_
          refine M_cvI1 dX6_whenToCome_149 lk_X6_152 cw_X2_passHour sh_70 rfl rfl (k_passHour isB70 A4 i1 (by omega) (fun _ => True) fgt0) (by decide) (Nat.le_of_ble_eq_true rfl) (fun v_149 mem_149 hq => ?_)
          obtain ⟨rfl, hB5, hF5⟩ := hq
          refine J_pop dX6_whenToCome_152 rfl ?_
          refine J_inc6 dX6_whenToCome_153 (by decide) rfl ?_
          refine J_goto (tgt := 64) dX6_whenToCome_156 rfl ?_
          first
          | exact ih (kn + 1) _ _ _ _ _ (by omega) (by omega) hB5 (wrt T4 70 hF5 (by omega)) (by rw [ew, if_pos (by omega)]; exact e0) (by rw [ew, if_pos (by omega), hv, ← e5, ← e6]) (by omega)
          | exact ih (kn + 1) _ _ _ _ _ (by omega) (by omega) hB5 (wrt T4 70 hF5 (by omega)) (by rw [ew, if_neg (by omega)]; exact a4) (by rw [ew, if_neg (by omega)]; exact a5) a6
        · skip
          refine J_il6 dX6_whenToCome_136 ?_
          refine J_is4 dX6_whenToCome_138 (by decide) rfl ?_
          refine J_il7 dX6_whenToCome_140 ?_
          refine J_is5 dX6_whenToCome_142 (by decide) rfl ?_
          refine J_al0 dX6_whenToCome_144 ?_
          refine M_getR dX6_whenToCome_145 fl_X6_46 sh_0 rfl ?_
          refine J_iconst dX6_whenToCome_148 ?_
          refine M_cvI1 dX6_whenToCome_149 lk_X6_152 cw_X2_passHour sh_70 rfl rfl (k_passHour isB70 A4 i1 (by omega) (fun _ => True) fgt0) (by decide) (Nat.le_of_ble_eq_true rfl) (fun v_149 mem_149 hq => ?_)
          obtain ⟨rfl, hB5, hF5⟩ := hq
          refine J_pop dX6_whenToCome_152 rfl ?_
          refine J_inc6 dX6_whenToCome_153 (by decide) rfl ?_
          refine J_goto (tgt := 64) dX6_whenToCome_156 rfl ?_
          first
          | exact ih (kn + 1) _ _ _ _ _ (by omega) (by omega) hB5 (wrt T4 70 hF5 (by omega)) (by rw [ew, if_pos (by omega)]; exact e0) (by rw [ew, if_pos (by omega), hv, ← e5, ← e6]) (by omega)
          | exact ih (kn + 1) _ _ _ _ _ (by omega) (by omega) hB5 (wrt T4 70 hF5 (by omega)) (by rw [ew, if_neg (by omega)]; exact a4) (by rw [ew, if_neg (by omega)]; exact a5) a6
  refine CM.of (by decide +kernel) ([zr 0, zi m, zi n, zi w, zu, zu, zu, zu]) (zok_all rfl) (Nat.le_of_ble_eq_true rfl) rfl ?_
  refine J_al0 dX6_whenToCome_0 ?_
  refine J_il1 dX6_whenToCome_1 ?_
  refine M_cvI1 dX6_whenToCome_2 lk_X6_159 cw_X6_noMan sh_0 rfl rfl (k_noMan hm (by omega)) (by decide) (Nat.le_of_ble_eq_true rfl) (fun v_2 mem_2 hq => ?_)
  obtain ⟨rfl, hq⟩ := hq; have hq := hq.symm; subst hq
  refine J_ifne_b (tgt := 27) dX6_whenToCome_5 rfl (fun c_5 => ?_) (fun c_5 => ?_)
  · skip
    refine J_ldc (n := -1000001) dX6_whenToCome_27 co_X6_71 (by decide) ?_
    refine M_iret dX6_whenToCome_29 rfl ?_
    exact bad (by omega)
  · skip
    refine J_il2 dX6_whenToCome_8 ?_
    refine J_iconst dX6_whenToCome_9 ?_
    refine J_bipush dX6_whenToCome_10 rfl ?_
    refine M_csI3 dX6_whenToCome_12 lk_X6_67 cw_X6_outside (k_outside hn (by omega) (by omega)) (by decide) (Nat.le_of_ble_eq_true rfl) (fun v_12 mem_12 hq => ?_)
    obtain ⟨rfl, hq⟩ := hq; have hq := hq.symm; subst hq
    refine J_ifne_b (tgt := 27) dX6_whenToCome_15 rfl (fun c_15 => ?_) (fun c_15 => ?_)
    · skip
      refine J_ldc (n := -1000001) dX6_whenToCome_27 co_X6_71 (by decide) ?_
      refine M_iret dX6_whenToCome_29 rfl ?_
      exact bad (by omega)
    · skip
      refine J_il3 dX6_whenToCome_18 ?_
      refine J_iconst dX6_whenToCome_19 ?_
      refine J_iconst dX6_whenToCome_20 ?_
      refine M_csI3 dX6_whenToCome_21 lk_X6_67 cw_X6_outside (k_outside hw (by omega) (by omega)) (by decide) (Nat.le_of_ble_eq_true rfl) (fun v_21 mem_21 hq => ?_)
      obtain ⟨rfl, hq⟩ := hq; have hq := hq.symm; subst hq
      refine J_ifeq_b (tgt := 30) dX6_whenToCome_24 rfl (fun c_24 => ?_) (fun c_24 => ?_)
      · skip
        refine J_al0 dX6_whenToCome_30 ?_
        refine M_getR dX6_whenToCome_31 fl_X6_26 sh_0 rfl ?_
        refine J_il1 dX6_whenToCome_34 ?_
        refine M_cvI1 dX6_whenToCome_35 lk_X6_169 cw_X2_isAwayForGood sh_16 rfl rfl (k_isAwayForGood (Or.inl rfl) hB hb (by omega) (by omega) (by omega)) (by decide) (Nat.le_of_ble_eq_true rfl) (fun v_35 mem_35 hq => ?_)
        obtain ⟨rfl, hq⟩ := hq; have hq := hq.symm; subst hq
        refine J_ifne_b (tgt := 44) dX6_whenToCome_38 rfl (fun c_38 => ?_) (fun c_38 => ?_)
        · skip
          refine J_iconst dX6_whenToCome_44 ?_
          refine J_is4 dX6_whenToCome_45 (by decide) rfl ?_
          refine J_iconst dX6_whenToCome_47 ?_
          refine J_is5 dX6_whenToCome_48 (by decide) rfl ?_
          refine J_al0 dX6_whenToCome_50 ?_
          refine M_getR dX6_whenToCome_51 fl_X6_46 sh_0 rfl ?_
          refine J_al0 dX6_whenToCome_54 ?_
          refine M_getR dX6_whenToCome_55 fl_X6_26 sh_0 rfl ?_
          refine M_cvV1 dX6_whenToCome_58 lk_X6_128 cw_X2_become sh_70 rfl rfl (k_become isB70 (Or.inl rfl) (by decide) hB (by omega) (by omega) hb.2.2.2.2.2.2.2) (by decide) (Nat.le_of_ble_eq_true rfl) (fun mem_58 hq => ?_)
          obtain ⟨hB2, hF⟩ := hq
          refine J_iconst dX6_whenToCome_61 ?_
          refine J_is6 dX6_whenToCome_62 (by decide) rfl ?_
          exact loop (by omega) (by omega) n.toNat 0 0 0 (-1) _ _ rfl (by omega) hB2 (hF.t (Or.inr rfl)) rfl rfl (by omega)
        · skip
          refine J_ldc (n := -1000002) dX6_whenToCome_41 co_X6_139 (by decide) ?_
          refine M_iret dX6_whenToCome_43 rfl ?_
          exact ⟨by unfold vWhen; rw [if_neg (by omega), if_neg (by omega)], hC, FrC.rf⟩
      · skip
        refine J_ldc (n := -1000001) dX6_whenToCome_27 co_X6_71 (by decide) ?_
        refine M_iret dX6_whenToCome_29 rfl ?_
        exact bad (by omega)
