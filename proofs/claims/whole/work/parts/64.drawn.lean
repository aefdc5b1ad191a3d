theorem drX_range {seed : Int} (h : 1 ≤ seed ∧ seed ≤ 999999) : ∀ k : Nat, 0 ≤ drX seed k ∧ drX seed k < 2147483647
  | 0 => ⟨by show 0 ≤ seed; omega, by show seed < 2147483647; omega⟩
  | k + 1 => by
    have := drX_range h k
    show 0 ≤ drX seed k * 16807 % 2147483647 ∧ drX seed k * 16807 % 2147483647 < 2147483647
    omega
theorem snf_lo {b : BN} (m : Int) {x : Int} (h : x ≠ 6) : (snf b m).1 x = b.1 x := by
  unfold snf
  split
  · exact zup_n h
  · rfl
theorem drN_inv {b : BN} (hI : BInv b.1 b.2) (seed : Int) : ∀ k : Nat, BInv (drN b seed k).1 (drN b seed k).2 ∧ (drN b seed k).1 4 = b.1 4 + k ∧ (drN b seed k).1 3 = b.1 3
  | 0 => ⟨hI, by show b.1 4 = b.1 4 + ((0 : Nat) : Int); omega, rfl⟩
  | k + 1 => by
    obtain ⟨i1, i2, i3⟩ := drN_inv hI seed k
    have s1 := snf_inv i1 (drX seed (k + 1) % b.1 3)
    obtain ⟨j1, j2, j3, -⟩ := hourR_inv TT s1
    refine ⟨j1, ?_, ?_⟩
    · show (hourR TT (snf (drN b seed k) (drX seed (k + 1) % b.1 3))).1.1 4 = _
      rw [j3, snf_lo _ (by omega), i2]; omega
    · show (hourR TT (snf (drN b seed k) (drX seed (k + 1) % b.1 3))).1.1 3 = _
      rw [j2.1 3 (by omega) (by omega), snf_lo _ (by omega), i3]
theorem snf_no {b : BN} {m : Int} (h : ¬ 0 < plc b.2 m) : snf b m = b := by unfold snf; rw [if_neg h]
theorem c_drawn {mem : ZMem} {S : ZS} (hC : CS mem S) (hI : SInv S) {n seed w : Int} (hn : In32 n) (hsd : In32 seed) (hw : In32 w) : CI mX6_drawn 8 [zr 0, zi n, zi seed, zi w] mem (QS mem (vDrawn S n seed w, S)) := by
  have hb := hI.bi
  have b1 := hb.1
  have hl := hb.len
  have hr := hI.hr
  have hen := hC.men
  have hB := bch hC
  have bad : ¬ S.b.1 3 = 0 → (n < 0 ∨ 60 < n ∨ seed < 1 ∨ 999999 < seed ∨ w < 0 ∨ 1 < w) → QS mem (vDrawn S n seed w, S) (-1000001) mem := fun q0 q => ⟨by unfold vDrawn; rw [if_neg q0, if_pos q], hC, FrC.rf⟩
  have fin : ¬ S.b.1 3 = 0 → ¬ (n < 0 ∨ 60 < n ∨ seed < 1 ∨ 999999 < seed ∨ w < 0 ∨ 1 < w) → ∀ (kn : Nat) (x k : Int) (z y : ZV) (m2 : ZMem), kn = n.toNat → CB m2 63 (drN S.b seed kn).1 (drN S.b seed kn).2 → FrT mem m2 → JM mX6_drawn 8 (QI (QS mem (vDrawn S n seed w, S))) 129 [zr 0, zi n, zi seed, zi w, zl x, y, zi k, z] [] m2 := by
    intro z0 z1 kn x k z y m2 e0 a1 a2
    obtain ⟨i1, i2, i3⟩ := drN_inv (b := S.b) hb seed kn
    refine J_il3 dX6_drawn_129 ?_
    refine J_ifne (tgt := 151) dX6_drawn_130 rfl (by omega) (fun c_130 => ?_) (fun c_130 => ?_)
    · skip
      refine J_al0 dX6_drawn_151 ?_
      refine M_getR dX6_drawn_152 fl_X6_43 sh_0 rfl ?_
      refine M_cvI0 dX6_drawn_155 lk_X6_270 cw_X2_warmOfAll sh_63 rfl rfl (k_warmOfAll isB63 a1 i1.1) (by decide) (Nat.le_of_ble_eq_true rfl) (fun v_155 mem_155 hq => ?_)
      obtain ⟨rfl, hq⟩ := hq; have hq := hq.symm; subst hq
      refine M_iret dX6_drawn_158 rfl ?_
      first
      | (have e7 : m2 63 7 = (drN S.b seed kn).1 6 := a1.1.2.2.2.2.1
         have e8 : m2 16 7 = S.b.1 6 := by rw [a2 16 (by omega)]; exact hB.1.2.2.2.2.1
         exact ⟨by unfold vDrawn; rw [if_neg z0, if_neg z1, if_pos (by omega), e7, e8, e0], hC.ext a2, a2.c⟩)
      | exact ⟨by unfold vDrawn; rw [if_neg z0, if_neg z1, if_neg (by omega), ← e0, i3], hC.ext a2, a2.c⟩
    · skip
      refine J_al0 dX6_drawn_133 ?_
      refine M_getR dX6_drawn_134 fl_X6_43 sh_0 rfl ?_
      refine M_get (ki := 7) dX6_drawn_137 fl_X6_267 sh_63 rfl rfl ?_
      refine J_al0 dX6_drawn_140 ?_
      refine M_getR dX6_drawn_141 fl_X6_26 sh_0 rfl ?_
      refine M_get (ki := 7) dX6_drawn_144 fl_X6_267 sh_16 rfl rfl ?_
      refine J_isub dX6_drawn_147 ?_
      refine J_goto (tgt := 158) dX6_drawn_148 rfl ?_
      refine M_iret dX6_drawn_158 rfl ?_
      first
      | (have e7 : m2 63 7 = (drN S.b seed kn).1 6 := a1.1.2.2.2.2.1
         have e8 : m2 16 7 = S.b.1 6 := by rw [a2 16 (by omega)]; exact hB.1.2.2.2.2.1
         exact ⟨by unfold vDrawn; rw [if_neg z0, if_neg z1, if_pos (by omega), e7, e8, e0], hC.ext a2, a2.c⟩)
      | exact ⟨by unfold vDrawn; rw [if_neg z0, if_neg z1, if_neg (by omega), ← e0, i3], hC.ext a2, a2.c⟩
  have loop : ¬ S.b.1 3 = 0 → ¬ (n < 0 ∨ 60 < n ∨ seed < 1 ∨ 999999 < seed ∨ w < 0 ∨ 1 < w) → ∀ (c kn : Nat) (x k : Int) (z y : ZV) (m2 : ZMem), k = kn → (c : Int) + k = n → x = drX seed kn → CB m2 63 (drN S.b seed kn).1 (drN S.b seed kn).2 → FrT mem m2 → JM mX6_drawn 8 (QI (QS mem (vDrawn S n seed w, S))) 61 [zr 0, zi n, zi seed, zi w, zl x, y, zi k, z] [] m2 := by
    intro z0 z1 c
    induction c with
    | zero =>
      intro kn x k z y m2 e0 a1 a2 a3 a4
      refine J_il6 dX6_drawn_61 ?_
      refine J_il1 dX6_drawn_63 ?_
      refine J_cge (tgt := 129) dX6_drawn_64 rfl (by omega) (fun c_64 => ?_) (fun c_64 => ?_)
      · skip
        exact fin z0 z1 kn x k z y m2 (by omega) a3 a4
      · skip
        omega
    | succ c ih =>
      intro kn x k z y m2 e0 a1 a2 a3 a4
      obtain ⟨i1, i2, i3⟩ := drN_inv (b := S.b) hb seed kn
      have x0 := drX_range (seed := seed) (by omega) kn
      have x1 := drX_range (seed := seed) (by omega) (kn + 1)
      have ex : x * 16807 % 2147483647 = drX seed (kn + 1) := by rw [a2]; rfl
      have em : m2 16 2 = S.b.1 3 := by rw [a4 16 (by omega)]; exact hen
      have y0 := Int.emod_nonneg (drX seed (kn + 1)) z0
      have y1 := Int.emod_lt_of_pos (drX seed (kn + 1)) (show 0 < S.b.1 3 by omega)
      have hp := plc_range (drN S.b seed kn).2 (drX seed (kn + 1) % S.b.1 3)
      have hl2 := i1.len
      have s1 := snf_inv i1 (drX seed (kn + 1) % S.b.1 3)
      have s4 := snf_lo (b := drN S.b seed kn) (drX seed (kn + 1) % S.b.1 3) (x := 4) (by omega)
      refine J_il6 dX6_drawn_61 ?_
      refine J_il1 dX6_drawn_63 ?_
      refine J_cge (tgt := 129) dX6_drawn_64 rfl (by omega) (fun c_64 => ?_) (fun c_64 => ?_)
      · skip
        omega
      · skip
        refine J_ll4 dX6_drawn_67 ?_
        refine J_ldc2 (n := 16807) dX6_drawn_69 col_X6_263 (by decide) ?_
        refine J_lmul dX6_drawn_72 ?_
        refine J_ldc2 (n := 2147483647) dX6_drawn_73 col_X6_265 (by decide) ?_
        refine J_lrem dX6_drawn_76 (by omega) ?_
        rw [ex]
        refine J_ls4 dX6_drawn_77 (by decide) rfl ?_
        refine J_ll4 dX6_drawn_79 ?_
        refine J_al0 dX6_drawn_81 ?_
        refine M_getR dX6_drawn_82 fl_X6_26 sh_0 rfl ?_
        refine M_get (ki := 2) dX6_drawn_85 fl_X6_133 sh_16 rfl rfl ?_
        rw [em]
        refine J_i2l dX6_drawn_88 (by omega) ?_
        refine J_lrem dX6_drawn_89 (by omega) ?_
        refine J_l2i dX6_drawn_90 ?_
        refine J_is7 dX6_drawn_91 (by decide) rfl ?_
        refine J_al0 dX6_drawn_93 ?_
        refine M_getR dX6_drawn_94 fl_X6_43 sh_0 rfl ?_
        refine J_il7 dX6_drawn_97 ?_
        refine M_cvI1 dX6_drawn_99 lk_X6_162 cw_X2_placeOf sh_63 rfl rfl (k_placeOf isB63 a3 i1 (by omega)) (by decide) (Nat.le_of_ble_eq_true rfl) (fun v_99 mem_99 hq => ?_)
        obtain ⟨rfl, hq⟩ := hq; have hq := hq.symm; subst hq
        refine J_ifle (tgt := 114) dX6_drawn_102 rfl (by omega) (fun c_102 => ?_) (fun c_102 => ?_)
        · skip
          first
          | have hB3 : CB mem_111 63 (snf (drN S.b seed kn) (drX seed (kn + 1) % S.b.1 3)).1 (snf (drN S.b seed kn) (drX seed (kn + 1) % S.b.1 3)).2 := hB2
          | have hB3 : CB m2 63 (snf (drN S.b seed kn) (drX seed (kn + 1) % S.b.1 3)).1 (snf (drN S.b seed kn) (drX seed (kn + 1) % S.b.1 3)).2 := by
              rw [snf_no (by omega)]; exact a3
            have T2 := a4
          refine J_al0 dX6_drawn_114 ?_
          refine M_getR dX6_drawn_115 fl_X6_43 sh_0 rfl ?_
          refine J_iconst dX6_drawn_118 ?_
          refine M_cvI1 dX6_drawn_119 lk_X6_152 cw_X2_passHour sh_63 rfl rfl (k_passHour isB63 hB3 s1 (by omega) (fun _ => True) fgt0) (by decide) (Nat.le_of_ble_eq_true rfl) (fun v_119 mem_119 hq => ?_)
          obtain ⟨rfl, hB4, hF4⟩ := hq
          refine J_pop dX6_drawn_122 rfl ?_
          refine J_inc6 dX6_drawn_123 (by decide) rfl ?_
          refine J_goto (tgt := 61) dX6_drawn_126 rfl ?_
          exact ih (kn + 1) _ _ _ _ _ (by omega) (by omega) rfl hB4 (wrt T2 63 hF4 (by omega))
        · skip
          refine J_al0 dX6_drawn_105 ?_
          refine M_getR dX6_drawn_106 fl_X6_43 sh_0 rfl ?_
          refine J_il7 dX6_drawn_109 ?_
          refine M_cvV1 dX6_drawn_111 lk_X6_165 cw_X2_takeSnuff sh_63 rfl rfl (k_takeSnuff isB63 a3 i1 (by omega)) (by decide) (Nat.le_of_ble_eq_true rfl) (fun mem_111 hq => ?_)
          obtain ⟨hB2, hF2⟩ := hq
          have T2 := wrt a4 63 hF2 (by omega)
          first
          | have hB3 : CB mem_111 63 (snf (drN S.b seed kn) (drX seed (kn + 1) % S.b.1 3)).1 (snf (drN S.b seed kn) (drX seed (kn + 1) % S.b.1 3)).2 := hB2
          | have hB3 : CB m2 63 (snf (drN S.b seed kn) (drX seed (kn + 1) % S.b.1 3)).1 (snf (drN S.b seed kn) (drX seed (kn + 1) % S.b.1 3)).2 := by
              rw [snf_no (by omega)]; exact a3
            have T2 := a4
          refine J_al0 dX6_drawn_114 ?_
          refine M_getR dX6_drawn_115 fl_X6_43 sh_0 rfl ?_
          refine J_iconst dX6_drawn_118 ?_
          refine M_cvI1 dX6_drawn_119 lk_X6_152 cw_X2_passHour sh_63 rfl rfl (k_passHour isB63 hB3 s1 (by omega) (fun _ => True) fgt0) (by decide) (Nat.le_of_ble_eq_true rfl) (fun v_119 mem_119 hq => ?_)
          obtain ⟨rfl, hB4, hF4⟩ := hq
          refine J_pop dX6_drawn_122 rfl ?_
          refine J_inc6 dX6_drawn_123 (by decide) rfl ?_
          refine J_goto (tgt := 61) dX6_drawn_126 rfl ?_
          exact ih (kn + 1) _ _ _ _ _ (by omega) (by omega) rfl hB4 (wrt T2 63 hF4 (by omega))
  refine CM.of (by decide +kernel) ([zr 0, zi n, zi seed, zi w, zu, zu, zu, zu]) (zok_all rfl) (Nat.le_of_ble_eq_true rfl) rfl ?_
  refine J_al0 dX6_drawn_0 ?_
  refine M_cvI0 dX6_drawn_1 lk_X6_143 cw_X6_noBench sh_0 rfl rfl (k_noBench (by omega)) (by decide) (Nat.le_of_ble_eq_true rfl) (fun v_1 mem_1 hq => ?_)
  obtain ⟨rfl, hq⟩ := hq; have hq := hq.symm; subst hq
  refine J_ifeq_b (tgt := 10) dX6_drawn_4 rfl (fun c_4 => ?_) (fun c_4 => ?_)
  · skip
    refine J_il1 dX6_drawn_10 ?_
    refine J_iconst dX6_drawn_11 ?_
    refine J_bipush dX6_drawn_12 rfl ?_
    refine M_csI3 dX6_drawn_14 lk_X6_67 cw_X6_outside (k_outside hn (by omega) (by omega)) (by decide) (Nat.le_of_ble_eq_true rfl) (fun v_14 mem_14 hq => ?_)
    obtain ⟨rfl, hq⟩ := hq; have hq := hq.symm; subst hq
    refine J_ifne_b (tgt := 40) dX6_drawn_17 rfl (fun c_17 => ?_) (fun c_17 => ?_)
    · skip
      refine J_ldc (n := -1000001) dX6_drawn_40 co_X6_71 (by decide) ?_
      refine M_iret dX6_drawn_42 rfl ?_
      exact bad (by omega) (by omega)
    · skip
      refine J_il2 dX6_drawn_20 ?_
      refine J_iconst dX6_drawn_21 ?_
      refine J_ldcw (n := 999999) dX6_drawn_22 co_X6_262 (by decide) ?_
      refine M_csI3 dX6_drawn_25 lk_X6_67 cw_X6_outside (k_outside hsd (by omega) (by omega)) (by decide) (Nat.le_of_ble_eq_true rfl) (fun v_25 mem_25 hq => ?_)
      obtain ⟨rfl, hq⟩ := hq; have hq := hq.symm; subst hq
      refine J_ifne_b (tgt := 40) dX6_drawn_28 rfl (fun c_28 => ?_) (fun c_28 => ?_)
      · skip
        refine J_ldc (n := -1000001) dX6_drawn_40 co_X6_71 (by decide) ?_
        refine M_iret dX6_drawn_42 rfl ?_
        exact bad (by omega) (by omega)
      · skip
        refine J_il3 dX6_drawn_31 ?_
        refine J_iconst dX6_drawn_32 ?_
        refine J_iconst dX6_drawn_33 ?_
        refine M_csI3 dX6_drawn_34 lk_X6_67 cw_X6_outside (k_outside hw (by omega) (by omega)) (by decide) (Nat.le_of_ble_eq_true rfl) (fun v_34 mem_34 hq => ?_)
        obtain ⟨rfl, hq⟩ := hq; have hq := hq.symm; subst hq
        refine J_ifeq_b (tgt := 43) dX6_drawn_37 rfl (fun c_37 => ?_) (fun c_37 => ?_)
        · skip
          refine J_al0 dX6_drawn_43 ?_
          refine M_getR dX6_drawn_44 fl_X6_43 sh_0 rfl ?_
          refine J_al0 dX6_drawn_47 ?_
          refine M_getR dX6_drawn_48 fl_X6_26 sh_0 rfl ?_
          refine M_cvV1 dX6_drawn_51 lk_X6_128 cw_X2_become sh_63 rfl rfl (k_become isB63 (Or.inl rfl) (by decide) hB (by omega) (by omega) hb.2.2.2.2.2.2.2) (by decide) (Nat.le_of_ble_eq_true rfl) (fun mem_51 hq => ?_)
          obtain ⟨hB2, hF2⟩ := hq
          refine J_il2 dX6_drawn_54 ?_
          refine J_i2l dX6_drawn_55 (by omega) ?_
          refine J_ls4 dX6_drawn_56 (by decide) rfl ?_
          refine J_iconst dX6_drawn_58 ?_
          refine J_is6 dX6_drawn_59 (by decide) rfl ?_
          exact loop (by omega) (by omega) n.toNat 0 seed 0 _ _ _ rfl (by omega) rfl hB2 (hF2.t (Or.inl rfl))
        · skip
          refine J_ldc (n := -1000001) dX6_drawn_40 co_X6_71 (by decide) ?_
          refine M_iret dX6_drawn_42 rfl ?_
          exact bad (by omega) (by omega)
  · skip
    refine J_ldc (n := -1000002) dX6_drawn_7 co_X6_139 (by decide) ?_
    refine M_iret dX6_drawn_9 rfl ?_
    exact ⟨by unfold vDrawn; rw [if_pos (by omega)], hC, FrC.rf⟩
