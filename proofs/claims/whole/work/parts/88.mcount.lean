theorem bibi {p : Prop} : bi (¬ bi p = 0) = bi p := bi_congr bi_ne
theorem m_count {mem : ZMem} {S : ZS} (hS : MS mem S) (hI : SInv S) {w : Int} (hw : In32 w) : CI mX7_count 1 [zr 79, zi w] mem (QM mem (vCount S w, S)) := by
  have hb := hI.bi
  have b1 := hb.1
  have hl := hb.len
  have h0 := hS.thr
  have hF : FrM mem (mset mem 79 0 0) := FrM.rf.set (by omega)
  generalize hm : mset mem 79 0 0 = m0 at *
  have hX := mbch h0
  have go : ∀ v : Int, v = vCount S w → QM mem (vCount S w, S) v m0 := fun v e => ⟨e, h0, hF⟩
  have loop : w = 0 → ∀ (c kn : Nat) (s k : Int), k = kn → (c : Int) + k = 8 → s = prs (fun x => bi (0 ≤ S.ln x)) kn → JM mX7_count 1 (QI (QM mem (vCount S w, S))) 58 [zr 79, zi w, zi s, zi k] [] m0 := by
    intro hw0 c
    induction c with
    | zero =>
      intro kn s k e0 a1 a2
      refine J_il3 dX7_count_58 ?_
      refine J_bipush dX7_count_59 rfl ?_
      refine J_cge (tgt := 87) dX7_count_61 rfl (by omega) (fun c_61 => ?_) (fun c_61 => ?_)
      · skip
        refine J_il2 dX7_count_87 ?_
        refine M_iret dX7_count_88 rfl ?_
        exact go _ (by unfold vCount; rw [if_pos hw0, a2, show kn = 8 by omega])
      · skip
        omega
    | succ c ih =>
      intro kn s k e0 a1 a2
      have hR := (h0.1 k (by omega) (by omega)).1
      have hL := (hI.1 k (by omega) (by omega)).1
      refine J_il3 dX7_count_58 ?_
      refine J_bipush dX7_count_59 rfl ?_
      refine J_cge (tgt := 87) dX7_count_61 rfl (by omega) (fun c_61 => ?_) (fun c_61 => ?_)
      · skip
        omega
      · skip
        refine J_il2 dX7_count_64 ?_
        refine J_al0 dX7_count_65 ?_
        refine M_getR dX7_count_66 fl_X7_7 sh_79 rfl ?_
        refine J_il3 dX7_count_69 ?_
        refine M_ald dX7_count_70 sh_80 (by decide) (by omega) ?_
        refine J_iflt (tgt := 78) dX7_count_71 rfl (by omega) (fun c_71 => ?_) (fun c_71 => ?_)
        · skip
          refine J_iconst dX7_count_78 ?_
          refine J_iadd dX7_count_79 ?_
          refine J_is2 dX7_count_80 (by decide) rfl ?_
          refine J_inc3 dX7_count_81 (by decide) rfl ?_
          refine J_goto (tgt := 58) dX7_count_84 rfl ?_
          refine ih (kn + 1) _ _ (by omega) (by omega) ?_
          show _ = prs _ kn + bi (¬ bi (0 ≤ S.ln (kn : Int)) = 0)
          rw [bibi, ← e0, a2]
          first | rw [bi_t (by omega)] | rw [bi_f (by omega)]
        · skip
          refine J_iconst dX7_count_74 ?_
          refine J_goto (tgt := 79) dX7_count_75 rfl ?_
          refine J_iadd dX7_count_79 ?_
          refine J_is2 dX7_count_80 (by decide) rfl ?_
          refine J_inc3 dX7_count_81 (by decide) rfl ?_
          refine J_goto (tgt := 58) dX7_count_84 rfl ?_
          refine ih (kn + 1) _ _ (by omega) (by omega) ?_
          show _ = prs _ kn + bi (¬ bi (0 ≤ S.ln (kn : Int)) = 0)
          rw [bibi, ← e0, a2]
          first | rw [bi_t (by omega)] | rw [bi_f (by omega)]
  refine CM.of (by decide +kernel) ([zr 79, zi w, zu, zu]) (zok_all rfl) (Nat.le_of_ble_eq_true rfl) rfl ?_
  refine J_al0 dX7_count_0 ?_
  refine J_iconst dX7_count_1 ?_
  refine M_put (ki := 0) dX7_count_2 fl_X7_50 sh_79 rfl rfl rfl (fun r hr => by cases hr; rfl) ?_
  rw [hm]
  refine J_iconst dX7_count_5 ?_
  refine J_is2 dX7_count_6 (by decide) rfl ?_
  refine J_il1 dX7_count_7 ?_
  by_cases c_8 : w < 0 ∨ 7 < w
  · skip
    refine J_tsOut (tgt := 136) dX7_count_8 c_8 (by omega) rfl ?_
    refine J_ldc (n := -1000001) dX7_count_136 co_X7_70 (by decide) ?_
    refine M_iret dX7_count_138 rfl ?_
    exact go _ (by unfold vCount; rw [if_neg (by omega), if_neg (by omega), if_neg (by omega), if_neg (by omega), if_neg (by omega), if_neg (by omega), if_neg (by omega), if_neg (by omega)])
  have c_8 : w = 0 ∨ w = 1 ∨ w = 2 ∨ w = 3 ∨ w = 4 ∨ w = 5 ∨ w = 6 ∨ w = 7 := by omega
  rcases c_8 with e_8 | e_8 | e_8 | e_8 | e_8 | e_8 | e_8 | e_8
  · skip
    refine J_tsIn (off := 48) (tgt := 56) dX7_count_8 (by omega) (by omega) (by omega) (by rw [e_8]; rfl) rfl ?_
    refine J_iconst dX7_count_56 ?_
    refine J_is3 dX7_count_57 (by decide) rfl ?_
    exact loop (by omega) 8 0 0 0 rfl (by omega) rfl
  · skip
    refine J_tsIn (off := 81) (tgt := 89) dX7_count_8 (by omega) (by omega) (by omega) (by rw [e_8]; rfl) rfl ?_
    refine J_al0 dX7_count_89 ?_
    refine M_getR dX7_count_90 fl_X7_19 sh_79 rfl ?_
    refine J_iconst dX7_count_93 ?_
    refine M_ald dX7_count_94 sh_83 (by decide) (by omega) ?_
    refine M_iret dX7_count_95 rfl ?_
    exact go _ (by unfold vCount; rw [if_neg (by omega), if_pos (by omega)]; exact hX.1.2.2.1)
  · skip
    refine J_tsIn (off := 88) (tgt := 96) dX7_count_8 (by omega) (by omega) (by omega) (by rw [e_8]; rfl) rfl ?_
    refine J_al0 dX7_count_96 ?_
    refine M_getR dX7_count_97 fl_X7_19 sh_79 rfl ?_
    refine M_csI1 dX7_count_100 lk_X7_195 cw_X7_sitting (k_sitting isW83 hX (by omega)) (by decide) (Nat.le_of_ble_eq_true rfl) (fun v_100 mem_100 hq => ?_)
    obtain ⟨rfl, hq⟩ := hq; have hq := hq.symm; subst hq
    refine M_iret dX7_count_103 rfl ?_
    exact go _ (by unfold vCount; rw [if_neg (by omega), if_neg (by omega), if_pos (by omega)])
  · skip
    refine J_tsIn (off := 96) (tgt := 104) dX7_count_8 (by omega) (by omega) (by omega) (by rw [e_8]; rfl) rfl ?_
    refine J_al0 dX7_count_104 ?_
    refine M_getR dX7_count_105 fl_X7_19 sh_79 rfl ?_
    refine J_iconst dX7_count_108 ?_
    refine M_ald dX7_count_109 sh_83 (by decide) (by omega) ?_
    refine M_iret dX7_count_110 rfl ?_
    exact go _ (by unfold vCount; rw [if_neg (by omega), if_neg (by omega), if_neg (by omega), if_pos (by omega)]; exact hX.1.2.2.2.1)
  · skip
    refine J_tsIn (off := 103) (tgt := 111) dX7_count_8 (by omega) (by omega) (by omega) (by rw [e_8]; rfl) rfl ?_
    refine J_al0 dX7_count_111 ?_
    refine M_getR dX7_count_112 fl_X7_19 sh_79 rfl ?_
    refine J_bipush dX7_count_115 rfl ?_
    refine M_ald dX7_count_117 sh_83 (by decide) (by omega) ?_
    refine M_iret dX7_count_118 rfl ?_
    exact go _ (by unfold vCount; rw [if_neg (by omega), if_neg (by omega), if_neg (by omega), if_neg (by omega), if_pos (by omega)]; exact h0.2.2.1.2.1)
  · skip
    refine J_tsIn (off := 111) (tgt := 119) dX7_count_8 (by omega) (by omega) (by omega) (by rw [e_8]; rfl) rfl ?_
    refine J_al0 dX7_count_119 ?_
    refine M_getR dX7_count_120 fl_X7_19 sh_79 rfl ?_
    refine J_iconst dX7_count_123 ?_
    refine M_ald dX7_count_124 sh_83 (by decide) (by omega) ?_
    refine M_iret dX7_count_125 rfl ?_
    exact go _ (by unfold vCount; rw [if_neg (by omega), if_neg (by omega), if_neg (by omega), if_neg (by omega), if_neg (by omega), if_pos (by omega)]; exact hX.1.2.2.2.2.1)
  · skip
    refine J_tsIn (off := 118) (tgt := 126) dX7_count_8 (by omega) (by omega) (by omega) (by rw [e_8]; rfl) rfl ?_
    refine J_al0 dX7_count_126 ?_
    refine M_get (ki := 9) dX7_count_127 fl_X7_149 sh_79 rfl rfl ?_
    refine M_iret dX7_count_130 rfl ?_
    exact go _ (by unfold vCount; rw [if_neg (by omega), if_neg (by omega), if_neg (by omega), if_neg (by omega), if_neg (by omega), if_neg (by omega), if_pos (by omega)]; exact h0.2.2.2.1.1)
  · skip
    refine J_tsIn (off := 123) (tgt := 131) dX7_count_8 (by omega) (by omega) (by omega) (by rw [e_8]; rfl) rfl ?_
    refine J_al0 dX7_count_131 ?_
    refine M_get (ki := 11) dX7_count_132 fl_X7_77 sh_79 rfl rfl ?_
    refine M_iret dX7_count_135 rfl ?_
    exact go _ (by unfold vCount; rw [if_neg (by omega), if_neg (by omega), if_neg (by omega), if_neg (by omega), if_neg (by omega), if_neg (by omega), if_neg (by omega), if_pos (by omega)]; exact h0.2.1.1)
theorem k_isOf {mem : ZMem} {a o : Int} (ha : In32 a) (ho : In32 o) : CI mX7_isOf 0 [zi a, zi o] mem (fun v mem' => v = bi (isof a o) ∧ mem' = mem) := by
  refine CM.of (by decide +kernel) ([zi a, zi o]) (zok_all rfl) (Nat.le_of_ble_eq_true rfl) rfl ?_
  refine J_il1 dX7_isOf_0 ?_
  refine J_ifeq (tgt := 29) dX7_isOf_1 rfl (by omega) (fun c_1 => ?_) (fun c_1 => ?_)
  · skip
    refine J_iconst dX7_isOf_29 ?_
    refine J_goto (tgt := 34) dX7_isOf_30 rfl ?_
    refine M_zret dX7_isOf_34 rfl (by decide) ?_
    first
    | exact ⟨(bi_t (by unfold isof; omega)).symm, rfl⟩
    | exact ⟨(bi_f (by unfold isof; omega)).symm, rfl⟩
  · skip
    refine J_il0 dX7_isOf_4 ?_
    refine J_il1 dX7_isOf_5 ?_
    refine J_ceq (tgt := 29) dX7_isOf_6 rfl (by omega) (fun c_6 => ?_) (fun c_6 => ?_)
    · skip
      refine J_iconst dX7_isOf_29 ?_
      refine J_goto (tgt := 34) dX7_isOf_30 rfl ?_
      refine M_zret dX7_isOf_34 rfl (by decide) ?_
      first
      | exact ⟨(bi_t (by unfold isof; omega)).symm, rfl⟩
      | exact ⟨(bi_f (by unfold isof; omega)).symm, rfl⟩
    · skip
      refine J_il1 dX7_isOf_9 ?_
      refine J_iconst dX7_isOf_10 ?_
      refine J_cne (tgt := 19) dX7_isOf_11 rfl (by omega) (fun c_11 => ?_) (fun c_11 => ?_)
      · skip
        refine J_il1 dX7_isOf_19 ?_
        refine J_iconst dX7_isOf_20 ?_
        refine J_cne (tgt := 33) dX7_isOf_21 rfl (by omega) (fun c_21 => ?_) (fun c_21 => ?_)
        · skip
          refine J_iconst dX7_isOf_33 ?_
          refine M_zret dX7_isOf_34 rfl (by decide) ?_
          first
          | exact ⟨(bi_t (by unfold isof; omega)).symm, rfl⟩
          | exact ⟨(bi_f (by unfold isof; omega)).symm, rfl⟩
        · skip
          refine J_il0 dX7_isOf_24 ?_
          refine J_iconst dX7_isOf_25 ?_
          refine J_cne (tgt := 33) dX7_isOf_26 rfl (by omega) (fun c_26 => ?_) (fun c_26 => ?_)
          · skip
            refine J_iconst dX7_isOf_33 ?_
            refine M_zret dX7_isOf_34 rfl (by decide) ?_
            first
            | exact ⟨(bi_t (by unfold isof; omega)).symm, rfl⟩
            | exact ⟨(bi_f (by unfold isof; omega)).symm, rfl⟩
          · skip
            refine J_iconst dX7_isOf_29 ?_
            refine J_goto (tgt := 34) dX7_isOf_30 rfl ?_
            refine M_zret dX7_isOf_34 rfl (by decide) ?_
            first
            | exact ⟨(bi_t (by unfold isof; omega)).symm, rfl⟩
            | exact ⟨(bi_f (by unfold isof; omega)).symm, rfl⟩
      · skip
        refine J_il0 dX7_isOf_14 ?_
        refine J_iconst dX7_isOf_15 ?_
        refine J_clt (tgt := 29) dX7_isOf_16 rfl (by omega) (fun c_16 => ?_) (fun c_16 => ?_)
        · skip
          refine J_iconst dX7_isOf_29 ?_
          refine J_goto (tgt := 34) dX7_isOf_30 rfl ?_
          refine M_zret dX7_isOf_34 rfl (by decide) ?_
          first
          | exact ⟨(bi_t (by unfold isof; omega)).symm, rfl⟩
          | exact ⟨(bi_f (by unfold isof; omega)).symm, rfl⟩
        · skip
          refine J_il1 dX7_isOf_19 ?_
          refine J_iconst dX7_isOf_20 ?_
          refine J_cne (tgt := 33) dX7_isOf_21 rfl (by omega) (fun c_21 => ?_) (fun c_21 => ?_)
          · skip
            refine J_iconst dX7_isOf_33 ?_
            refine M_zret dX7_isOf_34 rfl (by decide) ?_
            first
            | exact ⟨(bi_t (by unfold isof; omega)).symm, rfl⟩
            | exact ⟨(bi_f (by unfold isof; omega)).symm, rfl⟩
          · skip
            refine J_il0 dX7_isOf_24 ?_
            refine J_iconst dX7_isOf_25 ?_
            refine J_cne (tgt := 33) dX7_isOf_26 rfl (by omega) (fun c_26 => ?_) (fun c_26 => ?_)
            · skip
              refine J_iconst dX7_isOf_33 ?_
              refine M_zret dX7_isOf_34 rfl (by decide) ?_
              first
              | exact ⟨(bi_t (by unfold isof; omega)).symm, rfl⟩
              | exact ⟨(bi_f (by unfold isof; omega)).symm, rfl⟩
            · skip
              refine J_iconst dX7_isOf_29 ?_
              refine J_goto (tgt := 34) dX7_isOf_30 rfl ?_
              refine M_zret dX7_isOf_34 rfl (by decide) ?_
              first
              | exact ⟨(bi_t (by unfold isof; omega)).symm, rfl⟩
              | exact ⟨(bi_f (by unfold isof; omega)).symm, rfl⟩
theorem m_as {mem : ZMem} {S : ZS} (hS : MS mem S) (hI : SInv S) {m k : Int} (hmr : In32 m) (hk : In32 k) : CI mX7_as 2 [zr 79, zi m, zi k] mem (QM mem (sAs S m k)) := by
  have hb := hI.bi
  have b1 := hb.1
  have h0 := hS.thr
  have hF : FrM mem (mset mem 79 0 0) := FrM.rf.set (by omega)
  generalize hm : mset mem 79 0 0 = m0 at *
  have hen := h0.men
  have hX := mbch h0
  have h1 := h0.fnd 0
  have hF1 : FrM mem (mset m0 79 1 0) := hF.set (by omega)
  have bad : (noM S m ∨ k < 0 ∨ 5 < k) → QM mem (sAs S m k) (-1000001) m0 := fun q => by unfold sAs; rw [if_pos q]; exact ⟨rfl, h0, hF⟩
  refine CM.of (by decide +kernel) ([zr 79, zi m, zi k]) (zok_all rfl) (Nat.le_of_ble_eq_true rfl) rfl ?_
  refine J_al0 dX7_as_0 ?_
  refine J_iconst dX7_as_1 ?_
  refine M_put (ki := 0) dX7_as_2 fl_X7_50 sh_79 rfl rfl rfl (fun r hr => by cases hr; rfl) ?_
  rw [hm]
  refine J_al0 dX7_as_5 ?_
  refine J_il1 dX7_as_6 ?_
  refine M_cvI1 dX7_as_7 lk_X7_199 cw_X7_isMan sh_79 rfl rfl (k_isMan hmr (by omega)) (by decide) (Nat.le_of_ble_eq_true rfl) (fun v_7 mem_7 hq => ?_)
  obtain ⟨rfl, hq⟩ := hq; have hq := hq.symm; subst hq
  refine J_ifeq_b (tgt := 25) dX7_as_10 rfl (fun c_10 => ?_) (fun c_10 => ?_)
  · skip
    refine J_ldc (n := -1000001) dX7_as_25 co_X7_70 (by decide) ?_
    refine M_iret dX7_as_27 rfl ?_
    exact bad (by omega)
  · skip
    refine J_il2 dX7_as_13 ?_
    refine J_i2l dX7_as_14 (by omega) ?_
    refine J_lconst0 dX7_as_15 ?_
    refine J_ldc2 (n := 5) dX7_as_16 col_X7_236 (by decide) ?_
    refine M_csI3 dX7_as_19 lk_X7_60 cw_X7_in (k_in (by omega) (by omega) (by omega)) (by decide) (Nat.le_of_ble_eq_true rfl) (fun v_19 mem_19 hq => ?_)
    obtain ⟨rfl, hq⟩ := hq; have hq := hq.symm; subst hq
    refine J_ifne_b (tgt := 28) dX7_as_22 rfl (fun c_22 => ?_) (fun c_22 => ?_)
    · skip
      have hkk : mset m0 79 1 0 83 (15 + 5 * m + 0) = kd S.b.1 m := by rw [mset_n (by omega), Int.add_zero]; exact (hX.2.2 m (by omega) (by omega)).1
      have hkr := (hb.2.2.2.2.1 m (by omega) (by omega)).1
      refine J_al0 dX7_as_28 ?_
      refine J_iconst dX7_as_29 ?_
      refine M_put (ki := 1) dX7_as_30 fl_X7_54 sh_79 rfl rfl rfl (fun r hr => by cases hr; rfl) ?_
      refine J_al0 dX7_as_33 ?_
      refine M_getR dX7_as_34 fl_X7_19 sh_79 rfl ?_
      refine J_il1 dX7_as_37 ?_
      refine J_iconst dX7_as_38 ?_
      refine M_csI3 dX7_as_39 lk_X7_163 cw_X7_of (k_of isW83 (by omega) (by omega)) (by decide) (Nat.le_of_ble_eq_true rfl) (fun v_39 mem_39 hq => ?_)
      obtain ⟨e, hq⟩ := hq; rw [hkk] at e; subst e; have hq := hq.symm; subst hq
      refine J_il2 dX7_as_42 ?_
      refine M_csI2 dX7_as_43 lk_X7_238 cw_X7_isOf (k_isOf (by omega) (by omega)) (by decide) (Nat.le_of_ble_eq_true rfl) (fun v_43 mem_43 hq => ?_)
      obtain ⟨rfl, hq⟩ := hq; have hq := hq.symm; subst hq
      refine J_ifeq_b (tgt := 53) dX7_as_46 rfl (fun c_46 => ?_) (fun c_46 => ?_)
      · skip
        refine J_al0 dX7_as_53 ?_
        refine J_iconst dX7_as_54 ?_
        refine M_cvI1 dX7_as_55 lk_X7_71 cw_X7_finding sh_79 rfl rfl k_mfinding (by decide) (Nat.le_of_ble_eq_true rfl) (fun v_55 mem_55 hq => ?_)
        obtain ⟨rfl, hq⟩ := hq; have hq := hq.symm; subst hq
        refine M_iret dX7_as_58 rfl ?_
        unfold sAs; rw [if_neg (by omega)]
        first
        | rw [cif_t c_46]; exact ⟨rfl, h1, hF1⟩
        | rw [cif_f c_46]; exact ⟨rfl, h1.fnd 3, hF1.set (by omega)⟩
      · skip
        refine J_il1 dX7_as_49 ?_
        refine J_goto (tgt := 58) dX7_as_50 rfl ?_
        refine M_iret dX7_as_58 rfl ?_
        unfold sAs; rw [if_neg (by omega)]
        first
        | rw [cif_t c_46]; exact ⟨rfl, h1, hF1⟩
        | rw [cif_f c_46]; exact ⟨rfl, h1.fnd 3, hF1.set (by omega)⟩
    · skip
      refine J_ldc (n := -1000001) dX7_as_25 co_X7_70 (by decide) ?_
      refine M_iret dX7_as_27 rfl ?_
      exact bad (by omega)
theorem MS.im {mem mem' : ZMem} {S : ZS} {i0 i1 : BN} (h : MS mem S) (c0 : MIm mem' 0 i0) (c1 : MIm mem' 1 i1) (e : ∀ q : Nat, 79 ≤ q → q ≤ 92 → q ≠ 90 → q ≠ 91 → mem' q = mem q) : MS mem' (S.uIm i0 i1) := by
  obtain ⟨g1, g2, g3, g4, g5, g6, g7, g8, g9⟩ := h
  have e79 := e 79 (by omega) (by omega) (by omega) (by omega)
  refine ⟨?_, ?_, ?_, ?_, c0, c1, ?_, ?_, ?_⟩
  · unfold MRw at g1 ⊢
    rw [e 80 (by omega) (by omega) (by omega) (by omega), e 81 (by omega) (by omega) (by omega) (by omega), e 82 (by omega) (by omega) (by omega) (by omega)]
    exact g1
  · unfold MTp at g2 ⊢
    rw [e79, e 87 (by omega) (by omega) (by omega) (by omega)]
    exact g2
  · rw [e 83 (by omega) (by omega) (by omega) (by omega)]; exact g3
  · exact g4.ext (by rw [e79]) (e 86 (by omega) (by omega) (by omega) (by omega))
  · unfold MTr at g7 ⊢
    rw [e79, e 92 (by omega) (by omega) (by omega) (by omega)]
    exact g7
  · rw [e79]; exact g8
  · rw [e79]; exact g9
theorem m_image {mem : ZMem} {S : ZS} (hS : MS mem S) (hI : SInv S) {k : Int} (hk : In32 k) : CI mX7_image 1 [zr 79, zi k] mem (QM mem (sImage S k)) := by
  have hb := hI.bi
  have h0 := hS.thr
  have htt := h0.th
  have hF : FrM mem (mset mem 79 0 0) := FrM.rf.set (by omega)
  generalize hm : mset mem 79 0 0 = m0 at *
  have loop : ¬ S.b.1 3 = 0 → (k = 0 ∨ k = 1) → ∀ (c : Nat) (i : Int) (m2 : ZMem), (c : Int) + i = 50 → 0 ≤ i → (∀ x : Int, 0 ≤ x → x < i → m2 91 (50 * k + x) = m0 83 x) → (∀ x : Int, ¬ (50 * k ≤ x ∧ x < 50 * k + 50) → m2 91 x = m0 91 x) → (∀ q : Nat, q ≠ 91 → m2 q = m0 q) → JM mX7_image 1 (QI (QM mem (sImage S k))) 30 [zr 79, zi k, zi i] [] m2 := by
    intro hz hk2 c
    induction c with
    | zero =>
      intro i m2 e0 i0 a1 a2 a3
      refine J_il2 dX7_image_30 ?_
      refine J_bipush dX7_image_31 rfl ?_
      refine J_cge (tgt := 59) dX7_image_33 rfl (by omega) (fun c_33 => ?_) (fun c_33 => ?_)
      · skip
        refine J_al0 dX7_image_59 ?_
        refine M_getR dX7_image_60 fl_X7_40 sh_79 rfl ?_
        refine J_il1 dX7_image_63 ?_
        refine J_iconst dX7_image_64 ?_
        refine M_zast dX7_image_65 sh_90 (by decide) (by omega) (by decide) ?_
        refine J_iconst dX7_image_66 ?_
        refine M_iret dX7_image_67 rfl ?_
        unfold sImage; rw [if_neg (by omega), if_neg hz]
        refine ⟨rfl, ?_, fun q hq => by rw [mset_n (by omega), a3 q (by omega)]; exact hF q hq⟩
        have me : MIm (mset m2 90 k 1) k S.b := ⟨by rw [mset_s, bi_t hz], by
          rw [mset_n (by omega)]
          exact h0.2.2.1.ext2 hb (fun x x0 x1 => a1 x x0 (by omega))⟩
        rcases hk2 with rfl | rfl
        · rw [if_pos rfl]
          refine h0.im me ⟨?_, ?_⟩ (fun q q1 q2 q3 q4 => by rw [mset_n q3, a3 q q4])
          · rw [mset_i (by omega), a3 90 (by omega)]; exact h0.2.2.2.2.2.1.1
          · rw [mset_n (by omega)]
            exact h0.2.2.2.2.2.1.2.ext2 hI.2.2.2.2.1.1 (fun x x0 x1 => a2 _ (by omega))
        · rw [if_neg (by omega)]
          refine h0.im ⟨?_, ?_⟩ me (fun q q1 q2 q3 q4 => by rw [mset_n q3, a3 q q4])
          · rw [mset_i (by omega), a3 90 (by omega)]; exact h0.2.2.2.2.1.1
          · rw [mset_n (by omega)]
            exact h0.2.2.2.2.1.2.ext2 hI.2.2.2.1.1 (fun x x0 x1 => a2 _ (by omega))
      · skip
        omega
    | succ c ih =>
      intro i m2 e0 i0 a1 a2 a3
      refine J_il2 dX7_image_30 ?_
      refine J_bipush dX7_image_31 rfl ?_
      refine J_cge (tgt := 59) dX7_image_33 rfl (by omega) (fun c_33 => ?_) (fun c_33 => ?_)
      · skip
        omega
      · skip
        refine J_al0 dX7_image_36 ?_
        refine M_getR dX7_image_37 fl_X7_44 sh_79 rfl ?_
        refine J_bipush dX7_image_40 rfl ?_
        refine J_il1 dX7_image_42 ?_
        refine J_imul dX7_image_43 ?_
        refine J_il2 dX7_image_44 ?_
        refine J_iadd dX7_image_45 ?_
        refine J_al0 dX7_image_46 ?_
        refine M_getR dX7_image_47 fl_X7_19 sh_79 rfl ?_
        refine J_il2 dX7_image_50 ?_
        refine M_ald dX7_image_51 sh_83 (by decide) (by omega) ?_
        refine M_ast dX7_image_52 sh_91 (by decide) (by omega) ?_
        refine J_inc2 dX7_image_53 (by decide) rfl ?_
        refine J_goto (tgt := 30) dX7_image_56 rfl ?_
        refine ih _ _ (by omega) (by omega) (fun x x0 x1 => ?_) (fun x hx => by rw [mset_i (by omega)]; exact a2 x hx) (fun q hq => by rw [mset_n hq]; exact a3 q hq)
        by_cases e : x = i
        · subst e; rw [mset_s, a3 83 (by omega)]
        · rw [mset_i (by omega)]; exact a1 x x0 (by omega)
  refine CM.of (by decide +kernel) ([zr 79, zi k, zu]) (zok_all rfl) (Nat.le_of_ble_eq_true rfl) rfl ?_
  refine J_al0 dX7_image_0 ?_
  refine J_iconst dX7_image_1 ?_
  refine M_put (ki := 0) dX7_image_2 fl_X7_50 sh_79 rfl rfl rfl (fun r hr => by cases hr; rfl) ?_
  rw [hm]
  refine J_il1 dX7_image_5 ?_
  refine J_i2l dX7_image_6 (by omega) ?_
  refine J_lconst0 dX7_image_7 ?_
  refine J_lconst1 dX7_image_8 ?_
  refine M_csI3 dX7_image_9 lk_X7_60 cw_X7_in (k_in (by omega) (by omega) (by omega)) (by decide) (Nat.le_of_ble_eq_true rfl) (fun v_9 mem_9 hq => ?_)
  obtain ⟨rfl, hq⟩ := hq; have hq := hq.symm; subst hq
  refine J_ifne_b (tgt := 18) dX7_image_12 rfl (fun c_12 => ?_) (fun c_12 => ?_)
  · skip
    refine J_al0 dX7_image_18 ?_
    refine M_cvI0 dX7_image_19 lk_X7_186 cw_X7_isThere sh_79 rfl rfl (k_isThere htt.1) (by decide) (Nat.le_of_ble_eq_true rfl) (fun v_19 mem_19 hq => ?_)
    obtain ⟨rfl, hq⟩ := hq; have hq := hq.symm; subst hq
    refine J_ifne_b (tgt := 28) dX7_image_22 rfl (fun c_22 => ?_) (fun c_22 => ?_)
    · skip
      refine J_iconst dX7_image_28 ?_
      refine J_is2 dX7_image_29 (by decide) rfl ?_
      exact loop (by omega) (by omega) 50 0 m0 (by omega) (by omega) (fun x x0 x1 => by omega) (fun x _ => rfl) (fun _ _ => rfl)
    · skip
      refine J_ldc (n := -1000002) dX7_image_25 co_X7_189 (by decide) ?_
      refine M_iret dX7_image_27 rfl ?_
      unfold sImage; rw [if_neg (by omega), if_pos (by omega)]; exact ⟨rfl, h0, hF⟩
  · skip
    refine J_ldc (n := -1000001) dX7_image_15 co_X7_70 (by decide) ?_
    refine M_iret dX7_image_17 rfl ?_
    unfold sImage; rw [if_pos (by omega)]; exact ⟨rfl, h0, hF⟩
theorem m_restore {mem : ZMem} {S : ZS} (hS : MS mem S) (hI : SInv S) {k : Int} (hk : In32 k) : CI mX7_restore 1 [zr 79, zi k] mem (QM mem (sRestore S k)) := by
  have h0 := hS.thr
  have hF : FrM mem (mset mem 79 0 0) := FrM.rf.set (by omega)
  generalize hm : mset mem 79 0 0 = m0 at *
  have hX : (k = 0 ∨ k = 1) → MIm m0 k (if k = 0 then S.i0 else S.i1) ∧ BInv (if k = 0 then S.i0 else S.i1).1 (if k = 0 then S.i0 else S.i1).2 := by
    rintro (rfl | rfl)
    · exact ⟨h0.2.2.2.2.1, hI.2.2.2.1.1⟩
    · exact ⟨h0.2.2.2.2.2.1, hI.2.2.2.2.1.1⟩
  have loop : (k = 0 ∨ k = 1) → ¬ (if k = 0 then S.i0 else S.i1).1 3 = 0 → ∀ (c : Nat) (i : Int) (m2 : ZMem), (c : Int) + i = 50 → 0 ≤ i → (∀ x : Int, 0 ≤ x → x < i → m2 83 x = m0 91 (50 * k + x)) → (∀ q : Nat, q ≠ 83 → m2 q = m0 q) → JM mX7_restore 1 (QI (QM mem (sRestore S k))) 32 [zr 79, zi k, zi i] [] m2 := by
    intro hk2 hz c
    obtain ⟨hX1, hX2⟩ := hX hk2
    induction c with
    | zero =>
      intro i m2 e0 i0 a1 a2
      refine J_il2 dX7_restore_32 ?_
      refine J_bipush dX7_restore_33 rfl ?_
      refine J_cge (tgt := 61) dX7_restore_35 rfl (by omega) (fun c_35 => ?_) (fun c_35 => ?_)
      · skip
        refine J_al0 dX7_restore_61 ?_
        refine J_iconst dX7_restore_62 ?_
        refine M_put (ki := 9) dX7_restore_63 fl_X7_149 sh_79 rfl rfl rfl (fun r hr => by cases hr; rfl) ?_
        refine J_iconst dX7_restore_66 ?_
        refine M_iret dX7_restore_67 rfl ?_
        unfold sRestore; rw [if_neg (by omega), if_neg hz]
        refine ⟨rfl, h0.bn ?_ ⟨by rw [mset_s]; rfl, fun i i0 i1 => absurd i1 (by show ¬ i < ((0 : Nat) : Int); omega)⟩ (fun x hx => by rw [mset_i (by omega), a2 79 (by omega)]) (fun q q1 q2 q3 q4 q5 q6 q7 q8 => by rw [mset_n (by omega), a2 q q3]), fun q hq => by rw [mset_n (by omega), a2 q (by omega)]; exact hF q hq⟩
        rw [mset_n (by omega)]
        exact hX1.2.ext2 hX2 (fun x x0 x1 => a1 x x0 (by omega))
      · skip
        omega
    | succ c ih =>
      intro i m2 e0 i0 a1 a2
      refine J_il2 dX7_restore_32 ?_
      refine J_bipush dX7_restore_33 rfl ?_
      refine J_cge (tgt := 61) dX7_restore_35 rfl (by omega) (fun c_35 => ?_) (fun c_35 => ?_)
      · skip
        omega
      · skip
        refine J_al0 dX7_restore_38 ?_
        refine M_getR dX7_restore_39 fl_X7_19 sh_79 rfl ?_
        refine J_il2 dX7_restore_42 ?_
        refine J_al0 dX7_restore_43 ?_
        refine M_getR dX7_restore_44 fl_X7_44 sh_79 rfl ?_
        refine J_bipush dX7_restore_47 rfl ?_
        refine J_il1 dX7_restore_49 ?_
        refine J_imul dX7_restore_50 ?_
        refine J_il2 dX7_restore_51 ?_
        refine J_iadd dX7_restore_52 ?_
        refine M_ald dX7_restore_53 sh_91 (by decide) (by omega) ?_
        refine M_ast dX7_restore_54 sh_83 (by decide) (by omega) ?_
        refine J_inc2 dX7_restore_55 (by decide) rfl ?_
        refine J_goto (tgt := 32) dX7_restore_58 rfl ?_
        refine ih _ _ (by omega) (by omega) (fun x x0 x1 => ?_) (fun q hq => by rw [mset_n hq]; exact a2 q hq)
        by_cases e : x = i
        · subst e; rw [mset_s, a2 91 (by omega)]
        · rw [mset_i (by omega)]; exact a1 x x0 (by omega)
  refine CM.of (by decide +kernel) ([zr 79, zi k, zu]) (zok_all rfl) (Nat.le_of_ble_eq_true rfl) rfl ?_
  refine J_al0 dX7_restore_0 ?_
  refine J_iconst dX7_restore_1 ?_
  refine M_put (ki := 0) dX7_restore_2 fl_X7_50 sh_79 rfl rfl rfl (fun r hr => by cases hr; rfl) ?_
  rw [hm]
  refine J_il1 dX7_restore_5 ?_
  refine J_i2l dX7_restore_6 (by omega) ?_
  refine J_lconst0 dX7_restore_7 ?_
  refine J_lconst1 dX7_restore_8 ?_
  refine M_csI3 dX7_restore_9 lk_X7_60 cw_X7_in (k_in (by omega) (by omega) (by omega)) (by decide) (Nat.le_of_ble_eq_true rfl) (fun v_9 mem_9 hq => ?_)
  obtain ⟨rfl, hq⟩ := hq; have hq := hq.symm; subst hq
  refine J_ifne_b (tgt := 18) dX7_restore_12 rfl (fun c_12 => ?_) (fun c_12 => ?_)
  · skip
    have hk2 : k = 0 ∨ k = 1 := by omega
    have h90 := (hX hk2).1.1
    have h01 := bi_01 (¬ (if k = 0 then S.i0 else S.i1).1 3 = 0)
    rw [← h90] at h01
    refine J_al0 dX7_restore_18 ?_
    refine M_getR dX7_restore_19 fl_X7_40 sh_79 rfl ?_
    refine J_il1 dX7_restore_22 ?_
    refine M_zald dX7_restore_23 sh_90 (by decide) (by omega) ?_
    refine J_ifne (tgt := 30) dX7_restore_24 rfl (by omega) (fun c_24 => ?_) (fun c_24 => ?_)
    · skip
      refine J_iconst dX7_restore_30 ?_
      refine J_is2 dX7_restore_31 (by decide) rfl ?_
      exact loop hk2 (bi_ne.mp (fun z => by rw [← h90] at z; omega)) 50 0 m0 (by omega) (by omega) (fun x x0 x1 => by omega) (fun _ _ => rfl)
    · skip
      refine J_ldc (n := -1000002) dX7_restore_27 co_X7_189 (by decide) ?_
      refine M_iret dX7_restore_29 rfl ?_
      unfold sRestore; rw [if_neg (by omega), if_pos (Classical.not_not.mp (bi_eq.mp (h90.symm.trans (by omega))))]; exact ⟨rfl, h0, hF⟩
  · skip
    refine J_ldc (n := -1000001) dX7_restore_15 co_X7_70 (by decide) ?_
    refine M_iret dX7_restore_17 rfl ?_
    unfold sRestore; rw [if_pos (by omega)]; exact ⟨rfl, h0, hF⟩
theorem m_most {mem : ZMem} {S : ZS} (hS : MS mem S) (hI : SInv S) {n w : Int} (hn : In32 n) (hw : In32 w) : CI mX7_most 6 [zr 79, zi n, zi w] mem (QM mem (vMost S n w, S)) := by
  have hb := hI.bi
  have b1 := hb.1
  have hl := hb.len
  have hr := hI.hr
  have h0 := hS.thr
  have htt := h0.th
  have hF : FrM mem (mset mem 79 0 0) := FrM.rf.set (by omega)
  generalize hm : mset mem 79 0 0 = m0 at *
  have bad : ¬ S.b.1 3 = 0 → (n < 0 ∨ 60 < n ∨ w < 0 ∨ 1 < w) → QM mem (vMost S n w, S) (-1000001) m0 := fun q0 q => ⟨by unfold vMost; rw [if_neg q0, if_pos q], h0, hF⟩
  have loop : ¬ S.b.1 3 = 0 → ¬ (n < 0 ∨ 60 < n ∨ w < 0 ∨ 1 < w) → ∀ (m2 : ZMem), MX (m2 85) (hrs n.toNat S.b).1.1 (hrs n.toNat S.b).1.2 → FrX m0 m2 → ∀ (c kn : Nat) (v best k : Int), k = kn + 1 → (c : Int) + k = S.b.1 3 → best = bstN (hrs n.toNat S.b).1.1 kn → JM mX7_most 6 (QI (QM mem (vMost S n w, S))) 60 [zr 79, zi n, zi w, zi v, zi best, zi k] [] m2 := by
    intro z0 z1 m2 hM2 hF2 c
    obtain ⟨i1, i2, i3, i4⟩ := hrs_inv (b := S.b) hb n.toNat
    have e3 := i2.1 3 (by omega) (by omega)
    have h3 : m2 85 3 = S.b.1 3 := hM2.1.2.2.1.trans e3
    have hW : ∀ x : Int, 0 ≤ x → x < S.b.1 3 → m2 85 (15 + 5 * x + 3) = wm (hrs n.toNat S.b).1.1 x := fun x x0 x1 => (hM2.2.2 x x0 (by omega)).2.2.2.1
    have hWr : ∀ x : Int, 0 ≤ x → x < S.b.1 3 → 0 ≤ wm (hrs n.toNat S.b).1.1 x ∧ wm (hrs n.toNat S.b).1.1 x ≤ 2000 := fun x x0 x1 => by
      have := (i1.2.2.2.2.1 x x0 (by omega)).2.2.2.1
      omega
    induction c with
    | zero =>
      intro kn v best k ek a1 a2
      have hbr := bstN_range (hrs n.toNat S.b).1.1 kn
      refine J_il5 dX7_most_60 ?_
      refine J_al0 dX7_most_62 ?_
      refine M_getR dX7_most_63 fl_X7_25 sh_79 rfl ?_
      refine J_iconst dX7_most_66 ?_
      refine M_ald dX7_most_67 sh_85 (by decide) (by omega) ?_
      refine J_cge (tgt := 109) dX7_most_68 rfl (by omega) (fun c_68 => ?_) (fun c_68 => ?_)
      · skip
        refine J_il2 dX7_most_109 ?_
        refine J_ifne (tgt := 118) dX7_most_110 rfl (by omega) (fun c_110 => ?_) (fun c_110 => ?_)
        · skip
          refine J_al0 dX7_most_118 ?_
          refine M_getR dX7_most_119 fl_X7_25 sh_79 rfl ?_
          refine J_il4 dX7_most_122 ?_
          refine J_iconst dX7_most_124 ?_
          refine M_csI3 dX7_most_125 lk_X7_163 cw_X7_of (k_of isW85 (by omega) (by omega)) (by decide) (Nat.le_of_ble_eq_true rfl) (fun v_125 mem_125 hq => ?_)
          obtain ⟨rfl, hq⟩ := hq; have hq := hq.symm; subst hq
          refine M_iret dX7_most_128 rfl ?_
          first
          | exact ⟨by unfold vMost; rw [if_neg z0, if_neg z1, if_pos (by omega), a2]; congr 1; omega, h0.x hF2, hF.tr hF2.m⟩
          | exact ⟨by unfold vMost; rw [if_neg z0, if_neg z1, if_neg (by omega), hW best (by omega) (by omega), a2]; congr 2; omega, h0.x hF2, hF.tr hF2.m⟩
        · skip
          refine J_il4 dX7_most_113 ?_
          refine J_goto (tgt := 128) dX7_most_115 rfl ?_
          refine M_iret dX7_most_128 rfl ?_
          first
          | exact ⟨by unfold vMost; rw [if_neg z0, if_neg z1, if_pos (by omega), a2]; congr 1; omega, h0.x hF2, hF.tr hF2.m⟩
          | exact ⟨by unfold vMost; rw [if_neg z0, if_neg z1, if_neg (by omega), hW best (by omega) (by omega), a2]; congr 2; omega, h0.x hF2, hF.tr hF2.m⟩
      · skip
        omega
    | succ c ih =>
      intro kn v best k ek a1 a2
      have hbr := bstN_range (hrs n.toNat S.b).1.1 kn
      have w1 := hW k (by omega) (by omega)
      have w2 := hW best (by omega) (by omega)
      have r1 := hWr k (by omega) (by omega)
      have r2 := hWr best (by omega) (by omega)
      refine J_il5 dX7_most_60 ?_
      refine J_al0 dX7_most_62 ?_
      refine M_getR dX7_most_63 fl_X7_25 sh_79 rfl ?_
      refine J_iconst dX7_most_66 ?_
      refine M_ald dX7_most_67 sh_85 (by decide) (by omega) ?_
      refine J_cge (tgt := 109) dX7_most_68 rfl (by omega) (fun c_68 => ?_) (fun c_68 => ?_)
      · skip
        omega
      · skip
        refine J_al0 dX7_most_71 ?_
        refine M_getR dX7_most_72 fl_X7_25 sh_79 rfl ?_
        refine J_il5 dX7_most_75 ?_
        refine J_iconst dX7_most_77 ?_
        refine M_csI3 dX7_most_78 lk_X7_163 cw_X7_of (k_of isW85 (by omega) (by omega)) (by decide) (Nat.le_of_ble_eq_true rfl) (fun v_78 mem_78 hq => ?_)
        obtain ⟨e, hq⟩ := hq; rw [w1] at e; subst e; have hq := hq.symm; subst hq
        refine J_al0 dX7_most_81 ?_
        refine M_getR dX7_most_82 fl_X7_25 sh_79 rfl ?_
        refine J_il4 dX7_most_85 ?_
        refine J_iconst dX7_most_87 ?_
        refine M_csI3 dX7_most_88 lk_X7_163 cw_X7_of (k_of isW85 (by omega) (by omega)) (by decide) (Nat.le_of_ble_eq_true rfl) (fun v_88 mem_88 hq => ?_)
        obtain ⟨e, hq⟩ := hq; rw [w2] at e; subst e; have hq := hq.symm; subst hq
        refine J_cle (tgt := 99) dX7_most_91 rfl (by omega) (fun c_91 => ?_) (fun c_91 => ?_)
        · skip
          refine J_il4 dX7_most_99 ?_
          refine J_is4 dX7_most_101 (by decide) rfl ?_
          refine J_inc5 dX7_most_103 (by decide) rfl ?_
          refine J_goto (tgt := 60) dX7_most_106 rfl ?_
          refine ih (kn + 1) _ _ _ (by omega) (by omega) ?_
          unfold bstN
          rw [← ek, ← a2]
          first | rw [if_pos (by omega)] | rw [if_neg (by omega)]
        · skip
          refine J_il5 dX7_most_94 ?_
          refine J_goto (tgt := 101) dX7_most_96 rfl ?_
          refine J_is4 dX7_most_101 (by decide) rfl ?_
          refine J_inc5 dX7_most_103 (by decide) rfl ?_
          refine J_goto (tgt := 60) dX7_most_106 rfl ?_
          refine ih (kn + 1) _ _ _ (by omega) (by omega) ?_
          unfold bstN
          rw [← ek, ← a2]
          first | rw [if_pos (by omega)] | rw [if_neg (by omega)]
  refine CM.of (by decide +kernel) ([zr 79, zi n, zi w, zu, zu, zu]) (zok_all rfl) (Nat.le_of_ble_eq_true rfl) rfl ?_
  refine J_al0 dX7_most_0 ?_
  refine J_iconst dX7_most_1 ?_
  refine M_put (ki := 0) dX7_most_2 fl_X7_50 sh_79 rfl rfl rfl (fun r hr => by cases hr; rfl) ?_
  rw [hm]
  refine J_al0 dX7_most_5 ?_
  refine M_cvI0 dX7_most_6 lk_X7_186 cw_X7_isThere sh_79 rfl rfl (k_isThere htt.1) (by decide) (Nat.le_of_ble_eq_true rfl) (fun v_6 mem_6 hq => ?_)
  obtain ⟨rfl, hq⟩ := hq; have hq := hq.symm; subst hq
  refine J_ifne_b (tgt := 15) dX7_most_9 rfl (fun c_9 => ?_) (fun c_9 => ?_)
  · skip
    refine J_il1 dX7_most_15 ?_
    refine J_i2l dX7_most_16 (by omega) ?_
    refine J_lconst0 dX7_most_17 ?_
    refine J_ldc2 (n := 60) dX7_most_18 col_X7_210 (by decide) ?_
    refine M_csI3 dX7_most_21 lk_X7_60 cw_X7_in (k_in (by omega) (by omega) (by omega)) (by decide) (Nat.le_of_ble_eq_true rfl) (fun v_21 mem_21 hq => ?_)
    obtain ⟨rfl, hq⟩ := hq; have hq := hq.symm; subst hq
    refine J_ifeq_b (tgt := 37) dX7_most_24 rfl (fun c_24 => ?_) (fun c_24 => ?_)
    · skip
      refine J_ldc (n := -1000001) dX7_most_37 co_X7_70 (by decide) ?_
      refine M_iret dX7_most_39 rfl ?_
      exact bad (by omega) (by omega)
    · skip
      refine J_il2 dX7_most_27 ?_
      refine J_i2l dX7_most_28 (by omega) ?_
      refine J_lconst0 dX7_most_29 ?_
      refine J_lconst1 dX7_most_30 ?_
      refine M_csI3 dX7_most_31 lk_X7_60 cw_X7_in (k_in (by omega) (by omega) (by omega)) (by decide) (Nat.le_of_ble_eq_true rfl) (fun v_31 mem_31 hq => ?_)
      obtain ⟨rfl, hq⟩ := hq; have hq := hq.symm; subst hq
      refine J_ifne_b (tgt := 40) dX7_most_34 rfl (fun c_34 => ?_) (fun c_34 => ?_)
      · skip
        refine J_al0 dX7_most_40 ?_
        refine M_cvV0 dX7_most_41 lk_X7_212 cw_X7_layThen sh_79 rfl rfl k_layThen (by decide) (Nat.le_of_ble_eq_true rfl) (fun mem_41 hq => ?_)
        obtain ⟨g1, g2⟩ := hq
        have hX : MX (mem_41 85) S.b.1 S.b.2 := (mbch h0).ext (by omega) (by omega) g1
        have x1 : FrX m0 mem_41 := fun q q1 _ _ => g2 q q1
        refine J_al0 dX7_most_44 ?_
        refine J_al0 dX7_most_45 ?_
        refine M_getR dX7_most_46 fl_X7_25 sh_79 rfl ?_
        refine J_il1 dX7_most_49 ?_
        refine M_cvI2 dX7_most_50 lk_X7_183 cw_X7_hoursOf sh_79 rfl rfl (k_hoursOf isW85 hX hb (by omega) (by omega)) (by decide) (Nat.le_of_ble_eq_true rfl) (fun v_50 mem_50 hq => ?_)
        obtain ⟨rfl, hM2, hF2⟩ := hq
        refine J_is3 dX7_most_53 (by decide) rfl ?_
        refine J_iconst dX7_most_54 ?_
        refine J_is4 dX7_most_55 (by decide) rfl ?_
        refine J_iconst dX7_most_57 ?_
        refine J_is5 dX7_most_58 (by decide) rfl ?_
        exact loop (by omega) (by omega) _ hM2 (x1.tr hF2.x) (S.b.1 3 - 1).toNat 0 _ 0 1 rfl (by omega) rfl
      · skip
        refine J_ldc (n := -1000001) dX7_most_37 co_X7_70 (by decide) ?_
        refine M_iret dX7_most_39 rfl ?_
        exact bad (by omega) (by omega)
  · skip
    refine J_ldc (n := -1000002) dX7_most_12 co_X7_189 (by decide) ?_
    refine M_iret dX7_most_14 rfl ?_
    exact ⟨by unfold vMost; rw [if_pos (by omega)], h0, hF⟩
