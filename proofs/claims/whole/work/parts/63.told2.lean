theorem c_elm {mem : ZMem} {S : ZS} (hC : CS mem S) (hI : SInv S) {n : Int} (hn : In32 n) : CI mX6_elm 8 [zr 0, zi n] mem (QS mem (vElm S n, S)) := by
  have hb := hI.bi
  have b1 := hb.1
  have hl := hb.len
  have hr := hI.hr
  have hen := hC.men
  have hB := bch hC
  have hW := wdR_inv hb hI.wd
  have w4 : (wdR S.b).1 4 = S.b.1 4 := by show zup S.b.1 2 (S.b.1 2 - 1) 4 = _; rw [zup_n (by omega)]
  have w3 : (wdR S.b).1 3 = S.b.1 3 := by show zup S.b.1 2 (S.b.1 2 - 1) 3 = _; rw [zup_n (by omega)]
  obtain ⟨i1, i2, i3, i4⟩ := hrs_inv (b := S.b) hb n.toNat
  obtain ⟨j1, j2, j3, j4⟩ := hrs_inv (b := wdR S.b) hW n.toNat
  have e3 := i2.1 3 (by omega) (by omega)
  have f3 := j2.1 3 (by omega) (by omega)
  have loop : ¬ S.b.1 3 = 0 → ¬ (n < 1 ∨ 60 < n) → ∀ (c kn : Nat) (s k : Int) (m2 : ZMem), k = kn → (c : Int) + k = S.b.1 3 → CB m2 63 (hrs n.toNat S.b).1.1 (hrs n.toNat S.b).1.2 → CB m2 70 (hrs n.toNat (wdR S.b)).1.1 (hrs n.toNat (wdR S.b)).1.2 → FrT mem m2 → s = elN (hrs n.toNat S.b).1.1 (hrs n.toNat (wdR S.b)).1.1 kn → JM mX6_elm 8 (QI (QS mem (vElm S n, S))) 70 [zr 0, zi n, zi s, zi k] [] m2 := by
    intro z0 z1 c
    induction c with
    | zero =>
      intro kn s k m2 e0 a1 a2 a3 a4 a5
      have h16 : m2 16 2 = S.b.1 3 := by rw [a4 16 (by omega)]; exact hen
      refine J_il3 dX6_elm_70 ?_
      refine J_al0 dX6_elm_71 ?_
      refine M_getR dX6_elm_72 fl_X6_26 sh_0 rfl ?_
      refine M_get (ki := 2) dX6_elm_75 fl_X6_133 sh_16 rfl rfl ?_
      refine J_cge (tgt := 114) dX6_elm_78 rfl (by omega) (fun c_78 => ?_) (fun c_78 => ?_)
      · skip
        refine J_il2 dX6_elm_114 ?_
        refine M_iret dX6_elm_115 rfl ?_
        exact ⟨by unfold vElm; rw [if_neg z0, if_neg z1, a5, show kn = (S.b.1 3).toNat by omega], hC.ext a4, a4.c⟩
      · skip
        omega
    | succ c ih =>
      intro kn s k m2 e0 a1 a2 a3 a4 a5
      have h16 : m2 16 2 = S.b.1 3 := by rw [a4 16 (by omega)]; exact hen
      have e5 : m2 68 k = wm (hrs n.toNat S.b).1.1 kn := by rw [← e0]; exact (a2.2.2 k (by omega) (by omega)).2.2.2.1
      have e6 : m2 75 k = wm (hrs n.toNat (wdR S.b)).1.1 kn := by rw [← e0]; exact (a3.2.2 k (by omega) (by omega)).2.2.2.1
      have r5 := (i1.2.2.2.2.1 kn (by omega) (by omega)).2.2.2.1
      have r6 := (j1.2.2.2.2.1 kn (by omega) (by omega)).2.2.2.1
      refine J_il3 dX6_elm_70 ?_
      refine J_al0 dX6_elm_71 ?_
      refine M_getR dX6_elm_72 fl_X6_26 sh_0 rfl ?_
      refine M_get (ki := 2) dX6_elm_75 fl_X6_133 sh_16 rfl rfl ?_
      refine J_cge (tgt := 114) dX6_elm_78 rfl (by omega) (fun c_78 => ?_) (fun c_78 => ?_)
      · skip
        omega
      · skip
        refine J_al0 dX6_elm_81 ?_
        refine M_getR dX6_elm_82 fl_X6_46 sh_0 rfl ?_
        refine M_getR dX6_elm_85 fl_X6_193 sh_70 rfl ?_
        refine J_il3 dX6_elm_88 ?_
        refine M_ald dX6_elm_89 sh_75 (by decide) (by omega) ?_
        refine J_al0 dX6_elm_90 ?_
        refine M_getR dX6_elm_91 fl_X6_43 sh_0 rfl ?_
        refine M_getR dX6_elm_94 fl_X6_193 sh_63 rfl ?_
        refine J_il3 dX6_elm_97 ?_
        refine M_ald dX6_elm_98 sh_68 (by decide) (by omega) ?_
        refine J_cge (tgt := 108) dX6_elm_99 rfl (by omega) (fun c_99 => ?_) (fun c_99 => ?_)
        · skip
          refine J_inc3 dX6_elm_108 (by decide) rfl ?_
          refine J_goto (tgt := 70) dX6_elm_111 rfl ?_
          refine ih (kn + 1) _ _ m2 (by omega) (by omega) a2 a3 a4 ?_
          unfold elN
          rw [← a5, ← e0]
          rw [← e0] at e5 e6
          first | rw [if_pos (by omega)] | rw [if_neg (by omega)]
        · skip
          refine J_il2 dX6_elm_102 ?_
          refine J_iconst dX6_elm_103 ?_
          refine J_il3 dX6_elm_104 ?_
          refine J_ishl dX6_elm_105 ?_
          refine J_ior dX6_elm_106 ?_
          refine J_is2 dX6_elm_107 (by decide) rfl ?_
          refine J_inc3 dX6_elm_108 (by decide) rfl ?_
          refine J_goto (tgt := 70) dX6_elm_111 rfl ?_
          refine ih (kn + 1) _ _ m2 (by omega) (by omega) a2 a3 a4 ?_
          unfold elN
          rw [← a5, ← e0]
          rw [← e0] at e5 e6
          first | rw [if_pos (by omega)] | rw [if_neg (by omega)]
  refine CM.of (by decide +kernel) ([zr 0, zi n, zu, zu]) (zok_all rfl) (Nat.le_of_ble_eq_true rfl) rfl ?_
  refine J_al0 dX6_elm_0 ?_
  refine M_cvI0 dX6_elm_1 lk_X6_143 cw_X6_noBench sh_0 rfl rfl (k_noBench (by omega)) (by decide) (Nat.le_of_ble_eq_true rfl) (fun v_1 mem_1 hq => ?_)
  obtain ⟨rfl, hq⟩ := hq; have hq := hq.symm; subst hq
  refine J_ifeq_b (tgt := 10) dX6_elm_4 rfl (fun c_4 => ?_) (fun c_4 => ?_)
  · skip
    refine J_il1 dX6_elm_10 ?_
    refine J_iconst dX6_elm_11 ?_
    refine J_bipush dX6_elm_12 rfl ?_
    refine M_csI3 dX6_elm_14 lk_X6_67 cw_X6_outside (k_outside hn (by omega) (by omega)) (by decide) (Nat.le_of_ble_eq_true rfl) (fun v_14 mem_14 hq => ?_)
    obtain ⟨rfl, hq⟩ := hq; have hq := hq.symm; subst hq
    refine J_ifeq_b (tgt := 23) dX6_elm_17 rfl (fun c_17 => ?_) (fun c_17 => ?_)
    · skip
      refine J_al0 dX6_elm_23 ?_
      refine J_al0 dX6_elm_24 ?_
      refine M_getR dX6_elm_25 fl_X6_43 sh_0 rfl ?_
      refine J_il1 dX6_elm_28 ?_
      refine M_cvI2 dX6_elm_29 lk_X6_219 cw_X6_foretell sh_0 rfl rfl (k_foretell isB63 (Or.inl rfl) hB hb (by omega) hr) (by decide) (Nat.le_of_ble_eq_true rfl) (fun v_29 mem_29 hq => ?_)
      obtain ⟨rfl, hB2, hF2⟩ := hq
      have T2 := hF2.t (Or.inl rfl)
      have hB16 : CB mem_29 16 S.b.1 S.b.2 := hB.ext (fun q q0 q1 => T2 q (by omega))
      refine J_pop dX6_elm_32 rfl ?_
      refine J_al0 dX6_elm_33 ?_
      refine M_getR dX6_elm_34 fl_X6_46 sh_0 rfl ?_
      refine J_al0 dX6_elm_37 ?_
      refine M_getR dX6_elm_38 fl_X6_26 sh_0 rfl ?_
      refine M_cvV1 dX6_elm_41 lk_X6_128 cw_X2_become sh_70 rfl rfl (k_become isB70 (Or.inl rfl) (by decide) hB16 (by omega) (by omega) hb.2.2.2.2.2.2.2) (by decide) (Nat.le_of_ble_eq_true rfl) (fun mem_41 hq => ?_)
      obtain ⟨hB3, hF3⟩ := hq
      have T3 := wrt T2 70 hF3 (by omega)
      have hB2' := hB2.off hF3 (by omega)
      have h71 : mem_41 70 1 = S.b.1 2 := hB3.1.2.1
      refine J_al0 dX6_elm_44 ?_
      refine M_getR dX6_elm_45 fl_X6_46 sh_0 rfl ?_
      refine J_dup dX6_elm_48 rfl ?_
      refine M_get (ki := 1) dX6_elm_49 fl_X6_237 sh_70 rfl rfl ?_
      refine J_iconst dX6_elm_52 ?_
      refine J_isub dX6_elm_53 ?_
      refine M_put (ki := 1) dX6_elm_54 fl_X6_237 sh_70 rfl rfl rfl (fun r hr => by cases hr; rfl) ?_
      rw [h71]
      have hB4 := CB.wided (b := S.b) hB3
      have hF4 : FrB 70 mem_41 (mset mem_41 70 1 (S.b.1 2 - 1)) := fun q hq => mset_n (by omega)
      have T4 := wrt T3 70 hF4 (by omega)
      have hB2'' := hB2'.off hF4 (by omega)
      refine J_al0 dX6_elm_57 ?_
      refine M_getR dX6_elm_58 fl_X6_46 sh_0 rfl ?_
      refine J_il1 dX6_elm_61 ?_
      refine M_cvI1 dX6_elm_62 lk_X6_222 cw_X2_passHours sh_70 rfl rfl (k_passHours isB70 hB4 hW (by omega) (by omega)) (by decide) (Nat.le_of_ble_eq_true rfl) (fun v_62 mem_62 hq => ?_)
      obtain ⟨rfl, hB5, hF5⟩ := hq
      refine J_pop dX6_elm_65 rfl ?_
      refine J_iconst dX6_elm_66 ?_
      refine J_is2 dX6_elm_67 (by decide) rfl ?_
      refine J_iconst dX6_elm_68 ?_
      refine J_is3 dX6_elm_69 (by decide) rfl ?_
      exact loop (by omega) (by omega) (S.b.1 3).toNat 0 0 0 _ rfl (by omega) (hB2''.off hF5 (by omega)) hB5 (wrt T4 70 hF5 (by omega)) rfl
    · skip
      refine J_ldc (n := -1000001) dX6_elm_20 co_X6_71 (by decide) ?_
      refine M_iret dX6_elm_22 rfl ?_
      exact ⟨by unfold vElm; rw [if_neg (by omega), if_pos (by omega)], hC, FrC.rf⟩
  · skip
    refine J_ldc (n := -1000002) dX6_elm_7 co_X6_139 (by decide) ?_
    refine M_iret dX6_elm_9 rfl ?_
    exact ⟨by unfold vElm; rw [if_pos (by omega)], hC, FrC.rf⟩
theorem fnd_reach {S : ZS} {w i n : Int} (h : fndS S w i n = 0) : 0 ≤ S.ln w ∧ 0 ≤ i ∧ 0 ≤ n ∧ i ≤ S.mn w - n := by
  unfold fndS at h
  by_cases a : S.ln w < 0
  · rw [if_pos a] at h; omega
  · rw [if_neg a] at h
    by_cases c : 0 ≤ i ∧ 0 ≤ n ∧ i ≤ S.mn w - n
    · omega
    · rw [if_neg c] at h; omega
theorem fnd_range (S : ZS) (w i n : Int) : 0 ≤ fndS S w i n ∧ fndS S w i n ≤ 2 := by unfold fndS; (repeat' split) <;> omega
theorem c_rang {mem : ZMem} {S : ZS} (hC : CS mem S) (hI : SInv S) {w i n : Int} (hw : In32 w) (hi : In32 i) (hn : In32 n) : CI mX6_rang 8 [zr 0, zi w, zi i, zi n] mem (QS mem (sRang S w i n)) := by
  have hb := hI.bi
  have b1 := hb.1
  have hl := hb.len
  have hr := hI.hr
  have hen := hC.men
  have hB := bch hC
  have hf := fnd_range S w i n
  have bad : ¬ S.b.1 3 = 0 → (w < 0 ∨ 7 < w ∨ n < 1 ∨ 12 < n) → QS mem (sRang S w i n) (-1000001) mem := fun q0 q => by unfold sRang; rw [if_neg q0, if_pos q]; exact ⟨rfl, hC, FrC.rf⟩
  have loop : ¬ S.b.1 3 = 0 → ¬ (w < 0 ∨ 7 < w ∨ n < 1 ∨ 12 < n) → fndS S w i n = 0 → ∀ (c kn : Nat) (f s k : Int) (m2 : ZMem), k = kn → (c : Int) + k = S.b.1 3 → FrT mem m2 → s = rgN S w i n kn → JM mX6_rang 8 (QI (QS mem (sRang S w i n))) 84 [zr 0, zi w, zi i, zi n, zi f, zi s, zi k] [] m2 := by
    intro z0 z1 z2 c
    have hre := fnd_reach z2
    have hmn := (hI.1 w (by omega) (by omega)).2.1
    induction c with
    | zero =>
      intro kn f s k m2 e0 a1 a2 a3
      have h16 : m2 16 2 = S.b.1 3 := by rw [a2 16 (by omega)]; exact hen
      refine J_il6 dX6_rang_84 ?_
      refine J_al0 dX6_rang_86 ?_
      refine M_getR dX6_rang_87 fl_X6_26 sh_0 rfl ?_
      refine M_get (ki := 2) dX6_rang_90 fl_X6_133 sh_16 rfl rfl ?_
      refine J_cge (tgt := 160) dX6_rang_93 rfl (by omega) (fun c_93 => ?_) (fun c_93 => ?_)
      · skip
        refine J_al0 dX6_rang_160 ?_
        refine J_il5 dX6_rang_161 ?_
        refine M_cvI1 dX6_rang_163 lk_X6_80 cw_X6_noFinding sh_0 rfl rfl k_noFinding (by decide) (Nat.le_of_ble_eq_true rfl) (fun v_163 mem_163 hq => ?_)
        obtain ⟨e, hq⟩ := hq; have hq := hq.symm; subst hq
        refine M_iret dX6_rang_166 rfl ?_
        unfold sRang; rw [if_neg z0, if_neg z1, if_neg (by omega)]
        exact ⟨by rw [e, a3, show kn = (S.b.1 3).toNat by omega], (hC.ext a2).fnd 0, a2.c.set (by omega)⟩
      · skip
        omega
    | succ c ih =>
      intro kn f s k m2 e0 a1 a2 a3
      have h16 : m2 16 2 = S.b.1 3 := by rw [a2 16 (by omega)]; exact hen
      have hd := (hb.2.2.2.2.1 kn (by omega) (by omega)).2.1
      have hD := dnR_inv hb (x := (kn : Int)) (by omega)
      have d4 : (dnR S.b kn).1 4 = S.b.1 4 := zup_n (by omega)
      refine J_il6 dX6_rang_84 ?_
      refine J_al0 dX6_rang_86 ?_
      refine M_getR dX6_rang_87 fl_X6_26 sh_0 rfl ?_
      refine M_get (ki := 2) dX6_rang_90 fl_X6_133 sh_16 rfl rfl ?_
      refine J_cge (tgt := 160) dX6_rang_93 rfl (by omega) (fun c_93 => ?_) (fun c_93 => ?_)
      · skip
        omega
      · skip
        refine J_al0 dX6_rang_96 ?_
        refine M_getR dX6_rang_97 fl_X6_43 sh_0 rfl ?_
        refine J_al0 dX6_rang_100 ?_
        refine M_getR dX6_rang_101 fl_X6_26 sh_0 rfl ?_
        refine M_cvV1 dX6_rang_104 lk_X6_128 cw_X2_become sh_63 rfl rfl (k_become isB63 (Or.inl rfl) (by decide) (hB.ext (fun q q0 q1 => a2 q (by omega))) (by omega) (by omega) hb.2.2.2.2.2.2.2) (by decide) (Nat.le_of_ble_eq_true rfl) (fun mem_104 hq => ?_)
        obtain ⟨hB2, hF2⟩ := hq
        have T2 := wrt a2 63 hF2 (by omega)
        have e5 : mem_104 18 k = dn S.b.1 kn := by rw [T2 18 (by omega), ← e0]; exact (hB.2.2 k (by omega) (by omega)).2.1
        refine J_al0 dX6_rang_107 ?_
        refine M_getR dX6_rang_108 fl_X6_43 sh_0 rfl ?_
        refine M_getR dX6_rang_111 fl_X6_207 sh_63 rfl ?_
        refine J_il6 dX6_rang_114 ?_
        refine J_al0 dX6_rang_116 ?_
        refine M_getR dX6_rang_117 fl_X6_26 sh_0 rfl ?_
        refine M_getR dX6_rang_120 fl_X6_207 sh_16 rfl ?_
        refine J_il6 dX6_rang_123 ?_
        refine M_ald dX6_rang_125 sh_18 (by decide) (by omega) ?_
        rw [e5]
        refine J_bipush dX6_rang_126 rfl ?_
        refine J_iadd dX6_rang_128 ?_
        refine J_iconst dX6_rang_129 ?_
        refine J_isub dX6_rang_130 ?_
        refine J_bipush dX6_rang_131 rfl ?_
        refine J_irem dX6_rang_133 (by omega) ?_
        rw [show dn S.b.1 kn + 24 - 1 = dn S.b.1 kn + 23 by omega, e0]
        have hB3 := CB.dined (b := S.b) (x := (kn : Int)) hB2 (by omega)
        have hF3 : FrB 63 mem_104 (mset mem_104 65 kn ((dn S.b.1 kn + 23) % 24)) := fun q hq => mset_n (by omega)
        have T3 := wrt T2 63 hF3 (by omega)
        refine M_ast dX6_rang_134 sh_65 (by decide) (by omega) ?_
        refine J_al0 dX6_rang_135 ?_
        refine J_il1 dX6_rang_136 ?_
        refine J_il2 dX6_rang_137 ?_
        refine J_il3 dX6_rang_138 ?_
        refine M_cvI3 dX6_rang_139 lk_X6_225 cw_X6_sitAsTold sh_0 rfl rfl (k_sitAsTold (hC.ext T3) hI hB3 hD (by omega) (by omega) (by omega) (by omega)) (by decide) (Nat.le_of_ble_eq_true rfl) (fun v_139 mem_139 hq => ?_)
        obtain ⟨rfl, hF4⟩ := hq
        refine J_ifeq_b (tgt := 154) dX6_rang_142 rfl (fun c_142 => ?_) (fun c_142 => ?_)
        · skip
          refine J_inc6 dX6_rang_154 (by decide) rfl ?_
          refine J_goto (tgt := 84) dX6_rang_157 rfl ?_
          refine ih (kn + 1) _ _ _ _ (by omega) (by omega) (wrt T3 63 hF4 (by omega)) ?_
          unfold rgN
          first | (rw [cif_t c_142, ← a3]) | (rw [cif_f c_142, ← a3])
        · skip
          refine J_il5 dX6_rang_145 ?_
          refine J_iconst dX6_rang_147 ?_
          refine J_il6 dX6_rang_148 ?_
          refine J_ishl dX6_rang_150 ?_
          refine J_ior dX6_rang_151 ?_
          refine J_is5 dX6_rang_152 (by decide) rfl ?_
          refine J_inc6 dX6_rang_154 (by decide) rfl ?_
          refine J_goto (tgt := 84) dX6_rang_157 rfl ?_
          refine ih (kn + 1) _ _ _ _ (by omega) (by omega) (wrt T3 63 hF4 (by omega)) ?_
          unfold rgN
          first | (rw [cif_t c_142, ← a3]) | (rw [cif_f c_142, ← a3])
  refine CM.of (by decide +kernel) ([zr 0, zi w, zi i, zi n, zu, zu, zu]) (zok_all rfl) (Nat.le_of_ble_eq_true rfl) rfl ?_
  refine J_al0 dX6_rang_0 ?_
  refine M_cvI0 dX6_rang_1 lk_X6_143 cw_X6_noBench sh_0 rfl rfl (k_noBench (by omega)) (by decide) (Nat.le_of_ble_eq_true rfl) (fun v_1 mem_1 hq => ?_)
  obtain ⟨rfl, hq⟩ := hq; have hq := hq.symm; subst hq
  refine J_ifeq_b (tgt := 10) dX6_rang_4 rfl (fun c_4 => ?_) (fun c_4 => ?_)
  · skip
    refine J_il1 dX6_rang_10 ?_
    refine M_csI1 dX6_rang_11 lk_X6_63 cw_X6_noRow (k_noRow hw) (by decide) (Nat.le_of_ble_eq_true rfl) (fun v_11 mem_11 hq => ?_)
    obtain ⟨rfl, hq⟩ := hq; have hq := hq.symm; subst hq
    refine J_ifne_b (tgt := 27) dX6_rang_14 rfl (fun c_14 => ?_) (fun c_14 => ?_)
    · skip
      refine J_ldc (n := -1000001) dX6_rang_27 co_X6_71 (by decide) ?_
      refine M_iret dX6_rang_29 rfl ?_
      exact bad (by omega) (by omega)
    · skip
      refine J_il3 dX6_rang_17 ?_
      refine J_iconst dX6_rang_18 ?_
      refine J_bipush dX6_rang_19 rfl ?_
      refine M_csI3 dX6_rang_21 lk_X6_67 cw_X6_outside (k_outside hn (by omega) (by omega)) (by decide) (Nat.le_of_ble_eq_true rfl) (fun v_21 mem_21 hq => ?_)
      obtain ⟨rfl, hq⟩ := hq; have hq := hq.symm; subst hq
      refine J_ifeq_b (tgt := 30) dX6_rang_24 rfl (fun c_24 => ?_) (fun c_24 => ?_)
      · skip
        refine J_al0 dX6_rang_30 ?_
        refine J_il1 dX6_rang_31 ?_
        refine J_il2 dX6_rang_32 ?_
        refine J_il3 dX6_rang_33 ?_
        refine M_cvI3 dX6_rang_34 lk_X6_83 cw_X6_findingOf sh_0 rfl rfl (k_findingOf hC hI (by omega) hi hn) (by decide) (Nat.le_of_ble_eq_true rfl) (fun v_34 mem_34 hq => ?_)
        obtain ⟨rfl, hq⟩ := hq; have hq := hq.symm; subst hq
        refine J_is4 dX6_rang_37 (by decide) rfl ?_
        refine J_il4 dX6_rang_39 ?_
        refine J_ifeq (tgt := 51) dX6_rang_41 rfl (by omega) (fun c_41 => ?_) (fun c_41 => ?_)
        · skip
          refine J_al0 dX6_rang_51 ?_
          refine M_getR dX6_rang_52 fl_X6_43 sh_0 rfl ?_
          refine J_al0 dX6_rang_55 ?_
          refine M_getR dX6_rang_56 fl_X6_26 sh_0 rfl ?_
          refine M_cvV1 dX6_rang_59 lk_X6_128 cw_X2_become sh_63 rfl rfl (k_become isB63 (Or.inl rfl) (by decide) hB (by omega) (by omega) hb.2.2.2.2.2.2.2) (by decide) (Nat.le_of_ble_eq_true rfl) (fun mem_59 hq => ?_)
          obtain ⟨hB2, hF2⟩ := hq
          have T2 := hF2.t (Or.inl rfl)
          have hre := fnd_reach (S := S) (w := w) (i := i) (n := n) (by omega)
          have hmn := (hI.1 w (by omega) (by omega)).2.1
          refine J_al0 dX6_rang_62 ?_
          refine J_il1 dX6_rang_63 ?_
          refine J_il2 dX6_rang_64 ?_
          refine J_il3 dX6_rang_65 ?_
          refine M_cvI3 dX6_rang_66 lk_X6_225 cw_X6_sitAsTold sh_0 rfl rfl (k_sitAsTold (b := S.b) (hC.ext T2) hI hB2 hb (by omega) (by omega) (by omega) (by omega)) (by decide) (Nat.le_of_ble_eq_true rfl) (fun v_66 mem_66 hq => ?_)
          obtain ⟨rfl, hF4⟩ := hq
          refine J_ifeq_b (tgt := 78) dX6_rang_69 rfl (fun c_69 => ?_) (fun c_69 => ?_)
          · skip
            refine J_iconst dX6_rang_78 ?_
            refine J_is5 dX6_rang_79 (by decide) rfl ?_
            refine J_iconst dX6_rang_81 ?_
            refine J_is6 dX6_rang_82 (by decide) rfl ?_
            refine loop (by omega) (by omega) (by omega) (S.b.1 3).toNat 0 _ _ 0 _ rfl (by omega) (wrt T2 63 hF4 (by omega)) ?_
            unfold rgN
            first | rw [cif_t c_69] | rw [cif_f c_69]
          · skip
            refine J_sipush dX6_rang_72 rfl ?_
            refine J_goto (tgt := 79) dX6_rang_75 rfl ?_
            refine J_is5 dX6_rang_79 (by decide) rfl ?_
            refine J_iconst dX6_rang_81 ?_
            refine J_is6 dX6_rang_82 (by decide) rfl ?_
            refine loop (by omega) (by omega) (by omega) (S.b.1 3).toNat 0 _ _ 0 _ rfl (by omega) (wrt T2 63 hF4 (by omega)) ?_
            unfold rgN
            first | rw [cif_t c_69] | rw [cif_f c_69]
        · skip
          refine J_al0 dX6_rang_44 ?_
          refine J_il4 dX6_rang_45 ?_
          refine M_cvI1 dX6_rang_47 lk_X6_72 cw_X6_finding sh_0 rfl rfl k_finding (by decide) (Nat.le_of_ble_eq_true rfl) (fun v_47 mem_47 hq => ?_)
          obtain ⟨rfl, hq⟩ := hq; have hq := hq.symm; subst hq
          refine M_iret dX6_rang_50 rfl ?_
          unfold sRang; rw [if_neg (by omega), if_neg (by omega), if_pos (by omega)]; exact ⟨rfl, hC.fnd _, FrC.rf.set (by omega)⟩
      · skip
        refine J_ldc (n := -1000001) dX6_rang_27 co_X6_71 (by decide) ?_
        refine M_iret dX6_rang_29 rfl ?_
        exact bad (by omega) (by omega)
  · skip
    refine J_ldc (n := -1000002) dX6_rang_7 co_X6_139 (by decide) ?_
    refine M_iret dX6_rang_9 rfl ?_
    unfold sRang; rw [if_pos (by omega)]; exact ⟨rfl, hC, FrC.rf⟩
theorem c_who {mem : ZMem} {S : ZS} (hC : CS mem S) (hI : SInv S) {m w i n : Int} (hm : In32 m) (hw : In32 w) (hi : In32 i) (hn : In32 n) : CI mX6_who 8 [zr 0, zi m, zi w, zi i, zi n] mem (QS mem (sWho S m w i n)) := by
  have hb := hI.bi
  have b1 := hb.1
  have hl := hb.len
  have hr := hI.hr
  have hen := hC.men
  have hB := bch hC
  have hf := fnd_range S w i n
  have bad : (noM S m ∨ w < 0 ∨ 7 < w ∨ n < 1 ∨ 12 < n) → QS mem (sWho S m w i n) (-1000001) mem := fun q => by unfold sWho; rw [if_pos q]; exact ⟨rfl, hC, FrC.rf⟩
  have loop : ¬ (noM S m ∨ w < 0 ∨ 7 < w ∨ n < 1 ∨ 12 < n) → fndS S w i n = 0 → ∀ (c kn : Nat) (f s k : Int) (m2 : ZMem), k = kn + 1 → (c : Int) + k = 6 → FrT mem m2 → s = whN S m w i n kn → JM mX6_who 8 (QI (QS mem (sWho S m w i n))) 57 [zr 0, zi m, zi w, zi i, zi n, zi f, zi s, zi k] [] m2 := by
    intro z1 z2 c
    have hre := fnd_reach z2
    have hmn := (hI.1 w (by omega) (by omega)).2.1
    induction c with
    | zero =>
      intro kn f s k m2 e0 a1 a2 a3
      refine J_il7 dX6_who_57 ?_
      refine J_iconst dX6_who_59 ?_
      refine J_cgt (tgt := 112) dX6_who_60 rfl (by omega) (fun c_60 => ?_) (fun c_60 => ?_)
      · skip
        refine J_al0 dX6_who_112 ?_
        refine J_il6 dX6_who_113 ?_
        refine M_cvI1 dX6_who_115 lk_X6_80 cw_X6_noFinding sh_0 rfl rfl k_noFinding (by decide) (Nat.le_of_ble_eq_true rfl) (fun v_115 mem_115 hq => ?_)
        obtain ⟨e, hq⟩ := hq; have hq := hq.symm; subst hq
        refine M_iret dX6_who_118 rfl ?_
        unfold sWho; rw [if_neg z1, if_neg (by omega)]
        exact ⟨by rw [e, a3, show kn = 5 by omega], (hC.ext a2).fnd 0, a2.c.set (by omega)⟩
      · skip
        omega
    | succ c ih =>
      intro kn f s k m2 e0 a1 a2 a3
      have hK := kdR_inv hb (x := m) (k := k) (by omega) (by omega)
      have d4 : (kdR S.b m k).1 4 = S.b.1 4 := zup_n (by omega)
      refine J_il7 dX6_who_57 ?_
      refine J_iconst dX6_who_59 ?_
      refine J_cgt (tgt := 112) dX6_who_60 rfl (by omega) (fun c_60 => ?_) (fun c_60 => ?_)
      · skip
        omega
      · skip
        refine J_al0 dX6_who_63 ?_
        refine M_getR dX6_who_64 fl_X6_43 sh_0 rfl ?_
        refine J_al0 dX6_who_67 ?_
        refine M_getR dX6_who_68 fl_X6_26 sh_0 rfl ?_
        refine M_cvV1 dX6_who_71 lk_X6_128 cw_X2_become sh_63 rfl rfl (k_become isB63 (Or.inl rfl) (by decide) (hB.ext (fun q q0 q1 => a2 q (by omega))) (by omega) (by omega) hb.2.2.2.2.2.2.2) (by decide) (Nat.le_of_ble_eq_true rfl) (fun mem_71 hq => ?_)
        obtain ⟨hB2, hF2⟩ := hq
        have T2 := wrt a2 63 hF2 (by omega)
        have hB3 := CB.kinded (b := S.b) (x := m) (k := k) hB2 (by omega)
        have hF3 : FrB 63 mem_71 (mset mem_71 64 m k) := fun q hq => mset_n (by omega)
        have T3 := wrt T2 63 hF3 (by omega)
        refine J_al0 dX6_who_74 ?_
        refine M_getR dX6_who_75 fl_X6_43 sh_0 rfl ?_
        refine M_getR dX6_who_78 fl_X6_230 sh_63 rfl ?_
        refine J_il1 dX6_who_81 ?_
        refine J_il7 dX6_who_82 ?_
        refine M_ast dX6_who_84 sh_64 (by decide) (by omega) ?_
        refine J_al0 dX6_who_85 ?_
        refine J_il1 dX6_who_86 ?_
        refine J_il2 dX6_who_87 ?_
        refine J_il3 dX6_who_88 ?_
        refine J_il4 dX6_who_89 ?_
        refine M_cvI4 dX6_who_91 lk_X6_233 cw_X6_sitsAsTold sh_0 rfl rfl (k_sitsAsTold (hC.ext T3) hI hB3 hK (by omega) hm (by omega) (by omega) (by omega)) (by decide) (Nat.le_of_ble_eq_true rfl) (fun v_91 mem_91 hq => ?_)
        obtain ⟨rfl, hF4⟩ := hq
        refine J_ifeq_b (tgt := 106) dX6_who_94 rfl (fun c_94 => ?_) (fun c_94 => ?_)
        · skip
          refine J_inc7 dX6_who_106 (by decide) rfl ?_
          refine J_goto (tgt := 57) dX6_who_109 rfl ?_
          refine ih (kn + 1) _ _ _ _ (by omega) (by omega) (wrt T3 63 hF4 (by omega)) ?_
          unfold whN
          rw [e0] at c_94
          first | (rw [cif_t c_94, ← a3, e0]) | (rw [cif_f c_94, ← a3])
        · skip
          refine J_il6 dX6_who_97 ?_
          refine J_iconst dX6_who_99 ?_
          refine J_il7 dX6_who_100 ?_
          refine J_ishl dX6_who_102 ?_
          refine J_ior dX6_who_103 ?_
          refine J_is6 dX6_who_104 (by decide) rfl ?_
          refine J_inc7 dX6_who_106 (by decide) rfl ?_
          refine J_goto (tgt := 57) dX6_who_109 rfl ?_
          refine ih (kn + 1) _ _ _ _ (by omega) (by omega) (wrt T3 63 hF4 (by omega)) ?_
          unfold whN
          rw [e0] at c_94
          first | (rw [cif_t c_94, ← a3, e0]) | (rw [cif_f c_94, ← a3])
  refine CM.of (by decide +kernel) ([zr 0, zi m, zi w, zi i, zi n, zu, zu, zu]) (zok_all rfl) (Nat.le_of_ble_eq_true rfl) rfl ?_
  refine J_al0 dX6_who_0 ?_
  refine J_il1 dX6_who_1 ?_
  refine M_cvI1 dX6_who_2 lk_X6_159 cw_X6_noMan sh_0 rfl rfl (k_noMan hm (by omega)) (by decide) (Nat.le_of_ble_eq_true rfl) (fun v_2 mem_2 hq => ?_)
  obtain ⟨rfl, hq⟩ := hq; have hq := hq.symm; subst hq
  refine J_ifne_b (tgt := 26) dX6_who_5 rfl (fun c_5 => ?_) (fun c_5 => ?_)
  · skip
    refine J_ldc (n := -1000001) dX6_who_26 co_X6_71 (by decide) ?_
    refine M_iret dX6_who_28 rfl ?_
    exact bad (by omega)
  · skip
    refine J_il2 dX6_who_8 ?_
    refine M_csI1 dX6_who_9 lk_X6_63 cw_X6_noRow (k_noRow hw) (by decide) (Nat.le_of_ble_eq_true rfl) (fun v_9 mem_9 hq => ?_)
    obtain ⟨rfl, hq⟩ := hq; have hq := hq.symm; subst hq
    refine J_ifne_b (tgt := 26) dX6_who_12 rfl (fun c_12 => ?_) (fun c_12 => ?_)
    · skip
      refine J_ldc (n := -1000001) dX6_who_26 co_X6_71 (by decide) ?_
      refine M_iret dX6_who_28 rfl ?_
      exact bad (by omega)
    · skip
      refine J_il4 dX6_who_15 ?_
      refine J_iconst dX6_who_17 ?_
      refine J_bipush dX6_who_18 rfl ?_
      refine M_csI3 dX6_who_20 lk_X6_67 cw_X6_outside (k_outside hn (by omega) (by omega)) (by decide) (Nat.le_of_ble_eq_true rfl) (fun v_20 mem_20 hq => ?_)
      obtain ⟨rfl, hq⟩ := hq; have hq := hq.symm; subst hq
      refine J_ifeq_b (tgt := 29) dX6_who_23 rfl (fun c_23 => ?_) (fun c_23 => ?_)
      · skip
        refine J_al0 dX6_who_29 ?_
        refine J_il2 dX6_who_30 ?_
        refine J_il3 dX6_who_31 ?_
        refine J_il4 dX6_who_32 ?_
        refine M_cvI3 dX6_who_34 lk_X6_83 cw_X6_findingOf sh_0 rfl rfl (k_findingOf hC hI (by omega) hi hn) (by decide) (Nat.le_of_ble_eq_true rfl) (fun v_34 mem_34 hq => ?_)
        obtain ⟨rfl, hq⟩ := hq; have hq := hq.symm; subst hq
        refine J_is5 dX6_who_37 (by decide) rfl ?_
        refine J_il5 dX6_who_39 ?_
        refine J_ifeq (tgt := 51) dX6_who_41 rfl (by omega) (fun c_41 => ?_) (fun c_41 => ?_)
        · skip
          refine J_iconst dX6_who_51 ?_
          refine J_is6 dX6_who_52 (by decide) rfl ?_
          refine J_iconst dX6_who_54 ?_
          refine J_is7 dX6_who_55 (by decide) rfl ?_
          exact loop (by omega) (by omega) 5 0 _ 0 1 _ rfl (by omega) FrT.rf rfl
        · skip
          refine J_al0 dX6_who_44 ?_
          refine J_il5 dX6_who_45 ?_
          refine M_cvI1 dX6_who_47 lk_X6_72 cw_X6_finding sh_0 rfl rfl k_finding (by decide) (Nat.le_of_ble_eq_true rfl) (fun v_47 mem_47 hq => ?_)
          obtain ⟨rfl, hq⟩ := hq; have hq := hq.symm; subst hq
          refine M_iret dX6_who_50 rfl ?_
          unfold sWho; rw [if_neg (by omega), if_pos (by omega)]; exact ⟨rfl, hC.fnd _, FrC.rf.set (by omega)⟩
      · skip
        refine J_ldc (n := -1000001) dX6_who_26 co_X6_71 (by decide) ?_
        refine M_iret dX6_who_28 rfl ?_
        exact bad (by omega)
