theorem m_copy {mem : ZMem} {S : ZS} (hS : MS mem S) (hI : SInv S) {a i b j n : Int} (ha : In32 a) (hi : In32 i) (hb : In32 b) (hj : In32 j) (hn : In32 n) : CI mX7_copy 2 [zr 79, zi a, zi i, zi b, zi j, zi n] mem (QM mem (sCopy S a i b j n)) := by
  have h0 := hS.thr
  have hF : FrM mem (mset mem 79 0 0) := FrM.rf.set (by omega)
  generalize hm : mset mem 79 0 0 = m0 at *
  have bad : (a < 0 ∨ 7 < a ∨ b < 0 ∨ 7 < b) → QM mem (sCopy S a i b j n) (-1000001) m0 := fun q => by
    unfold sCopy; rw [if_pos q]; exact ⟨rfl, h0, hF⟩
  have loop : ∀ (m1 : ZMem) (u : Int), MS m1 (S.uSt 0) → FrM mem m1 → ¬ (a < 0 ∨ 7 < a ∨ b < 0 ∨ 7 < b) → ¬ (S.ln a < 0 ∨ S.ln b < 0) → ¬ S.ln a ≠ S.ln b → ¬ (i < 0 ∨ j < 0 ∨ n < 0 ∨ S.mn a < i + n ∨ S.mn b < j + n) → i + n ≤ 40 → j + n ≤ 40 → ((u = 1 ∧ j ≤ i) ∨ (u = 0 ∧ i < j)) → ∀ (c : Nat) (k : Int) (z : ZV) (m2 : ZMem), (c : Int) + k = n → 0 ≤ k → (∀ x : Int, ((u = 1 ∧ 40 * b + j ≤ x ∧ x < 40 * b + j + k) ∨ (u = 0 ∧ 40 * b + j + n - k ≤ x ∧ x < 40 * b + j + n)) → m2 82 x = m1 82 (x - (40 * b + j) + (40 * a + i))) → (∀ x : Int, ¬ ((u = 1 ∧ 40 * b + j ≤ x ∧ x < 40 * b + j + k) ∨ (u = 0 ∧ 40 * b + j + n - k ≤ x ∧ x < 40 * b + j + n)) → m2 82 x = m1 82 x) → (∀ q : Nat, q ≠ 82 → m2 q = m1 q) → JM mX7_copy 2 (QI (QM mem (sCopy S a i b j n))) 143 [zr 79, zi a, zi i, zi b, zi j, zi n, zi u, zi k, z] [] m2 := by
    intro m1 u h1 hF1 z1 z2 z3 z4 z5 z6 hu c
    induction c with
    | zero =>
      intro k z m2 e0 k0 a1 a2 a3
      refine J_il7 dX7_copy_143 ?_
      refine J_il5 dX7_copy_145 ?_
      refine J_cge (tgt := 204) dX7_copy_147 rfl (by omega) (fun c_147 => ?_) (fun c_147 => ?_)
      · skip
        refine J_il5 dX7_copy_204 ?_
        refine M_iret dX7_copy_206 rfl ?_
        unfold sCopy; rw [if_neg z1, if_neg z2, if_neg z3, if_neg z4]
        refine ⟨rfl, MS.rwx h1 ?_ (fun q q1 q2 q3 => a3 q q3), fun q hq => by rw [a3 q (by omega)]; exact hF1 q hq⟩
        intro x x0 x1
        obtain ⟨d1, d2, d3⟩ := h1.1 x x0 x1
        obtain ⟨f1, f2, f3⟩ := h1.1 a (by omega) (by omega)
        rw [a3 80 (by omega), a3 81 (by omega)]
        refine ⟨d1, d2, fun y y0 y1 => ?_⟩
        by_cases e : x = b
        · subst e
          rw [itU_s]
          unfold zcpy
          split
          · rw [a1 _ (by omega), show 40 * x + y - (40 * x + j) + (40 * a + i) = 40 * a + (i + (y - j)) by omega]
            exact f3 _ (by omega) (by omega)
          · rw [a2 _ (by omega)]; exact d3 y y0 y1
        · rw [itU_n e, a2 _ (by omega)]; exact d3 y y0 y1
      · skip
        omega
    | succ c ih =>
      intro k z m2 e0 k0 a1 a2 a3
      have step : ∀ (t : Int), (u = 1 ∧ t = k) ∨ (u = 0 ∧ t = n - 1 - k) → JM mX7_copy 2 (QI (QM mem (sCopy S a i b j n))) 169 [zr 79, zi a, zi i, zi b, zi j, zi n, zi u, zi k, zi t] [] m2 := by
        intro t ht
        have hr : m2 82 (40 * a + i + t) = m1 82 (40 * a + i + t) := by
          by_cases e : a = b
          · subst e; exact a2 _ (by omega)
          · exact a2 _ (by omega)
        refine J_al0 dX7_copy_169 ?_
        refine M_getR dX7_copy_170 fl_X7_16 sh_79 rfl ?_
        refine J_bipush dX7_copy_173 rfl ?_
        refine J_il3 dX7_copy_175 ?_
        refine J_imul dX7_copy_176 ?_
        refine J_il4 dX7_copy_177 ?_
        refine J_iadd dX7_copy_179 ?_
        refine J_il8 dX7_copy_180 ?_
        refine J_iadd dX7_copy_182 ?_
        refine J_al0 dX7_copy_183 ?_
        refine M_getR dX7_copy_184 fl_X7_16 sh_79 rfl ?_
        refine J_bipush dX7_copy_187 rfl ?_
        refine J_il1 dX7_copy_189 ?_
        refine J_imul dX7_copy_190 ?_
        refine J_il2 dX7_copy_191 ?_
        refine J_iadd dX7_copy_192 ?_
        refine J_il8 dX7_copy_193 ?_
        refine J_iadd dX7_copy_195 ?_
        refine M_ald dX7_copy_196 sh_82 (by decide) (by omega) ?_
        rw [hr]
        refine M_ast dX7_copy_197 sh_82 (by decide) (by omega) ?_
        refine J_inc7 dX7_copy_198 (by decide) rfl ?_
        refine J_goto (tgt := 143) dX7_copy_201 rfl ?_
        refine ih _ _ _ (by omega) (by omega) (fun x hx => ?_) (fun x hx => by rw [mset_i (by omega)]; exact a2 x (by omega)) (fun q hq => by rw [mset_n hq]; exact a3 q hq)
        by_cases e : x = 40 * b + j + t
        · subst e; rw [mset_s, show 40 * b + j + t - (40 * b + j) + (40 * a + i) = 40 * a + i + t by omega]
        · rw [mset_i e]; exact a1 x (by omega)
      refine J_il7 dX7_copy_143 ?_
      refine J_il5 dX7_copy_145 ?_
      refine J_cge (tgt := 204) dX7_copy_147 rfl (by omega) (fun c_147 => ?_) (fun c_147 => ?_)
      · skip
        omega
      · skip
        refine J_il6 dX7_copy_150 ?_
        refine J_ifeq (tgt := 160) dX7_copy_152 rfl (by omega) (fun c_152 => ?_) (fun c_152 => ?_)
        · skip
          refine J_il5 dX7_copy_160 ?_
          refine J_iconst dX7_copy_162 ?_
          refine J_isub dX7_copy_163 ?_
          refine J_il7 dX7_copy_164 ?_
          refine J_isub dX7_copy_166 ?_
          refine J_is8 dX7_copy_167 (by decide) rfl ?_
          exact step _ (by omega)
        · skip
          refine J_il7 dX7_copy_155 ?_
          refine J_goto (tgt := 167) dX7_copy_157 rfl ?_
          refine J_is8 dX7_copy_167 (by decide) rfl ?_
          exact step _ (by omega)
  refine CM.of (by decide +kernel) ([zr 79, zi a, zi i, zi b, zi j, zi n, zu, zu, zu]) (zok_all rfl) (Nat.le_of_ble_eq_true rfl) rfl ?_
  refine J_al0 dX7_copy_0 ?_
  refine J_iconst dX7_copy_1 ?_
  refine M_put (ki := 0) dX7_copy_2 fl_X7_50 sh_79 rfl rfl rfl (fun r hr => by cases hr; rfl) ?_
  rw [hm]
  refine J_il1 dX7_copy_5 ?_
  refine M_csI1 dX7_copy_6 lk_X7_64 cw_X7_isRow (k_isRow ha) (by decide) (Nat.le_of_ble_eq_true rfl) (fun v_6 mem_6 hq => ?_)
  obtain ⟨rfl, hq⟩ := hq; have hq := hq.symm; subst hq
  refine J_ifeq_b (tgt := 19) dX7_copy_9 rfl (fun c_9 => ?_) (fun c_9 => ?_)
  · skip
    refine J_ldc (n := -1000001) dX7_copy_19 co_X7_70 (by decide) ?_
    refine M_iret dX7_copy_21 rfl ?_
    exact bad (by omega)
  · skip
    refine J_il3 dX7_copy_12 ?_
    refine M_csI1 dX7_copy_13 lk_X7_64 cw_X7_isRow (k_isRow hb) (by decide) (Nat.le_of_ble_eq_true rfl) (fun v_13 mem_13 hq => ?_)
    obtain ⟨rfl, hq⟩ := hq; have hq := hq.symm; subst hq
    refine J_ifne_b (tgt := 22) dX7_copy_16 rfl (fun c_16 => ?_) (fun c_16 => ?_)
    · skip
      refine J_al0 dX7_copy_22 ?_
      refine J_iconst dX7_copy_23 ?_
      refine M_put (ki := 1) dX7_copy_24 fl_X7_54 sh_79 rfl rfl rfl (fun r hr => by cases hr; rfl) ?_
      have h1 := h0.fnd 0
      have hF1 : FrM mem (mset m0 79 1 0) := hF.set (by omega)
      generalize mset m0 79 1 0 = m1 at *
      obtain ⟨r1, r2, r3⟩ := h1.1 a (by omega) (by omega)
      obtain ⟨s1, s2, s3⟩ := hI.1 a (by omega) (by omega)
      obtain ⟨r4, r5, r6⟩ := h1.1 b (by omega) (by omega)
      obtain ⟨s4, s5, s6⟩ := hI.1 b (by omega) (by omega)
      have r1 : m1 80 a = S.ln a := r1
      have r2 : m1 81 a = S.mn a := r2
      have r4 : m1 80 b = S.ln b := r4
      have r5 : m1 81 b = S.mn b := r5
      refine J_al0 dX7_copy_27 ?_
      refine M_getR dX7_copy_28 fl_X7_7 sh_79 rfl ?_
      refine J_il1 dX7_copy_31 ?_
      refine M_ald dX7_copy_32 sh_80 (by decide) (by omega) ?_
      refine J_iflt (tgt := 45) dX7_copy_33 rfl (by omega) (fun c_33 => ?_) (fun c_33 => ?_)
      · skip
        refine J_al0 dX7_copy_45 ?_
        refine J_iconst dX7_copy_46 ?_
        refine M_cvI1 dX7_copy_47 lk_X7_71 cw_X7_finding sh_79 rfl rfl k_mfinding (by decide) (Nat.le_of_ble_eq_true rfl) (fun v_47 mem_47 hq => ?_)
        obtain ⟨rfl, hq⟩ := hq; have hq := hq.symm; subst hq
        refine M_iret dX7_copy_50 rfl ?_
        unfold sCopy; rw [if_neg (by omega), if_pos (by omega)]; exact ⟨rfl, h1.fnd 1, hF1.set (by omega)⟩
      · skip
        refine J_al0 dX7_copy_36 ?_
        refine M_getR dX7_copy_37 fl_X7_7 sh_79 rfl ?_
        refine J_il3 dX7_copy_40 ?_
        refine M_ald dX7_copy_41 sh_80 (by decide) (by omega) ?_
        refine J_ifge (tgt := 51) dX7_copy_42 rfl (by omega) (fun c_42 => ?_) (fun c_42 => ?_)
        · skip
          refine J_al0 dX7_copy_51 ?_
          refine M_getR dX7_copy_52 fl_X7_7 sh_79 rfl ?_
          refine J_il1 dX7_copy_55 ?_
          refine M_ald dX7_copy_56 sh_80 (by decide) (by omega) ?_
          refine J_al0 dX7_copy_57 ?_
          refine M_getR dX7_copy_58 fl_X7_7 sh_79 rfl ?_
          refine J_il3 dX7_copy_61 ?_
          refine M_ald dX7_copy_62 sh_80 (by decide) (by omega) ?_
          refine J_ceq (tgt := 72) dX7_copy_63 rfl (by omega) (fun c_63 => ?_) (fun c_63 => ?_)
          · skip
            refine J_il2 dX7_copy_72 ?_
            refine J_iflt (tgt := 121) dX7_copy_73 rfl (by omega) (fun c_73 => ?_) (fun c_73 => ?_)
            · skip
              refine J_al0 dX7_copy_121 ?_
              refine J_iconst dX7_copy_122 ?_
              refine M_cvI1 dX7_copy_123 lk_X7_71 cw_X7_finding sh_79 rfl rfl k_mfinding (by decide) (Nat.le_of_ble_eq_true rfl) (fun v_123 mem_123 hq => ?_)
              obtain ⟨rfl, hq⟩ := hq; have hq := hq.symm; subst hq
              refine M_iret dX7_copy_126 rfl ?_
              unfold sCopy; rw [if_neg (by omega), if_neg (by omega), if_neg (by omega), if_pos (by omega)]; exact ⟨rfl, h1.fnd 2, hF1.set (by omega)⟩
            · skip
              refine J_il4 dX7_copy_76 ?_
              refine J_iflt (tgt := 121) dX7_copy_78 rfl (by omega) (fun c_78 => ?_) (fun c_78 => ?_)
              · skip
                refine J_al0 dX7_copy_121 ?_
                refine J_iconst dX7_copy_122 ?_
                refine M_cvI1 dX7_copy_123 lk_X7_71 cw_X7_finding sh_79 rfl rfl k_mfinding (by decide) (Nat.le_of_ble_eq_true rfl) (fun v_123 mem_123 hq => ?_)
                obtain ⟨rfl, hq⟩ := hq; have hq := hq.symm; subst hq
                refine M_iret dX7_copy_126 rfl ?_
                unfold sCopy; rw [if_neg (by omega), if_neg (by omega), if_neg (by omega), if_pos (by omega)]; exact ⟨rfl, h1.fnd 2, hF1.set (by omega)⟩
              · skip
                refine J_il5 dX7_copy_81 ?_
                refine J_iflt (tgt := 121) dX7_copy_83 rfl (by omega) (fun c_83 => ?_) (fun c_83 => ?_)
                · skip
                  refine J_al0 dX7_copy_121 ?_
                  refine J_iconst dX7_copy_122 ?_
                  refine M_cvI1 dX7_copy_123 lk_X7_71 cw_X7_finding sh_79 rfl rfl k_mfinding (by decide) (Nat.le_of_ble_eq_true rfl) (fun v_123 mem_123 hq => ?_)
                  obtain ⟨rfl, hq⟩ := hq; have hq := hq.symm; subst hq
                  refine M_iret dX7_copy_126 rfl ?_
                  unfold sCopy; rw [if_neg (by omega), if_neg (by omega), if_neg (by omega), if_pos (by omega)]; exact ⟨rfl, h1.fnd 2, hF1.set (by omega)⟩
                · skip
                  refine J_il2 dX7_copy_86 ?_
                  refine J_i2l dX7_copy_87 (by omega) ?_
                  refine J_il5 dX7_copy_88 ?_
                  refine J_i2l dX7_copy_90 (by omega) ?_
                  refine J_ladd dX7_copy_91 ?_
                  refine J_al0 dX7_copy_92 ?_
                  refine M_getR dX7_copy_93 fl_X7_13 sh_79 rfl ?_
                  refine J_il1 dX7_copy_96 ?_
                  refine M_ald dX7_copy_97 sh_81 (by decide) (by omega) ?_
                  refine J_i2l dX7_copy_98 (by omega) ?_
                  refine J_lgt (tgt := 121) dX7_copy_99 dX7_copy_100 rfl (by omega) (fun c_99 => ?_) (fun c_99 => ?_)
                  · skip
                    refine J_al0 dX7_copy_121 ?_
                    refine J_iconst dX7_copy_122 ?_
                    refine M_cvI1 dX7_copy_123 lk_X7_71 cw_X7_finding sh_79 rfl rfl k_mfinding (by decide) (Nat.le_of_ble_eq_true rfl) (fun v_123 mem_123 hq => ?_)
                    obtain ⟨rfl, hq⟩ := hq; have hq := hq.symm; subst hq
                    refine M_iret dX7_copy_126 rfl ?_
                    unfold sCopy; rw [if_neg (by omega), if_neg (by omega), if_neg (by omega), if_pos (by omega)]; exact ⟨rfl, h1.fnd 2, hF1.set (by omega)⟩
                  · skip
                    refine J_il4 dX7_copy_103 ?_
                    refine J_i2l dX7_copy_105 (by omega) ?_
                    refine J_il5 dX7_copy_106 ?_
                    refine J_i2l dX7_copy_108 (by omega) ?_
                    refine J_ladd dX7_copy_109 ?_
                    refine J_al0 dX7_copy_110 ?_
                    refine M_getR dX7_copy_111 fl_X7_13 sh_79 rfl ?_
                    refine J_il3 dX7_copy_114 ?_
                    refine M_ald dX7_copy_115 sh_81 (by decide) (by omega) ?_
                    refine J_i2l dX7_copy_116 (by omega) ?_
                    refine J_lle (tgt := 127) dX7_copy_117 dX7_copy_118 rfl (by omega) (fun c_117 => ?_) (fun c_117 => ?_)
                    · skip
                      refine J_il2 dX7_copy_127 ?_
                      refine J_il4 dX7_copy_128 ?_
                      refine J_clt (tgt := 137) dX7_copy_130 rfl (by omega) (fun c_130 => ?_) (fun c_130 => ?_)
                      · skip
                        refine J_iconst dX7_copy_137 ?_
                        refine J_is6 dX7_copy_138 (by decide) rfl ?_
                        refine J_iconst dX7_copy_140 ?_
                        refine J_is7 dX7_copy_141 (by decide) rfl ?_
                        exact loop m1 _ h1 hF1 (by omega) (by omega) (by omega) (by omega) (by omega) (by omega) (by omega) n.toNat 0 _ m1 (by omega) (by omega) (fun x hx => by omega) (fun x _ => rfl) (fun _ _ => rfl)
                      · skip
                        refine J_iconst dX7_copy_133 ?_
                        refine J_goto (tgt := 138) dX7_copy_134 rfl ?_
                        refine J_is6 dX7_copy_138 (by decide) rfl ?_
                        refine J_iconst dX7_copy_140 ?_
                        refine J_is7 dX7_copy_141 (by decide) rfl ?_
                        exact loop m1 _ h1 hF1 (by omega) (by omega) (by omega) (by omega) (by omega) (by omega) (by omega) n.toNat 0 _ m1 (by omega) (by omega) (fun x hx => by omega) (fun x _ => rfl) (fun _ _ => rfl)
                    · skip
                      refine J_al0 dX7_copy_121 ?_
                      refine J_iconst dX7_copy_122 ?_
                      refine M_cvI1 dX7_copy_123 lk_X7_71 cw_X7_finding sh_79 rfl rfl k_mfinding (by decide) (Nat.le_of_ble_eq_true rfl) (fun v_123 mem_123 hq => ?_)
                      obtain ⟨rfl, hq⟩ := hq; have hq := hq.symm; subst hq
                      refine M_iret dX7_copy_126 rfl ?_
                      unfold sCopy; rw [if_neg (by omega), if_neg (by omega), if_neg (by omega), if_pos (by omega)]; exact ⟨rfl, h1.fnd 2, hF1.set (by omega)⟩
          · skip
            refine J_al0 dX7_copy_66 ?_
            refine J_iconst dX7_copy_67 ?_
            refine M_cvI1 dX7_copy_68 lk_X7_71 cw_X7_finding sh_79 rfl rfl k_mfinding (by decide) (Nat.le_of_ble_eq_true rfl) (fun v_68 mem_68 hq => ?_)
            obtain ⟨rfl, hq⟩ := hq; have hq := hq.symm; subst hq
            refine M_iret dX7_copy_71 rfl ?_
            unfold sCopy; rw [if_neg (by omega), if_neg (by omega), if_pos (by omega)]; exact ⟨rfl, h1.fnd 5, hF1.set (by omega)⟩
        · skip
          refine J_al0 dX7_copy_45 ?_
          refine J_iconst dX7_copy_46 ?_
          refine M_cvI1 dX7_copy_47 lk_X7_71 cw_X7_finding sh_79 rfl rfl k_mfinding (by decide) (Nat.le_of_ble_eq_true rfl) (fun v_47 mem_47 hq => ?_)
          obtain ⟨rfl, hq⟩ := hq; have hq := hq.symm; subst hq
          refine M_iret dX7_copy_50 rfl ?_
          unfold sCopy; rw [if_neg (by omega), if_pos (by omega)]; exact ⟨rfl, h1.fnd 1, hF1.set (by omega)⟩
    · skip
      refine J_ldc (n := -1000001) dX7_copy_19 co_X7_70 (by decide) ?_
      refine M_iret dX7_copy_21 rfl ?_
      exact bad (by omega)
