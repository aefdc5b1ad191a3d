theorem MS.rwx {mem mem' : ZMem} {S : ZS} {ln mn : Int → Int} {it : Int → Int → Int} (h : MS mem (S.uSt 0)) (r : MRw mem' ln mn it) (e : ∀ q : Nat, q ≠ 80 → q ≠ 81 → q ≠ 82 → mem' q = mem q) : MS mem' ((S.uRw ln mn it).uSt 0) := MS.rw h r e
theorem m_row {mem : ZMem} {S : ZS} (hS : MS mem S) {w l n : Int} (hw : In32 w) (hl : In32 l) (hn : In32 n) : CI mX7_row 2 [zr 79, zi w, zi l, zi n] mem (QM mem (sRow S w l n)) := by
  have h0 := hS.thr
  have hF : FrM mem (mset mem 79 0 0) := FrM.rf.set (by omega)
  generalize hm : mset mem 79 0 0 = m0 at *
  have bad : (w < 0 ∨ 7 < w ∨ l < 0 ∨ 2 < l ∨ 40 < n) → QM mem (sRow S w l n) (-1000001) m0 := fun q => by
    unfold sRow; rw [if_pos q]; exact ⟨rfl, h0, hF⟩
  have loop : ∀ (m1 : ZMem), MS m1 (S.uSt 0) → FrM mem m1 → ¬ (w < 0 ∨ 7 < w ∨ l < 0 ∨ 2 < l ∨ 40 < n) → ¬ n < 0 → ∀ (c : Nat) (k : Int) (m2 : ZMem), (c : Int) + k = 40 → 0 ≤ k → m2 80 = zup (m1 80) w l → m2 81 = zup (m1 81) w n → (∀ x : Int, 40 * w ≤ x → x < 40 * w + k → m2 82 x = 0) → (∀ x : Int, ¬ (40 * w ≤ x ∧ x < 40 * w + 40) → m2 82 x = m1 82 x) → (∀ q : Nat, q ≠ 80 → q ≠ 81 → q ≠ 82 → m2 q = m1 q) → JM mX7_row 2 (QI (QM mem (sRow S w l n))) 65 [zr 79, zi w, zi l, zi n, zi k] [] m2 := by
    intro m1 h1 hF1 z1 z2 c
    induction c with
    | zero =>
      intro k m2 e0 k0 a1 a2 a3 a4 a5
      refine J_il4 dX7_row_65 ?_
      refine J_bipush dX7_row_67 rfl ?_
      refine J_cge (tgt := 91) dX7_row_69 rfl (by omega) (fun c_69 => ?_) (fun c_69 => ?_)
      · skip
        refine J_il3 dX7_row_91 ?_
        refine M_iret dX7_row_92 rfl ?_
        unfold sRow; rw [if_neg z1, if_neg z2]
        refine ⟨rfl, MS.rwx h1 ?_ a5, fun q hq => by rw [a5 q (by omega) (by omega) (by omega)]; exact hF1 q hq⟩
        intro x x0 x1
        obtain ⟨d1, d2, d3⟩ := h1.1 x x0 x1
        rw [a1, a2]
        by_cases e : x = w
        · subst e
          rw [zup_s, zup_s, zup_s, zup_s, itU_s]
          exact ⟨rfl, rfl, fun i i0 i1 => a3 _ (by omega) (by omega)⟩
        · rw [zup_n e, zup_n e, zup_n e, zup_n e, itU_n e]
          exact ⟨d1, d2, fun i i0 i1 => by rw [a4 _ (by omega)]; exact d3 i i0 i1⟩
      · skip
        omega
    | succ c ih =>
      intro k m2 e0 k0 a1 a2 a3 a4 a5
      refine J_il4 dX7_row_65 ?_
      refine J_bipush dX7_row_67 rfl ?_
      refine J_cge (tgt := 91) dX7_row_69 rfl (by omega) (fun c_69 => ?_) (fun c_69 => ?_)
      · skip
        omega
      · skip
        refine J_al0 dX7_row_72 ?_
        refine M_getR dX7_row_73 fl_X7_16 sh_79 rfl ?_
        refine J_bipush dX7_row_76 rfl ?_
        refine J_il1 dX7_row_78 ?_
        refine J_imul dX7_row_79 ?_
        refine J_il4 dX7_row_80 ?_
        refine J_iadd dX7_row_82 ?_
        refine J_iconst dX7_row_83 ?_
        refine M_ast dX7_row_84 sh_82 (by decide) (by omega) ?_
        refine J_inc4 dX7_row_85 (by decide) rfl ?_
        refine J_goto (tgt := 65) dX7_row_88 rfl ?_
        refine ih _ _ (by omega) (by omega) (by rw [mset_n (by omega)]; exact a1) (by rw [mset_n (by omega)]; exact a2) (fun x x0 x1 => ?_) (fun x hx => by rw [mset_i (by omega)]; exact a4 x hx) (fun q q1 q2 q3 => by rw [mset_n q3]; exact a5 q q1 q2 q3)
        by_cases e : x = 40 * w + k
        · subst e; rw [mset_s]
        · rw [mset_i e]; exact a3 x x0 (by omega)
  refine CM.of (by decide +kernel) ([zr 79, zi w, zi l, zi n, zu]) (zok_all rfl) (Nat.le_of_ble_eq_true rfl) rfl ?_
  refine J_al0 dX7_row_0 ?_
  refine J_iconst dX7_row_1 ?_
  refine M_put (ki := 0) dX7_row_2 fl_X7_50 sh_79 rfl rfl rfl (fun r hr => by cases hr; rfl) ?_
  rw [hm]
  refine J_il1 dX7_row_5 ?_
  refine M_csI1 dX7_row_6 lk_X7_64 cw_X7_isRow (k_isRow hw) (by decide) (Nat.le_of_ble_eq_true rfl) (fun v_6 mem_6 hq => ?_)
  obtain ⟨rfl, hq⟩ := hq; have hq := hq.symm; subst hq
  refine J_ifeq_b (tgt := 30) dX7_row_9 rfl (fun c_9 => ?_) (fun c_9 => ?_)
  · skip
    refine J_ldc (n := -1000001) dX7_row_30 co_X7_70 (by decide) ?_
    refine M_iret dX7_row_32 rfl ?_
    exact bad (by omega)
  · skip
    refine J_il2 dX7_row_12 ?_
    refine J_i2l dX7_row_13 (by omega) ?_
    refine J_lconst0 dX7_row_14 ?_
    refine J_ldc2 (n := 2) dX7_row_15 col_X7_68 (by decide) ?_
    refine M_csI3 dX7_row_18 lk_X7_60 cw_X7_in (k_in (by omega) (by omega) (by omega)) (by decide) (Nat.le_of_ble_eq_true rfl) (fun v_18 mem_18 hq => ?_)
    obtain ⟨rfl, hq⟩ := hq; have hq := hq.symm; subst hq
    refine J_ifeq_b (tgt := 30) dX7_row_21 rfl (fun c_21 => ?_) (fun c_21 => ?_)
    · skip
      refine J_ldc (n := -1000001) dX7_row_30 co_X7_70 (by decide) ?_
      refine M_iret dX7_row_32 rfl ?_
      exact bad (by omega)
    · skip
      refine J_il3 dX7_row_24 ?_
      refine J_bipush dX7_row_25 rfl ?_
      refine J_cle (tgt := 33) dX7_row_27 rfl (by omega) (fun c_27 => ?_) (fun c_27 => ?_)
      · skip
        refine J_al0 dX7_row_33 ?_
        refine J_iconst dX7_row_34 ?_
        refine M_put (ki := 1) dX7_row_35 fl_X7_54 sh_79 rfl rfl rfl (fun r hr => by cases hr; rfl) ?_
        have h1 := h0.fnd 0
        have hF1 : FrM mem (mset m0 79 1 0) := hF.set (by omega)
        generalize mset m0 79 1 0 = m1 at *
        refine J_il3 dX7_row_38 ?_
        refine J_ifge (tgt := 48) dX7_row_39 rfl (by omega) (fun c_39 => ?_) (fun c_39 => ?_)
        · skip
          refine J_al0 dX7_row_48 ?_
          refine M_getR dX7_row_49 fl_X7_7 sh_79 rfl ?_
          refine J_il1 dX7_row_52 ?_
          refine J_il2 dX7_row_53 ?_
          refine M_ast dX7_row_54 sh_80 (by decide) (by omega) ?_
          refine J_al0 dX7_row_55 ?_
          refine M_getR dX7_row_56 fl_X7_13 sh_79 rfl ?_
          refine J_il1 dX7_row_59 ?_
          refine J_il3 dX7_row_60 ?_
          refine M_ast dX7_row_61 sh_81 (by decide) (by omega) ?_
          refine J_iconst dX7_row_62 ?_
          refine J_is4 dX7_row_63 (by decide) rfl ?_
          exact loop m1 h1 hF1 (by omega) (by omega) 40 0 _ (by omega) (by omega) (by rw [mset_n (by omega), mset_q]) (by rw [mset_q, mset_n (by omega)]) (fun x x0 x1 => by omega) (fun x _ => by rw [mset_n (by omega), mset_n (by omega)]) (fun q q1 q2 q3 => by rw [mset_n q2, mset_n q1])
        · skip
          refine J_al0 dX7_row_42 ?_
          refine J_iconst dX7_row_43 ?_
          refine M_cvI1 dX7_row_44 lk_X7_71 cw_X7_finding sh_79 rfl rfl k_mfinding (by decide) (Nat.le_of_ble_eq_true rfl) (fun v_44 mem_44 hq => ?_)
          obtain ⟨rfl, hq⟩ := hq; have hq := hq.symm; subst hq
          refine M_iret dX7_row_47 rfl ?_
          unfold sRow; rw [if_neg (by omega), if_pos (by omega)]; exact ⟨rfl, h1.fnd 4, hF1.set (by omega)⟩
      · skip
        refine J_ldc (n := -1000001) dX7_row_30 co_X7_70 (by decide) ?_
        refine M_iret dX7_row_32 rfl ?_
        exact bad (by omega)
theorem m_set {mem : ZMem} {S : ZS} (hS : MS mem S) (hI : SInv S) {w i v : Int} (hw : In32 w) (hi : In32 i) (hv : In32 v) : CI mX7_set 2 [zr 79, zi w, zi i, zi v] mem (QM mem (sSet S w i v)) := by
  have h0 := hS.thr
  have hF : FrM mem (mset mem 79 0 0) := FrM.rf.set (by omega)
  generalize hm : mset mem 79 0 0 = m0 at *
  have fin : ∀ (m1 : ZMem) (x : Int), MS m1 (S.uSt 0) → FrM mem m1 → ¬ (w < 0 ∨ 7 < w) → fndS S w i 1 = 0 → 0 ≤ i ∧ i < 40 → x = putV (S.ln w) v → QM mem (sSet S w i v) (mset m1 82 (40 * w + i) x 82 (40 * w + i)) (mset m1 82 (40 * w + i) x) := by
    intro m1 x h1 hF1 z1 z2 z3 ex
    unfold sSet
    rw [if_neg z1, if_neg (by omega), mset_s, ← ex]
    refine ⟨rfl, MS.rwx (mem' := mset m1 82 (40 * w + i) x) h1 ?_ (fun q q1 q2 q3 => mset_n q3), hF1.set (by omega)⟩
    intro y y0 y1
    obtain ⟨d1, d2, d3⟩ := h1.1 y y0 y1
    rw [show mset m1 82 (40 * w + i) x 80 = m1 80 from mset_n (by omega), show mset m1 82 (40 * w + i) x 81 = m1 81 from mset_n (by omega), mset_q]
    refine ⟨d1, d2, fun j j0 j1 => ?_⟩
    by_cases e : y = w
    · subst e
      rw [itU_s]
      by_cases e2 : j = i
      · subst e2; rw [zup_s, zup_s]
      · rw [zup_n (by omega), zup_n e2]; exact d3 j j0 j1
    · rw [itU_n e, zup_n (by omega)]; exact d3 j j0 j1
  refine CM.of (by decide +kernel) ([zr 79, zi w, zi i, zi v]) (zok_all rfl) (Nat.le_of_ble_eq_true rfl) rfl ?_
  refine J_al0 dX7_set_0 ?_
  refine J_iconst dX7_set_1 ?_
  refine M_put (ki := 0) dX7_set_2 fl_X7_50 sh_79 rfl rfl rfl (fun r hr => by cases hr; rfl) ?_
  rw [hm]
  refine J_il1 dX7_set_5 ?_
  refine M_csI1 dX7_set_6 lk_X7_64 cw_X7_isRow (k_isRow hw) (by decide) (Nat.le_of_ble_eq_true rfl) (fun v_6 mem_6 hq => ?_)
  obtain ⟨rfl, hq⟩ := hq; have hq := hq.symm; subst hq
  refine J_ifne_b (tgt := 15) dX7_set_9 rfl (fun c_9 => ?_) (fun c_9 => ?_)
  · skip
    refine J_al0 dX7_set_15 ?_
    refine J_iconst dX7_set_16 ?_
    refine M_put (ki := 1) dX7_set_17 fl_X7_54 sh_79 rfl rfl rfl (fun r hr => by cases hr; rfl) ?_
    have h1 := h0.fnd 0
    have hF1 : FrM mem (mset m0 79 1 0) := hF.set (by omega)
    generalize mset m0 79 1 0 = m1 at *
    obtain ⟨r1, r2, r3⟩ := h1.1 w (by omega) (by omega)
    obtain ⟨s1, s2, s3⟩ := hI.1 w (by omega) (by omega)
    have r1 : m1 80 w = S.ln w := r1
    have r2 : m1 81 w = S.mn w := r2
    refine J_al0 dX7_set_20 ?_
    refine M_getR dX7_set_21 fl_X7_7 sh_79 rfl ?_
    refine J_il1 dX7_set_24 ?_
    refine M_ald dX7_set_25 sh_80 (by decide) (by omega) ?_
    refine J_ifge (tgt := 35) dX7_set_26 rfl (by omega) (fun c_26 => ?_) (fun c_26 => ?_)
    · skip
      refine J_il2 dX7_set_35 ?_
      refine J_i2l dX7_set_36 (by omega) ?_
      refine J_lconst0 dX7_set_37 ?_
      refine J_al0 dX7_set_38 ?_
      refine M_getR dX7_set_39 fl_X7_13 sh_79 rfl ?_
      refine J_il1 dX7_set_42 ?_
      refine M_ald dX7_set_43 sh_81 (by decide) (by omega) ?_
      refine J_iconst dX7_set_44 ?_
      refine J_isub dX7_set_45 ?_
      refine J_i2l dX7_set_46 (by omega) ?_
      refine M_csI3 dX7_set_47 lk_X7_60 cw_X7_in (k_in (by omega) (by omega) (by omega)) (by decide) (Nat.le_of_ble_eq_true rfl) (fun v_47 mem_47 hq => ?_)
      obtain ⟨rfl, hq⟩ := hq; have hq := hq.symm; subst hq
      refine J_ifne_b (tgt := 59) dX7_set_50 rfl (fun c_50 => ?_) (fun c_50 => ?_)
      · skip
        have ef : fndS S w i 1 = 0 := by unfold fndS; rw [if_neg (by omega), if_pos (by omega)]
        refine J_al0 dX7_set_59 ?_
        refine M_getR dX7_set_60 fl_X7_16 sh_79 rfl ?_
        refine J_bipush dX7_set_63 rfl ?_
        refine J_il1 dX7_set_65 ?_
        refine J_imul dX7_set_66 ?_
        refine J_il2 dX7_set_67 ?_
        refine J_iadd dX7_set_68 ?_
        refine J_al0 dX7_set_69 ?_
        refine M_getR dX7_set_70 fl_X7_7 sh_79 rfl ?_
        refine J_il1 dX7_set_73 ?_
        refine M_ald dX7_set_74 sh_80 (by decide) (by omega) ?_
        refine J_ifne (tgt := 83) dX7_set_75 rfl (by omega) (fun c_75 => ?_) (fun c_75 => ?_)
        · skip
          refine J_al0 dX7_set_83 ?_
          refine M_getR dX7_set_84 fl_X7_7 sh_79 rfl ?_
          refine J_il1 dX7_set_87 ?_
          refine M_ald dX7_set_88 sh_80 (by decide) (by omega) ?_
          refine J_iconst dX7_set_89 ?_
          refine J_cne (tgt := 98) dX7_set_90 rfl (by omega) (fun c_90 => ?_) (fun c_90 => ?_)
          · skip
            refine J_il3 dX7_set_98 ?_
            refine M_ast dX7_set_99 sh_82 (by decide) (by omega) ?_
            refine J_al0 dX7_set_100 ?_
            refine M_getR dX7_set_101 fl_X7_16 sh_79 rfl ?_
            refine J_bipush dX7_set_104 rfl ?_
            refine J_il1 dX7_set_106 ?_
            refine J_imul dX7_set_107 ?_
            refine J_il2 dX7_set_108 ?_
            refine J_iadd dX7_set_109 ?_
            refine M_ald dX7_set_110 sh_82 (by decide) (by omega) ?_
            refine M_iret dX7_set_111 rfl ?_
            refine fin m1 _ h1 hF1 (by omega) ef (by omega) ?_
            unfold putV
            first
            | rw [if_pos (by omega)]
            | rw [if_neg (by omega), if_pos (by omega)]
            | rw [if_neg (by omega), if_neg (by omega)]
          · skip
            refine J_il3 dX7_set_93 ?_
            refine J_i2s dX7_set_94 ?_
            refine J_goto (tgt := 99) dX7_set_95 rfl ?_
            refine M_ast dX7_set_99 sh_82 (by decide) (by omega) ?_
            refine J_al0 dX7_set_100 ?_
            refine M_getR dX7_set_101 fl_X7_16 sh_79 rfl ?_
            refine J_bipush dX7_set_104 rfl ?_
            refine J_il1 dX7_set_106 ?_
            refine J_imul dX7_set_107 ?_
            refine J_il2 dX7_set_108 ?_
            refine J_iadd dX7_set_109 ?_
            refine M_ald dX7_set_110 sh_82 (by decide) (by omega) ?_
            refine M_iret dX7_set_111 rfl ?_
            refine fin m1 _ h1 hF1 (by omega) ef (by omega) ?_
            unfold putV
            first
            | rw [if_pos (by omega)]
            | rw [if_neg (by omega), if_pos (by omega)]
            | rw [if_neg (by omega), if_neg (by omega)]
        · skip
          refine J_il3 dX7_set_78 ?_
          refine J_i2b dX7_set_79 ?_
          refine J_goto (tgt := 99) dX7_set_80 rfl ?_
          refine M_ast dX7_set_99 sh_82 (by decide) (by omega) ?_
          refine J_al0 dX7_set_100 ?_
          refine M_getR dX7_set_101 fl_X7_16 sh_79 rfl ?_
          refine J_bipush dX7_set_104 rfl ?_
          refine J_il1 dX7_set_106 ?_
          refine J_imul dX7_set_107 ?_
          refine J_il2 dX7_set_108 ?_
          refine J_iadd dX7_set_109 ?_
          refine M_ald dX7_set_110 sh_82 (by decide) (by omega) ?_
          refine M_iret dX7_set_111 rfl ?_
          refine fin m1 _ h1 hF1 (by omega) ef (by omega) ?_
          unfold putV
          first
          | rw [if_pos (by omega)]
          | rw [if_neg (by omega), if_pos (by omega)]
          | rw [if_neg (by omega), if_neg (by omega)]
      · skip
        refine J_al0 dX7_set_53 ?_
        refine J_iconst dX7_set_54 ?_
        refine M_cvI1 dX7_set_55 lk_X7_71 cw_X7_finding sh_79 rfl rfl k_mfinding (by decide) (Nat.le_of_ble_eq_true rfl) (fun v_55 mem_55 hq => ?_)
        obtain ⟨rfl, hq⟩ := hq; have hq := hq.symm; subst hq
        refine M_iret dX7_set_58 rfl ?_
        have ef : fndS S w i 1 = 2 := by unfold fndS; rw [if_neg (by omega), if_neg (by omega)]
        unfold sSet; rw [if_neg (by omega), ef, if_pos (by omega)]; exact ⟨rfl, h1.fnd 2, hF1.set (by omega)⟩
    · skip
      refine J_al0 dX7_set_29 ?_
      refine J_iconst dX7_set_30 ?_
      refine M_cvI1 dX7_set_31 lk_X7_71 cw_X7_finding sh_79 rfl rfl k_mfinding (by decide) (Nat.le_of_ble_eq_true rfl) (fun v_31 mem_31 hq => ?_)
      obtain ⟨rfl, hq⟩ := hq; have hq := hq.symm; subst hq
      refine M_iret dX7_set_34 rfl ?_
      have ef : fndS S w i 1 = 1 := by unfold fndS; rw [if_pos (by omega)]
      unfold sSet; rw [if_neg (by omega), ef, if_pos (by omega)]; exact ⟨rfl, h1.fnd 1, hF1.set (by omega)⟩
  · skip
    refine J_ldc (n := -1000001) dX7_set_12 co_X7_70 (by decide) ?_
    refine M_iret dX7_set_14 rfl ?_
    unfold sSet; rw [if_pos (by omega)]; exact ⟨rfl, h0, hF⟩
