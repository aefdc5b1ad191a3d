/-! one bench becomes another -/
theorem isB_far {j k : Nat} (hj : isB j) (hk : isB k) (h : j ≠ k) : j + 7 ≤ k ∨ k + 7 ≤ j := by
  unfold isB at hj hk
  omega
theorem k_become {mem : ZMem} {j k : Nat} {r : Int → Int} {L : List Int} (hj : isB j) (hk : isB k) (hjk : j ≠ k) (hC : CB mem k r L) (hl : (L.length : Int) ≤ 7) (h3 : r 3 ≤ 7) (h5 : r 5 = 0 ∨ r 5 = 1) : CV mX2_become 0 [zr j, zr k] mem (fun mem' => CB mem' j r L ∧ FrB j mem mem') := by
  obtain ⟨⟨c0, c1, c2, c6, c7, c8, c9⟩, cO, cM⟩ := hC
  have hf := isB_far hj hk hjk
  have fin : ∀ (x : Int) (m2 : ZMem), 7 ≤ x → (∀ q, q < j ∨ j + 6 < q → m2 q = mem q) → (m2 j 0 = r 1 ∧ m2 j 1 = r 2 ∧ m2 j 2 = r 3 ∧ m2 j 6 = r 4 ∧ m2 j 7 = r 6 ∧ m2 j 8 = r 5 ∧ m2 j 9 = (L.length : Int)) → (∀ y, 0 ≤ y → y < x → m2 (j + 1) y = mem (k + 1) y ∧ m2 (j + 2) y = mem (k + 2) y ∧ m2 (j + 3) y = mem (k + 3) y ∧ m2 (j + 4) y = mem (k + 4) y ∧ m2 (j + 5) y = mem (k + 5) y ∧ m2 (j + 6) y = mem (k + 6) y) → CB m2 j r L ∧ FrB j mem m2 := by
    intro x m2 a0 a1 a2 a3
    refine ⟨⟨a2, fun p p0 p1 => ?_, fun m m0 m1 => ?_⟩, a1⟩
    · rw [(a3 p p0 (by omega)).2.2.2.1]; exact cO p p0 p1
    · obtain ⟨b1, b2, b3, b4, b5, b6⟩ := a3 m m0 (by omega)
      rw [b1, b2, b3, b5, b6]; exact cM m m0 m1
  have loop : ∀ (n : Nat) (x : Int) (m2 : ZMem), 0 ≤ x → x ≤ 7 → 7 - x ≤ n → (∀ q, q < j ∨ j + 6 < q → m2 q = mem q) → (m2 j 0 = r 1 ∧ m2 j 1 = r 2 ∧ m2 j 2 = r 3 ∧ m2 j 6 = r 4 ∧ m2 j 7 = r 6 ∧ m2 j 8 = r 5 ∧ m2 j 9 = (L.length : Int)) → (∀ y, 0 ≤ y → y < x → m2 (j + 1) y = mem (k + 1) y ∧ m2 (j + 2) y = mem (k + 2) y ∧ m2 (j + 3) y = mem (k + 3) y ∧ m2 (j + 4) y = mem (k + 4) y ∧ m2 (j + 5) y = mem (k + 5) y ∧ m2 (j + 6) y = mem (k + 6) y) → JM mX2_become 0 (QV (fun mem' => CB mem' j r L ∧ FrB j mem mem')) 58 [zr j, zr k, zi x] [] m2 := by
    intro n
    induction n with
    | zero =>
      intro x m2 a0 a1 a2 a3 a4 a5
      refine J_il2 dX2_become_58 ?_
      refine J_bipush dX2_become_59 rfl ?_
      refine J_cge (tgt := 142) dX2_become_61 rfl (by omega) (fun c_61 => ?_) (fun c_61 => ?_)
      · skip
        refine M_vret dX2_become_142 rfl ?_
        exact fin x m2 (by omega) a3 a4 a5
      · skip
        omega
    | succ n ih =>
      intro x m2 a0 a1 a2 a3 a4 a5
      refine J_il2 dX2_become_58 ?_
      refine J_bipush dX2_become_59 rfl ?_
      refine J_cge (tgt := 142) dX2_become_61 rfl (by omega) (fun c_61 => ?_) (fun c_61 => ?_)
      · skip
        refine M_vret dX2_become_142 rfl ?_
        exact fin x m2 (by omega) a3 a4 a5
      · skip
        refine J_al0 dX2_become_64 ?_
        refine M_getR dX2_become_65 fl_X2_21 (isB_sh hj) rfl ?_
        refine J_il2 dX2_become_68 ?_
        refine J_al1 dX2_become_69 ?_
        refine M_getR dX2_become_70 fl_X2_21 (isB_sh hk) rfl ?_
        refine J_il2 dX2_become_73 ?_
        refine M_ald dX2_become_74 (isB_a1 hk) (by decide) (by omega) ?_
        refine M_ast dX2_become_75 (isB_a1 hj) (by decide) (by omega) ?_
        refine J_al0 dX2_become_76 ?_
        refine M_getR dX2_become_77 fl_X2_25 (isB_sh hj) rfl ?_
        refine J_il2 dX2_become_80 ?_
        refine J_al1 dX2_become_81 ?_
        refine M_getR dX2_become_82 fl_X2_25 (isB_sh hk) rfl ?_
        refine J_il2 dX2_become_85 ?_
        refine M_ald dX2_become_86 (isB_a2 hk) (by decide) (by omega) ?_
        refine M_ast dX2_become_87 (isB_a2 hj) (by decide) (by omega) ?_
        refine J_al0 dX2_become_88 ?_
        refine M_getR dX2_become_89 fl_X2_28 (isB_sh hj) rfl ?_
        refine J_il2 dX2_become_92 ?_
        refine J_al1 dX2_become_93 ?_
        refine M_getR dX2_become_94 fl_X2_28 (isB_sh hk) rfl ?_
        refine J_il2 dX2_become_97 ?_
        refine M_ald dX2_become_98 (isB_a3 hk) (by decide) (by omega) ?_
        refine M_ast dX2_become_99 (isB_a3 hj) (by decide) (by omega) ?_
        refine J_al0 dX2_become_100 ?_
        refine M_getR dX2_become_101 fl_X2_44 (isB_sh hj) rfl ?_
        refine J_il2 dX2_become_104 ?_
        refine J_al1 dX2_become_105 ?_
        refine M_getR dX2_become_106 fl_X2_44 (isB_sh hk) rfl ?_
        refine J_il2 dX2_become_109 ?_
        refine M_ald dX2_become_110 (isB_a4 hk) (by decide) (by omega) ?_
        refine M_ast dX2_become_111 (isB_a4 hj) (by decide) (by omega) ?_
        refine J_al0 dX2_become_112 ?_
        refine M_getR dX2_become_113 fl_X2_47 (isB_sh hj) rfl ?_
        refine J_il2 dX2_become_116 ?_
        refine J_al1 dX2_become_117 ?_
        refine M_getR dX2_become_118 fl_X2_47 (isB_sh hk) rfl ?_
        refine J_il2 dX2_become_121 ?_
        refine M_ald dX2_become_122 (isB_a5 hk) (by decide) (by omega) ?_
        refine M_ast dX2_become_123 (isB_a5 hj) (by decide) (by omega) ?_
        refine J_al0 dX2_become_124 ?_
        refine M_getR dX2_become_125 fl_X2_50 (isB_sh hj) rfl ?_
        refine J_il2 dX2_become_128 ?_
        refine J_al1 dX2_become_129 ?_
        refine M_getR dX2_become_130 fl_X2_50 (isB_sh hk) rfl ?_
        refine J_il2 dX2_become_133 ?_
        refine M_ald dX2_become_134 (isB_a6 hk) (by decide) (by omega) ?_
        refine M_ast dX2_become_135 (isB_a6 hj) (by decide) (by omega) ?_
        refine J_inc2 dX2_become_136 (by decide) rfl ?_
        refine J_goto (tgt := 58) dX2_become_139 rfl ?_
        refine ih (x + 1) _ (by omega) (by omega) (by omega) (fun q hq => ?_) ?_ (fun y y0 y1 => ?_)
        · rw [mset_n (by omega), mset_n (by omega), mset_n (by omega), mset_n (by omega), mset_n (by omega), mset_n (by omega)]; exact a3 q hq
        · rw [mset_n (show j ≠ j + 6 by omega), mset_n (show j ≠ j + 5 by omega), mset_n (show j ≠ j + 4 by omega), mset_n (show j ≠ j + 3 by omega), mset_n (show j ≠ j + 2 by omega), mset_n (show j ≠ j + 1 by omega)]; exact a4
        · rw [mset_n (show j + 1 ≠ j + 6 by omega), mset_n (show j + 1 ≠ j + 5 by omega), mset_n (show j + 1 ≠ j + 4 by omega), mset_n (show j + 1 ≠ j + 3 by omega), mset_n (show j + 1 ≠ j + 2 by omega), mset_n (show j + 2 ≠ j + 6 by omega), mset_n (show j + 2 ≠ j + 5 by omega), mset_n (show j + 2 ≠ j + 4 by omega), mset_n (show j + 2 ≠ j + 3 by omega), mset_n (show j + 3 ≠ j + 6 by omega), mset_n (show j + 3 ≠ j + 5 by omega), mset_n (show j + 3 ≠ j + 4 by omega), mset_n (show j + 4 ≠ j + 6 by omega), mset_n (show j + 4 ≠ j + 5 by omega), mset_n (show j + 5 ≠ j + 6 by omega)]
          by_cases e : y = x
          · subst e
            simp only [mset_s]
            rw [mset_n (show k + 6 ≠ j + 5 by omega), mset_n (show k + 6 ≠ j + 4 by omega), mset_n (show k + 6 ≠ j + 3 by omega), mset_n (show k + 6 ≠ j + 2 by omega), mset_n (show k + 6 ≠ j + 1 by omega), mset_n (show k + 5 ≠ j + 4 by omega), mset_n (show k + 5 ≠ j + 3 by omega), mset_n (show k + 5 ≠ j + 2 by omega), mset_n (show k + 5 ≠ j + 1 by omega), mset_n (show k + 4 ≠ j + 3 by omega), mset_n (show k + 4 ≠ j + 2 by omega), mset_n (show k + 4 ≠ j + 1 by omega), mset_n (show k + 3 ≠ j + 2 by omega), mset_n (show k + 3 ≠ j + 1 by omega), mset_n (show k + 2 ≠ j + 1 by omega), a3 (k + 6) (by omega), a3 (k + 5) (by omega), a3 (k + 4) (by omega), a3 (k + 3) (by omega), a3 (k + 2) (by omega), a3 (k + 1) (by omega)]
            exact ⟨rfl, rfl, rfl, rfl, rfl, rfl⟩
          · rw [mset_i e, mset_i e, mset_i e, mset_i e, mset_i e, mset_i e, mset_n (show j + 6 ≠ j + 5 by omega), mset_n (show j + 6 ≠ j + 4 by omega), mset_n (show j + 6 ≠ j + 3 by omega), mset_n (show j + 6 ≠ j + 2 by omega), mset_n (show j + 6 ≠ j + 1 by omega), mset_n (show j + 5 ≠ j + 4 by omega), mset_n (show j + 5 ≠ j + 3 by omega), mset_n (show j + 5 ≠ j + 2 by omega), mset_n (show j + 5 ≠ j + 1 by omega), mset_n (show j + 4 ≠ j + 3 by omega), mset_n (show j + 4 ≠ j + 2 by omega), mset_n (show j + 4 ≠ j + 1 by omega), mset_n (show j + 3 ≠ j + 2 by omega), mset_n (show j + 3 ≠ j + 1 by omega), mset_n (show j + 2 ≠ j + 1 by omega)]
            exact a5 y y0 (by omega)
  refine CM.of (by decide +kernel) ([zr j, zr k, zu]) (zok_all rfl) (Nat.le_of_ble_eq_true rfl) rfl ?_
  refine J_al0 dX2_become_0 ?_
  refine J_al1 dX2_become_1 ?_
  refine M_get (ki := 0) dX2_become_2 fl_X2_9 (isB_sh hk) rfl rfl ?_
  refine M_put (ki := 0) dX2_become_5 fl_X2_9 (isB_sh hj) rfl rfl rfl (fun r hr => by cases hr; rfl) ?_
  refine J_al0 dX2_become_8 ?_
  refine J_al1 dX2_become_9 ?_
  refine M_get (ki := 1) dX2_become_10 fl_X2_15 (isB_sh hk) rfl rfl ?_
  refine M_put (ki := 1) dX2_become_13 fl_X2_15 (isB_sh hj) rfl rfl rfl (fun r hr => by cases hr; rfl) ?_
  refine J_al0 dX2_become_16 ?_
  refine J_al1 dX2_become_17 ?_
  refine M_get (ki := 2) dX2_become_18 fl_X2_18 (isB_sh hk) rfl rfl ?_
  refine M_put (ki := 2) dX2_become_21 fl_X2_18 (isB_sh hj) rfl rfl rfl (fun r hr => by cases hr; rfl) ?_
  refine J_al0 dX2_become_24 ?_
  refine J_al1 dX2_become_25 ?_
  refine M_get (ki := 6) dX2_become_26 fl_X2_31 (isB_sh hk) rfl rfl ?_
  refine M_put (ki := 6) dX2_become_29 fl_X2_31 (isB_sh hj) rfl rfl rfl (fun r hr => by cases hr; rfl) ?_
  refine J_al0 dX2_become_32 ?_
  refine J_al1 dX2_become_33 ?_
  refine M_get (ki := 7) dX2_become_34 fl_X2_34 (isB_sh hk) rfl rfl ?_
  refine M_put (ki := 7) dX2_become_37 fl_X2_34 (isB_sh hj) rfl rfl rfl (fun r hr => by cases hr; rfl) ?_
  refine J_al0 dX2_become_40 ?_
  refine J_al1 dX2_become_41 ?_
  refine M_get (ki := 8) dX2_become_42 fl_X2_37 (isB_sh hk) rfl rfl ?_
  refine M_putZ (ki := 8) dX2_become_45 fl_X2_37 (isB_sh hj) rfl rfl rfl (fun r hr => by cases hr; rfl) (by rw [mset_n (by omega), mset_n (by omega), mset_n (by omega), mset_n (by omega), mset_n (by omega), c8]; exact h5) ?_
  refine J_al0 dX2_become_48 ?_
  refine J_al1 dX2_become_49 ?_
  refine M_get (ki := 9) dX2_become_50 fl_X2_41 (isB_sh hk) rfl rfl ?_
  refine M_put (ki := 9) dX2_become_53 fl_X2_41 (isB_sh hj) rfl rfl rfl (fun r hr => by cases hr; rfl) ?_
  refine J_iconst dX2_become_56 ?_
  refine J_is2 dX2_become_57 (by decide) rfl ?_
  refine loop 7 0 _ (by omega) (by omega) (by omega) (fun q hq => ?_) ?_ (fun y y0 y1 => by omega)
  · rw [mset_n (by omega), mset_n (by omega), mset_n (by omega), mset_n (by omega), mset_n (by omega), mset_n (by omega), mset_n (by omega)]
  · refine ⟨?_, ?_, ?_, ?_, ?_, ?_, ?_⟩
    · rw [mset_i (by omega), mset_i (by omega), mset_i (by omega), mset_i (by omega), mset_i (by omega), mset_i (by omega), mset_s]; exact c0
    · rw [mset_i (by omega), mset_i (by omega), mset_i (by omega), mset_i (by omega), mset_i (by omega), mset_s, mset_n (by omega)]; exact c1
    · rw [mset_i (by omega), mset_i (by omega), mset_i (by omega), mset_i (by omega), mset_s, mset_n (by omega), mset_n (by omega)]; exact c2
    · rw [mset_i (by omega), mset_i (by omega), mset_i (by omega), mset_s, mset_n (by omega), mset_n (by omega), mset_n (by omega)]; exact c6
    · rw [mset_i (by omega), mset_i (by omega), mset_s, mset_n (by omega), mset_n (by omega), mset_n (by omega), mset_n (by omega)]; exact c7
    · rw [mset_i (by omega), mset_s, mset_n (by omega), mset_n (by omega), mset_n (by omega), mset_n (by omega), mset_n (by omega)]; exact c8
    · rw [mset_s, mset_n (by omega), mset_n (by omega), mset_n (by omega), mset_n (by omega), mset_n (by omega), mset_n (by omega)]; exact c9
