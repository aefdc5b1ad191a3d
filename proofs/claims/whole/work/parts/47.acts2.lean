theorem k_takeBack {mem : ZMem} {b : BN} {U : List BN} {r : Int → Int} {L : List Int} (h : AcC mem (b :: U)) (hC : CB mem 16 r L) (hs : Stat r b.1) (hl : (b.2.length : Int) ≤ 7) (h3 : r 3 ≤ 7) (h5 : b.1 5 = 0 ∨ b.1 5 = 1) : CV mX0_takeBack 1 [zr 23, zr 16] mem (fun mem' => AcC mem' U ∧ CB mem' 16 b.1 b.2 ∧ ∀ q, q ≠ 23 → (q < 16 ∨ 22 < q) → mem' q = mem q) := by
  obtain ⟨u1, u2, u3, u4⟩ := h
  rw [List.length_cons] at u1 u2
  obtain ⟨⟨c0, c1, c2, c6, c7, c8, c9⟩, cO, cM⟩ := hC
  have hp0 : PgC mem (pgi (mem 23 1) 0) b := u4 0 (by omega) (by rw [List.length_cons]; omega)
  have hu : ∀ i : Int, 0 ≤ i → i < U.length → PgC mem (pgi (mem 23 1) (i + 1)) (lgb U i) := fun i i0 i1 => by
    have q := u4 (i + 1) (by omega) (by rw [List.length_cons]; omega)
    have e : lgb (b :: U) (i + 1) = lgb U i := by
      unfold lgb
      rw [show (i + 1).toNat = i.toNat + 1 by omega]
      rfl
    rw [e] at q
    exact q
  have hpp : 25 ≤ pgi (mem 23 1) 0 ∧ pgi (mem 23 1) 0 ≤ 48 := by unfold pgi; omega
  have ep : (25 + (mem 23 1 + 24 - 1) % 24).toNat = pgi (mem 23 1) 0 := by unfold pgi; omega
  have hPs : shl[pgi (mem 23 1) 0]? = some (.inr (0, 25, 0)) := ep ▸ pages_sh (by omega)
  generalize hP : pgi (mem 23 1) 0 = P at *
  obtain ⟨⟨p0, p1, p2, p3⟩, pO, pM⟩ := hp0
  obtain ⟨s1, s2, s3, s4⟩ := hs
  have k44 : ∀ (m1 : ZMem), (∀ q, q ≠ 23 → m1 q = mem q) → m1 23 1 = (mem 23 1 + 24 - 1) % 24 → m1 23 2 = (U.length : Int) → JM mX0_takeBack 1 (QV (fun mem' => AcC mem' U ∧ CB mem' 16 b.1 b.2 ∧ ∀ q, q ≠ 23 → (q < 16 ∨ 22 < q) → mem' q = mem q)) 44 [zr 23, zr 16, zr P] [] m1 := by
    intro m1 a0 a1 a2
    have eP : m1 P = mem P := a0 P (by omega)
    have e16 : m1 16 = mem 16 := a0 16 (by omega)
    have fin : ∀ (m2 : ZMem), (∀ q, q < 16 ∨ 22 < q → m2 q = m1 q) → m2 17 = m1 17 → m2 18 = m1 18 → m2 19 = m1 19 → (∀ i, i < 6 → m2 16 i = m1 16 i) → m2 16 6 = b.1 4 → m2 16 7 = b.1 6 → m2 16 8 = b.1 5 → m2 16 9 = (b.2.length : Int) → (∀ x, 0 ≤ x → x < 7 → m2 20 x = mem P (4 + x) ∧ m2 21 x = mem P (11 + x) ∧ m2 22 x = mem P (18 + x)) → AcC m2 U ∧ CB m2 16 b.1 b.2 ∧ ∀ q, q ≠ 23 → (q < 16 ∨ 22 < q) → m2 q = mem q := by
      intro m2 b0 b17 b18 b19 b16 b6 b7 b8 b9 bx
      refine ⟨⟨?_, by omega, ?_, fun i i0 i1 => ?_⟩, ⟨?_, fun p q0 q1 => ?_, fun m m0 m1' => ?_⟩, fun q q1 q2 => (b0 q q2).trans (a0 q q1)⟩
      · rw [b0 23 (by omega), a2]
      · rw [b0 23 (by omega), a1]; omega
      · rw [b0 23 (by omega), a1]
        have e : pgi ((mem 23 1 + 24 - 1) % 24) i = pgi (mem 23 1) (i + 1) := by unfold pgi; omega
        rw [e]
        have hq := hu i i0 i1
        have h1 : 25 ≤ pgi (mem 23 1) (i + 1) := by unfold pgi; omega
        unfold PgC at hq ⊢
        rw [b0 _ (by omega), a0 _ (by omega)]
        exact hq
      · rw [b16 0 (by omega), b16 1 (by omega), b16 2 (by omega), e16]
        exact ⟨c0.trans s1.symm, c1.trans s2.symm, c2.trans s3.symm, b6, b7, b8, b9⟩
      · show m2 20 p = _
        rw [(bx p q0 (by omega)).1]; exact pO p q0 q1
      · show m2 17 m = _ ∧ m2 18 m = _ ∧ m2 19 m = _ ∧ m2 21 m = _ ∧ m2 22 m = _
        have hm := cM m m0 (by omega)
        have hs := s4 m m0
        rw [b17, b18, b19, a0 17 (by omega), a0 18 (by omega), a0 19 (by omega), (bx m m0 (by omega)).2.1, (bx m m0 (by omega)).2.2, hs.1, hs.2.1, hs.2.2]
        exact ⟨hm.1, hm.2.1, hm.2.2.1, (pM m m0 m1').1, (pM m m0 m1').2⟩
    refine J_al1 dX0_takeBack_44 ?_
    refine J_al2 dX0_takeBack_45 ?_
    refine J_iconst dX0_takeBack_46 ?_
    refine M_ald dX0_takeBack_47 hPs (by decide) (by omega) ?_
    refine M_put (ki := 6) dX0_takeBack_48 fl_X0_23 sh_16 rfl rfl rfl (fun r hr => by cases hr; rfl) ?_
    refine J_al1 dX0_takeBack_51 ?_
    refine J_al2 dX0_takeBack_52 ?_
    refine J_iconst dX0_takeBack_53 ?_
    refine M_ald dX0_takeBack_54 hPs (by decide) (by omega) ?_
    refine M_put (ki := 7) dX0_takeBack_55 fl_X0_28 sh_16 rfl rfl rfl (fun r hr => by cases hr; rfl) ?_
    refine J_al1 dX0_takeBack_58 ?_
    refine J_al2 dX0_takeBack_59 ?_
    refine J_iconst dX0_takeBack_60 ?_
    refine M_ald dX0_takeBack_61 hPs (by decide) (by omega) ?_
    refine J_iconst dX0_takeBack_62 ?_
    refine J_cne (tgt := 70) dX0_takeBack_63 rfl (by rw [mset_n (by omega), mset_n (by omega), eP, p2]; omega) (fun c_63 => ?_) (fun c_63 => ?_)
    · skip
      refine J_iconst dX0_takeBack_70 ?_
      refine M_putZ (ki := 8) dX0_takeBack_71 fl_X0_31 sh_16 rfl rfl rfl (fun r hr => by cases hr; rfl) (by decide) ?_
      refine J_al1 dX0_takeBack_74 ?_
      refine J_al2 dX0_takeBack_75 ?_
      refine J_iconst dX0_takeBack_76 ?_
      refine M_ald dX0_takeBack_77 hPs (by decide) (by omega) ?_
      refine M_put (ki := 9) dX0_takeBack_78 fl_X0_35 sh_16 rfl rfl rfl (fun r hr => by cases hr; rfl) ?_
      refine J_al2 dX0_takeBack_81 ?_
      refine J_iconst dX0_takeBack_82 ?_
      refine J_al1 dX0_takeBack_83 ?_
      refine M_getR dX0_takeBack_84 fl_X0_38 sh_16 rfl ?_
      refine J_iconst dX0_takeBack_87 ?_
      refine J_bipush dX0_takeBack_88 rfl ?_
      refine M_copy dX0_takeBack_90 lk_X0_42 hPs sh_20 (by decide) (by decide) (by omega) (by decide) (Nat.le_of_ble_eq_true rfl) ?_
      refine J_al2 dX0_takeBack_93 ?_
      refine J_bipush dX0_takeBack_94 rfl ?_
      refine J_al1 dX0_takeBack_96 ?_
      refine M_getR dX0_takeBack_97 fl_X0_48 sh_16 rfl ?_
      refine J_iconst dX0_takeBack_100 ?_
      refine J_bipush dX0_takeBack_101 rfl ?_
      refine M_copy dX0_takeBack_103 lk_X0_42 hPs sh_21 (by decide) (by decide) (by omega) (by decide) (Nat.le_of_ble_eq_true rfl) ?_
      refine J_al2 dX0_takeBack_106 ?_
      refine J_bipush dX0_takeBack_107 rfl ?_
      refine J_al1 dX0_takeBack_109 ?_
      refine M_getR dX0_takeBack_110 fl_X0_51 sh_16 rfl ?_
      refine J_iconst dX0_takeBack_113 ?_
      refine J_bipush dX0_takeBack_114 rfl ?_
      refine M_copy dX0_takeBack_116 lk_X0_42 hPs sh_22 (by decide) (by decide) (by omega) (by decide) (Nat.le_of_ble_eq_true rfl) ?_
      refine M_vret dX0_takeBack_119 rfl ?_
      rw [mset_n (show P ≠ 16 by omega), mset_n (show P ≠ 16 by omega), eP, p2] at c_63
      refine fin _ (fun q hq => ?_) ?_ ?_ ?_ (fun i hi => ?_) ?_ ?_ ?_ ?_ (fun x x0 x1 => ⟨?_, ?_, ?_⟩)
      · rw [mrow_n (by omega), mrow_n (by omega), mrow_n (by omega), mset_n (by omega), mset_n (by omega), mset_n (by omega), mset_n (by omega)]
      · rw [mrow_n (by omega), mrow_n (by omega), mrow_n (by omega), mset_n (by omega), mset_n (by omega), mset_n (by omega), mset_n (by omega)]
      · rw [mrow_n (by omega), mrow_n (by omega), mrow_n (by omega), mset_n (by omega), mset_n (by omega), mset_n (by omega), mset_n (by omega)]
      · rw [mrow_n (by omega), mrow_n (by omega), mrow_n (by omega), mset_n (by omega), mset_n (by omega), mset_n (by omega), mset_n (by omega)]
      · rw [mrow_n (by omega), mrow_n (by omega), mrow_n (by omega), mset_i (by omega), mset_i (by omega), mset_i (by omega), mset_i (by omega)]
      · rw [mrow_n (by omega), mrow_n (by omega), mrow_n (by omega), mset_i (by omega), mset_i (by omega), mset_i (by omega), mset_s, eP, p0]
      · rw [mrow_n (by omega), mrow_n (by omega), mrow_n (by omega), mset_i (by omega), mset_i (by omega), mset_s, mset_n (by omega), eP, p1]
      · rw [mrow_n (by omega), mrow_n (by omega), mrow_n (by omega), mset_i (by omega), mset_s]; omega
      · rw [mrow_n (by omega), mrow_n (by omega), mrow_n (by omega), mset_s, mset_n (by omega), mset_n (by omega), mset_n (by omega), eP, p3]
      · rw [mrow_n (show 20 ≠ 22 by omega), mrow_n (show 20 ≠ 21 by omega), mrow_s]
        unfold zcpy
        rw [if_pos (by omega), mset_n (by omega), mset_n (by omega), mset_n (by omega), mset_n (by omega), eP]
        congr 1
        omega
      · rw [mrow_n (show 21 ≠ 22 by omega), mrow_s]
        unfold zcpy
        rw [if_pos (by omega), mrow_n (by omega), mset_n (by omega), mset_n (by omega), mset_n (by omega), mset_n (by omega), eP]
        congr 1
        omega
      · rw [mrow_s]
        unfold zcpy
        rw [if_pos (by omega), mrow_n (by omega), mrow_n (by omega), mset_n (by omega), mset_n (by omega), mset_n (by omega), mset_n (by omega), eP]
        congr 1
        omega
    · skip
      refine J_iconst dX0_takeBack_66 ?_
      refine J_goto (tgt := 71) dX0_takeBack_67 rfl ?_
      refine M_putZ (ki := 8) dX0_takeBack_71 fl_X0_31 sh_16 rfl rfl rfl (fun r hr => by cases hr; rfl) (by decide) ?_
      refine J_al1 dX0_takeBack_74 ?_
      refine J_al2 dX0_takeBack_75 ?_
      refine J_iconst dX0_takeBack_76 ?_
      refine M_ald dX0_takeBack_77 hPs (by decide) (by omega) ?_
      refine M_put (ki := 9) dX0_takeBack_78 fl_X0_35 sh_16 rfl rfl rfl (fun r hr => by cases hr; rfl) ?_
      refine J_al2 dX0_takeBack_81 ?_
      refine J_iconst dX0_takeBack_82 ?_
      refine J_al1 dX0_takeBack_83 ?_
      refine M_getR dX0_takeBack_84 fl_X0_38 sh_16 rfl ?_
      refine J_iconst dX0_takeBack_87 ?_
      refine J_bipush dX0_takeBack_88 rfl ?_
      refine M_copy dX0_takeBack_90 lk_X0_42 hPs sh_20 (by decide) (by decide) (by omega) (by decide) (Nat.le_of_ble_eq_true rfl) ?_
      refine J_al2 dX0_takeBack_93 ?_
      refine J_bipush dX0_takeBack_94 rfl ?_
      refine J_al1 dX0_takeBack_96 ?_
      refine M_getR dX0_takeBack_97 fl_X0_48 sh_16 rfl ?_
      refine J_iconst dX0_takeBack_100 ?_
      refine J_bipush dX0_takeBack_101 rfl ?_
      refine M_copy dX0_takeBack_103 lk_X0_42 hPs sh_21 (by decide) (by decide) (by omega) (by decide) (Nat.le_of_ble_eq_true rfl) ?_
      refine J_al2 dX0_takeBack_106 ?_
      refine J_bipush dX0_takeBack_107 rfl ?_
      refine J_al1 dX0_takeBack_109 ?_
      refine M_getR dX0_takeBack_110 fl_X0_51 sh_16 rfl ?_
      refine J_iconst dX0_takeBack_113 ?_
      refine J_bipush dX0_takeBack_114 rfl ?_
      refine M_copy dX0_takeBack_116 lk_X0_42 hPs sh_22 (by decide) (by decide) (by omega) (by decide) (Nat.le_of_ble_eq_true rfl) ?_
      refine M_vret dX0_takeBack_119 rfl ?_
      rw [mset_n (show P ≠ 16 by omega), mset_n (show P ≠ 16 by omega), eP, p2] at c_63
      refine fin _ (fun q hq => ?_) ?_ ?_ ?_ (fun i hi => ?_) ?_ ?_ ?_ ?_ (fun x x0 x1 => ⟨?_, ?_, ?_⟩)
      · rw [mrow_n (by omega), mrow_n (by omega), mrow_n (by omega), mset_n (by omega), mset_n (by omega), mset_n (by omega), mset_n (by omega)]
      · rw [mrow_n (by omega), mrow_n (by omega), mrow_n (by omega), mset_n (by omega), mset_n (by omega), mset_n (by omega), mset_n (by omega)]
      · rw [mrow_n (by omega), mrow_n (by omega), mrow_n (by omega), mset_n (by omega), mset_n (by omega), mset_n (by omega), mset_n (by omega)]
      · rw [mrow_n (by omega), mrow_n (by omega), mrow_n (by omega), mset_n (by omega), mset_n (by omega), mset_n (by omega), mset_n (by omega)]
      · rw [mrow_n (by omega), mrow_n (by omega), mrow_n (by omega), mset_i (by omega), mset_i (by omega), mset_i (by omega), mset_i (by omega)]
      · rw [mrow_n (by omega), mrow_n (by omega), mrow_n (by omega), mset_i (by omega), mset_i (by omega), mset_i (by omega), mset_s, eP, p0]
      · rw [mrow_n (by omega), mrow_n (by omega), mrow_n (by omega), mset_i (by omega), mset_i (by omega), mset_s, mset_n (by omega), eP, p1]
      · rw [mrow_n (by omega), mrow_n (by omega), mrow_n (by omega), mset_i (by omega), mset_s]; omega
      · rw [mrow_n (by omega), mrow_n (by omega), mrow_n (by omega), mset_s, mset_n (by omega), mset_n (by omega), mset_n (by omega), eP, p3]
      · rw [mrow_n (show 20 ≠ 22 by omega), mrow_n (show 20 ≠ 21 by omega), mrow_s]
        unfold zcpy
        rw [if_pos (by omega), mset_n (by omega), mset_n (by omega), mset_n (by omega), mset_n (by omega), eP]
        congr 1
        omega
      · rw [mrow_n (show 21 ≠ 22 by omega), mrow_s]
        unfold zcpy
        rw [if_pos (by omega), mrow_n (by omega), mset_n (by omega), mset_n (by omega), mset_n (by omega), mset_n (by omega), eP]
        congr 1
        omega
      · rw [mrow_s]
        unfold zcpy
        rw [if_pos (by omega), mrow_n (by omega), mrow_n (by omega), mset_n (by omega), mset_n (by omega), mset_n (by omega), mset_n (by omega), eP]
        congr 1
        omega
  refine CM.of (by decide +kernel) ([zr 23, zr 16, zu]) (zok_all rfl) (Nat.le_of_ble_eq_true rfl) rfl ?_
  refine J_al0 dX0_takeBack_0 ?_
  refine M_get (ki := 2) dX0_takeBack_1 fl_X0_20 sh_23 rfl rfl ?_
  refine J_ifne (tgt := 8) dX0_takeBack_4 rfl (by omega) (fun c_4 => ?_) (fun c_4 => ?_)
  · skip
    refine J_al0 dX0_takeBack_8 ?_
    refine J_dup dX0_takeBack_9 rfl ?_
    refine M_get (ki := 2) dX0_takeBack_10 fl_X0_20 sh_23 rfl rfl ?_
    refine J_iconst dX0_takeBack_13 ?_
    refine J_isub dX0_takeBack_14 ?_
    refine M_put (ki := 2) dX0_takeBack_15 fl_X0_20 sh_23 rfl rfl rfl (fun r hr => by cases hr; rfl) ?_
    refine J_al0 dX0_takeBack_18 ?_
    refine J_al0 dX0_takeBack_19 ?_
    refine M_get (ki := 1) dX0_takeBack_20 fl_X0_16 sh_23 rfl rfl ?_
    rw [mset_i (show (1 : Int) ≠ 2 by omega)]
    refine J_bipush dX0_takeBack_23 rfl ?_
    refine J_iadd dX0_takeBack_25 ?_
    refine J_iconst dX0_takeBack_26 ?_
    refine J_isub dX0_takeBack_27 ?_
    refine J_bipush dX0_takeBack_28 rfl ?_
    refine J_irem dX0_takeBack_30 (by omega) ?_
    refine M_put (ki := 1) dX0_takeBack_31 fl_X0_16 sh_23 rfl rfl rfl (fun r hr => by cases hr; rfl) ?_
    refine J_al0 dX0_takeBack_34 ?_
    refine M_getR dX0_takeBack_35 fl_X0_13 sh_23 rfl ?_
    refine J_al0 dX0_takeBack_38 ?_
    refine M_get (ki := 1) dX0_takeBack_39 fl_X0_16 sh_23 rfl rfl ?_
    rw [mset_s]
    refine M_aald dX0_takeBack_42 sh_24 (by decide) (by omega) ?_
    rw [ep]
    refine J_as2 dX0_takeBack_43 (by decide) rfl ?_
    exact k44 _ (fun q hq => by rw [mset_n hq, mset_n hq]) (mset_s _ _ _ _) (by rw [mset_i (by omega), mset_s]; omega)
  · skip
    omega
