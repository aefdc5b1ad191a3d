theorem m_undo {mem : ZMem} {S : ZS} (hS : MS mem S) (hI : SInv S) : CI mX7_undo 0 [zr 79] mem (QM mem (sUndo S)) := by
  have h0 := hS.thr
  have hF : FrM mem (mset mem 79 0 0) := FrM.rf.set (by omega)
  have h24 := hI.2.2.1.1
  generalize hm : mset mem 79 0 0 = m0 at *
  obtain ⟨u1, u2⟩ := h0.2.2.2.1
  have loop : ¬ S.U.length = 0 → ∀ (c : Nat) (k : Int) (m2 : ZMem), (c : Int) + k = 50 → 0 ≤ k → m2 79 9 = (S.U.length : Int) - 1 → (∀ x : Int, x ≠ 9 → m2 79 x = m0 79 x) → (∀ x : Int, 0 ≤ x → x < k → m2 83 x = m0 86 (50 * ((S.U.length : Int) - 1) + x)) → (∀ q : Nat, q ≠ 79 → q ≠ 83 → m2 q = m0 q) → JM mX7_undo 0 (QI (QM mem (sUndo S))) 27 [zr 79, zi k] [] m2 := by
    intro hz c
    have hU : S.U = lgb S.U 0 :: S.U.tail := by
      cases hz2 : S.U with
      | nil => rw [hz2] at hz; exact absurd rfl hz
      | cons u U => rfl
    have hmu : lgb S.U 0 ∈ S.U := by rw [hU]; exact List.mem_cons_self
    obtain ⟨⟨o1, o2⟩, o3⟩ := hI.2.2.1.2 _ hmu
    have ht : S.U.tail.length = S.U.length - 1 := List.length_tail
    induction c with
    | zero =>
      intro k m2 e0 k0 a1 a2 a3 a4
      refine J_il1 dX7_undo_27 ?_
      refine J_bipush dX7_undo_28 rfl ?_
      refine J_cge (tgt := 59) dX7_undo_30 rfl (by omega) (fun c_30 => ?_) (fun c_30 => ?_)
      · skip
        refine J_al0 dX7_undo_59 ?_
        refine M_get (ki := 9) dX7_undo_60 fl_X7_149 sh_79 rfl rfl ?_
        refine M_iret dX7_undo_63 rfl ?_
        unfold sUndo; rw [if_neg hz]
        refine ⟨by rw [a1, ht]; omega, h0.bn ?_ ⟨by rw [a1, ht]; omega, fun i i0 i1 => ?_⟩ (fun x hx => a2 x (by omega)) (fun q q1 q2 q3 q4 q5 q6 q7 q8 => a4 q (by omega) q3), fun q hq => by rw [a4 q (by omega) (by omega)]; exact hF q hq⟩
        · refine (u2 0 (by omega) (by omega)).ext2 o1 (fun x x0 x1 => ?_)
          rw [a3 x x0 (by omega), show ((S.U.length : Int) - 1 - 0) = (S.U.length : Int) - 1 by omega]
        · have eg : lgb S.U.tail i = lgb S.U (i + 1) := by
            obtain ⟨k, rfl⟩ : ∃ k : Nat, i = (k : Int) := ⟨i.toNat, by omega⟩
            conv => rhs; rw [hU]
            unfold lgb
            rw [show ((k : Int) + 1).toNat = k + 1 by omega, Int.toNat_natCast]
            rfl
          rw [eg, a4 86 (by omega) (by omega)]
          have := u2 (i + 1) (by omega) (by omega)
          rw [show (S.U.length : Int) - 1 - (i + 1) = (S.U.tail.length : Int) - 1 - i by omega] at this
          exact this
      · skip
        omega
    | succ c ih =>
      intro k m2 e0 k0 a1 a2 a3 a4
      refine J_il1 dX7_undo_27 ?_
      refine J_bipush dX7_undo_28 rfl ?_
      refine J_cge (tgt := 59) dX7_undo_30 rfl (by omega) (fun c_30 => ?_) (fun c_30 => ?_)
      · skip
        omega
      · skip
        refine J_al0 dX7_undo_33 ?_
        refine M_getR dX7_undo_34 fl_X7_19 sh_79 rfl ?_
        refine J_il1 dX7_undo_37 ?_
        refine J_al0 dX7_undo_38 ?_
        refine M_getR dX7_undo_39 fl_X7_28 sh_79 rfl ?_
        refine J_bipush dX7_undo_42 rfl ?_
        refine J_al0 dX7_undo_44 ?_
        refine M_get (ki := 9) dX7_undo_45 fl_X7_149 sh_79 rfl rfl ?_
        rw [a1]
        refine J_imul dX7_undo_48 ?_
        refine J_il1 dX7_undo_49 ?_
        refine J_iadd dX7_undo_50 ?_
        refine M_ald dX7_undo_51 sh_86 (by decide) (by omega) ?_
        refine M_ast dX7_undo_52 sh_83 (by decide) (by omega) ?_
        refine J_inc1 dX7_undo_53 (by decide) rfl ?_
        refine J_goto (tgt := 27) dX7_undo_56 rfl ?_
        refine ih _ _ (by omega) (by omega) (by rw [mset_n (by omega)]; exact a1) (fun x hx => by rw [mset_n (by omega)]; exact a2 x hx) (fun x x0 x1 => ?_) (fun q q1 q2 => by rw [mset_n q2]; exact a4 q q1 q2)
        by_cases e : x = k
        · subst e; rw [mset_s, a4 86 (by omega) (by omega)]
        · rw [mset_i e]; exact a3 x x0 (by omega)
  refine CM.of (by decide +kernel) ([zr 79, zu]) (zok_all rfl) (Nat.le_of_ble_eq_true rfl) rfl ?_
  refine J_al0 dX7_undo_0 ?_
  refine J_iconst dX7_undo_1 ?_
  refine M_put (ki := 0) dX7_undo_2 fl_X7_50 sh_79 rfl rfl rfl (fun r hr => by cases hr; rfl) ?_
  rw [hm]
  refine J_al0 dX7_undo_5 ?_
  refine M_get (ki := 9) dX7_undo_6 fl_X7_149 sh_79 rfl rfl ?_
  refine J_ifne (tgt := 15) dX7_undo_9 rfl (by omega) (fun c_9 => ?_) (fun c_9 => ?_)
  · skip
    refine J_al0 dX7_undo_15 ?_
    refine J_dup dX7_undo_16 rfl ?_
    refine M_get (ki := 9) dX7_undo_17 fl_X7_149 sh_79 rfl rfl ?_
    refine J_iconst dX7_undo_20 ?_
    refine J_isub dX7_undo_21 ?_
    refine M_put (ki := 9) dX7_undo_22 fl_X7_149 sh_79 rfl rfl rfl (fun r hr => by cases hr; rfl) ?_
    refine J_iconst dX7_undo_25 ?_
    refine J_is1 dX7_undo_26 (by decide) rfl ?_
    exact loop (by omega) 50 0 _ (by omega) (by omega) (by rw [mset_s]; omega) (fun x hx => mset_i hx) (fun x x0 x1 => by omega) (fun q q1 q2 => mset_n q1)
  · skip
    refine J_ldc (n := -1000002) dX7_undo_12 co_X7_189 (by decide) ?_
    refine M_iret dX7_undo_14 rfl ?_
    unfold sUndo; rw [if_pos (by omega)]; exact ⟨rfl, h0, hF⟩
