theorem MB.ext2 {f g r : Int → Int} {L : List Int} (h : MB f r L) (hI : BInv r L) (e : ∀ x : Int, 0 ≤ x → x < 50 → g x = f x) : MB g r L := h.ext (by have := hI.len; have := hI.1; omega) hI.1.2 e
theorem kp_get {b : BN} {U : List BN} {i : Int} (i0 : 0 < i) (i1 : i < (kp b U).length) : lgb (kp b U) i = lgb U (i - 1) := by
  obtain ⟨k, rfl⟩ : ∃ k : Nat, i = (k : Int) + 1 := ⟨(i - 1).toNat, by omega⟩
  have h24 := kp_len b U
  unfold lgb kp
  rw [show ((k : Int) + 1).toNat = k + 1 by omega, show ((k : Int) + 1 - 1).toNat = k by omega, List.getD_eq_getElem?_getD, List.getElem?_take, if_pos (by omega), List.getElem?_cons_succ, List.getD_eq_getElem?_getD]
theorem kp_0 (b : BN) (U : List BN) : lgb (kp b U) 0 = b := rfl
theorem kp_l (b : BN) (U : List BN) : (kp b U).length = min 24 (U.length + 1) := by unfold kp; rw [List.length_take, List.length_cons]
theorem k_mkeep {mem : ZMem} {U : List BN} {b : BN} (hU : MU mem U) (hl : U.length ≤ 24) (hB : MB (mem 83) b.1 b.2) (hb : BInv b.1 b.2) (hUI : ∀ u ∈ U, BInv u.1 u.2) : CV mX7_keep 0 [zr 79] mem (fun mem' => MU mem' (kp b U) ∧ (∀ x : Int, x ≠ 9 → mem' 79 x = mem 79 x) ∧ ∀ q : Nat, q ≠ 79 → q ≠ 86 → mem' q = mem q) := by
  obtain ⟨u1, u2⟩ := hU
  have hmem : ∀ i : Int, 0 ≤ i → i < U.length → BInv (lgb U i).1 (lgb U i).2 := fun i i0 i1 => hUI _ (by
    unfold lgb
    rw [List.getD_eq_getElem?_getD, List.getElem?_eq_getElem (by omega)]
    exact List.getElem_mem _)
  have hkl := kp_l b U
  -- the second half: n pages stand, of which the i-th latest is lgb U i
  have half : ∀ (n : Nat) (m1 : ZMem), (n : Int) ≤ 23 → (kp b U).length = n + 1 → m1 79 9 = n → (∀ i : Int, 0 ≤ i → i < n → ∀ x : Int, 0 ≤ x → x < 50 → MB (fun y => m1 86 (50 * (n - 1 - i) + y)) (lgb U i).1 (lgb U i).2) → (∀ x : Int, x ≠ 9 → m1 79 x = mem 79 x) → (∀ q : Nat, q ≠ 79 → q ≠ 86 → m1 q = mem q) → ∀ (c : Nat) (k : Int) (m2 : ZMem), (c : Int) + k = 50 → 0 ≤ k → (∀ x : Int, 0 ≤ x → x < k → m2 86 (50 * n + x) = mem 83 x) → (∀ x : Int, x < 50 * n → m2 86 x = m1 86 x) → (∀ q : Nat, q ≠ 86 → m2 q = m1 q) → JM mX7_keep 0 (QV (fun mem' => MU mem' (kp b U) ∧ (∀ x : Int, x ≠ 9 → mem' 79 x = mem 79 x) ∧ ∀ q : Nat, q ≠ 79 → q ≠ 86 → mem' q = mem q)) 51 [zr 79, zi k] [] m2 := by
    intro n m1 hn hkn h9 hP h79 hq1 c
    induction c with
    | zero =>
      intro k m2 e0 k0 a1 a2 a3
      have d9 : m2 79 9 = n := by rw [a3 79 (by omega)]; exact h9
      refine J_il1 dX7_keep_51 ?_
      refine J_bipush dX7_keep_52 rfl ?_
      refine J_cge (tgt := 83) dX7_keep_54 rfl (by omega) (fun c_54 => ?_) (fun c_54 => ?_)
      · skip
        refine J_al0 dX7_keep_83 ?_
        refine J_dup dX7_keep_84 rfl ?_
        refine M_get (ki := 9) dX7_keep_85 fl_X7_149 sh_79 rfl rfl ?_
        refine J_iconst dX7_keep_88 ?_
        refine J_iadd dX7_keep_89 ?_
        refine M_put (ki := 9) dX7_keep_90 fl_X7_149 sh_79 rfl rfl rfl (fun r hr => by cases hr; rfl) ?_
        refine M_vret dX7_keep_93 rfl ?_
        refine ⟨⟨by rw [mset_s, d9, hkn]; omega, fun i i0 i1 => ?_⟩, fun x hx => by rw [mset_i hx, a3 79 (by omega)]; exact h79 x hx, fun q q1 q2 => by rw [mset_n q1, a3 q q2]; exact hq1 q q1 q2⟩
        rw [mset_n (by omega)]
        by_cases e : i = 0
        · subst e
          rw [kp_0]
          exact hB.ext2 hb (fun x x0 x1 => by show m2 86 (50 * (((kp b U).length : Nat) - 1 - 0) + x) = _; rw [hkn, show 50 * (((n + 1 : Nat) : Int) - 1 - 0) + x = 50 * n + x by omega]; exact a1 x x0 (by omega))
        · rw [kp_get (by omega) i1]
          refine (hP (i - 1) (by omega) (by omega) 0 (by omega) (by omega)).ext2 (hmem _ (by omega) (by omega)) (fun x x0 x1 => ?_)
          show m2 86 (50 * (((kp b U).length : Nat) - 1 - i) + x) = m1 86 (50 * (n - 1 - (i - 1)) + x)
          rw [hkn, a2 _ (by omega), show 50 * (((n + 1 : Nat) : Int) - 1 - i) + x = 50 * (n - 1 - (i - 1)) + x by omega]
      · skip
        omega
    | succ c ih =>
      intro k m2 e0 k0 a1 a2 a3
      have d9 : m2 79 9 = n := by rw [a3 79 (by omega)]; exact h9
      refine J_il1 dX7_keep_51 ?_
      refine J_bipush dX7_keep_52 rfl ?_
      refine J_cge (tgt := 83) dX7_keep_54 rfl (by omega) (fun c_54 => ?_) (fun c_54 => ?_)
      · skip
        omega
      · skip
        refine J_al0 dX7_keep_57 ?_
        refine M_getR dX7_keep_58 fl_X7_28 sh_79 rfl ?_
        refine J_bipush dX7_keep_61 rfl ?_
        refine J_al0 dX7_keep_63 ?_
        refine M_get (ki := 9) dX7_keep_64 fl_X7_149 sh_79 rfl rfl ?_
        rw [d9]
        refine J_imul dX7_keep_67 ?_
        refine J_il1 dX7_keep_68 ?_
        refine J_iadd dX7_keep_69 ?_
        refine J_al0 dX7_keep_70 ?_
        refine M_getR dX7_keep_71 fl_X7_19 sh_79 rfl ?_
        refine J_il1 dX7_keep_74 ?_
        refine M_ald dX7_keep_75 sh_83 (by decide) (by omega) ?_
        refine M_ast dX7_keep_76 sh_86 (by decide) (by omega) ?_
        refine J_inc1 dX7_keep_77 (by decide) rfl ?_
        refine J_goto (tgt := 51) dX7_keep_80 rfl ?_
        refine ih _ _ (by omega) (by omega) (fun x x0 x1 => ?_) (fun x hx => by rw [mset_i (by omega)]; exact a2 x hx) (fun q hq => by rw [mset_n hq]; exact a3 q hq)
        by_cases e : x = k
        · subst e; rw [mset_s, a3 83 (by omega), hq1 83 (by omega) (by omega)]
        · rw [mset_i (by omega)]; exact a1 x x0 (by omega)
  have shift : U.length = 24 → ∀ (c : Nat) (k : Int) (m2 : ZMem), (c : Int) + k = 1150 → 0 ≤ k → (∀ x : Int, 0 ≤ x → x < k → m2 86 x = mem 86 (x + 50)) → (∀ x : Int, k ≤ x → m2 86 x = mem 86 x) → (∀ q : Nat, q ≠ 86 → m2 q = mem q) → JM mX7_keep 0 (QV (fun mem' => MU mem' (kp b U) ∧ (∀ x : Int, x ≠ 9 → mem' 79 x = mem 79 x) ∧ ∀ q : Nat, q ≠ 79 → q ≠ 86 → mem' q = mem q)) 11 [zr 79, zi k] [] m2 := by
    intro h24 c
    induction c with
    | zero =>
      intro k m2 e0 k0 a1 a2 a3
      have d9 : m2 79 9 = 24 := by rw [a3 79 (by omega)]; omega
      refine J_il1 dX7_keep_11 ?_
      refine J_sipush dX7_keep_12 rfl ?_
      refine J_cge (tgt := 39) dX7_keep_15 rfl (by omega) (fun c_15 => ?_) (fun c_15 => ?_)
      · skip
        refine J_al0 dX7_keep_39 ?_
        refine J_dup dX7_keep_40 rfl ?_
        refine M_get (ki := 9) dX7_keep_41 fl_X7_149 sh_79 rfl rfl ?_
        refine J_iconst dX7_keep_44 ?_
        refine J_isub dX7_keep_45 ?_
        refine M_put (ki := 9) dX7_keep_46 fl_X7_149 sh_79 rfl rfl rfl (fun r hr => by cases hr; rfl) ?_
        rw [d9]
        refine J_iconst dX7_keep_49 ?_
        refine J_is1 dX7_keep_50 (by decide) rfl ?_
        refine half 23 (mset m2 79 9 (24 - 1)) (by omega) (by omega) (mset_s _ _ _ _) (fun i i0 i1 x x0 x1 => ?_) (fun x hx => by rw [mset_i hx, a3 79 (by omega)]) (fun q q1 q2 => by rw [mset_n q1]; exact a3 q q2) 50 0 _ (by omega) (by omega) (fun x x0 x1 => by omega) (fun x hx => rfl) (fun q hq => rfl)
        refine (u2 i i0 (by omega)).ext2 (hmem i i0 (by omega)) (fun y y0 y1 => ?_)
        show mset m2 79 9 (24 - 1) 86 (50 * (((23 : Nat) : Int) - 1 - i) + y) = mem 86 (50 * ((U.length : Nat) - 1 - i) + y)
        rw [mset_n (by omega), a1 _ (by omega) (by omega), h24, show 50 * (((23 : Nat) : Int) - 1 - i) + y + 50 = 50 * (((24 : Nat) : Int) - 1 - i) + y by omega]
      · skip
        omega
    | succ c ih =>
      intro k m2 e0 k0 a1 a2 a3
      refine J_il1 dX7_keep_11 ?_
      refine J_sipush dX7_keep_12 rfl ?_
      refine J_cge (tgt := 39) dX7_keep_15 rfl (by omega) (fun c_15 => ?_) (fun c_15 => ?_)
      · skip
        omega
      · skip
        refine J_al0 dX7_keep_18 ?_
        refine M_getR dX7_keep_19 fl_X7_28 sh_79 rfl ?_
        refine J_il1 dX7_keep_22 ?_
        refine J_al0 dX7_keep_23 ?_
        refine M_getR dX7_keep_24 fl_X7_28 sh_79 rfl ?_
        refine J_il1 dX7_keep_27 ?_
        refine J_bipush dX7_keep_28 rfl ?_
        refine J_iadd dX7_keep_30 ?_
        refine M_ald dX7_keep_31 sh_86 (by decide) (by omega) ?_
        refine M_ast dX7_keep_32 sh_86 (by decide) (by omega) ?_
        refine J_inc1 dX7_keep_33 (by decide) rfl ?_
        refine J_goto (tgt := 11) dX7_keep_36 rfl ?_
        refine ih _ _ (by omega) (by omega) (fun x x0 x1 => ?_) (fun x hx => by rw [mset_i (by omega)]; exact a2 x (by omega)) (fun q hq => by rw [mset_n hq]; exact a3 q hq)
        by_cases e : x = k
        · subst e; rw [mset_s, a2 _ (by omega)]
        · rw [mset_i e]; exact a1 x x0 (by omega)
  refine CM.of (by decide +kernel) ([zr 79, zu]) (zok_all rfl) (Nat.le_of_ble_eq_true rfl) rfl ?_
  refine J_al0 dX7_keep_0 ?_
  refine M_get (ki := 9) dX7_keep_1 fl_X7_149 sh_79 rfl rfl ?_
  refine J_bipush dX7_keep_4 rfl ?_
  refine J_cne (tgt := 49) dX7_keep_6 rfl (by omega) (fun c_6 => ?_) (fun c_6 => ?_)
  · skip
    refine J_iconst dX7_keep_49 ?_
    refine J_is1 dX7_keep_50 (by decide) rfl ?_
    exact half U.length mem (by omega) (by omega) u1 (fun i i0 i1 x x0 x1 => u2 i i0 i1) (fun x _ => rfl) (fun q _ _ => rfl) 50 0 mem (by omega) (by omega) (fun x x0 x1 => by omega) (fun x _ => rfl) (fun q _ => rfl)
  · skip
    refine J_iconst dX7_keep_9 ?_
    refine J_is1 dX7_keep_10 (by decide) rfl ?_
    exact shift (by omega) 1150 0 mem (by omega) (by omega) (fun x x0 x1 => by omega) (fun x _ => rfl) (fun _ _ => rfl)
