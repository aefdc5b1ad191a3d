/-! THE CLASS'S ROWS -/
theorem k_isMissing {mem : ZMem} {w : Int} (hw : 0 ≤ w ∧ w < 8) (h : mem 2 w = 0 ∨ mem 2 w = 1) : CI mX4_isMissing 0 [zr 1, zi w] mem (fun v mem' => v = bi (mem 2 w = 0) ∧ mem' = mem) := by
  refine CM.of (by decide +kernel) ([zr 1, zi w]) (zok_all rfl) (Nat.le_of_ble_eq_true rfl) rfl ?_
  refine J_al0 dX4_isMissing_0 ?_
  refine M_getR dX4_isMissing_1 fl_X4_9 sh_1 rfl ?_
  refine J_il1 dX4_isMissing_4 ?_
  refine M_zald dX4_isMissing_5 sh_2 (by decide) (by omega) ?_
  refine J_ifne (tgt := 13) dX4_isMissing_6 rfl (by omega) (fun c_6 => ?_) (fun c_6 => ?_)
  · skip
    refine J_iconst dX4_isMissing_13 ?_
    refine M_zret dX4_isMissing_14 rfl (by decide) ?_
    exact ⟨(bi_f (by omega)).symm, rfl⟩
  · skip
    refine J_iconst dX4_isMissing_9 ?_
    refine J_goto (tgt := 14) dX4_isMissing_10 rfl ?_
    refine M_zret dX4_isMissing_14 rfl (by decide) ?_
    exact ⟨(bi_t (by omega)).symm, rfl⟩
theorem k_laneOf {mem : ZMem} {w : Int} (hw : 0 ≤ w ∧ w < 8) : CI mX4_laneOf 0 [zr 1, zi w] mem (fun v mem' => v = mem 3 w ∧ mem' = mem) := by
  refine CM.of (by decide +kernel) ([zr 1, zi w]) (zok_all rfl) (Nat.le_of_ble_eq_true rfl) rfl ?_
  refine J_al0 dX4_laneOf_0 ?_
  refine M_getR dX4_laneOf_1 fl_X4_13 sh_1 rfl ?_
  refine J_il1 dX4_laneOf_4 ?_
  refine M_ald dX4_laneOf_5 sh_3 (by decide) (by omega) ?_
  refine M_iret dX4_laneOf_6 rfl ?_
  exact ⟨rfl, rfl⟩
theorem k_remove {mem : ZMem} {w : Int} (hw : 0 ≤ w ∧ w < 8) : CI mX4_remove 0 [zr 1, zi w] mem (fun v mem' => v = mem 4 w ∧ mem' = mset mem 2 w 0) := by
  refine CM.of (by decide +kernel) ([zr 1, zi w]) (zok_all rfl) (Nat.le_of_ble_eq_true rfl) rfl ?_
  refine J_al0 dX4_remove_0 ?_
  refine M_getR dX4_remove_1 fl_X4_9 sh_1 rfl ?_
  refine J_il1 dX4_remove_4 ?_
  refine J_iconst dX4_remove_5 ?_
  refine M_zast dX4_remove_6 sh_2 (by decide) (by omega) (by decide) ?_
  refine J_al0 dX4_remove_7 ?_
  refine M_getR dX4_remove_8 fl_X4_17 sh_1 rfl ?_
  refine J_il1 dX4_remove_11 ?_
  refine M_ald dX4_remove_12 sh_4 (by decide) (by omega) ?_
  refine M_iret dX4_remove_13 rfl ?_
  exact ⟨by rw [mset_n (by omega)], rfl⟩
theorem k_reaches {mem : ZMem} {w i n : Int} (hw : 0 ≤ w ∧ w < 8) (hi : -2147483648 ≤ i ∧ i < 2147483648) (hn : -2147483648 ≤ n ∧ n < 2147483648) (h4 : 0 ≤ mem 4 w ∧ mem 4 w ≤ 40) : CI mX4_reaches 0 [zr 1, zi w, zi i, zi n] mem (fun v mem' => v = bi (0 ≤ i ∧ 0 ≤ n ∧ i ≤ mem 4 w - n) ∧ mem' = mem) := by
  refine CM.of (by decide +kernel) ([zr 1, zi w, zi i, zi n]) (zok_all rfl) (Nat.le_of_ble_eq_true rfl) rfl ?_
  refine J_il2 dX4_reaches_0 ?_
  refine J_iflt (tgt := 24) dX4_reaches_1 rfl (by omega) (fun c_1 => ?_) (fun c_1 => ?_)
  · skip
    refine J_iconst dX4_reaches_24 ?_
    refine M_zret dX4_reaches_25 rfl (by decide) ?_
    exact ⟨(bi_f (by omega)).symm, rfl⟩
  · skip
    refine J_il3 dX4_reaches_4 ?_
    refine J_iflt (tgt := 24) dX4_reaches_5 rfl (by omega) (fun c_5 => ?_) (fun c_5 => ?_)
    · skip
      refine J_iconst dX4_reaches_24 ?_
      refine M_zret dX4_reaches_25 rfl (by decide) ?_
      exact ⟨(bi_f (by omega)).symm, rfl⟩
    · skip
      refine J_il2 dX4_reaches_8 ?_
      refine J_al0 dX4_reaches_9 ?_
      refine M_getR dX4_reaches_10 fl_X4_17 sh_1 rfl ?_
      refine J_il1 dX4_reaches_13 ?_
      refine M_ald dX4_reaches_14 sh_4 (by decide) (by omega) ?_
      refine J_il3 dX4_reaches_15 ?_
      refine J_isub dX4_reaches_16 ?_
      refine J_cgt (tgt := 24) dX4_reaches_17 rfl (by omega) (fun c_17 => ?_) (fun c_17 => ?_)
      · skip
        refine J_iconst dX4_reaches_24 ?_
        refine M_zret dX4_reaches_25 rfl (by decide) ?_
        exact ⟨(bi_f (by omega)).symm, rfl⟩
      · skip
        refine J_iconst dX4_reaches_20 ?_
        refine J_goto (tgt := 25) dX4_reaches_21 rfl ?_
        refine M_zret dX4_reaches_25 rfl (by decide) ?_
        exact ⟨(bi_t (by omega)).symm, rfl⟩
theorem k_item {mem : ZMem} {w i : Int} (hw : 0 ≤ w ∧ w < 8) (hi : 0 ≤ i ∧ i < 40) : CI mX4_item 0 [zr 1, zi w, zi i] mem (fun v mem' => v = mem (6 + w).toNat i ∧ mem' = mem) := by
  refine CM.of (by decide +kernel) ([zr 1, zi w, zi i]) (zok_all rfl) (Nat.le_of_ble_eq_true rfl) rfl ?_
  refine J_al0 dX4_item_0 ?_
  refine M_getR dX4_item_1 fl_X4_22 sh_1 rfl ?_
  refine J_il1 dX4_item_4 ?_
  refine M_aald dX4_item_5 sh_5 (by decide) (by omega) ?_
  refine J_il2 dX4_item_6 ?_
  refine M_ald dX4_item_7 (items_sh (by omega)) (by decide) (by omega) ?_
  refine M_iret dX4_item_8 rfl ?_
  exact ⟨rfl, rfl⟩
theorem k_put {mem : ZMem} {w i v0 : Int} (hw : 0 ≤ w ∧ w < 8) (hi : 0 ≤ i ∧ i < 40) (h3 : 0 ≤ mem 3 w ∧ mem 3 w ≤ 2) : CI mX4_put 0 [zr 1, zi w, zi i, zi v0] mem (fun v mem' => v = (if mem 3 w = 0 then zb8 v0 else if mem 3 w = 1 then zs16 v0 else v0) ∧ mem' = mset mem (6 + w).toNat i v) := by
  refine CM.of (by decide +kernel) ([zr 1, zi w, zi i, zi v0, zu, zu]) (zok_all rfl) (Nat.le_of_ble_eq_true rfl) rfl ?_
  refine J_al0 dX4_put_0 ?_
  refine M_getR dX4_put_1 fl_X4_13 sh_1 rfl ?_
  refine J_il1 dX4_put_4 ?_
  refine M_ald dX4_put_5 sh_3 (by decide) (by omega) ?_
  refine J_is4 dX4_put_6 (by decide) rfl ?_
  refine J_il4 dX4_put_8 ?_
  refine J_ifne (tgt := 18) dX4_put_10 rfl (by omega) (fun c_10 => ?_) (fun c_10 => ?_)
  · skip
    refine J_il4 dX4_put_18 ?_
    refine J_iconst dX4_put_20 ?_
    refine J_cne (tgt := 29) dX4_put_21 rfl (by omega) (fun c_21 => ?_) (fun c_21 => ?_)
    · skip
      refine J_il3 dX4_put_29 ?_
      refine J_is5 dX4_put_30 (by decide) rfl ?_
      refine J_al0 dX4_put_32 ?_
      refine M_getR dX4_put_33 fl_X4_22 sh_1 rfl ?_
      refine J_il1 dX4_put_36 ?_
      refine M_aald dX4_put_37 sh_5 (by decide) (by omega) ?_
      refine J_il2 dX4_put_38 ?_
      refine J_il5 dX4_put_39 ?_
      refine M_ast dX4_put_41 (items_sh (by omega)) (by decide) (by omega) ?_
      refine J_il5 dX4_put_42 ?_
      refine M_iret dX4_put_44 rfl ?_
      refine ⟨?_, rfl⟩
      repeat' split
      all_goals first | rfl | omega
    · skip
      refine J_il3 dX4_put_24 ?_
      refine J_i2s dX4_put_25 ?_
      refine J_goto (tgt := 30) dX4_put_26 rfl ?_
      refine J_is5 dX4_put_30 (by decide) rfl ?_
      refine J_al0 dX4_put_32 ?_
      refine M_getR dX4_put_33 fl_X4_22 sh_1 rfl ?_
      refine J_il1 dX4_put_36 ?_
      refine M_aald dX4_put_37 sh_5 (by decide) (by omega) ?_
      refine J_il2 dX4_put_38 ?_
      refine J_il5 dX4_put_39 ?_
      refine M_ast dX4_put_41 (items_sh (by omega)) (by decide) (by omega) ?_
      refine J_il5 dX4_put_42 ?_
      refine M_iret dX4_put_44 rfl ?_
      refine ⟨?_, rfl⟩
      repeat' split
      all_goals first | rfl | omega
  · skip
    refine J_il3 dX4_put_13 ?_
    refine J_i2b dX4_put_14 ?_
    refine J_goto (tgt := 30) dX4_put_15 rfl ?_
    refine J_is5 dX4_put_30 (by decide) rfl ?_
    refine J_al0 dX4_put_32 ?_
    refine M_getR dX4_put_33 fl_X4_22 sh_1 rfl ?_
    refine J_il1 dX4_put_36 ?_
    refine M_aald dX4_put_37 sh_5 (by decide) (by omega) ?_
    refine J_il2 dX4_put_38 ?_
    refine J_il5 dX4_put_39 ?_
    refine M_ast dX4_put_41 (items_sh (by omega)) (by decide) (by omega) ?_
    refine J_il5 dX4_put_42 ?_
    refine M_iret dX4_put_44 rfl ?_
    refine ⟨?_, rfl⟩
    repeat' split
    all_goals first | rfl | omega
theorem k_move {mem : ZMem} {a i b k n : Int} (ha : 0 ≤ a ∧ a < 8) (hb : 0 ≤ b ∧ b < 8) (hr : 0 ≤ i ∧ 0 ≤ k ∧ 0 ≤ n ∧ i + n ≤ 40 ∧ k + n ≤ 40) : CV mX4_move 1 [zr 1, zi a, zi i, zi b, zi k, zi n] mem (fun mem' => mem' = mrow mem (6 + b).toNat (zcpy (mem (6 + a).toNat) (mem (6 + b).toNat) i k n)) := by
  refine CM.of (by decide +kernel) ([zr 1, zi a, zi i, zi b, zi k, zi n]) (zok_all rfl) (Nat.le_of_ble_eq_true rfl) rfl ?_
  refine J_al0 dX4_move_0 ?_
  refine M_getR dX4_move_1 fl_X4_22 sh_1 rfl ?_
  refine J_il1 dX4_move_4 ?_
  refine M_aald dX4_move_5 sh_5 (by decide) (by omega) ?_
  refine J_il2 dX4_move_6 ?_
  refine J_al0 dX4_move_7 ?_
  refine M_getR dX4_move_8 fl_X4_22 sh_1 rfl ?_
  refine J_il3 dX4_move_11 ?_
  refine M_aald dX4_move_12 sh_5 (by decide) (by omega) ?_
  refine J_il4 dX4_move_13 ?_
  refine J_il5 dX4_move_15 ?_
  refine M_copy dX4_move_17 lk_X4_25 (items_sh (by omega)) (items_sh (by omega)) (by decide) (by decide) (by omega) (by decide) (Nat.le_of_ble_eq_true rfl) ?_
  refine M_vret dX4_move_20 rfl ?_
  rfl
theorem k_make {mem : ZMem} {w l n : Int} (hw : 0 ≤ w ∧ w < 8) : CV mX4_make 0 [zr 1, zi w, zi l, zi n] mem (fun mem' => mem' 2 = zup (mem 2) w 1 ∧ mem' 3 = zup (mem 3) w l ∧ mem' 4 = zup (mem 4) w n ∧ (∀ i, 0 ≤ i → i < 40 → mem' (6 + w).toNat i = 0) ∧ (∀ q, q ≠ 2 → q ≠ 3 → q ≠ 4 → q ≠ (6 + w).toNat → mem' q = mem q)) := by
  have hq : (6 + w).toNat ≠ 2 ∧ (6 + w).toNat ≠ 3 ∧ (6 + w).toNat ≠ 4 := by omega
  have loop : ∀ (c : Nat) (k : Int) (m2 : ZMem), 0 ≤ k → k ≤ 40 → 40 - k ≤ c → m2 2 = zup (mem 2) w 1 → m2 3 = zup (mem 3) w l → m2 4 = zup (mem 4) w n → (∀ i, 0 ≤ i → i < k → m2 (6 + w).toNat i = 0) → (∀ q, q ≠ 2 → q ≠ 3 → q ≠ 4 → q ≠ (6 + w).toNat → m2 q = mem q) → JM mX4_make 0 (QV (fun mem' => mem' 2 = zup (mem 2) w 1 ∧ mem' 3 = zup (mem 3) w l ∧ mem' 4 = zup (mem 4) w n ∧ (∀ i, 0 ≤ i → i < 40 → mem' (6 + w).toNat i = 0) ∧ (∀ q, q ≠ 2 → q ≠ 3 → q ≠ 4 → q ≠ (6 + w).toNat → mem' q = mem q))) 24 [zr 1, zi w, zi l, zi n, zi k] [] m2 := by
    intro c
    induction c with
    | zero =>
      intro k m2 a0 a1 a2 b2 b3 b4 b5 b6
      refine J_il4 dX4_make_24 ?_
      refine J_bipush dX4_make_26 rfl ?_
      refine J_cge (tgt := 47) dX4_make_28 rfl (by omega) (fun c_28 => ?_) (fun c_28 => ?_)
      · skip
        refine M_vret dX4_make_47 rfl ?_
        exact ⟨b2, b3, b4, fun i i0 i1 => b5 i i0 (by omega), b6⟩
      · skip
        omega
    | succ c ih =>
      intro k m2 a0 a1 a2 b2 b3 b4 b5 b6
      refine J_il4 dX4_make_24 ?_
      refine J_bipush dX4_make_26 rfl ?_
      refine J_cge (tgt := 47) dX4_make_28 rfl (by omega) (fun c_28 => ?_) (fun c_28 => ?_)
      · skip
        refine M_vret dX4_make_47 rfl ?_
        exact ⟨b2, b3, b4, fun i i0 i1 => b5 i i0 (by omega), b6⟩
      · skip
        refine J_al0 dX4_make_31 ?_
        refine M_getR dX4_make_32 fl_X4_22 sh_1 rfl ?_
        refine J_il1 dX4_make_35 ?_
        refine M_aald dX4_make_36 sh_5 (by decide) (by omega) ?_
        refine J_il4 dX4_make_37 ?_
        refine J_iconst dX4_make_39 ?_
        refine M_ast dX4_make_40 (items_sh (by omega)) (by decide) (by omega) ?_
        refine J_inc4 dX4_make_41 (by decide) rfl ?_
        refine J_goto (tgt := 24) dX4_make_44 rfl ?_
        exact ih (k + 1) _ (by omega) (by omega) (by omega) (by rw [mset_n (by omega)]; exact b2) (by rw [mset_n (by omega)]; exact b3) (by rw [mset_n (by omega)]; exact b4) (fun i i0 i1 => by
          by_cases e : i = k
          · subst e; rw [mset_s]
          · rw [mset_i e]; exact b5 i i0 (by omega)) (fun q q2 q3 q4 q5 => by rw [mset_n q5]; exact b6 q q2 q3 q4 q5)
  refine CM.of (by decide +kernel) ([zr 1, zi w, zi l, zi n, zu]) (zok_all rfl) (Nat.le_of_ble_eq_true rfl) rfl ?_
  refine J_al0 dX4_make_0 ?_
  refine M_getR dX4_make_1 fl_X4_9 sh_1 rfl ?_
  refine J_il1 dX4_make_4 ?_
  refine J_iconst dX4_make_5 ?_
  refine M_zast dX4_make_6 sh_2 (by decide) (by omega) (by decide) ?_
  refine J_al0 dX4_make_7 ?_
  refine M_getR dX4_make_8 fl_X4_13 sh_1 rfl ?_
  refine J_il1 dX4_make_11 ?_
  refine J_il2 dX4_make_12 ?_
  refine M_ast dX4_make_13 sh_3 (by decide) (by omega) ?_
  refine J_al0 dX4_make_14 ?_
  refine M_getR dX4_make_15 fl_X4_17 sh_1 rfl ?_
  refine J_il1 dX4_make_18 ?_
  refine J_il3 dX4_make_19 ?_
  refine M_ast dX4_make_20 sh_4 (by decide) (by omega) ?_
  refine J_iconst dX4_make_21 ?_
  refine J_is4 dX4_make_22 (by decide) rfl ?_
  exact loop 40 0 _ (by omega) (by omega) (by omega) (by rw [mset_n (by omega), mset_n (by omega), mset_q]) (by rw [mset_n (by omega), mset_q, mset_n (by omega)]) (by rw [mset_q, mset_n (by omega), mset_n (by omega)]) (fun i i0 i1 => by omega) (fun q q2 q3 q4 _ => by rw [mset_n q4, mset_n q3, mset_n q2])
/-- how many rows there are -/
noncomputable def prs (f : Int → Int) : Nat → Int
  | 0 => 0
  | k + 1 => prs f k + bi (¬ f k = 0)
theorem k_present {mem : ZMem} (h : ∀ w, 0 ≤ w → w < 8 → mem 2 w = 0 ∨ mem 2 w = 1) : CI mX4_present 0 [zr 1] mem (fun v mem' => v = prs (mem 2) 8 ∧ mem' = mem) := by
  have loop : ∀ (n kn : Nat) (k s : Int), k = kn → k ≤ 8 → 8 - k ≤ n → s = prs (mem 2) kn → JM mX4_present 0 (QI (fun v mem' => v = prs (mem 2) 8 ∧ mem' = mem)) 4 [zr 1, zi s, zi k] [] mem := by
    intro n
    induction n with
    | zero =>
      intro kn k s e0 a1 a2 a3
      refine J_il2 dX4_present_4 ?_
      refine J_bipush dX4_present_5 rfl ?_
      refine J_cge (tgt := 33) dX4_present_7 rfl (by omega) (fun c_7 => ?_) (fun c_7 => ?_)
      · skip
        refine J_il1 dX4_present_33 ?_
        refine M_iret dX4_present_34 rfl ?_
        have e : kn = 8 := by omega
        subst e
        exact ⟨a3, rfl⟩
      · skip
        omega
    | succ n ih =>
      intro kn k s e0 a1 a2 a3
      refine J_il2 dX4_present_4 ?_
      refine J_bipush dX4_present_5 rfl ?_
      refine J_cge (tgt := 33) dX4_present_7 rfl (by omega) (fun c_7 => ?_) (fun c_7 => ?_)
      · skip
        refine J_il1 dX4_present_33 ?_
        refine M_iret dX4_present_34 rfl ?_
        have e : kn = 8 := by omega
        subst e
        exact ⟨a3, rfl⟩
      · skip
        have hk := h k (by omega) (by omega)
        refine J_il1 dX4_present_10 ?_
        refine J_al0 dX4_present_11 ?_
        refine M_getR dX4_present_12 fl_X4_9 sh_1 rfl ?_
        refine J_il2 dX4_present_15 ?_
        refine M_zald dX4_present_16 sh_2 (by decide) (by omega) ?_
        refine J_ifeq (tgt := 24) dX4_present_17 rfl (by omega) (fun c_17 => ?_) (fun c_17 => ?_)
        · skip
          refine J_iconst dX4_present_24 ?_
          refine J_iadd dX4_present_25 ?_
          refine J_is1 dX4_present_26 (by decide) rfl ?_
          refine J_inc2 dX4_present_27 (by decide) rfl ?_
          refine J_goto (tgt := 4) dX4_present_30 rfl ?_
          refine ih (kn + 1) (k + 1) _ (by omega) (by omega) (by omega) ?_
          rw [prs, a3, ← e0]
          first | rw [bi_t (by omega)] | rw [bi_f (by omega)]
        · skip
          refine J_iconst dX4_present_20 ?_
          refine J_goto (tgt := 25) dX4_present_21 rfl ?_
          refine J_iadd dX4_present_25 ?_
          refine J_is1 dX4_present_26 (by decide) rfl ?_
          refine J_inc2 dX4_present_27 (by decide) rfl ?_
          refine J_goto (tgt := 4) dX4_present_30 rfl ?_
          refine ih (kn + 1) (k + 1) _ (by omega) (by omega) (by omega) ?_
          rw [prs, a3, ← e0]
          first | rw [bi_t (by omega)] | rw [bi_f (by omega)]
  refine CM.of (by decide +kernel) ([zr 1, zu, zu]) (zok_all rfl) (Nat.le_of_ble_eq_true rfl) rfl ?_
  refine J_iconst dX4_present_0 ?_
  refine J_is1 dX4_present_1 (by decide) rfl ?_
  refine J_iconst dX4_present_2 ?_
  refine J_is2 dX4_present_3 (by decide) rfl ?_
  exact loop 8 0 0 0 rfl (by omega) (by omega) rfl
/-! KINDS -/
def nrk (k : Int) : Int := if k = 2 then 1 else if k = 3 then 1 else if k = 5 then 4 else 0
theorem k_nearest {mem : ZMem} {k : Int} (hk : 0 ≤ k ∧ k ≤ 5) : CI mX3_nearest 1 [zi k] mem (fun v mem' => v = nrk k ∧ mem' = mem) := by
  refine CM.of (by decide +kernel) ([zi k]) (zok_all rfl) (Nat.le_of_ble_eq_true rfl) rfl ?_
  refine J_il0 dX3_nearest_0 ?_
  refine J_iconst dX3_nearest_1 ?_
  refine J_iconst dX3_nearest_2 ?_
  refine M_cnI3 dX3_nearest_3 lk_X3_9 cw_X6_outside (k_outside (by omega) (by omega) (by omega)) (by decide) (Nat.le_of_ble_eq_true rfl) (fun v_3 mem_3 hq => ?_)
  obtain ⟨rfl, hq⟩ := hq; have hq := hq.symm; subst hq
  refine J_ifeq_b (tgt := 13) dX3_nearest_6 rfl (fun c_6 => ?_) (fun c_6 => ?_)
  · skip
    refine J_gets (v := zr 1000) dX3_nearest_13 (List.mem_of_getElem? (i := 0) rfl) fk_X3_15 ?_
    refine J_il0 dX3_nearest_16 ?_
    refine J_kald dX3_nearest_17 rfl (by decide) (by omega) ?_
    refine M_iret dX3_nearest_18 rfl ?_
    exact ⟨rfl, rfl⟩
  · skip
    omega
/-- one of a kind is of another -/
def isof (k o : Int) : Prop := o = 0 ∨ k = o ∨ (o = 1 ∧ k < 4) ∨ (o = 4 ∧ k = 5)
theorem k_isOne {mem : ZMem} {kind o : Int} (hk : 1 ≤ kind ∧ kind ≤ 5) (ho : 0 ≤ o ∧ o ≤ 5) : CI mX3_isOne 2 [zi kind, zi o] mem (fun v mem' => v = bi (isof kind o) ∧ mem' = mem) := by
  have loop : ∀ (n : Nat) (is up : Int), 0 ≤ is → is ≤ 5 → up ≤ 6 → 6 - up ≤ n → 0 ≤ up → (is = 0 ∨ ((is = 1 ∨ is = 4) ∧ up ≤ 5) ∨ up ≤ 4) → ((o = 0 ∨ is = o ∨ (o = 1 ∧ (is = 2 ∨ is = 3)) ∨ (o = 4 ∧ is = 5)) ↔ isof kind o) → JM mX3_isOne 2 (QI (fun v mem' => v = bi (isof kind o) ∧ mem' = mem)) 4 [zi kind, zi o, zi is, zi up] [] mem := by
    intro n
    induction n with
    | zero =>
      intro is up a0 a1 a2 a3 a4 a5 a6
      refine J_il3 dX3_isOne_4 ?_
      refine J_bipush dX3_isOne_5 rfl ?_
      refine J_cge (tgt := 26) dX3_isOne_7 rfl (by omega) (fun c_7 => ?_) (fun c_7 => ?_)
      · skip
        refine J_il2 dX3_isOne_26 ?_
        refine J_il1 dX3_isOne_27 ?_
        refine J_cne (tgt := 35) dX3_isOne_28 rfl (by omega) (fun c_28 => ?_) (fun c_28 => ?_)
        · skip
          refine J_iconst dX3_isOne_35 ?_
          refine M_zret dX3_isOne_36 rfl (by decide) ?_
          first | exact ⟨(bi_t (a6.mp (by omega))).symm, rfl⟩ | exact ⟨(bi_f (fun q => by have := a6.mpr q; omega)).symm, rfl⟩
        · skip
          refine J_iconst dX3_isOne_31 ?_
          refine J_goto (tgt := 36) dX3_isOne_32 rfl ?_
          refine M_zret dX3_isOne_36 rfl (by decide) ?_
          first | exact ⟨(bi_t (a6.mp (by omega))).symm, rfl⟩ | exact ⟨(bi_f (fun q => by have := a6.mpr q; omega)).symm, rfl⟩
      · skip
        omega
    | succ n ih =>
      intro is up a0 a1 a2 a3 a4 a5 a6
      refine J_il3 dX3_isOne_4 ?_
      refine J_bipush dX3_isOne_5 rfl ?_
      refine J_cge (tgt := 26) dX3_isOne_7 rfl (by omega) (fun c_7 => ?_) (fun c_7 => ?_)
      · skip
        refine J_il2 dX3_isOne_26 ?_
        refine J_il1 dX3_isOne_27 ?_
        refine J_cne (tgt := 35) dX3_isOne_28 rfl (by omega) (fun c_28 => ?_) (fun c_28 => ?_)
        · skip
          refine J_iconst dX3_isOne_35 ?_
          refine M_zret dX3_isOne_36 rfl (by decide) ?_
          first | exact ⟨(bi_t (a6.mp (by omega))).symm, rfl⟩ | exact ⟨(bi_f (fun q => by have := a6.mpr q; omega)).symm, rfl⟩
        · skip
          refine J_iconst dX3_isOne_31 ?_
          refine J_goto (tgt := 36) dX3_isOne_32 rfl ?_
          refine M_zret dX3_isOne_36 rfl (by decide) ?_
          first | exact ⟨(bi_t (a6.mp (by omega))).symm, rfl⟩ | exact ⟨(bi_f (fun q => by have := a6.mpr q; omega)).symm, rfl⟩
      · skip
        refine J_il2 dX3_isOne_10 ?_
        refine J_il1 dX3_isOne_11 ?_
        refine J_ceq (tgt := 26) dX3_isOne_12 rfl (by omega) (fun c_12 => ?_) (fun c_12 => ?_)
        · skip
          refine J_il2 dX3_isOne_26 ?_
          refine J_il1 dX3_isOne_27 ?_
          refine J_cne (tgt := 35) dX3_isOne_28 rfl (by omega) (fun c_28 => ?_) (fun c_28 => ?_)
          · skip
            refine J_iconst dX3_isOne_35 ?_
            refine M_zret dX3_isOne_36 rfl (by decide) ?_
            first | exact ⟨(bi_t (a6.mp (by omega))).symm, rfl⟩ | exact ⟨(bi_f (fun q => by have := a6.mpr q; omega)).symm, rfl⟩
          · skip
            refine J_iconst dX3_isOne_31 ?_
            refine J_goto (tgt := 36) dX3_isOne_32 rfl ?_
            refine M_zret dX3_isOne_36 rfl (by decide) ?_
            first | exact ⟨(bi_t (a6.mp (by omega))).symm, rfl⟩ | exact ⟨(bi_f (fun q => by have := a6.mpr q; omega)).symm, rfl⟩
        · skip
          refine J_il2 dX3_isOne_15 ?_
          refine M_csI1 dX3_isOne_16 lk_X3_19 cw_X3_nearest (k_nearest (by omega)) (by decide) (Nat.le_of_ble_eq_true rfl) (fun v_16 mem_16 hq => ?_)
          obtain ⟨rfl, hq⟩ := hq; have hq := hq.symm; subst hq
          refine J_is2 dX3_isOne_19 (by decide) rfl ?_
          refine J_inc3 dX3_isOne_20 (by decide) rfl ?_
          refine J_goto (tgt := 4) dX3_isOne_23 rfl ?_
          have hc : is = 0 ∨ is = 1 ∨ is = 2 ∨ is = 3 ∨ is = 4 ∨ is = 5 := by omega
          refine ih (nrk is) (up + 1) ?_ ?_ (by omega) (by omega) (by omega) ?_ ?_
          · rcases hc with rfl | rfl | rfl | rfl | rfl | rfl <;> decide
          · rcases hc with rfl | rfl | rfl | rfl | rfl | rfl <;> decide
          · rcases hc with rfl | rfl | rfl | rfl | rfl | rfl <;> simp [nrk] <;> omega
          · rw [← a6]
            rcases hc with rfl | rfl | rfl | rfl | rfl | rfl <;> simp [nrk] <;> omega
  refine CM.of (by decide +kernel) ([zi kind, zi o, zu, zu]) (zok_all rfl) (Nat.le_of_ble_eq_true rfl) rfl ?_
  refine J_il0 dX3_isOne_0 ?_
  refine J_is2 dX3_isOne_1 (by decide) rfl ?_
  refine J_iconst dX3_isOne_2 ?_
  refine J_is3 dX3_isOne_3 (by decide) rfl ?_
  exact loop 6 kind 0 (by omega) (by omega) (by omega) (by omega) (by omega) (by omega) (by unfold isof; omega)
