/-! THE CLASS'S BENCH: what changes it -/
theorem k_seat {mem : ZMem} {j : Nat} {r : Int → Int} {L : List Int} (hj : isB j) (hC : CB mem j r L) {man p : Int} (h0 : 0 ≤ p) (h1 : p ≤ L.length) (hl : (L.length : Int) < 7) (hm0 : 0 ≤ man) (hm1 : man < 7) : CV mX2_seat 1 [zr j, zi man, zi p] mem (fun mem' => CB mem' j (zup r (15 + 5 * man + 4) 0) (ins L p man) ∧ FrB j mem mem') := by
  have c9 := hC.1.2.2.2.2.2.2
  have loop : ∀ (n : Nat) (k : Int) (m2 : ZMem), p ≤ k → k ≤ L.length → k - p ≤ n → (∀ q, q ≠ j + 4 → m2 q = mem q) → (∀ x, x ≤ k → m2 (j + 4) x = mem (j + 4) x) → (∀ x, k < x → x ≤ L.length → m2 (j + 4) x = mem (j + 4) (x - 1)) → JM mX2_seat 1 (QV (fun mem' => CB mem' j (zup r (15 + 5 * man + 4) 0) (ins L p man) ∧ FrB j mem mem')) 27 [zr j, zi man, zi p, zi k] [] m2 := by
    intro n
    induction n with
    | zero =>
      intro k m2 a0 a1 a2 a3 a4 a5
      refine J_il3 dX2_seat_27 ?_
      refine J_il2 dX2_seat_28 ?_
      refine J_cle (tgt := 52) dX2_seat_29 rfl (by omega) (fun c_29 => ?_) (fun c_29 => ?_)
      · skip
        have hk : k = p := by omega
        subst hk
        have e9 := congrFun (a3 j (by omega)) 9
        refine J_al0 dX2_seat_52 ?_
        refine M_getR dX2_seat_53 fl_X2_44 (isB_sh hj) rfl ?_
        refine J_il2 dX2_seat_56 ?_
        refine J_il1 dX2_seat_57 ?_
        refine M_ast dX2_seat_58 (isB_a4 hj) (by decide) (by omega) ?_
        refine J_al0 dX2_seat_59 ?_
        refine M_getR dX2_seat_60 fl_X2_50 (isB_sh hj) rfl ?_
        refine J_il1 dX2_seat_63 ?_
        refine J_iconst dX2_seat_64 ?_
        refine M_ast dX2_seat_65 (isB_a6 hj) (by decide) (by omega) ?_
        refine J_al0 dX2_seat_66 ?_
        refine J_dup dX2_seat_67 rfl ?_
        refine M_get (ki := 9) dX2_seat_68 fl_X2_41 (isB_sh hj) rfl rfl ?_
        refine J_iconst dX2_seat_71 ?_
        refine J_iadd dX2_seat_72 ?_
        refine M_put (ki := 9) dX2_seat_73 fl_X2_41 (isB_sh hj) rfl rfl rfl (fun r hr => by cases hr; rfl) ?_
        refine M_vret dX2_seat_76 rfl ?_
        exact ⟨CB.insd hC h0 h1 hm0 (by rw [mset_s, mset_n (by omega), mset_n (by omega)]; omega) (fun i hi => by rw [mset_i hi, mset_n (by omega), mset_n (by omega), a3 j (by omega)]) (by rw [mset_n (by omega), mset_n (by omega), mset_n (by omega), a3 _ (by omega)]) (by rw [mset_n (by omega), mset_n (by omega), mset_n (by omega), a3 _ (by omega)]) (by rw [mset_n (by omega), mset_n (by omega), mset_n (by omega), a3 _ (by omega)]) (by rw [mset_n (by omega), mset_n (by omega), mset_n (by omega), a3 _ (by omega)]) (by rw [mset_n (by omega), mset_s]) (fun x hx => by rw [mset_n (by omega), mset_i hx, mset_n (by omega), a3 _ (by omega)]) (fun x x0 x1 => by rw [mset_n (by omega), mset_n (by omega), mset_i (by omega), a4 x (by omega)]) (by rw [mset_n (by omega), mset_n (by omega), mset_s]) (fun x x0 x1 => by rw [mset_n (by omega), mset_n (by omega), mset_i (by omega), a5 x x0 x1]), fun q hq => by rw [mset_n (by omega), mset_n (by omega), mset_n (by omega), a3 q (by omega)]⟩
      · skip
        omega
    | succ n ih =>
      intro k m2 a0 a1 a2 a3 a4 a5
      refine J_il3 dX2_seat_27 ?_
      refine J_il2 dX2_seat_28 ?_
      refine J_cle (tgt := 52) dX2_seat_29 rfl (by omega) (fun c_29 => ?_) (fun c_29 => ?_)
      · skip
        have hk : k = p := by omega
        subst hk
        have e9 := congrFun (a3 j (by omega)) 9
        refine J_al0 dX2_seat_52 ?_
        refine M_getR dX2_seat_53 fl_X2_44 (isB_sh hj) rfl ?_
        refine J_il2 dX2_seat_56 ?_
        refine J_il1 dX2_seat_57 ?_
        refine M_ast dX2_seat_58 (isB_a4 hj) (by decide) (by omega) ?_
        refine J_al0 dX2_seat_59 ?_
        refine M_getR dX2_seat_60 fl_X2_50 (isB_sh hj) rfl ?_
        refine J_il1 dX2_seat_63 ?_
        refine J_iconst dX2_seat_64 ?_
        refine M_ast dX2_seat_65 (isB_a6 hj) (by decide) (by omega) ?_
        refine J_al0 dX2_seat_66 ?_
        refine J_dup dX2_seat_67 rfl ?_
        refine M_get (ki := 9) dX2_seat_68 fl_X2_41 (isB_sh hj) rfl rfl ?_
        refine J_iconst dX2_seat_71 ?_
        refine J_iadd dX2_seat_72 ?_
        refine M_put (ki := 9) dX2_seat_73 fl_X2_41 (isB_sh hj) rfl rfl rfl (fun r hr => by cases hr; rfl) ?_
        refine M_vret dX2_seat_76 rfl ?_
        exact ⟨CB.insd hC h0 h1 hm0 (by rw [mset_s, mset_n (by omega), mset_n (by omega)]; omega) (fun i hi => by rw [mset_i hi, mset_n (by omega), mset_n (by omega), a3 j (by omega)]) (by rw [mset_n (by omega), mset_n (by omega), mset_n (by omega), a3 _ (by omega)]) (by rw [mset_n (by omega), mset_n (by omega), mset_n (by omega), a3 _ (by omega)]) (by rw [mset_n (by omega), mset_n (by omega), mset_n (by omega), a3 _ (by omega)]) (by rw [mset_n (by omega), mset_n (by omega), mset_n (by omega), a3 _ (by omega)]) (by rw [mset_n (by omega), mset_s]) (fun x hx => by rw [mset_n (by omega), mset_i hx, mset_n (by omega), a3 _ (by omega)]) (fun x x0 x1 => by rw [mset_n (by omega), mset_n (by omega), mset_i (by omega), a4 x (by omega)]) (by rw [mset_n (by omega), mset_n (by omega), mset_s]) (fun x x0 x1 => by rw [mset_n (by omega), mset_n (by omega), mset_i (by omega), a5 x x0 x1]), fun q hq => by rw [mset_n (by omega), mset_n (by omega), mset_n (by omega), a3 q (by omega)]⟩
      · skip
        refine J_al0 dX2_seat_32 ?_
        refine M_getR dX2_seat_33 fl_X2_44 (isB_sh hj) rfl ?_
        refine J_il3 dX2_seat_36 ?_
        refine J_al0 dX2_seat_37 ?_
        refine M_getR dX2_seat_38 fl_X2_44 (isB_sh hj) rfl ?_
        refine J_il3 dX2_seat_41 ?_
        refine J_iconst dX2_seat_42 ?_
        refine J_isub dX2_seat_43 ?_
        refine M_ald dX2_seat_44 (isB_a4 hj) (by decide) (by omega) ?_
        refine M_ast dX2_seat_45 (isB_a4 hj) (by decide) (by omega) ?_
        refine J_inc3 dX2_seat_46 (by decide) rfl ?_
        refine J_goto (tgt := 27) dX2_seat_49 rfl ?_
        exact ih (k + -1) _ (by omega) (by omega) (by omega) (fun q hq => by rw [mset_n hq, a3 q hq]) (fun x hx => by rw [mset_i (by omega), a4 x (by omega)]) (fun x x0 x1 => by
          by_cases e : x = k
          · subst e; rw [mset_s, a4 _ (by omega)]
          · rw [mset_i e, a5 x (by omega) x1])
  refine CM.of (by decide +kernel) ([zr j, zi man, zi p, zu]) (zok_all rfl) (Nat.le_of_ble_eq_true rfl) rfl ?_
  refine J_al0 dX2_seat_0 ?_
  refine M_get (ki := 9) dX2_seat_1 fl_X2_41 (isB_sh hj) rfl rfl ?_
  refine J_bipush dX2_seat_4 rfl ?_
  refine J_cge (tgt := 21) dX2_seat_6 rfl (by omega) (fun c_6 => ?_) (fun c_6 => ?_)
  · skip
    omega
  · skip
    refine J_il2 dX2_seat_9 ?_
    refine J_iconst dX2_seat_10 ?_
    refine J_al0 dX2_seat_11 ?_
    refine M_get (ki := 9) dX2_seat_12 fl_X2_41 (isB_sh hj) rfl rfl ?_
    refine M_cnI3 dX2_seat_15 lk_X2_110 cw_X6_outside (k_outside (by omega) (by omega) (by omega)) (by decide) (Nat.le_of_ble_eq_true rfl) (fun v_15 mem_15 hq => ?_)
    obtain ⟨rfl, hq⟩ := hq; have hq := hq.symm; subst hq
    refine J_ifeq_b (tgt := 22) dX2_seat_18 rfl (fun c_18 => ?_) (fun c_18 => ?_)
    · skip
      refine J_al0 dX2_seat_22 ?_
      refine M_get (ki := 9) dX2_seat_23 fl_X2_41 (isB_sh hj) rfl rfl ?_
      refine J_is3 dX2_seat_26 (by decide) rfl ?_
      rw [c9]
      exact loop L.length L.length mem (by omega) (by omega) (by omega) (fun _ _ => rfl) (fun _ _ => rfl) (fun x x0 x1 => by omega)
    · skip
      omega
theorem k_unseat {mem : ZMem} {j : Nat} {r : Int → Int} {L : List Int} (hj : isB j) (hC : CB mem j r L) {p : Int} (h0 : 0 ≤ p) (h1 : p < L.length) (hl : (L.length : Int) ≤ 7) : CV mX2_unseat 0 [zr j, zi p] mem (fun mem' => CB mem' j r (era L p) ∧ FrB j mem mem') := by
  have c9 := hC.1.2.2.2.2.2.2
  have loop : ∀ (n : Nat) (k : Int) (m2 : ZMem), p ≤ k → k ≤ L.length - 1 → L.length - 1 - k ≤ n → (∀ q, q ≠ j + 4 → m2 q = mset mem j 9 (mem j 9 - 1) q) → (∀ x, p ≤ x → x < k → m2 (j + 4) x = mem (j + 4) (x + 1)) → (∀ x, x < p ∨ k ≤ x → m2 (j + 4) x = mem (j + 4) x) → JM mX2_unseat 0 (QV (fun mem' => CB mem' j r (era L p) ∧ FrB j mem mem')) 12 [zr j, zi p, zi k] [] m2 := by
    intro n
    induction n with
    | zero =>
      intro k m2 a0 a1 a2 a3 a4 a5
      have e9 := congrFun (a3 j (by omega)) 9
      rw [mset_s] at e9
      refine J_il2 dX2_unseat_12 ?_
      refine J_al0 dX2_unseat_13 ?_
      refine M_get (ki := 9) dX2_unseat_14 fl_X2_41 (isB_sh hj) rfl rfl ?_
      refine J_cge (tgt := 40) dX2_unseat_17 rfl (by omega) (fun c_17 => ?_) (fun c_17 => ?_)
      · skip
        refine M_vret dX2_unseat_40 rfl ?_
        exact ⟨CB.erad hC h0 h1 e9 (fun i hi => by rw [a3 j (by omega), mset_i hi]) (by rw [a3 _ (by omega), mset_n (by omega)]) (by rw [a3 _ (by omega), mset_n (by omega)]) (by rw [a3 _ (by omega), mset_n (by omega)]) (by rw [a3 _ (by omega), mset_n (by omega)]) (by rw [a3 _ (by omega), mset_n (by omega)]) (fun x x0 x1 => a5 x (Or.inl x1)) (fun x x0 x1 => a4 x x0 (by omega)), fun q hq => by rw [a3 q (by omega), mset_n (by omega)]⟩
      · skip
        omega
    | succ n ih =>
      intro k m2 a0 a1 a2 a3 a4 a5
      have e9 := congrFun (a3 j (by omega)) 9
      rw [mset_s] at e9
      refine J_il2 dX2_unseat_12 ?_
      refine J_al0 dX2_unseat_13 ?_
      refine M_get (ki := 9) dX2_unseat_14 fl_X2_41 (isB_sh hj) rfl rfl ?_
      refine J_cge (tgt := 40) dX2_unseat_17 rfl (by omega) (fun c_17 => ?_) (fun c_17 => ?_)
      · skip
        refine M_vret dX2_unseat_40 rfl ?_
        exact ⟨CB.erad hC h0 h1 e9 (fun i hi => by rw [a3 j (by omega), mset_i hi]) (by rw [a3 _ (by omega), mset_n (by omega)]) (by rw [a3 _ (by omega), mset_n (by omega)]) (by rw [a3 _ (by omega), mset_n (by omega)]) (by rw [a3 _ (by omega), mset_n (by omega)]) (by rw [a3 _ (by omega), mset_n (by omega)]) (fun x x0 x1 => a5 x (Or.inl x1)) (fun x x0 x1 => a4 x x0 (by omega)), fun q hq => by rw [a3 q (by omega), mset_n (by omega)]⟩
      · skip
        refine J_al0 dX2_unseat_20 ?_
        refine M_getR dX2_unseat_21 fl_X2_44 (isB_sh hj) rfl ?_
        refine J_il2 dX2_unseat_24 ?_
        refine J_al0 dX2_unseat_25 ?_
        refine M_getR dX2_unseat_26 fl_X2_44 (isB_sh hj) rfl ?_
        refine J_il2 dX2_unseat_29 ?_
        refine J_iconst dX2_unseat_30 ?_
        refine J_iadd dX2_unseat_31 ?_
        refine M_ald dX2_unseat_32 (isB_a4 hj) (by decide) (by omega) ?_
        refine M_ast dX2_unseat_33 (isB_a4 hj) (by decide) (by omega) ?_
        refine J_inc2 dX2_unseat_34 (by decide) rfl ?_
        refine J_goto (tgt := 12) dX2_unseat_37 rfl ?_
        exact ih (k + 1) _ (by omega) (by omega) (by omega) (fun q hq => by rw [mset_n hq, a3 q hq]) (fun x x0 x1 => by
          by_cases e : x = k
          · subst e; rw [mset_s, a5 _ (by omega)]
          · rw [mset_i e, a4 x x0 (by omega)]) (fun x hx => by rw [mset_i (by omega), a5 x (by omega)])
  refine CM.of (by decide +kernel) ([zr j, zi p, zu]) (zok_all rfl) (Nat.le_of_ble_eq_true rfl) rfl ?_
  refine J_al0 dX2_unseat_0 ?_
  refine J_dup dX2_unseat_1 rfl ?_
  refine M_get (ki := 9) dX2_unseat_2 fl_X2_41 (isB_sh hj) rfl rfl ?_
  refine J_iconst dX2_unseat_5 ?_
  refine J_isub dX2_unseat_6 ?_
  refine M_put (ki := 9) dX2_unseat_7 fl_X2_41 (isB_sh hj) rfl rfl rfl (fun r hr => by cases hr; rfl) ?_
  refine J_il1 dX2_unseat_10 ?_
  refine J_is2 dX2_unseat_11 (by decide) rfl ?_
  exact loop L.length p _ (by omega) (by omega) (by omega) (fun _ _ => rfl) (fun x x0 x1 => by omega) (fun x hx => by rw [mset_n (by omega)])
