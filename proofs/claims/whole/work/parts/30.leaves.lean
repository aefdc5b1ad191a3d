/-! LEAVES -/
theorem k_outside {mem : ZMem} {n a b : Int} (hn : -2147483648 ≤ n ∧ n < 2147483648) (ha : -2147483648 ≤ a ∧ a < 2147483648) (hb : -2147483648 ≤ b ∧ b < 2147483648) : CI mX6_outside 0 [zi n, zi a, zi b] mem (fun v mem' => v = bi (n < a ∨ b < n) ∧ mem' = mem) := by
  refine CM.of (by decide +kernel) ([zi n, zi a, zi b]) (zok_all rfl) (Nat.le_of_ble_eq_true rfl) rfl ?_
  refine J_il0 dX6_outside_0 ?_
  refine J_il1 dX6_outside_1 ?_
  refine J_clt (tgt := 10) dX6_outside_2 rfl (by omega) (fun c_2 => ?_) (fun c_2 => ?_)
  · skip
    refine J_iconst dX6_outside_10 ?_
    refine J_goto (tgt := 15) dX6_outside_11 rfl ?_
    refine M_zret dX6_outside_15 rfl (by decide) ?_
    exact ⟨(bi_t (by omega)).symm, rfl⟩
  · skip
    refine J_il0 dX6_outside_5 ?_
    refine J_il2 dX6_outside_6 ?_
    refine J_cle (tgt := 14) dX6_outside_7 rfl (by omega) (fun c_7 => ?_) (fun c_7 => ?_)
    · skip
      refine J_iconst dX6_outside_14 ?_
      refine M_zret dX6_outside_15 rfl (by decide) ?_
      exact ⟨(bi_f (by omega)).symm, rfl⟩
    · skip
      refine J_iconst dX6_outside_10 ?_
      refine J_goto (tgt := 15) dX6_outside_11 rfl ?_
      refine M_zret dX6_outside_15 rfl (by decide) ?_
      exact ⟨(bi_t (by omega)).symm, rfl⟩
theorem k_noRow {mem : ZMem} {n : Int} (hn : -2147483648 ≤ n ∧ n < 2147483648) : CI mX6_noRow 1 [zi n] mem (fun v mem' => v = bi (n < 0 ∨ 7 < n) ∧ mem' = mem) := by
  refine CM.of (by decide +kernel) ([zi n]) (zok_all rfl) (Nat.le_of_ble_eq_true rfl) rfl ?_
  refine J_il0 dX6_noRow_0 ?_
  refine J_iconst dX6_noRow_1 ?_
  refine J_bipush dX6_noRow_2 rfl ?_
  refine M_csI3 dX6_noRow_4 lk_X6_67 cw_X6_outside (k_outside (by omega) (by omega) (by omega)) (by decide) (Nat.le_of_ble_eq_true rfl) (fun v_4 mem_4 hq => ?_)
  obtain ⟨rfl, hq⟩ := hq; have hq := hq.symm; subst hq
  refine M_zret dX6_noRow_7 rfl (bi_01 _) ?_
  exact ⟨rfl, rfl⟩
theorem k_noBench {mem : ZMem} (hm : 0 ≤ mem 16 2 ∧ mem 16 2 ≤ 7) : CI mX6_noBench 1 [zr 0] mem (fun v mem' => v = bi (mem 16 2 = 0) ∧ mem' = mem) := by
  refine CM.of (by decide +kernel) ([zr 0]) (zok_all rfl) (Nat.le_of_ble_eq_true rfl) rfl ?_
  refine J_al0 dX6_noBench_0 ?_
  refine M_getR dX6_noBench_1 fl_X6_26 sh_0 rfl ?_
  refine M_get (ki := 2) dX6_noBench_4 fl_X6_133 sh_16 rfl rfl ?_
  refine J_ifne (tgt := 14) dX6_noBench_7 rfl (by omega) (fun c_7 => ?_) (fun c_7 => ?_)
  · skip
    refine J_iconst dX6_noBench_14 ?_
    refine M_zret dX6_noBench_15 rfl (by decide) ?_
    exact ⟨(bi_f (by omega)).symm, rfl⟩
  · skip
    refine J_iconst dX6_noBench_10 ?_
    refine J_goto (tgt := 15) dX6_noBench_11 rfl ?_
    refine M_zret dX6_noBench_15 rfl (by decide) ?_
    exact ⟨(bi_t (by omega)).symm, rfl⟩
theorem k_noMan {mem : ZMem} {n : Int} (hn : -2147483648 ≤ n ∧ n < 2147483648) (hm : 0 ≤ mem 16 2 ∧ mem 16 2 ≤ 7) : CI mX6_noMan 1 [zr 0, zi n] mem (fun v mem' => v = bi (n < 0 ∨ mem 16 2 - 1 < n) ∧ mem' = mem) := by
  refine CM.of (by decide +kernel) ([zr 0, zi n]) (zok_all rfl) (Nat.le_of_ble_eq_true rfl) rfl ?_
  refine J_il1 dX6_noMan_0 ?_
  refine J_iconst dX6_noMan_1 ?_
  refine J_al0 dX6_noMan_2 ?_
  refine M_getR dX6_noMan_3 fl_X6_26 sh_0 rfl ?_
  refine M_get (ki := 2) dX6_noMan_6 fl_X6_133 sh_16 rfl rfl ?_
  refine J_iconst dX6_noMan_9 ?_
  refine J_isub dX6_noMan_10 ?_
  refine M_csI3 dX6_noMan_11 lk_X6_67 cw_X6_outside (k_outside (by omega) (by omega) (by omega)) (by decide) (Nat.le_of_ble_eq_true rfl) (fun v_11 mem_11 hq => ?_)
  obtain ⟨rfl, hq⟩ := hq; have hq := hq.symm; subst hq
  refine M_zret dX6_noMan_14 rfl (bi_01 _) ?_
  exact ⟨rfl, rfl⟩
