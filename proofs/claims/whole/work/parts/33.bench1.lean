/-! THE CLASS'S BENCH: what is read -/
theorem k_abs {mem : ZMem} {a : Int} (hn : -2147483647 ≤ a ∧ a < 2147483648) : CI mJ9_abs_0f7a4 0 [zi a] mem (fun v mem' => ((0 ≤ a ∧ v = a) ∨ (a < 0 ∧ v = -a)) ∧ mem' = mem) := by
  refine CM.of (by decide +kernel) ([zi a]) (zok_all rfl) (Nat.le_of_ble_eq_true rfl) rfl ?_
  refine J_il0 dJ9_abs_0f7a4_0 ?_
  refine J_ifge (tgt := 9) dJ9_abs_0f7a4_1 rfl (by omega) (fun c_1 => ?_) (fun c_1 => ?_)
  · skip
    refine J_il0 dJ9_abs_0f7a4_9 ?_
    refine M_iret dJ9_abs_0f7a4_10 rfl ?_
    exact ⟨by omega, rfl⟩
  · skip
    refine J_il0 dJ9_abs_0f7a4_4 ?_
    refine J_ineg dJ9_abs_0f7a4_5 ?_
    refine J_goto (tgt := 10) dJ9_abs_0f7a4_6 rfl ?_
    refine M_iret dJ9_abs_0f7a4_10 rfl ?_
    exact ⟨by omega, rfl⟩
theorem k_max {mem : ZMem} {a b : Int} (hn : -2147483648 ≤ a ∧ a < 2147483648) (hb : -2147483648 ≤ b ∧ b < 2147483648) : CI mJ9_max_7cf53 0 [zi a, zi b] mem (fun v mem' => ((b ≤ a ∧ v = a) ∨ (a < b ∧ v = b)) ∧ mem' = mem) := by
  refine CM.of (by decide +kernel) ([zi a, zi b]) (zok_all rfl) (Nat.le_of_ble_eq_true rfl) rfl ?_
  refine J_il0 dJ9_max_7cf53_0 ?_
  refine J_il1 dJ9_max_7cf53_1 ?_
  refine J_clt (tgt := 9) dJ9_max_7cf53_2 rfl (by omega) (fun c_2 => ?_) (fun c_2 => ?_)
  · skip
    refine J_il1 dJ9_max_7cf53_9 ?_
    refine M_iret dJ9_max_7cf53_10 rfl ?_
    exact ⟨by omega, rfl⟩
  · skip
    refine J_il0 dJ9_max_7cf53_5 ?_
    refine J_goto (tgt := 10) dJ9_max_7cf53_6 rfl ?_
    refine M_iret dJ9_max_7cf53_10 rfl ?_
    exact ⟨by omega, rfl⟩
theorem k_min {mem : ZMem} {a b : Int} (hn : -2147483648 ≤ a ∧ a < 2147483648) (hb : -2147483648 ≤ b ∧ b < 2147483648) : CI mJ9_min_7cf53 0 [zi a, zi b] mem (fun v mem' => ((a ≤ b ∧ v = a) ∨ (b < a ∧ v = b)) ∧ mem' = mem) := by
  refine CM.of (by decide +kernel) ([zi a, zi b]) (zok_all rfl) (Nat.le_of_ble_eq_true rfl) rfl ?_
  refine J_il0 dJ9_min_7cf53_0 ?_
  refine J_il1 dJ9_min_7cf53_1 ?_
  refine J_cgt (tgt := 9) dJ9_min_7cf53_2 rfl (by omega) (fun c_2 => ?_) (fun c_2 => ?_)
  · skip
    refine J_il1 dJ9_min_7cf53_9 ?_
    refine M_iret dJ9_min_7cf53_10 rfl ?_
    exact ⟨by omega, rfl⟩
  · skip
    refine J_il0 dJ9_min_7cf53_5 ?_
    refine J_goto (tgt := 10) dJ9_min_7cf53_6 rfl ?_
    refine M_iret dJ9_min_7cf53_10 rfl ?_
    exact ⟨by omega, rfl⟩
theorem k_sunIn {mem : ZMem} {j : Nat} {r : Int → Int} {L : List Int} (hj : isB j) (hC : CB mem j r L) (hI : BLt r L) {h : Int} (hh : 0 ≤ h ∧ h ≤ 23) : CI mX2_sunIn 1 [zr j, zi h] mem (fun v mem' => v = sunR r h ∧ mem' = mem) := by
  obtain ⟨⟨c0, c1, c2, c6, c7, c8, c9⟩, cO, cM⟩ := hC
  obtain ⟨i1, i2, i4, i6, i7, i8⟩ := hI
  clear cO cM
  refine CM.of (by decide +kernel) ([zr j, zi h, zu]) (zok_all rfl) (Nat.le_of_ble_eq_true rfl) rfl ?_
  refine J_il1 dX2_sunIn_0 ?_
  refine J_al0 dX2_sunIn_1 ?_
  refine M_get (ki := 0) dX2_sunIn_2 fl_X2_9 (isB_sh hj) rfl rfl ?_
  refine J_isub dX2_sunIn_5 ?_
  refine M_csI1 dX2_sunIn_6 lk_X2_57 cw_J9_abs_0f7a4 (k_abs (by omega)) (by decide) (Nat.le_of_ble_eq_true rfl) (fun v_6 mem_6 hq => ?_)
  obtain ⟨hv, hq⟩ := hq; have hq := hq.symm; subst hq
  refine J_is2 dX2_sunIn_9 (by decide) rfl ?_
  refine J_iconst dX2_sunIn_10 ?_
  refine J_al0 dX2_sunIn_11 ?_
  refine M_get (ki := 1) dX2_sunIn_12 fl_X2_15 (isB_sh hj) rfl rfl ?_
  refine J_il2 dX2_sunIn_15 ?_
  refine J_bipush dX2_sunIn_16 rfl ?_
  refine J_il2 dX2_sunIn_18 ?_
  refine J_isub dX2_sunIn_19 ?_
  refine M_csI2 dX2_sunIn_20 lk_X2_63 cw_J9_min_7cf53 (k_min (by omega) (by omega)) (by decide) (Nat.le_of_ble_eq_true rfl) (fun v_20 mem_20 hq => ?_)
  obtain ⟨hu, hq⟩ := hq; have hq := hq.symm; subst hq
  refine J_isub dX2_sunIn_23 ?_
  refine M_csI2 dX2_sunIn_24 lk_X2_67 cw_J9_max_7cf53 (k_max (by omega) (by omega)) (by decide) (Nat.le_of_ble_eq_true rfl) (fun v_24 mem_24 hq => ?_)
  obtain ⟨hw, hq⟩ := hq; have hq := hq.symm; subst hq
  refine M_iret dX2_sunIn_27 rfl ?_
  refine ⟨?_, rfl⟩
  unfold sunR zpos
  repeat' split
  all_goals omega
theorem k_sunNow {mem : ZMem} {j : Nat} {r : Int → Int} {L : List Int} (hj : isB j) (hC : CB mem j r L) (hI : BLt r L) (hh : r 4 ≤ 3000) : CI mX2_sunNow 2 [zr j] mem (fun v mem' => v = sunR r (r 4 % 24) ∧ mem' = mem) := by
  have hC0 := hC
  have hI0 := hI
  obtain ⟨⟨c0, c1, c2, c6, c7, c8, c9⟩, cO, cM⟩ := hC
  obtain ⟨i1, i2, i4, i6, i7, i8⟩ := hI
  clear cO cM
  refine CM.of (by decide +kernel) ([zr j]) (zok_all rfl) (Nat.le_of_ble_eq_true rfl) rfl ?_
  refine J_al0 dX2_sunNow_0 ?_
  refine J_al0 dX2_sunNow_1 ?_
  refine M_get (ki := 6) dX2_sunNow_2 fl_X2_31 (isB_sh hj) rfl rfl ?_
  refine J_bipush dX2_sunNow_5 rfl ?_
  refine J_irem dX2_sunNow_7 (by omega) ?_
  refine M_cvI1 dX2_sunNow_8 lk_X2_70 cw_X2_sunIn (isB_sh hj) rfl rfl (k_sunIn (h := mem j 6 % 24) hj hC0 hI0 (by omega)) (by decide) (Nat.le_of_ble_eq_true rfl) (fun v_8 mem_8 hq => ?_)
  obtain ⟨rfl, hq⟩ := hq; have hq := hq.symm; subst hq
  refine M_iret dX2_sunNow_11 rfl ?_
  exact ⟨by rw [c6], rfl⟩
theorem k_hasSun {mem : ZMem} {j : Nat} {r : Int → Int} {L : List Int} (hj : isB j) (hC : CB mem j r L) (hI : BLt r L) {p s : Int} (hp : -100 ≤ p ∧ p ≤ 100) (hs : s = sunR r (r 4 % 24)) : CI mX2_hasSun 2 [zr j, zi p, zi s] mem (fun v mem' => v = bi (snyR r L.length p) ∧ mem' = mem) := by
  obtain ⟨⟨c0, c1, c2, c6, c7, c8, c9⟩, cO, cM⟩ := hC
  obtain ⟨i1, i2, i4, i6, i7, i8⟩ := hI
  have hr := sunR_range i7 i6 (h := r 4 % 24) (by omega)
  rw [← hs] at hr
  clear cO cM
  refine CM.of (by decide +kernel) ([zr j, zi p, zi s]) (zok_all rfl) (Nat.le_of_ble_eq_true rfl) rfl ?_
  refine J_al0 dX2_hasSun_0 ?_
  refine M_get (ki := 8) dX2_hasSun_1 fl_X2_37 (isB_sh hj) rfl rfl ?_
  refine J_ifeq (tgt := 25) dX2_hasSun_4 rfl (by omega) (fun c_4 => ?_) (fun c_4 => ?_)
  · skip
    refine J_il1 dX2_hasSun_25 ?_
    refine J_il2 dX2_hasSun_26 ?_
    refine J_cge (tgt := 34) dX2_hasSun_27 rfl (by omega) (fun c_27 => ?_) (fun c_27 => ?_)
    · skip
      refine J_iconst dX2_hasSun_34 ?_
      refine M_zret dX2_hasSun_35 rfl (by decide) ?_
      exact ⟨by unfold snyR; rw [← hs]; first | rw [bi_t (by omega)] | rw [bi_f (by omega)], rfl⟩
    · skip
      refine J_iconst dX2_hasSun_30 ?_
      refine J_goto (tgt := 35) dX2_hasSun_31 rfl ?_
      refine M_zret dX2_hasSun_35 rfl (by decide) ?_
      exact ⟨by unfold snyR; rw [← hs]; first | rw [bi_t (by omega)] | rw [bi_f (by omega)], rfl⟩
  · skip
    refine J_il1 dX2_hasSun_7 ?_
    refine J_al0 dX2_hasSun_8 ?_
    refine M_get (ki := 9) dX2_hasSun_9 fl_X2_41 (isB_sh hj) rfl rfl ?_
    refine J_il2 dX2_hasSun_12 ?_
    refine J_isub dX2_hasSun_13 ?_
    refine J_clt (tgt := 21) dX2_hasSun_14 rfl (by omega) (fun c_14 => ?_) (fun c_14 => ?_)
    · skip
      refine J_iconst dX2_hasSun_21 ?_
      refine J_goto (tgt := 35) dX2_hasSun_22 rfl ?_
      refine M_zret dX2_hasSun_35 rfl (by decide) ?_
      exact ⟨by unfold snyR; rw [← hs]; first | rw [bi_t (by omega)] | rw [bi_f (by omega)], rfl⟩
    · skip
      refine J_iconst dX2_hasSun_17 ?_
      refine J_goto (tgt := 35) dX2_hasSun_18 rfl ?_
      refine M_zret dX2_hasSun_35 rfl (by decide) ?_
      exact ⟨by unfold snyR; rw [← hs]; first | rw [bi_t (by omega)] | rw [bi_f (by omega)], rfl⟩
