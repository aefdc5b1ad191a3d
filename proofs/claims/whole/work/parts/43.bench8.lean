/-! SETS OF MEN, SUMS -/
def sitB (L : List Int) : Nat → Int
  | 0 => 0
  | k + 1 => zor (sitB L k) (zshl 1 (lget L k))
noncomputable def sunB (r : Int → Int) (L : List Int) : Nat → Int
  | 0 => 0
  | k + 1 => zor (sunB r L k) (cif (snyR r L.length k) (zshl 1 (lget L k)) 0)
noncomputable def dueB (r : Int → Int) (L : List Int) : Nat → Int
  | 0 => 0
  | k + 1 => zor (dueB r L k) (cif (dn r (lget L k) = r 4 % 24) (zshl 1 (lget L k)) 0)
def warS (r : Int → Int) : Nat → Int
  | 0 => 0
  | k + 1 => warS r k + wm r k
theorem k_sittersAsBits {mem : ZMem} {j : Nat} {r : Int → Int} {L : List Int} (hj : isB j) (hC : CB mem j r L) (hl : (L.length : Int) ≤ 7) : CI mX2_sittersAsBits 0 [zr j] mem (fun v mem' => v = sitB L L.length ∧ mem' = mem) := by
  have c9 := hC.1.2.2.2.2.2.2
  have loop : ∀ (n kn : Nat) (k w : Int), k = kn → k ≤ L.length → L.length - k ≤ n → w = sitB L kn → JM mX2_sittersAsBits 0 (QI (fun v mem' => v = sitB L L.length ∧ mem' = mem)) 4 [zr j, zi w, zi k] [] mem := by
    intro n
    induction n with
    | zero =>
      intro kn k w e0 a1 a2 a3
      refine J_il2 dX2_sittersAsBits_4 ?_
      refine J_al0 dX2_sittersAsBits_5 ?_
      refine M_get (ki := 9) dX2_sittersAsBits_6 fl_X2_41 (isB_sh hj) rfl rfl ?_
      refine J_cge (tgt := 29) dX2_sittersAsBits_9 rfl (by omega) (fun c_9 => ?_) (fun c_9 => ?_)
      · skip
        refine J_il1 dX2_sittersAsBits_29 ?_
        refine M_iret dX2_sittersAsBits_30 rfl ?_
        have e : kn = L.length := by omega
        subst e
        exact ⟨a3, rfl⟩
      · skip
        omega
    | succ n ih =>
      intro kn k w e0 a1 a2 a3
      refine J_il2 dX2_sittersAsBits_4 ?_
      refine J_al0 dX2_sittersAsBits_5 ?_
      refine M_get (ki := 9) dX2_sittersAsBits_6 fl_X2_41 (isB_sh hj) rfl rfl ?_
      refine J_cge (tgt := 29) dX2_sittersAsBits_9 rfl (by omega) (fun c_9 => ?_) (fun c_9 => ?_)
      · skip
        refine J_il1 dX2_sittersAsBits_29 ?_
        refine M_iret dX2_sittersAsBits_30 rfl ?_
        have e : kn = L.length := by omega
        subst e
        exact ⟨a3, rfl⟩
      · skip
        refine J_il1 dX2_sittersAsBits_12 ?_
        refine J_iconst dX2_sittersAsBits_13 ?_
        refine J_al0 dX2_sittersAsBits_14 ?_
        refine M_getR dX2_sittersAsBits_15 fl_X2_44 (isB_sh hj) rfl ?_
        refine J_il2 dX2_sittersAsBits_18 ?_
        refine M_ald dX2_sittersAsBits_19 (isB_a4 hj) (by decide) (by omega) ?_
        refine J_ishl dX2_sittersAsBits_20 ?_
        refine J_ior dX2_sittersAsBits_21 ?_
        refine J_is1 dX2_sittersAsBits_22 (by decide) rfl ?_
        refine J_inc2 dX2_sittersAsBits_23 (by decide) rfl ?_
        refine J_goto (tgt := 4) dX2_sittersAsBits_26 rfl ?_
        exact ih (kn + 1) (k + 1) _ (by omega) (by omega) (by omega) (by rw [hC.2.1 k (by omega) (by omega), a3, e0]; rfl)
  refine CM.of (by decide +kernel) ([zr j, zu, zu]) (zok_all rfl) (Nat.le_of_ble_eq_true rfl) rfl ?_
  refine J_iconst dX2_sittersAsBits_0 ?_
  refine J_is1 dX2_sittersAsBits_1 (by decide) rfl ?_
  refine J_iconst dX2_sittersAsBits_2 ?_
  refine J_is2 dX2_sittersAsBits_3 (by decide) rfl ?_
  exact loop L.length 0 0 0 rfl (by omega) (by omega) rfl
theorem k_sunnyAsBits {mem : ZMem} {j : Nat} {r : Int → Int} {L : List Int} (hj : isB j) (hC : CB mem j r L) (hI : BLt r L) (hh : r 4 ≤ 3000) : CI mX2_sunnyAsBits 3 [zr j] mem (fun v mem' => v = sunB r L L.length ∧ mem' = mem) := by
  have c9 := hC.1.2.2.2.2.2.2
  have hl := hI.2.1
  have loop : ∀ (n kn : Nat) (k w : Int), k = kn → k ≤ L.length → L.length - k ≤ n → w = sunB r L kn → JM mX2_sunnyAsBits 3 (QI (fun v mem' => v = sunB r L L.length ∧ mem' = mem)) 9 [zr j, zi w, zi (sunR r (r 4 % 24)), zi k] [] mem := by
    intro n
    induction n with
    | zero =>
      intro kn k w e0 a1 a2 a3
      refine J_il3 dX2_sunnyAsBits_9 ?_
      refine J_al0 dX2_sunnyAsBits_10 ?_
      refine M_get (ki := 9) dX2_sunnyAsBits_11 fl_X2_41 (isB_sh hj) rfl rfl ?_
      refine J_cge (tgt := 47) dX2_sunnyAsBits_14 rfl (by omega) (fun c_14 => ?_) (fun c_14 => ?_)
      · skip
        refine J_il1 dX2_sunnyAsBits_47 ?_
        refine M_iret dX2_sunnyAsBits_48 rfl ?_
        have e : kn = L.length := by omega
        subst e
        exact ⟨a3, rfl⟩
      · skip
        omega
    | succ n ih =>
      intro kn k w e0 a1 a2 a3
      refine J_il3 dX2_sunnyAsBits_9 ?_
      refine J_al0 dX2_sunnyAsBits_10 ?_
      refine M_get (ki := 9) dX2_sunnyAsBits_11 fl_X2_41 (isB_sh hj) rfl rfl ?_
      refine J_cge (tgt := 47) dX2_sunnyAsBits_14 rfl (by omega) (fun c_14 => ?_) (fun c_14 => ?_)
      · skip
        refine J_il1 dX2_sunnyAsBits_47 ?_
        refine M_iret dX2_sunnyAsBits_48 rfl ?_
        have e : kn = L.length := by omega
        subst e
        exact ⟨a3, rfl⟩
      · skip
        refine J_il1 dX2_sunnyAsBits_17 ?_
        refine J_al0 dX2_sunnyAsBits_18 ?_
        refine J_il3 dX2_sunnyAsBits_19 ?_
        refine J_il2 dX2_sunnyAsBits_20 ?_
        refine M_cvI2 dX2_sunnyAsBits_21 lk_X2_80 cw_X2_hasSun (isB_sh hj) rfl rfl (k_hasSun hj hC hI (by omega) rfl) (by decide) (Nat.le_of_ble_eq_true rfl) (fun v_21 mem_21 hq => ?_)
        obtain ⟨rfl, hq⟩ := hq; have hq := hq.symm; subst hq
        refine J_ifeq_b (tgt := 38) dX2_sunnyAsBits_24 rfl (fun c_24 => ?_) (fun c_24 => ?_)
        · skip
          refine J_iconst dX2_sunnyAsBits_38 ?_
          refine J_ior dX2_sunnyAsBits_39 ?_
          refine J_is1 dX2_sunnyAsBits_40 (by decide) rfl ?_
          refine J_inc3 dX2_sunnyAsBits_41 (by decide) rfl ?_
          refine J_goto (tgt := 9) dX2_sunnyAsBits_44 rfl ?_
          refine ih (kn + 1) (k + 1) _ (by omega) (by omega) (by omega) ?_
          rw [sunB, a3, ← e0]
          first | (rw [cif_t c_24, hC.2.1 k (by omega) (by omega)]; done) | (rw [cif_f c_24]; done)
        · skip
          refine J_iconst dX2_sunnyAsBits_27 ?_
          refine J_al0 dX2_sunnyAsBits_28 ?_
          refine M_getR dX2_sunnyAsBits_29 fl_X2_44 (isB_sh hj) rfl ?_
          refine J_il3 dX2_sunnyAsBits_32 ?_
          refine M_ald dX2_sunnyAsBits_33 (isB_a4 hj) (by decide) (by omega) ?_
          refine J_ishl dX2_sunnyAsBits_34 ?_
          refine J_goto (tgt := 39) dX2_sunnyAsBits_35 rfl ?_
          refine J_ior dX2_sunnyAsBits_39 ?_
          refine J_is1 dX2_sunnyAsBits_40 (by decide) rfl ?_
          refine J_inc3 dX2_sunnyAsBits_41 (by decide) rfl ?_
          refine J_goto (tgt := 9) dX2_sunnyAsBits_44 rfl ?_
          refine ih (kn + 1) (k + 1) _ (by omega) (by omega) (by omega) ?_
          rw [sunB, a3, ← e0]
          first | (rw [cif_t c_24, hC.2.1 k (by omega) (by omega)]; done) | (rw [cif_f c_24]; done)
  refine CM.of (by decide +kernel) ([zr j, zu, zu, zu]) (zok_all rfl) (Nat.le_of_ble_eq_true rfl) rfl ?_
  refine J_iconst dX2_sunnyAsBits_0 ?_
  refine J_is1 dX2_sunnyAsBits_1 (by decide) rfl ?_
  refine J_al0 dX2_sunnyAsBits_2 ?_
  refine M_cvI0 dX2_sunnyAsBits_3 lk_X2_76 cw_X2_sunNow (isB_sh hj) rfl rfl (k_sunNow hj hC hI hh) (by decide) (Nat.le_of_ble_eq_true rfl) (fun v_3 mem_3 hq => ?_)
  obtain ⟨rfl, hq⟩ := hq; have hq := hq.symm; subst hq
  refine J_is2 dX2_sunnyAsBits_6 (by decide) rfl ?_
  refine J_iconst dX2_sunnyAsBits_7 ?_
  refine J_is3 dX2_sunnyAsBits_8 (by decide) rfl ?_
  exact loop L.length 0 0 0 rfl (by omega) (by omega) rfl
theorem k_dueAsBits {mem : ZMem} {j : Nat} {r : Int → Int} {L : List Int} (hj : isB j) (hC : CB mem j r L) (hI : BInv r L) (hh : r 4 ≤ 3000) : CI mX2_dueAsBits 1 [zr j] mem (fun v mem' => v = dueB r L L.length ∧ mem' = mem) := by
  have c9 := hC.1.2.2.2.2.2.2
  have hl := hI.len
  have i1 := hI.1
  have loop : ∀ (n kn : Nat) (k w : Int), k = kn → k ≤ L.length → L.length - k ≤ n → w = dueB r L kn → JM mX2_dueAsBits 1 (QI (fun v mem' => v = dueB r L L.length ∧ mem' = mem)) 4 [zr j, zi w, zi k] [] mem := by
    intro n
    induction n with
    | zero =>
      intro kn k w e0 a1 a2 a3
      refine J_il2 dX2_dueAsBits_4 ?_
      refine J_al0 dX2_dueAsBits_5 ?_
      refine M_get (ki := 9) dX2_dueAsBits_6 fl_X2_41 (isB_sh hj) rfl rfl ?_
      refine J_cge (tgt := 46) dX2_dueAsBits_9 rfl (by omega) (fun c_9 => ?_) (fun c_9 => ?_)
      · skip
        refine J_il1 dX2_dueAsBits_46 ?_
        refine M_iret dX2_dueAsBits_47 rfl ?_
        have e : kn = L.length := by omega
        subst e
        exact ⟨a3, rfl⟩
      · skip
        omega
    | succ n ih =>
      intro kn k w e0 a1 a2 a3
      refine J_il2 dX2_dueAsBits_4 ?_
      refine J_al0 dX2_dueAsBits_5 ?_
      refine M_get (ki := 9) dX2_dueAsBits_6 fl_X2_41 (isB_sh hj) rfl rfl ?_
      refine J_cge (tgt := 46) dX2_dueAsBits_9 rfl (by omega) (fun c_9 => ?_) (fun c_9 => ?_)
      · skip
        refine J_il1 dX2_dueAsBits_46 ?_
        refine M_iret dX2_dueAsBits_47 rfl ?_
        have e : kn = L.length := by omega
        subst e
        exact ⟨a3, rfl⟩
      · skip
        refine J_il1 dX2_dueAsBits_12 ?_
        have hk := hC.2.1 k (by omega) (by omega)
        have hm := hI.2.2.1 _ (lget_mem (L := L) (p := k) (by omega) (by omega))
        refine J_al0 dX2_dueAsBits_13 ?_
        refine J_al0 dX2_dueAsBits_14 ?_
        refine M_getR dX2_dueAsBits_15 fl_X2_44 (isB_sh hj) rfl ?_
        refine J_il2 dX2_dueAsBits_18 ?_
        refine M_ald dX2_dueAsBits_19 (isB_a4 hj) (by decide) (by omega) ?_
        rw [hk]
        refine M_cvI1 dX2_dueAsBits_20 lk_X2_84 cw_X2_isDue (isB_sh hj) rfl rfl (k_isDue hj hC hI hm.1 hm.2 hh) (by decide) (Nat.le_of_ble_eq_true rfl) (fun v_20 mem_20 hq => ?_)
        obtain ⟨rfl, hq⟩ := hq; have hq := hq.symm; subst hq
        refine J_ifeq_b (tgt := 37) dX2_dueAsBits_23 rfl (fun c_23 => ?_) (fun c_23 => ?_)
        · skip
          refine J_iconst dX2_dueAsBits_37 ?_
          refine J_ior dX2_dueAsBits_38 ?_
          refine J_is1 dX2_dueAsBits_39 (by decide) rfl ?_
          refine J_inc2 dX2_dueAsBits_40 (by decide) rfl ?_
          refine J_goto (tgt := 4) dX2_dueAsBits_43 rfl ?_
          refine ih (kn + 1) (k + 1) _ (by omega) (by omega) (by omega) ?_
          rw [dueB, a3, ← e0]
          first | (rw [cif_t c_23, hk]; done) | (rw [cif_f c_23]; done)
        · skip
          refine J_iconst dX2_dueAsBits_26 ?_
          refine J_al0 dX2_dueAsBits_27 ?_
          refine M_getR dX2_dueAsBits_28 fl_X2_44 (isB_sh hj) rfl ?_
          refine J_il2 dX2_dueAsBits_31 ?_
          refine M_ald dX2_dueAsBits_32 (isB_a4 hj) (by decide) (by omega) ?_
          refine J_ishl dX2_dueAsBits_33 ?_
          refine J_goto (tgt := 38) dX2_dueAsBits_34 rfl ?_
          refine J_ior dX2_dueAsBits_38 ?_
          refine J_is1 dX2_dueAsBits_39 (by decide) rfl ?_
          refine J_inc2 dX2_dueAsBits_40 (by decide) rfl ?_
          refine J_goto (tgt := 4) dX2_dueAsBits_43 rfl ?_
          refine ih (kn + 1) (k + 1) _ (by omega) (by omega) (by omega) ?_
          rw [dueB, a3, ← e0]
          first | (rw [cif_t c_23, hk]; done) | (rw [cif_f c_23]; done)
  refine CM.of (by decide +kernel) ([zr j, zu, zu]) (zok_all rfl) (Nat.le_of_ble_eq_true rfl) rfl ?_
  refine J_iconst dX2_dueAsBits_0 ?_
  refine J_is1 dX2_dueAsBits_1 (by decide) rfl ?_
  refine J_iconst dX2_dueAsBits_2 ?_
  refine J_is2 dX2_dueAsBits_3 (by decide) rfl ?_
  exact loop L.length 0 0 0 rfl (by omega) (by omega) rfl
theorem k_warmOfAll {mem : ZMem} {j : Nat} {r : Int → Int} {L : List Int} (hj : isB j) (hC : CB mem j r L) (h3 : 0 ≤ r 3 ∧ r 3 ≤ 7) : CI mX2_warmOfAll 0 [zr j] mem (fun v mem' => v = warS r (r 3).toNat ∧ mem' = mem) := by
  have c2 := hC.1.2.2.1
  have loop : ∀ (n kn : Nat) (k w : Int), k = kn → k ≤ r 3 → r 3 - k ≤ n → w = warS r kn → JM mX2_warmOfAll 0 (QI (fun v mem' => v = warS r (r 3).toNat ∧ mem' = mem)) 4 [zr j, zi w, zi k] [] mem := by
    intro n
    induction n with
    | zero =>
      intro kn k w e0 a1 a2 a3
      refine J_il2 dX2_warmOfAll_4 ?_
      refine J_al0 dX2_warmOfAll_5 ?_
      refine M_get (ki := 2) dX2_warmOfAll_6 fl_X2_18 (isB_sh hj) rfl rfl ?_
      refine J_cge (tgt := 27) dX2_warmOfAll_9 rfl (by omega) (fun c_9 => ?_) (fun c_9 => ?_)
      · skip
        refine J_il1 dX2_warmOfAll_27 ?_
        refine M_iret dX2_warmOfAll_28 rfl ?_
        have e : kn = (r 3).toNat := by omega
        subst e
        exact ⟨a3, rfl⟩
      · skip
        omega
    | succ n ih =>
      intro kn k w e0 a1 a2 a3
      refine J_il2 dX2_warmOfAll_4 ?_
      refine J_al0 dX2_warmOfAll_5 ?_
      refine M_get (ki := 2) dX2_warmOfAll_6 fl_X2_18 (isB_sh hj) rfl rfl ?_
      refine J_cge (tgt := 27) dX2_warmOfAll_9 rfl (by omega) (fun c_9 => ?_) (fun c_9 => ?_)
      · skip
        refine J_il1 dX2_warmOfAll_27 ?_
        refine M_iret dX2_warmOfAll_28 rfl ?_
        have e : kn = (r 3).toNat := by omega
        subst e
        exact ⟨a3, rfl⟩
      · skip
        refine J_il1 dX2_warmOfAll_12 ?_
        refine J_al0 dX2_warmOfAll_13 ?_
        refine M_getR dX2_warmOfAll_14 fl_X2_47 (isB_sh hj) rfl ?_
        refine J_il2 dX2_warmOfAll_17 ?_
        refine M_ald dX2_warmOfAll_18 (isB_a5 hj) (by decide) (by omega) ?_
        refine J_iadd dX2_warmOfAll_19 ?_
        refine J_is1 dX2_warmOfAll_20 (by decide) rfl ?_
        refine J_inc2 dX2_warmOfAll_21 (by decide) rfl ?_
        refine J_goto (tgt := 4) dX2_warmOfAll_24 rfl ?_
        exact ih (kn + 1) (k + 1) _ (by omega) (by omega) (by omega) (by rw [(hC.2.2 k (by omega) (by omega)).2.2.2.1, a3, e0]; rfl)
  refine CM.of (by decide +kernel) ([zr j, zu, zu]) (zok_all rfl) (Nat.le_of_ble_eq_true rfl) rfl ?_
  refine J_iconst dX2_warmOfAll_0 ?_
  refine J_is1 dX2_warmOfAll_1 (by decide) rfl ?_
  refine J_iconst dX2_warmOfAll_2 ?_
  refine J_is2 dX2_warmOfAll_3 (by decide) rfl ?_
  exact loop (r 3).toNat 0 0 0 rfl (by omega) (by omega) rfl
