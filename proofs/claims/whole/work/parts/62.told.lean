theorem wdR_inv {b : BN} (h : BInv b.1 b.2) (h2 : 0 ≤ b.1 2) : BInv (wdR b).1 (wdR b).2 := by
  obtain ⟨i1, i2, i3, i4, i5, i6, i7, i8⟩ := h
  have e : ∀ k, k ≠ 2 → zup b.1 2 (b.1 2 - 1) k = b.1 k := fun k hk => zup_n hk
  show BInv (zup b.1 2 (b.1 2 - 1)) b.2
  unfold BInv
  rw [e 1 (by omega), e 3 (by omega), e 4 (by omega), e 5 (by omega), zup_s]
  refine ⟨i1, i2, i3, i4, fun m m0 m1 => ?_, i6, by omega, i8⟩
  have k1 : kd (zup b.1 2 (b.1 2 - 1)) m = kd b.1 m := zup_n (by omega)
  have k2 : dn (zup b.1 2 (b.1 2 - 1)) m = dn b.1 m := zup_n (by omega)
  have k3 : lg (zup b.1 2 (b.1 2 - 1)) m = lg b.1 m := zup_n (by omega)
  have k4 : gn (zup b.1 2 (b.1 2 - 1)) m = gn b.1 m := zup_n (by omega)
  have k5 : wm (zup b.1 2 (b.1 2 - 1)) m = wm b.1 m := zup_n (by omega)
  rw [k1, k2, k3, k4, k5]
  exact i5 m m0 m1
theorem dnR_inv {b : BN} (h : BInv b.1 b.2) {x : Int} (x0 : 0 ≤ x) : BInv (dnR b x).1 (dnR b x).2 := by
  obtain ⟨i1, i2, i3, i4, i5, i6, i7, i8⟩ := h
  have e : ∀ k, k < 15 → zup b.1 (15 + 5 * x + 1) ((dn b.1 x + 23) % 24) k = b.1 k := fun k hk => zup_n (by omega)
  show BInv (zup b.1 (15 + 5 * x + 1) ((dn b.1 x + 23) % 24)) b.2
  unfold BInv
  rw [e 1 (by omega), e 2 (by omega), e 3 (by omega), e 4 (by omega), e 5 (by omega)]
  refine ⟨i1, i2, i3, i4, fun m m0 m1 => ?_, i6, i7, i8⟩
  have k1 : kd (zup b.1 (15 + 5 * x + 1) ((dn b.1 x + 23) % 24)) m = kd b.1 m := zup_n (by omega)
  have k3 : lg (zup b.1 (15 + 5 * x + 1) ((dn b.1 x + 23) % 24)) m = lg b.1 m := zup_n (by omega)
  have k4 : gn (zup b.1 (15 + 5 * x + 1) ((dn b.1 x + 23) % 24)) m = gn b.1 m := zup_n (by omega)
  have k5 : wm (zup b.1 (15 + 5 * x + 1) ((dn b.1 x + 23) % 24)) m = wm b.1 m := zup_n (by omega)
  rw [k1, k3, k4, k5]
  obtain ⟨j1, j2, j3⟩ := i5 m m0 m1
  refine ⟨j1, ?_, j3⟩
  by_cases q : m = x
  · subst q
    have : dn (zup b.1 (15 + 5 * m + 1) ((dn b.1 m + 23) % 24)) m = (dn b.1 m + 23) % 24 := zup_s _ _ _
    omega
  · have : dn (zup b.1 (15 + 5 * x + 1) ((dn b.1 x + 23) % 24)) m = dn b.1 m := zup_n (by omega)
    omega
theorem kdR_inv {b : BN} (h : BInv b.1 b.2) {x k : Int} (x0 : 0 ≤ x) (hk : 1 ≤ k ∧ k ≤ 5) : BInv (kdR b x k).1 (kdR b x k).2 := by
  obtain ⟨i1, i2, i3, i4, i5, i6, i7, i8⟩ := h
  have e : ∀ y, y < 15 → zup b.1 (15 + 5 * x) k y = b.1 y := fun y hy => zup_n (by omega)
  show BInv (zup b.1 (15 + 5 * x) k) b.2
  unfold BInv
  rw [e 1 (by omega), e 2 (by omega), e 3 (by omega), e 4 (by omega), e 5 (by omega)]
  refine ⟨i1, i2, i3, i4, fun m m0 m1 => ?_, i6, i7, i8⟩
  have k1 : dn (zup b.1 (15 + 5 * x) k) m = dn b.1 m := zup_n (by omega)
  have k3 : lg (zup b.1 (15 + 5 * x) k) m = lg b.1 m := zup_n (by omega)
  have k4 : gn (zup b.1 (15 + 5 * x) k) m = gn b.1 m := zup_n (by omega)
  have k5 : wm (zup b.1 (15 + 5 * x) k) m = wm b.1 m := zup_n (by omega)
  rw [k1, k3, k4, k5]
  obtain ⟨j1, j2⟩ := i5 m m0 m1
  refine ⟨?_, j2⟩
  by_cases q : m = x
  · subst q
    have : kd (zup b.1 (15 + 5 * m) k) m = k := zup_s _ _ _
    omega
  · have : kd (zup b.1 (15 + 5 * x) k) m = kd b.1 m := zup_n (by omega)
    omega
theorem CB.wided {mem : ZMem} {j : Nat} {b : BN} (h : CB mem j b.1 b.2) : CB (mset mem j 1 (b.1 2 - 1)) j (wdR b).1 (wdR b).2 := by
  obtain ⟨⟨c0, c1, c2, c6, c7, c8, c9⟩, cO, cM⟩ := h
  show CB (mset mem j 1 (b.1 2 - 1)) j (zup b.1 2 (b.1 2 - 1)) b.2
  have e : ∀ k, k ≠ 2 → zup b.1 2 (b.1 2 - 1) k = b.1 k := fun k hk => zup_n hk
  refine ⟨?_, fun x x0 x1 => ?_, fun m m0 m1 => ?_⟩
  · rw [e 1 (by omega), e 3 (by omega), e 4 (by omega), e 5 (by omega), e 6 (by omega), zup_s, mset_s, mset_i (by omega), mset_i (by omega), mset_i (by omega), mset_i (by omega), mset_i (by omega), mset_i (by omega)]
    exact ⟨c0, rfl, c2, c6, c7, c8, c9⟩
  · rw [mset_n (by omega)]; exact cO x x0 x1
  · rw [e 3 (by omega)] at m1
    have k1 : kd (zup b.1 2 (b.1 2 - 1)) m = kd b.1 m := zup_n (by omega)
    have k2 : dn (zup b.1 2 (b.1 2 - 1)) m = dn b.1 m := zup_n (by omega)
    have k3 : lg (zup b.1 2 (b.1 2 - 1)) m = lg b.1 m := zup_n (by omega)
    have k4 : gn (zup b.1 2 (b.1 2 - 1)) m = gn b.1 m := zup_n (by omega)
    have k5 : wm (zup b.1 2 (b.1 2 - 1)) m = wm b.1 m := zup_n (by omega)
    rw [k1, k2, k3, k4, k5, mset_n (by omega), mset_n (by omega), mset_n (by omega), mset_n (by omega), mset_n (by omega)]
    exact cM m m0 m1
theorem CB.dined {mem : ZMem} {j : Nat} {b : BN} {x : Int} (h : CB mem j b.1 b.2) (x0 : 0 ≤ x) : CB (mset mem (j + 2) x ((dn b.1 x + 23) % 24)) j (dnR b x).1 (dnR b x).2 := by
  obtain ⟨c1, cO, cM⟩ := h
  show CB _ j (zup b.1 (15 + 5 * x + 1) ((dn b.1 x + 23) % 24)) b.2
  have e : ∀ k, k < 15 → zup b.1 (15 + 5 * x + 1) ((dn b.1 x + 23) % 24) k = b.1 k := fun k hk => zup_n (by omega)
  refine ⟨?_, fun y x0 x1 => ?_, fun m m0 m1 => ?_⟩
  · rw [e 1 (by omega), e 2 (by omega), e 3 (by omega), e 4 (by omega), e 5 (by omega), e 6 (by omega), mset_n (by omega)]; exact c1
  · rw [mset_n (by omega)]; exact cO y x0 x1
  · rw [e 3 (by omega)] at m1
    have k1 : kd (zup b.1 (15 + 5 * x + 1) ((dn b.1 x + 23) % 24)) m = kd b.1 m := zup_n (by omega)
    have k3 : lg (zup b.1 (15 + 5 * x + 1) ((dn b.1 x + 23) % 24)) m = lg b.1 m := zup_n (by omega)
    have k4 : gn (zup b.1 (15 + 5 * x + 1) ((dn b.1 x + 23) % 24)) m = gn b.1 m := zup_n (by omega)
    have k5 : wm (zup b.1 (15 + 5 * x + 1) ((dn b.1 x + 23) % 24)) m = wm b.1 m := zup_n (by omega)
    obtain ⟨d1, d2, d3, d4, d5⟩ := cM m m0 m1
    rw [k1, k3, k4, k5, show mset mem (j + 2) x ((dn b.1 x + 23) % 24) (j + 1) = mem (j + 1) from mset_n (by omega), show mset mem (j + 2) x ((dn b.1 x + 23) % 24) (j + 3) = mem (j + 3) from mset_n (by omega), show mset mem (j + 2) x ((dn b.1 x + 23) % 24) (j + 5) = mem (j + 5) from mset_n (by omega), show mset mem (j + 2) x ((dn b.1 x + 23) % 24) (j + 6) = mem (j + 6) from mset_n (by omega)]
    refine ⟨d1, ?_, d3, d4, d5⟩
    by_cases q : m = x
    · subst q
      rw [mset_s]
      exact (zup_s _ _ _).symm
    · rw [mset_i q, d2]
      unfold dn
      rw [zup_n (by omega)]
theorem CB.kinded {mem : ZMem} {j : Nat} {b : BN} {x k : Int} (h : CB mem j b.1 b.2) (x0 : 0 ≤ x) : CB (mset mem (j + 1) x k) j (kdR b x k).1 (kdR b x k).2 := by
  obtain ⟨c1, cO, cM⟩ := h
  show CB _ j (zup b.1 (15 + 5 * x) k) b.2
  have e : ∀ y, y < 15 → zup b.1 (15 + 5 * x) k y = b.1 y := fun y hy => zup_n (by omega)
  refine ⟨?_, fun y x0 x1 => ?_, fun m m0 m1 => ?_⟩
  · rw [e 1 (by omega), e 2 (by omega), e 3 (by omega), e 4 (by omega), e 5 (by omega), e 6 (by omega), mset_n (by omega)]; exact c1
  · rw [mset_n (by omega)]; exact cO y x0 x1
  · rw [e 3 (by omega)] at m1
    have k1 : dn (zup b.1 (15 + 5 * x) k) m = dn b.1 m := zup_n (by omega)
    have k3 : lg (zup b.1 (15 + 5 * x) k) m = lg b.1 m := zup_n (by omega)
    have k4 : gn (zup b.1 (15 + 5 * x) k) m = gn b.1 m := zup_n (by omega)
    have k5 : wm (zup b.1 (15 + 5 * x) k) m = wm b.1 m := zup_n (by omega)
    obtain ⟨d1, d2, d3, d4, d5⟩ := cM m m0 m1
    rw [k1, k3, k4, k5, show mset mem (j + 1) x k (j + 2) = mem (j + 2) from mset_n (by omega), show mset mem (j + 1) x k (j + 3) = mem (j + 3) from mset_n (by omega), show mset mem (j + 1) x k (j + 5) = mem (j + 5) from mset_n (by omega), show mset mem (j + 1) x k (j + 6) = mem (j + 6) from mset_n (by omega)]
    refine ⟨?_, d2, d3, d4, d5⟩
    by_cases q : m = x
    · subst q
      rw [mset_s]
      exact (zup_s _ _ _).symm
    · rw [mset_i q, d1]
      unfold kd
      rw [zup_n (by omega)]
theorem k_sitAsTold {mem : ZMem} {S : ZS} {b : BN} (hC : CS mem S) (hI : SInv S) (hB : CB mem 63 b.1 b.2) (hb : BInv b.1 b.2) (hr : b.1 4 ≤ 999) {w i n : Int} (hw : 0 ≤ w ∧ w < 8) (hi : 0 ≤ i ∧ i + n ≤ 40) (hn : 1 ≤ n ∧ n ≤ 12) : CI mX6_sitAsTold 6 [zr 0, zi w, zi i, zi n] mem (fun v mem' => v = bi (SitT S.it b w i n) ∧ FrB 63 mem mem') := by
  have loop : ∀ (c kn : Nat) (k : Int) (m2 : ZMem), k = kn → (c : Int) + k = n → CB m2 63 (hrs kn b).1.1 (hrs kn b).1.2 → FrB 63 mem m2 → (∀ x : Nat, x < kn → ((hrs (x + 1) b).1.2.length : Int) = S.it w (i + x)) → JM mX6_sitAsTold 6 (QI (fun v mem' => v = bi (SitT S.it b w i n) ∧ FrB 63 mem mem')) 3 [zr 0, zi w, zi i, zi n, zi k] [] m2 := by
    intro c
    induction c with
    | zero =>
      intro kn k m2 e0 a1 a2 a3 a4
      refine J_il4 dX6_sitAsTold_3 ?_
      refine J_il3 dX6_sitAsTold_5 ?_
      refine J_cge (tgt := 48) dX6_sitAsTold_6 rfl (by omega) (fun c_6 => ?_) (fun c_6 => ?_)
      · skip
        refine J_iconst dX6_sitAsTold_48 ?_
        refine M_zret dX6_sitAsTold_49 rfl (by decide) ?_
        exact ⟨(bi_t (fun x hx => a4 x (by omega))).symm, a3⟩
      · skip
        omega
    | succ c ih =>
      intro kn k m2 e0 a1 a2 a3 a4
      obtain ⟨i1, i2, i3, i4⟩ := hrs_inv (b := b) hb kn
      have i5 := (hrs_inv (b := b) hb (kn + 1)).1
      have hl5 := i5.len
      have h35 := i5.1
      refine J_il4 dX6_sitAsTold_3 ?_
      refine J_il3 dX6_sitAsTold_5 ?_
      refine J_cge (tgt := 48) dX6_sitAsTold_6 rfl (by omega) (fun c_6 => ?_) (fun c_6 => ?_)
      · skip
        omega
      · skip
        refine J_al0 dX6_sitAsTold_9 ?_
        refine M_getR dX6_sitAsTold_10 fl_X6_43 sh_0 rfl ?_
        refine J_iconst dX6_sitAsTold_13 ?_
        refine M_cvI1 dX6_sitAsTold_14 lk_X6_152 cw_X2_passHour sh_63 rfl rfl (k_passHour isB63 a2 i1 (by omega) (fun _ => True) fgt0) (by decide) (Nat.le_of_ble_eq_true rfl) (fun v_14 mem_14 hq => ?_)
        obtain ⟨rfl, hB2, hF2⟩ := hq
        have hB2 : CB mem_14 63 (hrs (kn + 1) b).1.1 (hrs (kn + 1) b).1.2 := hB2
        have h9 : mem_14 63 9 = ((hrs (kn + 1) b).1.2.length : Int) := hB2.1.2.2.2.2.2.2
        have ei : mem_14 (6 + w).toNat (i + k) = S.it w (i + k) := by rw [hF2 _ (by omega), a3 _ (by omega)]; exact (hC.1 w hw.1 hw.2).2.2.2 (i + k) (by omega) (by omega)
        have hit := (hI.1 w hw.1 hw.2).2.2 (i + k) (by omega) (by omega)
        refine J_pop dX6_sitAsTold_17 rfl ?_
        refine J_al0 dX6_sitAsTold_18 ?_
        refine M_getR dX6_sitAsTold_19 fl_X6_43 sh_0 rfl ?_
        refine M_get (ki := 9) dX6_sitAsTold_22 fl_X6_175 sh_63 rfl rfl ?_
        refine J_al0 dX6_sitAsTold_25 ?_
        refine M_getR dX6_sitAsTold_26 fl_X6_10 sh_0 rfl ?_
        refine J_il1 dX6_sitAsTold_29 ?_
        refine J_il2 dX6_sitAsTold_30 ?_
        refine J_il4 dX6_sitAsTold_31 ?_
        refine J_iadd dX6_sitAsTold_33 ?_
        refine M_cvI2 dX6_sitAsTold_34 lk_X6_298 cw_X4_item sh_1 rfl rfl (k_item (by omega) (by omega)) (by decide) (Nat.le_of_ble_eq_true rfl) (fun v_34 mem_34 hq => ?_)
        obtain ⟨rfl, hq⟩ := hq; have hq := hq.symm; subst hq
        refine J_ceq (tgt := 42) dX6_sitAsTold_37 rfl (by omega) (fun c_37 => ?_) (fun c_37 => ?_)
        · skip
          refine J_inc4 dX6_sitAsTold_42 (by decide) rfl ?_
          refine J_goto (tgt := 3) dX6_sitAsTold_45 rfl ?_
          refine ih (kn + 1) _ _ (by omega) (by omega) hB2 (a3.tr hF2) (fun x hx => ?_)
          by_cases q : x = kn
          · subst q
            rw [← h9, ← e0, ← ei]; exact c_37
          · exact a4 x (by omega)
        · skip
          refine J_iconst dX6_sitAsTold_40 ?_
          refine M_zret dX6_sitAsTold_41 rfl (by decide) ?_
          refine ⟨(bi_f (fun q => c_37 ?_)).symm, a3.tr hF2⟩
          have := q kn (by omega)
          rw [h9, ei, e0]; exact this
  refine CM.of (by decide +kernel) ([zr 0, zi w, zi i, zi n, zu]) (zok_all rfl) (Nat.le_of_ble_eq_true rfl) rfl ?_
  refine J_iconst dX6_sitAsTold_0 ?_
  refine J_is4 dX6_sitAsTold_1 (by decide) rfl ?_
  exact loop n.toNat 0 0 mem rfl (by omega) hB FrB.rf (fun x hx => absurd hx (by omega))
theorem k_sitsAsTold {mem : ZMem} {S : ZS} {b : BN} (hC : CS mem S) (hI : SInv S) (hB : CB mem 63 b.1 b.2) (hb : BInv b.1 b.2) (hr : b.1 4 ≤ 999) {m w i n : Int} (hm : In32 m) (hw : 0 ≤ w ∧ w < 8) (hi : 0 ≤ i ∧ i + n ≤ 40) (hn : 1 ≤ n ∧ n ≤ 12) : CI mX6_sitsAsTold 6 [zr 0, zi m, zi w, zi i, zi n] mem (fun v mem' => v = bi (WhoT S.it b m w i n) ∧ FrB 63 mem mem') := by
  have loop : ∀ (c kn : Nat) (k : Int) (m2 : ZMem), k = kn → (c : Int) + k = n → CB m2 63 (hrs kn b).1.1 (hrs kn b).1.2 → FrB 63 mem m2 → (∀ x : Nat, x < kn → plc (hrs (x + 1) b).1.2 m = S.it w (i + x)) → JM mX6_sitsAsTold 6 (QI (fun v mem' => v = bi (WhoT S.it b m w i n) ∧ FrB 63 mem mem')) 3 [zr 0, zi m, zi w, zi i, zi n, zi k] [] m2 := by
    intro c
    induction c with
    | zero =>
      intro kn k m2 e0 a1 a2 a3 a4
      refine J_il5 dX6_sitsAsTold_3 ?_
      refine J_il4 dX6_sitsAsTold_5 ?_
      refine J_cge (tgt := 50) dX6_sitsAsTold_7 rfl (by omega) (fun c_7 => ?_) (fun c_7 => ?_)
      · skip
        refine J_iconst dX6_sitsAsTold_50 ?_
        refine M_zret dX6_sitsAsTold_51 rfl (by decide) ?_
        exact ⟨(bi_t (fun x hx => a4 x (by omega))).symm, a3⟩
      · skip
        omega
    | succ c ih =>
      intro kn k m2 e0 a1 a2 a3 a4
      obtain ⟨i1, i2, i3, i4⟩ := hrs_inv (b := b) hb kn
      have i5 := (hrs_inv (b := b) hb (kn + 1)).1
      have hl5 := i5.len
      have h35 := i5.1
      have hp5 := plc_range (hrs (kn + 1) b).1.2 m
      refine J_il5 dX6_sitsAsTold_3 ?_
      refine J_il4 dX6_sitsAsTold_5 ?_
      refine J_cge (tgt := 50) dX6_sitsAsTold_7 rfl (by omega) (fun c_7 => ?_) (fun c_7 => ?_)
      · skip
        omega
      · skip
        refine J_al0 dX6_sitsAsTold_10 ?_
        refine M_getR dX6_sitsAsTold_11 fl_X6_43 sh_0 rfl ?_
        refine J_iconst dX6_sitsAsTold_14 ?_
        refine M_cvI1 dX6_sitsAsTold_15 lk_X6_152 cw_X2_passHour sh_63 rfl rfl (k_passHour isB63 a2 i1 (by omega) (fun _ => True) fgt0) (by decide) (Nat.le_of_ble_eq_true rfl) (fun v_15 mem_15 hq => ?_)
        obtain ⟨rfl, hB2, hF2⟩ := hq
        have hB2 : CB mem_15 63 (hrs (kn + 1) b).1.1 (hrs (kn + 1) b).1.2 := hB2
        have ei : mem_15 (6 + w).toNat (i + k) = S.it w (i + k) := by rw [hF2 _ (by omega), a3 _ (by omega)]; exact (hC.1 w hw.1 hw.2).2.2.2 (i + k) (by omega) (by omega)
        have hit := (hI.1 w hw.1 hw.2).2.2 (i + k) (by omega) (by omega)
        refine J_pop dX6_sitsAsTold_18 rfl ?_
        refine J_al0 dX6_sitsAsTold_19 ?_
        refine M_getR dX6_sitsAsTold_20 fl_X6_43 sh_0 rfl ?_
        refine J_il1 dX6_sitsAsTold_23 ?_
        refine M_cvI1 dX6_sitsAsTold_24 lk_X6_162 cw_X2_placeOf sh_63 rfl rfl (k_placeOf isB63 hB2 i5 hm) (by decide) (Nat.le_of_ble_eq_true rfl) (fun v_24 mem_24 hq => ?_)
        obtain ⟨rfl, hq⟩ := hq; have hq := hq.symm; subst hq
        refine J_al0 dX6_sitsAsTold_27 ?_
        refine M_getR dX6_sitsAsTold_28 fl_X6_10 sh_0 rfl ?_
        refine J_il2 dX6_sitsAsTold_31 ?_
        refine J_il3 dX6_sitsAsTold_32 ?_
        refine J_il5 dX6_sitsAsTold_33 ?_
        refine J_iadd dX6_sitsAsTold_35 ?_
        refine M_cvI2 dX6_sitsAsTold_36 lk_X6_298 cw_X4_item sh_1 rfl rfl (k_item (by omega) (by omega)) (by decide) (Nat.le_of_ble_eq_true rfl) (fun v_36 mem_36 hq => ?_)
        obtain ⟨rfl, hq⟩ := hq; have hq := hq.symm; subst hq
        refine J_ceq (tgt := 44) dX6_sitsAsTold_39 rfl (by omega) (fun c_39 => ?_) (fun c_39 => ?_)
        · skip
          refine J_inc5 dX6_sitsAsTold_44 (by decide) rfl ?_
          refine J_goto (tgt := 3) dX6_sitsAsTold_47 rfl ?_
          refine ih (kn + 1) _ _ (by omega) (by omega) hB2 (a3.tr hF2) (fun x hx => ?_)
          by_cases q : x = kn
          · subst q
            rw [← e0, ← ei]; exact c_39
          · exact a4 x (by omega)
        · skip
          refine J_iconst dX6_sitsAsTold_42 ?_
          refine M_zret dX6_sitsAsTold_43 rfl (by decide) ?_
          refine ⟨(bi_f (fun q => c_39 ?_)).symm, a3.tr hF2⟩
          have := q kn (by omega)
          rw [ei, e0]; exact this
  refine CM.of (by decide +kernel) ([zr 0, zi m, zi w, zi i, zi n, zu]) (zok_all rfl) (Nat.le_of_ble_eq_true rfl) rfl ?_
  refine J_iconst dX6_sitsAsTold_0 ?_
  refine J_is5 dX6_sitsAsTold_1 (by decide) rfl ?_
  exact loop n.toNat 0 0 mem rfl (by omega) hB FrB.rf (fun x hx => absurd hx (by omega))
