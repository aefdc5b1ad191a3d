theorem k_passHour {mem : ZMem} {j : Nat} {r : Int → Int} {L : List Int} (hj : isB j) (hC : CB mem j r L) (hI : BInv r L) (hh : r 4 ≤ 2999) (F : Int → Prop) {fb : Int} (hF : ∀ m, 0 ≤ m → m < 7 → (zand fb (zshl 1 m) = 0 ↔ F m)) : CI mX2_passHour 5 [zr j, zi fb] mem (fun v mem' => v = (hourR F (r, L)).2 ∧ CB mem' j (hourR F (r, L)).1.1 (hourR F (r, L)).1.2 ∧ FrB j mem mem') := by
  have i1 := hI.1
  obtain ⟨a1, a2, a3, a4⟩ := bckN_inv (b := (r, L)) hI (r 3).toNat (by show ((r 3).toNat : Int) ≤ r 3; omega)
  have hu : hourR F (r, L) = ((zup (wrmN (callR F (bckN (r 3).toNat (r, L)).1 [] (bckN (r 3).toNat (r, L)).2).2.1 (callR F (bckN (r 3).toNat (r, L)).1 [] (bckN (r 3).toNat (r, L)).2).2.1.length (callR F (bckN (r 3).toNat (r, L)).1 [] (bckN (r 3).toNat (r, L)).2).1) 4 (r 4 + 1), (callR F (bckN (r 3).toNat (r, L)).1 [] (bckN (r 3).toNat (r, L)).2).2.1), (callR F (bckN (r 3).toNat (r, L)).1 [] (bckN (r 3).toNat (r, L)).2).2.2) := rfl
  rw [hu]
  clear hu
  have k1 : CV mX2_seatWhoIsBack 2 [zr j] mem (fun mem' => CB mem' j (bckN (r 3).toNat (r, L)).1 (bckN (r 3).toNat (r, L)).2 ∧ FrB j mem mem') := k_seatWhoIsBack hj hC hI (by omega)
  have a3 : (bckN (r 3).toNat (r, L)).1 4 = r 4 := a3
  have a2 : Keep r (bckN (r 3).toNat (r, L)).1 := a2
  generalize bckN (r 3).toNat (r, L) = b1 at *
  obtain ⟨c1, c2, c3, c4, c5, c6⟩ := callR_inv F b1.2 b1.1 [] a1
  have k2 : ∀ m1 : ZMem, CB m1 j b1.1 b1.2 → CI mX2_callToDinner 4 [zr j, zi fb, zi (sunR r (r 4 % 24))] m1 (fun v mem' => v = (callR F b1.1 [] b1.2).2.2 ∧ CB mem' j (callR F b1.1 [] b1.2).1 (callR F b1.1 [] b1.2).2.1 ∧ FrB j m1 mem') := fun m1 h1 => k_callToDinner hj h1 a1 (by omega) F (sunR_keep a2 a3).symm hF
  generalize callR F b1.1 [] b1.2 = c at *
  have hlen := c1.len
  have hN := c1.1
  have loop : ∀ (n kn : Nat) (k : Int) (m2 : ZMem), k = kn → k ≤ c.2.1.length → c.2.1.length - k ≤ n → CB m2 j (wrmN c.2.1 kn c.1) c.2.1 → FrB j mem m2 → JM mX2_passHour 5 (QI (fun v mem' => v = c.2.2 ∧ CB mem' j (zup (wrmN c.2.1 c.2.1.length c.1) 4 (r 4 + 1)) c.2.1 ∧ FrB j mem mem')) 19 [zr j, zi fb, zi (sunR r (r 4 % 24)), zi c.2.2, zi k] [] m2 := by
    intro n
    induction n with
    | zero =>
      intro kn k m2 e0 b1 b2 b3 b4
      have d9 := b3.1.2.2.2.2.2.2
      have d6 : m2 j 6 = r 4 := b3.1.2.2.2.1.trans ((wrmN_inv c1.2.1 (fun m hm => (c1.2.2.1 m hm).1) kn (by omega)).2.1.trans (c3.trans a3))
      refine J_il4 dX2_passHour_19 ?_
      refine J_al0 dX2_passHour_21 ?_
      refine M_get (ki := 9) dX2_passHour_22 fl_X2_41 (isB_sh hj) rfl rfl ?_
      refine J_cge (tgt := 64) dX2_passHour_25 rfl (by omega) (fun c_25 => ?_) (fun c_25 => ?_)
      · skip
        refine J_al0 dX2_passHour_64 ?_
        refine J_dup dX2_passHour_65 rfl ?_
        refine M_get (ki := 6) dX2_passHour_66 fl_X2_31 (isB_sh hj) rfl rfl ?_
        refine J_iconst dX2_passHour_69 ?_
        refine J_iadd dX2_passHour_70 ?_
        refine M_put (ki := 6) dX2_passHour_71 fl_X2_31 (isB_sh hj) rfl rfl rfl (fun r hr => by cases hr; rfl) ?_
        refine J_il3 dX2_passHour_74 ?_
        refine M_iret dX2_passHour_75 rfl ?_
        have e : kn = c.2.1.length := by omega
        subst e
        rw [d6]
        exact ⟨rfl, CB.hourd b3, FrB.set b4 (by omega) (by omega)⟩
      · skip
        omega
    | succ n ih =>
      intro kn k m2 e0 b1 b2 b3 b4
      obtain ⟨w1, w2, w3, w4, w5⟩ := wrmN_inv (r := c.1) c1.2.1 (fun m hm => (c1.2.2.1 m hm).1) kn (by omega)
      have d9 := b3.1.2.2.2.2.2.2
      have d6 : m2 j 6 = r 4 := b3.1.2.2.2.1.trans (w2.trans (c3.trans a3))
      have nx : wrmN c.2.1 (kn + 1) c.1 = wrm c.2.1 (wrmN c.2.1 kn c.1) kn := rfl
      have ih' := ih (kn + 1) (k + 1)
      rw [nx, ← e0] at ih'
      have fin : ¬ k < c.2.1.length → CB m2 j (wrmN c.2.1 c.2.1.length c.1) c.2.1 := fun q => by
        have e : kn = c.2.1.length := by omega
        rw [← e]; exact b3
      have hBL : BLt (wrmN c.2.1 kn c.1) c.2.1 := by
        have q := c1.lt
        unfold BLt at q ⊢
        rw [w1.1 3 (by omega) (by omega), w1.1 1 (by omega) (by omega), w1.1 2 (by omega) (by omega), w1.1 5 (by omega) (by omega), w2]
        exact q
      have q3 : (wrmN c.2.1 kn c.1) 3 = c.1 3 := w1.1 3 (by omega) (by omega)
      have hsw : sunR r (r 4 % 24) = sunR (wrmN c.2.1 kn c.1) (wrmN c.2.1 kn c.1 4 % 24) := (sunR_keep ((a2.tr c2).tr w1) (w2.trans (c3.trans a3))).symm
      generalize wrmN c.2.1 kn c.1 = w at *
      refine J_il4 dX2_passHour_19 ?_
      refine J_al0 dX2_passHour_21 ?_
      refine M_get (ki := 9) dX2_passHour_22 fl_X2_41 (isB_sh hj) rfl rfl ?_
      refine J_cge (tgt := 64) dX2_passHour_25 rfl (by omega) (fun c_25 => ?_) (fun c_25 => ?_)
      · skip
        refine J_al0 dX2_passHour_64 ?_
        refine J_dup dX2_passHour_65 rfl ?_
        refine M_get (ki := 6) dX2_passHour_66 fl_X2_31 (isB_sh hj) rfl rfl ?_
        refine J_iconst dX2_passHour_69 ?_
        refine J_iadd dX2_passHour_70 ?_
        refine M_put (ki := 6) dX2_passHour_71 fl_X2_31 (isB_sh hj) rfl rfl rfl (fun r hr => by cases hr; rfl) ?_
        refine J_il3 dX2_passHour_74 ?_
        refine M_iret dX2_passHour_75 rfl ?_
        rw [d6]
        exact ⟨rfl, CB.hourd (fin (by omega)), FrB.set b4 (by omega) (by omega)⟩
      · skip
        have hk := b3.2.1 k (by omega) (by omega)
        have hkm := c1.2.2.1 _ (lget_mem (L := c.2.1) (p := k) (by omega) (by omega))
        have hM := (b3.2.2 _ hkm.1 (by rw [q3]; exact hkm.2)).2.2.2.1
        refine J_al0 dX2_passHour_28 ?_
        refine M_getR dX2_passHour_29 fl_X2_47 (isB_sh hj) rfl ?_
        refine J_al0 dX2_passHour_32 ?_
        refine M_getR dX2_passHour_33 fl_X2_44 (isB_sh hj) rfl ?_
        refine J_il4 dX2_passHour_36 ?_
        refine M_ald dX2_passHour_38 (isB_a4 hj) (by decide) (by omega) ?_
        rw [hk]
        refine J_dup2 dX2_passHour_39 rfl rfl ?_
        refine M_ald dX2_passHour_40 (isB_a5 hj) (by decide) (by omega) ?_
        refine J_al0 dX2_passHour_41 ?_
        refine J_il4 dX2_passHour_42 ?_
        refine J_il2 dX2_passHour_44 ?_
        refine M_cvI2 dX2_passHour_45 lk_X2_80 cw_X2_hasSun (isB_sh hj) rfl rfl (k_hasSun hj b3 hBL (by omega) hsw) (by decide) (Nat.le_of_ble_eq_true rfl) (fun v_45 mem_45 hq => ?_)
        obtain ⟨rfl, hq⟩ := hq; have hq := hq.symm; subst hq
        refine J_ifeq_b (tgt := 55) dX2_passHour_48 rfl (fun c_48 => ?_) (fun c_48 => ?_)
        · skip
          refine J_iconst dX2_passHour_55 ?_
          refine J_iadd dX2_passHour_56 ?_
          refine M_ast dX2_passHour_57 (isB_a5 hj) (by decide) (by omega) ?_
          refine J_inc4 dX2_passHour_58 (by decide) rfl ?_
          refine J_goto (tgt := 19) dX2_passHour_61 rfl ?_
          refine ih' _ (by omega) (by omega) (by omega) ?_ (FrB.set b4 (by omega) (by omega))
          unfold wrm
          first | (rw [bi_t c_48, ← hM]; exact CB.warmd b3 hkm.1) | (rw [bi_f c_48, ← hM]; exact CB.warmd b3 hkm.1)
        · skip
          refine J_iconst dX2_passHour_51 ?_
          refine J_goto (tgt := 56) dX2_passHour_52 rfl ?_
          refine J_iadd dX2_passHour_56 ?_
          refine M_ast dX2_passHour_57 (isB_a5 hj) (by decide) (by omega) ?_
          refine J_inc4 dX2_passHour_58 (by decide) rfl ?_
          refine J_goto (tgt := 19) dX2_passHour_61 rfl ?_
          refine ih' _ (by omega) (by omega) (by omega) ?_ (FrB.set b4 (by omega) (by omega))
          unfold wrm
          first | (rw [bi_t c_48, ← hM]; exact CB.warmd b3 hkm.1) | (rw [bi_f c_48, ← hM]; exact CB.warmd b3 hkm.1)
  refine CM.of (by decide +kernel) ([zr j, zi fb, zu, zu, zu]) (zok_all rfl) (Nat.le_of_ble_eq_true rfl) rfl ?_
  refine J_al0 dX2_passHour_0 ?_
  refine M_cvI0 dX2_passHour_1 lk_X2_76 cw_X2_sunNow (isB_sh hj) rfl rfl (k_sunNow hj hC hI.lt (by omega)) (by decide) (Nat.le_of_ble_eq_true rfl) (fun v_1 mem_1 hq => ?_)
  obtain ⟨rfl, hq⟩ := hq; have hq := hq.symm; subst hq
  refine J_is2 dX2_passHour_4 (by decide) rfl ?_
  refine J_al0 dX2_passHour_5 ?_
  refine M_cvV0 dX2_passHour_6 lk_X2_91 cw_X2_seatWhoIsBack (isB_sh hj) rfl rfl k1 (by decide) (Nat.le_of_ble_eq_true rfl) (fun mem_6 hq => ?_)
  obtain ⟨hC1, hF1⟩ := hq
  refine J_al0 dX2_passHour_9 ?_
  refine J_il1 dX2_passHour_10 ?_
  refine J_il2 dX2_passHour_11 ?_
  refine M_cvI2 dX2_passHour_12 lk_X2_94 cw_X2_callToDinner (isB_sh hj) rfl rfl (k2 mem_6 hC1) (by decide) (Nat.le_of_ble_eq_true rfl) (fun v_12 mem_12 hq => ?_)
  obtain ⟨rfl, hC2, hF2⟩ := hq
  refine J_is3 dX2_passHour_15 (by decide) rfl ?_
  refine J_iconst dX2_passHour_16 ?_
  refine J_is4 dX2_passHour_17 (by decide) rfl ?_
  exact loop c.2.1.length 0 0 _ rfl (by omega) (by omega) hC2 (hF1.tr hF2)
/-- n hours: the bench then, how often somebody went -/
noncomputable def hrs : Nat → BN → BN × Int
  | 0, b => (b, 0)
  | k + 1, b => ((hourR (fun _ => True) (hrs k b).1).1, (hrs k b).2 + (hourR (fun _ => True) (hrs k b).1).2)
theorem hrs_inv {b : BN} (h : BInv b.1 b.2) : ∀ k : Nat, BInv (hrs k b).1.1 (hrs k b).1.2 ∧ Keep b.1 (hrs k b).1.1 ∧ (hrs k b).1.1 4 = b.1 4 + k ∧ (∀ x, wm b.1 x ≤ wm (hrs k b).1.1 x ∧ wm (hrs k b).1.1 x ≤ wm b.1 x + k)
  | 0 => ⟨h, Keep.rf, by show b.1 4 = b.1 4 + ((0 : Nat) : Int); omega, fun x => ⟨Int.le_refl _, by show wm b.1 x ≤ wm b.1 x + ((0 : Nat) : Int); omega⟩⟩
  | k + 1 => by
    obtain ⟨a1, a2, a3, a4⟩ := hrs_inv h k
    obtain ⟨b1, b2, b3, b4, -, -⟩ := hourR_inv (fun _ => True) a1
    refine ⟨b1, a2.tr b2, ?_, fun x => ?_⟩
    · show (hourR (fun _ => True) (hrs k b).1).1.1 4 = _
      rw [b3, a3]; omega
    · have h1 := a4 x
      have h2 := b4 x
      show wm b.1 x ≤ wm (hourR (fun _ => True) (hrs k b).1).1.1 x ∧ wm (hourR (fun _ => True) (hrs k b).1).1.1 x ≤ _
      omega
theorem zand_0 (m : Int) : zand 0 m = 0 := by
  unfold zand
  rw [i32_0, Int32.zero_and]
  rfl
theorem fgt0 : ∀ m : Int, 0 ≤ m → m < 7 → (zand 0 (zshl 1 m) = 0 ↔ (fun _ : Int => True) m) := fun m _ _ => ⟨fun _ => trivial, fun _ => zand_0 _⟩
theorem k_passHours {mem : ZMem} {j : Nat} {r : Int → Int} {L : List Int} (hj : isB j) (hC : CB mem j r L) (hI : BInv r L) {n : Int} (hn : 0 ≤ n ∧ n ≤ 100) (hh : r 4 + n ≤ 2999) : CI mX2_passHours 6 [zr j, zi n] mem (fun v mem' => v = (hrs n.toNat (r, L)).2 ∧ CB mem' j (hrs n.toNat (r, L)).1.1 (hrs n.toNat (r, L)).1.2 ∧ FrB j mem mem') := by
  have loop : ∀ (c kn : Nat) (k w : Int) (m2 : ZMem), k = kn → k ≤ n → n - k ≤ c → w = (hrs kn (r, L)).2 → CB m2 j (hrs kn (r, L)).1.1 (hrs kn (r, L)).1.2 → FrB j mem m2 → JM mX2_passHours 6 (QI (fun v mem' => v = (hrs n.toNat (r, L)).2 ∧ CB mem' j (hrs n.toNat (r, L)).1.1 (hrs n.toNat (r, L)).1.2 ∧ FrB j mem mem')) 4 [zr j, zi n, zi w, zi k] [] m2 := by
    intro c
    induction c with
    | zero =>
      intro kn k w m2 e0 a1 a2 a3 a4 a5
      refine J_il3 dX2_passHours_4 ?_
      refine J_il1 dX2_passHours_5 ?_
      refine J_cge (tgt := 23) dX2_passHours_6 rfl (by omega) (fun c_6 => ?_) (fun c_6 => ?_)
      · skip
        refine J_il2 dX2_passHours_23 ?_
        refine M_iret dX2_passHours_24 rfl ?_
        have e : kn = n.toNat := by omega
        subst e
        exact ⟨a3, a4, a5⟩
      · skip
        omega
    | succ c ih =>
      intro kn k w m2 e0 a1 a2 a3 a4 a5
      have h4 : (hrs kn (r, L)).1.1 4 = r 4 + kn := (hrs_inv (b := (r, L)) hI kn).2.2.1
      have hI2 := (hrs_inv (b := (r, L)) hI kn).1
      refine J_il3 dX2_passHours_4 ?_
      refine J_il1 dX2_passHours_5 ?_
      refine J_cge (tgt := 23) dX2_passHours_6 rfl (by omega) (fun c_6 => ?_) (fun c_6 => ?_)
      · skip
        refine J_il2 dX2_passHours_23 ?_
        refine M_iret dX2_passHours_24 rfl ?_
        have e : kn = n.toNat := by omega
        subst e
        exact ⟨a3, a4, a5⟩
      · skip
        refine J_il2 dX2_passHours_9 ?_
        refine J_al0 dX2_passHours_10 ?_
        refine J_iconst dX2_passHours_11 ?_
        refine M_cvI1 dX2_passHours_12 lk_X2_88 cw_X2_passHour (isB_sh hj) rfl rfl (k_passHour hj a4 hI2 (by omega) (fun _ => True) fgt0) (by decide) (Nat.le_of_ble_eq_true rfl) (fun v_12 mem_12 hq => ?_)
        obtain ⟨rfl, hC2, hF2⟩ := hq
        refine J_iadd dX2_passHours_15 ?_
        refine J_is2 dX2_passHours_16 (by decide) rfl ?_
        refine J_inc3 dX2_passHours_17 (by decide) rfl ?_
        refine J_goto (tgt := 4) dX2_passHours_20 rfl ?_
        exact ih (kn + 1) (k + 1) _ _ (by omega) (by omega) (by omega) (by rw [a3]; rfl) hC2 (a5.tr hF2)
  refine CM.of (by decide +kernel) ([zr j, zi n, zu, zu]) (zok_all rfl) (Nat.le_of_ble_eq_true rfl) rfl ?_
  refine J_iconst dX2_passHours_0 ?_
  refine J_is2 dX2_passHours_1 (by decide) rfl ?_
  refine J_iconst dX2_passHours_2 ?_
  refine J_is3 dX2_passHours_3 (by decide) rfl ?_
  exact loop n.toNat 0 0 0 mem rfl (by omega) (by omega) rfl hC FrB.rf
