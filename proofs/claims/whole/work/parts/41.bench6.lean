/-! AN HOUR OF THE CLASS -/
theorem zand_r (a b : Int) : -2147483648 ≤ zand a b ∧ zand a b < 2147483648 := by
  unfold zand
  have h1 := Int32.le_toInt (Int32.ofInt a &&& Int32.ofInt b)
  have h2 := Int32.toInt_lt (Int32.ofInt a &&& Int32.ofInt b)
  omega
theorem k_seatWhoIsBack {mem : ZMem} {j : Nat} {r : Int → Int} {L : List Int} (hj : isB j) (hC : CB mem j r L) (hI : BInv r L) (hh : r 4 ≤ 3000) : CV mX2_seatWhoIsBack 2 [zr j] mem (fun mem' => CB mem' j (bckN (r 3).toNat (r, L)).1 (bckN (r 3).toNat (r, L)).2 ∧ FrB j mem mem') := by
  have i1 := hI.1
  have loop : ∀ (n kn : Nat) (k : Int) (m2 : ZMem), k = kn → k ≤ r 3 → r 3 - k ≤ n → CB m2 j (bckN kn (r, L)).1 (bckN kn (r, L)).2 → FrB j mem m2 → JM mX2_seatWhoIsBack 2 (QV (fun mem' => CB mem' j (bckN (r 3).toNat (r, L)).1 (bckN (r 3).toNat (r, L)).2 ∧ FrB j mem mem')) 2 [zr j, zi k] [] m2 := by
    intro n
    induction n with
    | zero =>
      intro kn k m2 e0 a1 a2 a3 a4
      have c2 : m2 j 2 = r 3 := a3.1.2.2.1.trans ((bckN_inv (b := (r, L)) hI kn (by show (kn : Int) ≤ r 3; omega)).2.1.1 3 (by omega) (by omega))
      refine J_il1 dX2_seatWhoIsBack_2 ?_
      refine J_al0 dX2_seatWhoIsBack_3 ?_
      refine M_get (ki := 2) dX2_seatWhoIsBack_4 fl_X2_18 (isB_sh hj) rfl rfl ?_
      refine J_cge (tgt := 65) dX2_seatWhoIsBack_7 rfl (by omega) (fun c_7 => ?_) (fun c_7 => ?_)
      · skip
        refine M_vret dX2_seatWhoIsBack_65 rfl ?_
        have e : kn = (r 3).toNat := by omega
        subst e
        exact ⟨a3, a4⟩
      · skip
        omega
    | succ n ih =>
      intro kn k m2 e0 a1 a2 a3 a4
      obtain ⟨I2, K2, h4, hw⟩ := bckN_inv (b := (r, L)) hI kn (by show (kn : Int) ≤ r 3; omega)
      have e3 : (bckN kn (r, L)).1 3 = r 3 := K2.1 3 (by omega) (by omega)
      have c2 : m2 j 2 = r 3 := a3.1.2.2.1.trans e3
      have nx : bckN (kn + 1) (r, L) = bck (bckN kn (r, L)) kn := rfl
      have fin : ¬ k < r 3 → CB m2 j (bckN (r 3).toNat (r, L)).1 (bckN (r 3).toNat (r, L)).2 := fun q => by
        have e : kn = (r 3).toNat := by omega
        rw [← e]; exact a3
      have ih' := ih (kn + 1) (k + 1)
      rw [nx, ← e0] at ih'
      generalize bckN kn (r, L) = b at *
      have h4 : b.1 4 = r 4 := h4
      have hl2 := I2.len
      obtain ⟨⟨d0, d1, d2, d6, d7, d8, d9⟩, dO, dM⟩ := id a3
      refine J_il1 dX2_seatWhoIsBack_2 ?_
      refine J_al0 dX2_seatWhoIsBack_3 ?_
      refine M_get (ki := 2) dX2_seatWhoIsBack_4 fl_X2_18 (isB_sh hj) rfl rfl ?_
      refine J_cge (tgt := 65) dX2_seatWhoIsBack_7 rfl (by omega) (fun c_7 => ?_) (fun c_7 => ?_)
      · skip
        refine M_vret dX2_seatWhoIsBack_65 rfl ?_
        exact ⟨fin (by omega), a4⟩
      · skip
        have hM := dM k (by omega) (by omega)
        have hN := I2.2.2.2.2.1 k (by omega) (by omega)
        have hb2 := bk_range hN.2.2.2.2.1.1 (by omega)
        refine J_al0 dX2_seatWhoIsBack_10 ?_
        refine J_il1 dX2_seatWhoIsBack_11 ?_
        refine M_cvI1 dX2_seatWhoIsBack_12 lk_X2_97 cw_X2_isAtDinner (isB_sh hj) rfl rfl (k_isAtDinner hj a3 I2 (by omega) (by omega) (by omega)) (by decide) (Nat.le_of_ble_eq_true rfl) (fun v_12 mem_12 hq => ?_)
        obtain ⟨rfl, hq⟩ := hq; have hq := hq.symm; subst hq
        refine J_ifeq_b (tgt := 59) dX2_seatWhoIsBack_15 rfl (fun c_15 => ?_) (fun c_15 => ?_)
        · skip
          refine J_inc1 dX2_seatWhoIsBack_59 (by decide) rfl ?_
          refine J_goto (tgt := 2) dX2_seatWhoIsBack_62 rfl ?_
          refine ih' _ (by omega) (by omega) (by omega) ?_ a4
          unfold bck
          rw [if_neg (by omega)]
          exact a3
        · skip
          have hp := bk_pos c_15
          refine J_al0 dX2_seatWhoIsBack_18 ?_
          refine M_getR dX2_seatWhoIsBack_19 fl_X2_50 (isB_sh hj) rfl ?_
          refine J_il1 dX2_seatWhoIsBack_22 ?_
          refine M_ald dX2_seatWhoIsBack_23 (isB_a6 hj) (by decide) (by omega) ?_
          refine J_al0 dX2_seatWhoIsBack_24 ?_
          refine M_get (ki := 6) dX2_seatWhoIsBack_25 fl_X2_31 (isB_sh hj) rfl rfl ?_
          refine J_cgt (tgt := 59) dX2_seatWhoIsBack_28 rfl (by omega) (fun c_28 => ?_) (fun c_28 => ?_)
          · skip
            refine J_inc1 dX2_seatWhoIsBack_59 (by decide) rfl ?_
            refine J_goto (tgt := 2) dX2_seatWhoIsBack_62 rfl ?_
            refine ih' _ (by omega) (by omega) (by omega) ?_ a4
            unfold bck
            rw [if_neg (by omega)]
            exact a3
          · skip
            have hlen := I2.len1 (m := k) (by omega) (by omega) (fun q => by have := hN.2.2.2.2.2.mpr q; omega)
            refine J_al0 dX2_seatWhoIsBack_31 ?_
            refine J_il1 dX2_seatWhoIsBack_32 ?_
            refine J_al0 dX2_seatWhoIsBack_33 ?_
            refine M_getR dX2_seatWhoIsBack_34 fl_X2_21 (isB_sh hj) rfl ?_
            refine J_il1 dX2_seatWhoIsBack_37 ?_
            refine M_ald dX2_seatWhoIsBack_38 (isB_a1 hj) (by decide) (by omega) ?_
            refine J_iconst dX2_seatWhoIsBack_39 ?_
            refine J_cne (tgt := 52) dX2_seatWhoIsBack_40 rfl (by omega) (fun c_40 => ?_) (fun c_40 => ?_)
            · skip
              refine J_al0 dX2_seatWhoIsBack_52 ?_
              refine M_get (ki := 9) dX2_seatWhoIsBack_53 fl_X2_41 (isB_sh hj) rfl rfl ?_
              refine M_cvV2 dX2_seatWhoIsBack_56 lk_X2_53 cw_X2_seat (isB_sh hj) rfl rfl (k_seat hj a3 (by omega) (by omega) (by omega) (by omega) (by omega)) (by decide) (Nat.le_of_ble_eq_true rfl) (fun mem_56 hq => ?_)
              obtain ⟨hC3, hF3⟩ := hq
              refine J_inc1 dX2_seatWhoIsBack_59 (by decide) rfl ?_
              refine J_goto (tgt := 2) dX2_seatWhoIsBack_62 rfl ?_
              refine ih' _ (by omega) (by omega) (by omega) ?_ (a4.tr hF3)
              unfold bck
              rw [if_pos (by omega)]
              first | (rw [if_pos (by omega), ← d9]; exact hC3) | (rw [if_neg (by omega), ← d9]; exact hC3)
            · skip
              refine J_al0 dX2_seatWhoIsBack_43 ?_
              refine M_get (ki := 9) dX2_seatWhoIsBack_44 fl_X2_41 (isB_sh hj) rfl rfl ?_
              refine J_iconst dX2_seatWhoIsBack_47 ?_
              refine J_idiv dX2_seatWhoIsBack_48 (by omega) ?_
              refine J_goto (tgt := 56) dX2_seatWhoIsBack_49 rfl ?_
              refine M_cvV2 dX2_seatWhoIsBack_56 lk_X2_53 cw_X2_seat (isB_sh hj) rfl rfl (k_seat hj a3 (by omega) (by omega) (by omega) (by omega) (by omega)) (by decide) (Nat.le_of_ble_eq_true rfl) (fun mem_56 hq => ?_)
              obtain ⟨hC3, hF3⟩ := hq
              refine J_inc1 dX2_seatWhoIsBack_59 (by decide) rfl ?_
              refine J_goto (tgt := 2) dX2_seatWhoIsBack_62 rfl ?_
              refine ih' _ (by omega) (by omega) (by omega) ?_ (a4.tr hF3)
              unfold bck
              rw [if_pos (by omega)]
              first | (rw [if_pos (by omega), ← d9]; exact hC3) | (rw [if_neg (by omega), ← d9]; exact hC3)
  refine CM.of (by decide +kernel) ([zr j, zu]) (zok_all rfl) (Nat.le_of_ble_eq_true rfl) rfl ?_
  refine J_iconst dX2_seatWhoIsBack_0 ?_
  refine J_is1 dX2_seatWhoIsBack_1 (by decide) rfl ?_
  exact loop (r 3).toNat 0 0 mem rfl (by omega) (by omega) hC FrB.rf
theorem sunR_keep {r r' : Int → Int} (h : Keep r r') (h4 : r' 4 = r 4) : sunR r' (r' 4 % 24) = sunR r (r 4 % 24) := by
  unfold sunR
  rw [h.1 1 (by omega) (by omega), h.1 2 (by omega) (by omega), h4]
theorem k_callToDinner {mem : ZMem} {j : Nat} {r0 : Int → Int} {L0 : List Int} (hj : isB j) (hC0 : CB mem j r0 L0) (hI0 : BInv r0 L0) (hh0 : r0 4 ≤ 3000) (F : Int → Prop) {fb sn : Int} (hs0 : sn = sunR r0 (r0 4 % 24)) (hF : ∀ m, 0 ≤ m → m < 7 → (zand fb (zshl 1 m) = 0 ↔ F m)) : CI mX2_callToDinner 4 [zr j, zi fb, zi sn] mem (fun v mem' => v = (callR F r0 [] L0).2.2 ∧ CB mem' j (callR F r0 [] L0).1 (callR F r0 [] L0).2.1 ∧ FrB j mem mem') := by
  have loop : ∀ (rest pre : List Int) (r : Int → Int) (m2 : ZMem) (went place sat looked : Int) (x7 x8 : ZV), sn = sunR r (r 4 % 24) → CB m2 j r (pre ++ rest) → BInv r (pre ++ rest) → r 4 ≤ 3000 → place = pre.length → sat - looked = rest.length → 0 ≤ looked → sat ≤ 7 → FrB j mem m2 → (callR F r pre rest).1 = (callR F r0 [] L0).1 → (callR F r pre rest).2.1 = (callR F r0 [] L0).2.1 → went + (callR F r pre rest).2.2 = (callR F r0 [] L0).2.2 →
      JM mX2_callToDinner 4 (QI (fun v mem' => v = (callR F r0 [] L0).2.2 ∧ CB mem' j (callR F r0 [] L0).1 (callR F r0 [] L0).2.1 ∧ FrB j mem mem')) 14 [zr j, zi fb, zi sn, zi went, zi place, zi sat, zi looked, x7, x8] [] m2 := by
    intro rest
    induction rest with
    | nil =>
      intro pre r m2 went place sat looked x7 x8 hsn hC hI hh e1 e2 e3 e4 hFr g1 g2 g3
      have e2 : sat - looked = 0 := e2
      refine J_il6 dX2_callToDinner_14 ?_
      refine J_il5 dX2_callToDinner_16 ?_
      refine J_cge (tgt := 120) dX2_callToDinner_18 rfl (by omega) (fun c_18 => ?_) (fun c_18 => ?_)
      · skip
        refine J_il3 dX2_callToDinner_120 ?_
        refine M_iret dX2_callToDinner_121 rfl ?_
        rw [List.append_nil] at hC
        refine ⟨?_, ?_, hFr⟩
        · rw [← g3]; show went = went + 0; omega
        · rw [← g1, ← g2]; exact hC
      · skip
        omega
    | cons m rest ih =>
      intro pre r m2 went place sat looked x7 x8 hsn hC hI hh e1 e2 e3 e4 hFr g1 g2 g3
      rw [List.length_cons] at e2
      have hmem : m ∈ pre ++ m :: rest := List.mem_append_right _ List.mem_cons_self
      have hm := hI.2.2.1 m hmem
      have i1 := hI.1
      have hlen := hI.len
      have hlen2 : ((pre ++ m :: rest).length : Int) = pre.length + 1 + rest.length := by rw [List.length_append, List.length_cons]; omega
      have hman : m2 (j + 4) place = m := by
        rw [hC.2.1 place (by omega) (by omega), e1, lget_app_r (Int.le_refl _), show (pre.length : Int) - pre.length = 0 by omega, lget_c0]
      have stay : ∀ (x8 : ZV), ¬ (dn r m = r 4 % 24 ∧ F m ∧ goesR r ((pre.length : Int) + 1 + rest.length) m pre.length) → JM mX2_callToDinner 4 (QI (fun v mem' => v = (callR F r0 [] L0).2.2 ∧ CB mem' j (callR F r0 [] L0).1 (callR F r0 [] L0).2.1 ∧ FrB j mem mem')) 111 [zr j, zi fb, zi sn, zi went, zi place, zi sat, zi looked, zi m, x8] [] m2 := by
        intro x8 hn
        rw [callR, cif_f hn] at g1 g2 g3
        refine J_inc4 dX2_callToDinner_111 (by decide) rfl ?_
        refine J_inc6 dX2_callToDinner_114 (by decide) rfl ?_
        refine J_goto (tgt := 14) dX2_callToDinner_117 rfl ?_
        exact ih (pre ++ [m]) r m2 went (place + 1) sat (looked + 1) _ _ hsn (by rw [List.append_assoc]; exact hC) (by rw [List.append_assoc]; exact hI) hh (by rw [List.length_append]; show place + 1 = ((pre.length + 1 : Nat) : Int); omega) (by omega) (by omega) e4 hFr g1 g2 g3
      refine J_il6 dX2_callToDinner_14 ?_
      refine J_il5 dX2_callToDinner_16 ?_
      refine J_cge (tgt := 120) dX2_callToDinner_18 rfl (by omega) (fun c_18 => ?_) (fun c_18 => ?_)
      · skip
        omega
      · skip
        refine J_al0 dX2_callToDinner_21 ?_
        refine M_getR dX2_callToDinner_22 fl_X2_44 (isB_sh hj) rfl ?_
        refine J_il4 dX2_callToDinner_25 ?_
        refine M_ald dX2_callToDinner_27 (isB_a4 hj) (by decide) (by omega) ?_
        rw [hman]
        refine J_is7 dX2_callToDinner_28 (by decide) rfl ?_
        refine J_al0 dX2_callToDinner_30 ?_
        refine J_il7 dX2_callToDinner_31 ?_
        refine M_cvI1 dX2_callToDinner_33 lk_X2_84 cw_X2_isDue (isB_sh hj) rfl rfl (k_isDue hj hC hI hm.1 hm.2 hh) (by decide) (Nat.le_of_ble_eq_true rfl) (fun v_33 mem_33 hq => ?_)
        obtain ⟨rfl, hq⟩ := hq; have hq := hq.symm; subst hq
        refine J_ifeq_b (tgt := 52) dX2_callToDinner_36 rfl (fun c_36 => ?_) (fun c_36 => ?_)
        · skip
          refine J_iconst dX2_callToDinner_52 ?_
          refine J_is8 dX2_callToDinner_53 (by decide) rfl ?_
          refine J_il8 dX2_callToDinner_55 ?_
          refine J_ifeq (tgt := 111) dX2_callToDinner_57 rfl (by decide) (fun _ => ?_) (fun c => absurd c (by decide))
          first | exact stay _ (fun q => c_36 q.1) | exact stay _ (fun q => c_45 ((hF m (by omega) (by omega)).mpr q.2.1)) | (refine stay _ (fun q => c_77 ?_); rw [hlen2, e1]; exact q.2.2)
        · skip
          refine J_il1 dX2_callToDinner_39 ?_
          refine J_iconst dX2_callToDinner_40 ?_
          refine J_il7 dX2_callToDinner_41 ?_
          refine J_ishl dX2_callToDinner_43 ?_
          refine J_iand dX2_callToDinner_44 ?_
          refine J_ifne (tgt := 52) dX2_callToDinner_45 rfl (by exact zand_r _ _) (fun c_45 => ?_) (fun c_45 => ?_)
          · skip
            refine J_iconst dX2_callToDinner_52 ?_
            refine J_is8 dX2_callToDinner_53 (by decide) rfl ?_
            refine J_il8 dX2_callToDinner_55 ?_
            refine J_ifeq (tgt := 111) dX2_callToDinner_57 rfl (by decide) (fun _ => ?_) (fun c => absurd c (by decide))
            first | exact stay _ (fun q => c_36 q.1) | exact stay _ (fun q => c_45 ((hF m (by omega) (by omega)).mpr q.2.1)) | (refine stay _ (fun q => c_77 ?_); rw [hlen2, e1]; exact q.2.2)
          · skip
            refine J_iconst dX2_callToDinner_48 ?_
            refine J_goto (tgt := 53) dX2_callToDinner_49 rfl ?_
            refine J_is8 dX2_callToDinner_53 (by decide) rfl ?_
            refine J_il8 dX2_callToDinner_55 ?_
            refine J_ifeq (tgt := 111) dX2_callToDinner_57 rfl (by decide) (fun c => absurd c (by decide)) (fun _ => ?_)
            refine J_al0 dX2_callToDinner_60 ?_
            refine M_getR dX2_callToDinner_61 fl_X2_21 (isB_sh hj) rfl ?_
            refine J_il7 dX2_callToDinner_64 ?_
            refine M_ald dX2_callToDinner_66 (isB_a1 hj) (by decide) (by omega) ?_
            refine J_al0 dX2_callToDinner_67 ?_
            refine J_il4 dX2_callToDinner_68 ?_
            refine J_il2 dX2_callToDinner_70 ?_
            refine M_cvI2 dX2_callToDinner_71 lk_X2_80 cw_X2_hasSun (isB_sh hj) rfl rfl (k_hasSun hj hC hI.lt (by omega) hsn) (by decide) (Nat.le_of_ble_eq_true rfl) (fun v_71 mem_71 hq => ?_)
            obtain ⟨rfl, hq⟩ := hq; have hq := hq.symm; subst hq
            refine M_csI2 dX2_callToDinner_74 lk_X2_102 cw_X2_goesWhenCalled (k_goesWhenCalled (hC.2.2 m hm.1 hm.2).1 (hI.2.2.2.2.1 m hm.1 hm.2).1) (by decide) (Nat.le_of_ble_eq_true rfl) (fun v_74 mem_74 hq => ?_)
            obtain ⟨rfl, hq⟩ := hq; have hq := hq.symm; subst hq
            refine J_ifeq_b (tgt := 111) dX2_callToDinner_77 rfl (fun c_77 => ?_) (fun c_77 => ?_)
            · skip
              first | exact stay _ (fun q => c_36 q.1) | exact stay _ (fun q => c_45 ((hF m (by omega) (by omega)).mpr q.2.1)) | (refine stay _ (fun q => c_77 ?_); rw [hlen2, e1]; exact q.2.2)
            · skip
              refine J_al0 dX2_callToDinner_80 ?_
              refine J_il4 dX2_callToDinner_81 ?_
              refine M_cvV1 dX2_callToDinner_83 lk_X2_106 cw_X2_unseat (isB_sh hj) rfl rfl (k_unseat hj hC (by omega) (by omega) (by omega)) (by decide) (Nat.le_of_ble_eq_true rfl) (fun mem_83 hq => ?_)
              obtain ⟨hC3, hF3⟩ := hq
              rw [e1, era_mid] at hC3
              have d6 := hC3.1.2.2.2.1
              have d3 := (hC3.2.2 m hm.1 hm.2).2.2.1
              refine J_al0 dX2_callToDinner_86 ?_
              refine M_getR dX2_callToDinner_87 fl_X2_50 (isB_sh hj) rfl ?_
              refine J_il7 dX2_callToDinner_90 ?_
              refine J_al0 dX2_callToDinner_92 ?_
              refine M_get (ki := 6) dX2_callToDinner_93 fl_X2_31 (isB_sh hj) rfl rfl ?_
              refine J_al0 dX2_callToDinner_96 ?_
              refine M_getR dX2_callToDinner_97 fl_X2_28 (isB_sh hj) rfl ?_
              refine J_il7 dX2_callToDinner_100 ?_
              refine M_ald dX2_callToDinner_102 (isB_a3 hj) (by decide) (by omega) ?_
              refine J_iadd dX2_callToDinner_103 ?_
              refine M_ast dX2_callToDinner_104 (isB_a6 hj) (by decide) (by omega) ?_
              refine J_inc3 dX2_callToDinner_105 (by decide) rfl ?_
              refine J_goto (tgt := 114) dX2_callToDinner_108 rfl ?_
              refine J_inc6 dX2_callToDinner_114 (by decide) rfl ?_
              refine J_goto (tgt := 14) dX2_callToDinner_117 rfl ?_
              have hg : dn r m = r 4 % 24 ∧ F m ∧ goesR r ((pre.length : Int) + 1 + rest.length) m pre.length := ⟨c_36, (hF m (by omega) (by omega)).mp c_45, by rw [← hlen2, ← e1]; exact c_77⟩
              rw [callR, cif_t hg] at g1 g2 g3
              have h5 := hI.2.2.2.2.1 m hm.1 hm.2
              have h4 := hI.2.2.2.1
              have hb : mem_83 j 6 + mem_83 (j + 3) m = bk (r 4 + lg r m) := by rw [d6, d3, bk_pos (by omega)]
              rw [hb]
              exact ih pre (zup r (15 + 5 * m + 4) (r 4 + lg r m)) _ (went + 1) place sat (looked + 1) _ _ (hsn.trans (sunR_keep (Keep.gone hm.1) (zup_n (by omega))).symm) (CB.goned hC3 hm.1) (BInv.go hI (by omega)) (by rw [zup_n (by omega)]; exact hh) e1 (by omega) (by omega) e4 (FrB.set (hFr.tr hF3) (by omega) (by omega)) g1 g2 (by have g3 : went + (_ + 1) = _ := g3; omega)
  have hl := hI0.len
  have i1 := hI0.1
  have c9 := hC0.1.2.2.2.2.2.2
  refine CM.of (by decide +kernel) ([zr j, zi fb, zi sn, zu, zu, zu, zu, zu, zu]) (zok_all rfl) (Nat.le_of_ble_eq_true rfl) rfl ?_
  refine J_iconst dX2_callToDinner_0 ?_
  refine J_is3 dX2_callToDinner_1 (by decide) rfl ?_
  refine J_iconst dX2_callToDinner_2 ?_
  refine J_is4 dX2_callToDinner_3 (by decide) rfl ?_
  refine J_al0 dX2_callToDinner_5 ?_
  refine M_get (ki := 9) dX2_callToDinner_6 fl_X2_41 (isB_sh hj) rfl rfl ?_
  refine J_is5 dX2_callToDinner_9 (by decide) rfl ?_
  refine J_iconst dX2_callToDinner_11 ?_
  refine J_is6 dX2_callToDinner_12 (by decide) rfl ?_
  exact loop L0 [] r0 mem 0 0 (mem j 9) 0 zu zu hs0 hC0 hI0 hh0 rfl (by omega) (by omega) (by omega) FrB.rf rfl rfl (by omega)
