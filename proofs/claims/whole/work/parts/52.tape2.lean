theorem k_bclear {mem : ZMem} {j : Nat} (hj : isB j) : CV mX2_clear 0 [zr j] mem (fun mem' => (mem' j 0 = 0 ∧ mem' j 1 = 0 ∧ mem' j 2 = 0 ∧ mem' j 6 = 0 ∧ mem' j 7 = 0 ∧ mem' j 8 = 0 ∧ mem' j 9 = 0) ∧ ∀ q, q ≠ j → mem' q = mem q) := by
  refine CM.of (by decide +kernel) ([zr j]) (zok_all rfl) (Nat.le_of_ble_eq_true rfl) rfl ?_
  refine J_al0 dX2_clear_0 ?_
  refine J_iconst dX2_clear_1 ?_
  refine M_put (ki := 0) dX2_clear_2 fl_X2_9 (isB_sh hj) rfl rfl rfl (fun r hr => by cases hr; rfl) ?_
  refine J_al0 dX2_clear_5 ?_
  refine J_iconst dX2_clear_6 ?_
  refine M_put (ki := 1) dX2_clear_7 fl_X2_15 (isB_sh hj) rfl rfl rfl (fun r hr => by cases hr; rfl) ?_
  refine J_al0 dX2_clear_10 ?_
  refine J_iconst dX2_clear_11 ?_
  refine M_put (ki := 2) dX2_clear_12 fl_X2_18 (isB_sh hj) rfl rfl rfl (fun r hr => by cases hr; rfl) ?_
  refine J_al0 dX2_clear_15 ?_
  refine J_iconst dX2_clear_16 ?_
  refine M_put (ki := 6) dX2_clear_17 fl_X2_31 (isB_sh hj) rfl rfl rfl (fun r hr => by cases hr; rfl) ?_
  refine J_al0 dX2_clear_20 ?_
  refine J_iconst dX2_clear_21 ?_
  refine M_put (ki := 7) dX2_clear_22 fl_X2_34 (isB_sh hj) rfl rfl rfl (fun r hr => by cases hr; rfl) ?_
  refine J_al0 dX2_clear_25 ?_
  refine J_iconst dX2_clear_26 ?_
  refine M_putZ (ki := 8) dX2_clear_27 fl_X2_37 (isB_sh hj) rfl rfl rfl (fun r hr => by cases hr; rfl) (by decide) ?_
  refine J_al0 dX2_clear_30 ?_
  refine J_iconst dX2_clear_31 ?_
  refine M_put (ki := 9) dX2_clear_32 fl_X2_41 (isB_sh hj) rfl rfl rfl (fun r hr => by cases hr; rfl) ?_
  refine M_vret dX2_clear_35 rfl ?_
  refine ⟨⟨?_, ?_, ?_, ?_, ?_, ?_, ?_⟩, fun q hq => ?_⟩
  · rw [mset_i (by omega), mset_i (by omega), mset_i (by omega), mset_i (by omega), mset_i (by omega), mset_i (by omega), mset_s]
  · rw [mset_i (by omega), mset_i (by omega), mset_i (by omega), mset_i (by omega), mset_i (by omega), mset_s]
  · rw [mset_i (by omega), mset_i (by omega), mset_i (by omega), mset_i (by omega), mset_s]
  · rw [mset_i (by omega), mset_i (by omega), mset_i (by omega), mset_s]
  · rw [mset_i (by omega), mset_i (by omega), mset_s]
  · rw [mset_i (by omega), mset_s]
  · rw [mset_s]
  · rw [mset_n hq, mset_n hq, mset_n hq, mset_n hq, mset_n hq, mset_n hq, mset_n hq]
theorem PsC.ext {mem mem' : ZMem} {s : PS} (h : PsC mem s) (e : mem' 14 = mem 14) : PsC mem' s := by
  unfold PsC at h ⊢
  rw [e]
  exact h
theorem k_readLaw {mem : ZMem} {t : Int → Int} {n : Int} {s : PS} (hT : TpC mem t n) (hs : PsC mem s) (hI : PInv n s) : CV mX5_readLaw 2 [zr 14, zr 63] mem (fun mem' => PsC mem' (pLaw t n s) ∧ TpC mem' t n ∧ ((pLaw t n s).2.1 = 0 → mem' 63 0 = nval t n (pL1 t n s).1 ∧ mem' 63 1 = nval t n (pL3 t n s).1) ∧ (∀ i, i ≠ 0 → i ≠ 1 → mem' 63 i = mem 63 i) ∧ ∀ q, q ≠ 14 → q ≠ 63 → mem' q = mem q) := by
  refine CM.of (by decide +kernel) ([zr 14, zr 63]) (zok_all rfl) (Nat.le_of_ble_eq_true rfl) rfl ?_
  refine J_al0 dX5_readLaw_0 ?_
  refine J_bipush dX5_readLaw_1 rfl ?_
  refine M_cvV1 dX5_readLaw_3 lk_X5_40 cw_X5_readSign sh_14 rfl rfl (k_readSign hT hs hI (by omega)) (by decide) (Nat.le_of_ble_eq_true rfl) (fun mem_3 hq => ?_)
  obtain ⟨s1, t1, f1⟩ := hq
  have I1 := pSgn_inv (t := t) (c := 98) hI
  refine J_al1 dX5_readLaw_6 ?_
  refine J_al0 dX5_readLaw_7 ?_
  refine J_iconst dX5_readLaw_8 ?_
  refine J_bipush dX5_readLaw_9 rfl ?_
  refine M_cvI2 dX5_readLaw_11 lk_X5_44 cw_X5_readNumber sh_14 rfl rfl (k_readNumber t1 s1 I1 (by omega) (by omega)) (by decide) (Nat.le_of_ble_eq_true rfl) (fun v_11 mem_11 hq => ?_)
  obtain ⟨v2, s2, t2, f2⟩ := hq
  have I2 := pNum_inv (t := t) (lo := 0) (hi := 23) I1
  refine M_put (ki := 0) dX5_readLaw_14 fl_X5_48 sh_63 rfl rfl rfl (fun r hr => by cases hr; rfl) ?_
  have s2' := s2.ext (mem' := mset mem_11 63 0 v_11) (mset_n (by omega))
  have t2' := t2.ext (mem' := mset mem_11 63 0 v_11) (by rw [mset_n (by omega)]) (mset_n (by omega))
  refine J_al0 dX5_readLaw_17 ?_
  refine J_bipush dX5_readLaw_18 rfl ?_
  refine M_cvV1 dX5_readLaw_20 lk_X5_40 cw_X5_readSign sh_14 rfl rfl (k_readSign t2' s2' I2 (by omega)) (by decide) (Nat.le_of_ble_eq_true rfl) (fun mem_20 hq => ?_)
  obtain ⟨s3, t3, f3⟩ := hq
  have I3 := pSgn_inv (t := t) (c := 44) I2
  refine J_al1 dX5_readLaw_23 ?_
  refine J_al0 dX5_readLaw_24 ?_
  refine J_iconst dX5_readLaw_25 ?_
  refine J_bipush dX5_readLaw_26 rfl ?_
  refine M_cvI2 dX5_readLaw_28 lk_X5_44 cw_X5_readNumber sh_14 rfl rfl (k_readNumber t3 s3 I3 (by omega) (by omega)) (by decide) (Nat.le_of_ble_eq_true rfl) (fun v_28 mem_28 hq => ?_)
  obtain ⟨v4, s4, t4, f4⟩ := hq
  have I4 := pNum_inv (t := t) (lo := 0) (hi := 9) I3
  refine M_put (ki := 1) dX5_readLaw_31 fl_X5_51 sh_63 rfl rfl rfl (fun r hr => by cases hr; rfl) ?_
  have s4' := s4.ext (mem' := mset mem_28 63 1 v_28) (mset_n (by omega))
  have t4' := t4.ext (mem' := mset mem_28 63 1 v_28) (by rw [mset_n (by omega)]) (mset_n (by omega))
  refine J_al0 dX5_readLaw_34 ?_
  refine J_bipush dX5_readLaw_35 rfl ?_
  refine M_cvV1 dX5_readLaw_37 lk_X5_40 cw_X5_readSign sh_14 rfl rfl (k_readSign t4' s4' I4 (by omega)) (by decide) (Nat.le_of_ble_eq_true rfl) (fun mem_37 hq => ?_)
  obtain ⟨s5, t5, f5⟩ := hq
  refine M_vret dX5_readLaw_40 rfl ?_
  refine ⟨s5, t5, fun h0 => ?_, fun i i0 i1 => ?_, fun q q1 q2 => ?_⟩
  · have g4 := (pSgn_f h0).1
    have g3 := (pNum_f g4).1
    have g2 := (pSgn_f g3).1
    rw [f5 63 (by omega), mset_s, mset_i (by omega), f4 63 (by omega), f3 63 (by omega), mset_s]
    exact ⟨v2 g2, v4 g4⟩
  · rw [f5 63 (by omega), mset_i i1, f4 63 (by omega), f3 63 (by omega), mset_i i0, f2 63 (by omega), f1 63 (by omega)]
  · rw [f5 q q1, mset_n q2, f4 q q1, f3 q q1, mset_n q2, f2 q q1, f1 q q1]
theorem k_treadMan {mem : ZMem} {t : Int → Int} {n : Int} {s : PS} {k : Nat} {r : Int → Int} (hT : TpC mem t n) (hs : PsC mem s) (hI : PInv n s) (h0 : s.2.1 = 0) (hC : CB mem 63 r (rng k)) (h3 : r 3 = k) (hk : k ≤ 7) : CV mX5_readMan 4 [zr 14, zr 63] mem (fun mem' => PsC mem' (pMan t n k s) ∧ TpC mem' t n ∧ ((pMan t n k s).2.1 = 0 → CB mem' 63 (addR r k (kOf (t s.1)) (nval t n (s.1 + 1)) (nval t n (pM3 t n s).1)) (rng (k + 1))) ∧ ∀ q, q ≠ 14 → (q < 63 ∨ 69 < q) → mem' q = mem q) := by
  obtain ⟨a1, a2, a3⟩ := id hs
  obtain ⟨i1, i2⟩ := id hI
  have t1 := hT.1
  have c2 : mem 63 2 = k := hC.1.2.2.1.trans h3
  have bl : ∀ b : Int, b ≠ 0 → pMan t n k s = (s.1, b, s.1) → PsC (mset (mset mem 14 2 b) 14 3 (mem 14 4)) (pMan t n k s) ∧ TpC (mset (mset mem 14 2 b) 14 3 (mem 14 4)) t n ∧ ((pMan t n k s).2.1 = 0 → CB (mset (mset mem 14 2 b) 14 3 (mem 14 4)) 63 (addR r k (kOf (t s.1)) (nval t n (s.1 + 1)) (nval t n (pM3 t n s).1)) (rng (k + 1))) ∧ ∀ q, q ≠ 14 → (q < 63 ∨ 69 < q) → mset (mset mem 14 2 b) 14 3 (mem 14 4) q = mem q := by
    intro b hb e
    rw [e]
    exact ⟨hs.blamed hb, hT.ext (by rw [mset_i (by omega), mset_i (by omega)]) (by rw [mset_n (by omega), mset_n (by omega)]), fun q => absurd q hb, fun q q1 _ => by rw [mset_n q1, mset_n q1]⟩
  have go : ∀ (v : Int), ¬ (n ≤ s.1 ∨ kOf (t s.1) = 0) → v = kOf (t s.1) → JM mX5_readMan 4 (QV (fun mem' => PsC mem' (pMan t n k s) ∧ TpC mem' t n ∧ ((pMan t n k s).2.1 = 0 → CB mem' 63 (addR r k (kOf (t s.1)) (nval t n (s.1 + 1)) (nval t n (pM3 t n s).1)) (rng (k + 1))) ∧ ∀ q, q ≠ 14 → (q < 63 ∨ 69 < q) → mem' q = mem q)) 43 [zr 14, zr 63, zi v, zu, zu] [] mem := by
    intro v hn hv
    refine J_al1 dX5_readMan_43 ?_
    refine M_get (ki := 2) dX5_readMan_44 fl_X5_66 sh_63 rfl rfl ?_
    refine J_bipush dX5_readMan_47 rfl ?_
    refine J_clt (tgt := 58) dX5_readMan_49 rfl (by omega) (fun c_49 => ?_) (fun c_49 => ?_)
    · skip
      refine J_al0 dX5_readMan_58 ?_
      refine J_dup dX5_readMan_59 rfl ?_
      refine M_get (ki := 4) dX5_readMan_60 fl_X5_25 sh_14 rfl rfl ?_
      refine J_iconst dX5_readMan_63 ?_
      refine J_iadd dX5_readMan_64 ?_
      refine M_put (ki := 4) dX5_readMan_65 fl_X5_25 sh_14 rfl rfl rfl (fun r hr => by cases hr; rfl) ?_
      rw [a1]
      have s1 : PsC (mset mem 14 4 (s.1 + 1)) (s.1 + 1, 0, s.2.2) := hs.moved h0
      have T1 : TpC (mset mem 14 4 (s.1 + 1)) t n := hT.ext (by rw [mset_i (by omega)]) (by rw [mset_n (by omega)])
      have J1 : PInv n (s.1 + 1, 0, s.2.2) := ⟨by show 0 ≤ s.1 + 1 ∧ s.1 + 1 ≤ n; omega, by show (0:Int) ≤ 0 ∧ (0:Int) ≤ 3; omega⟩
      refine J_al0 dX5_readMan_68 ?_
      refine J_iconst dX5_readMan_69 ?_
      refine J_bipush dX5_readMan_70 rfl ?_
      refine M_cvI2 dX5_readMan_72 lk_X5_44 cw_X5_readNumber sh_14 rfl rfl (k_readNumber T1 s1 J1 (by omega) (by omega)) (by decide) (Nat.le_of_ble_eq_true rfl) (fun v_72 mem_72 hq => ?_)
      obtain ⟨v2, s2, t2, f2⟩ := hq
      have J2 := pNum_inv (t := t) (lo := 0) (hi := 23) J1
      refine J_is3 dX5_readMan_75 (by decide) rfl ?_
      refine J_al0 dX5_readMan_76 ?_
      refine J_bipush dX5_readMan_77 rfl ?_
      refine M_cvV1 dX5_readMan_79 lk_X5_40 cw_X5_readSign sh_14 rfl rfl (k_readSign t2 s2 J2 (by omega)) (by decide) (Nat.le_of_ble_eq_true rfl) (fun mem_79 hq => ?_)
      obtain ⟨s3, t3, f3⟩ := hq
      have J3 := pSgn_inv (t := t) (c := 44) J2
      refine J_al0 dX5_readMan_82 ?_
      refine J_iconst dX5_readMan_83 ?_
      refine J_bipush dX5_readMan_84 rfl ?_
      refine M_cvI2 dX5_readMan_86 lk_X5_44 cw_X5_readNumber sh_14 rfl rfl (k_readNumber t3 s3 J3 (by omega) (by omega)) (by decide) (Nat.le_of_ble_eq_true rfl) (fun v_86 mem_86 hq => ?_)
      obtain ⟨v4, s4, t4, f4⟩ := hq
      have J4 := pNum_inv (t := t) (lo := 1) (hi := 9) J3
      refine J_is4 dX5_readMan_89 (by decide) rfl ?_
      refine J_al0 dX5_readMan_91 ?_
      refine J_bipush dX5_readMan_92 rfl ?_
      refine M_cvV1 dX5_readMan_94 lk_X5_40 cw_X5_readSign sh_14 rfl rfl (k_readSign t4 s4 J4 (by omega)) (by decide) (Nat.le_of_ble_eq_true rfl) (fun mem_94 hq => ?_)
      obtain ⟨s5, t5, f5⟩ := hq
      have hC5 : CB mem_94 63 r (rng k) := hC.ext (fun q q1 q2 => by rw [f5 q (by omega), f4 q (by omega), f3 q (by omega), f2 q (by omega), mset_n (by omega)])
      refine J_al1 dX5_readMan_97 ?_
      refine J_il2 dX5_readMan_98 ?_
      refine J_il3 dX5_readMan_99 ?_
      refine J_il4 dX5_readMan_100 ?_
      refine M_cvV3 dX5_readMan_102 lk_X5_69 cw_X2_addMan sh_63 rfl rfl (k_addMan (Or.inr (Or.inr (Or.inr (Or.inl rfl)))) hC5 h3 (by omega)) (by decide) (Nat.le_of_ble_eq_true rfl) (fun mem_102 hq => ?_)
      obtain ⟨hC6, hF6⟩ := hq
      refine M_vret dX5_readMan_105 rfl ?_
      have e : pMan t n k s = pSgn t n 59 (pNum t n 1 9 (pM3 t n s)) := by unfold pMan; rw [if_neg hn, if_neg (by omega)]
      refine ⟨?_, t5.ext (by rw [hF6 14 (by omega)]) (hF6 15 (by omega)), fun q => ?_, fun q q1 q2 => ?_⟩
      · rw [e]; exact s5.ext (hF6 14 (by omega))
      · rw [e] at q
        have g4 := (pSgn_f q).1
        have g3 := (pNum_f g4).1
        have g2 := (pSgn_f g3).1
        have e2 : v_72 = nval t n (s.1 + 1) := v2 g2
        have e4 : v_86 = nval t n (pM3 t n s).1 := v4 g4
        rw [← e2, ← e4, ← hv]
        exact hC6
      · rw [hF6 q (by omega), f5 q q1, f4 q q1, f3 q q1, f2 q q1, mset_n q1]
    · skip
      refine J_al0 dX5_readMan_52 ?_
      refine J_iconst dX5_readMan_53 ?_
      refine M_cvV1 dX5_readMan_54 lk_X5_62 cw_X5_blame sh_14 rfl rfl k_blame (by decide) (Nat.le_of_ble_eq_true rfl) (fun mem_54 hq => ?_)
      subst hq
      refine M_vret dX5_readMan_57 rfl ?_
      exact bl 3 (by decide) (by unfold pMan; rw [if_neg hn, if_pos (by omega)])
  refine CM.of (by decide +kernel) ([zr 14, zr 63, zu, zu, zu]) (zok_all rfl) (Nat.le_of_ble_eq_true rfl) rfl ?_
  refine J_al0 dX5_readMan_0 ?_
  refine M_get (ki := 4) dX5_readMan_1 fl_X5_25 sh_14 rfl rfl ?_
  refine J_al0 dX5_readMan_4 ?_
  refine M_get (ki := 1) dX5_readMan_5 fl_X5_15 sh_14 rfl rfl ?_
  refine J_cge (tgt := 31) dX5_readMan_8 rfl (by omega) (fun c_8 => ?_) (fun c_8 => ?_)
  · skip
    refine J_iconst dX5_readMan_31 ?_
    refine J_is2 dX5_readMan_32 (by decide) rfl ?_
    refine J_il2 dX5_readMan_33 ?_
    refine J_ifne (tgt := 43) dX5_readMan_34 rfl (by decide) (fun c => absurd rfl c) (fun _ => ?_)
    refine J_al0 dX5_readMan_37 ?_
    refine J_iconst dX5_readMan_38 ?_
    refine M_cvV1 dX5_readMan_39 lk_X5_62 cw_X5_blame sh_14 rfl rfl k_blame (by decide) (Nat.le_of_ble_eq_true rfl) (fun mem_39 hq => ?_)
    subst hq
    refine M_vret dX5_readMan_42 rfl ?_
    exact bl 1 (by decide) (by unfold pMan; rw [if_pos (Or.inl (by omega))])
  · skip
    refine J_ldcS dX5_readMan_11 rfl ?_
    refine J_al0 dX5_readMan_13 ?_
    have ht := hT.2 s.1 (by omega) (by omega)
    refine M_getR dX5_readMan_14 fl_X5_11 sh_14 rfl ?_
    refine J_al0 dX5_readMan_17 ?_
    refine M_get (ki := 4) dX5_readMan_18 fl_X5_25 sh_14 rfl rfl ?_
    rw [a1]
    refine M_ald dX5_readMan_21 sh_15 (by decide) (by omega) ?_
    rw [ht.1]
    refine J_i2c dX5_readMan_22 (by omega) ?_
    refine M_ckI1 dX5_readMan_23 lk_X5_56 cw_J0_indexOf_0f7a4 rfl (k_indexOf (by omega)) (by decide) (Nat.le_of_ble_eq_true rfl) (fun v_23 mem_23 hq => ?_)
    obtain ⟨rfl, hq⟩ := hq; have hq := hq.symm; subst hq
    refine J_iconst dX5_readMan_26 ?_
    refine J_iadd dX5_readMan_27 ?_
    refine J_goto (tgt := 32) dX5_readMan_28 rfl ?_
    rw [show kOf (t s.1) - 1 + 1 = kOf (t s.1) by omega]
    have hkr := kOf_range (t s.1)
    refine J_is2 dX5_readMan_32 (by decide) rfl ?_
    refine J_il2 dX5_readMan_33 ?_
    refine J_ifne (tgt := 43) dX5_readMan_34 rfl (by omega) (fun c_34 => ?_) (fun c_34 => ?_)
    · skip
      exact go _ (by omega) rfl
    · skip
      refine J_al0 dX5_readMan_37 ?_
      refine J_iconst dX5_readMan_38 ?_
      refine M_cvV1 dX5_readMan_39 lk_X5_62 cw_X5_blame sh_14 rfl rfl k_blame (by decide) (Nat.le_of_ble_eq_true rfl) (fun mem_39 hq => ?_)
      subst hq
      refine M_vret dX5_readMan_42 rfl ?_
      exact bl 1 (by decide) (by unfold pMan; rw [if_pos (Or.inr (by omega))])
