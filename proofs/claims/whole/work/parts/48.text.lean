/-! THE CONSTANT TEXT: where a letter stands in it -/
def kOf (c : Int) : Int := if c = 115 then 1 else if c = 110 then 2 else if c = 97 then 3 else if c = 98 then 4 else if c = 100 then 5 else 0
theorem zb8_lo {c : Int} (h : 0 ≤ c ∧ c < 256) : zb8 c = if c < 128 then c else c - 256 := by
  have key : ∀ n : Nat, n < 256 → zb8 (n : Int) = if (n : Int) < 128 then (n : Int) else (n : Int) - 256 := by decide +kernel
  have := key c.toNat (by omega)
  rw [show ((c.toNat : Nat) : Int) = c by omega] at this
  exact this
theorem k_isLatin1 {mem : ZMem} : CI mJ0_isLatin1_aae02 0 [zr 1003] mem (fun v mem' => v = bi True ∧ mem' = mem) := by
  refine CM.of (by decide +kernel) ([zr 1003]) (zok_all rfl) (Nat.le_of_ble_eq_true rfl) rfl ?_
  refine J_gets (v := zi 1) dJ0_isLatin1_aae02_0 (List.mem_of_getElem? (i := 3) rfl) fk_J0_38 ?_
  refine J_ifeq (tgt := 17) dJ0_isLatin1_aae02_3 rfl (by decide) (fun c => absurd c (by decide)) (fun _ => ?_)
  refine J_al0 dJ0_isLatin1_aae02_6 ?_
  refine J_getk dJ0_isLatin1_aae02_7 (List.mem_of_getElem? (i := 0) rfl) fk_J0_15 ?_
  refine J_ifne (tgt := 17) dJ0_isLatin1_aae02_10 rfl (by decide) (fun c => absurd c (by decide)) (fun _ => ?_)
  refine J_iconst dJ0_isLatin1_aae02_13 ?_
  refine J_goto (tgt := 18) dJ0_isLatin1_aae02_14 rfl ?_
  refine M_zret dJ0_isLatin1_aae02_18 rfl (by decide) ?_
  exact ⟨(bi_t trivial).symm, rfl⟩
theorem k_coder {mem : ZMem} : CI mJ0_coder_7d493 0 [zr 1003] mem (fun v mem' => v = 0 ∧ mem' = mem) := by
  refine CM.of (by decide +kernel) ([zr 1003]) (zok_all rfl) (Nat.le_of_ble_eq_true rfl) rfl ?_
  refine J_gets (v := zi 1) dJ0_coder_7d493_0 (List.mem_of_getElem? (i := 3) rfl) fk_J0_38 ?_
  refine J_ifeq (tgt := 13) dJ0_coder_7d493_3 rfl (by decide) (fun c => absurd c (by decide)) (fun _ => ?_)
  refine J_al0 dJ0_coder_7d493_6 ?_
  refine J_getk dJ0_coder_7d493_7 (List.mem_of_getElem? (i := 0) rfl) fk_J0_15 ?_
  refine J_goto (tgt := 14) dJ0_coder_7d493_10 rfl ?_
  refine M_bret dJ0_coder_7d493_14 rfl (by decide) ?_
  exact ⟨rfl, rfl⟩
theorem k_slength {mem : ZMem} : CI mJ0_length_8abf5 1 [zr 1003] mem (fun v mem' => v = 5 ∧ mem' = mem) := by
  refine CM.of (by decide +kernel) ([zr 1003]) (zok_all rfl) (Nat.le_of_ble_eq_true rfl) rfl ?_
  refine J_al0 dJ0_length_8abf5_0 ?_
  refine J_getk dJ0_length_8abf5_1 (List.mem_of_getElem? (i := 1) rfl) fk_J0_9 ?_
  refine J_klen dJ0_length_8abf5_4 rfl ?_
  refine J_al0 dJ0_length_8abf5_5 ?_
  refine M_ckI0 dJ0_length_8abf5_6 lk_J0_335 cw_J0_coder_7d493 rfl k_coder (by decide) (Nat.le_of_ble_eq_true rfl) (fun v_6 mem_6 hq => ?_)
  obtain ⟨rfl, hq⟩ := hq; have hq := hq.symm; subst hq
  refine J_ishr dJ0_length_8abf5_9 ?_
  refine M_iret dJ0_length_8abf5_10 rfl ?_
  exact ⟨by decide, rfl⟩
theorem k_canEncode {mem : ZMem} {c : Int} (hc : 0 ≤ c ∧ c < 256) : CI mJ1_canEncode_9a6ad 0 [zi c] mem (fun v mem' => v = bi True ∧ mem' = mem) := by
  refine CM.of (by decide +kernel) ([zi c]) (zok_all rfl) (Nat.le_of_ble_eq_true rfl) rfl ?_
  refine J_il0 dJ1_canEncode_9a6ad_0 ?_
  refine J_iflt (tgt := 15) dJ1_canEncode_9a6ad_1 rfl (by omega) (fun c_1 => ?_) (fun c_1 => ?_)
  · skip
    omega
  · skip
    refine J_il0 dJ1_canEncode_9a6ad_4 ?_
    refine J_sipush dJ1_canEncode_9a6ad_5 rfl ?_
    refine J_cgt (tgt := 15) dJ1_canEncode_9a6ad_8 rfl (by omega) (fun c_8 => ?_) (fun c_8 => ?_)
    · skip
      omega
    · skip
      refine J_iconst dJ1_canEncode_9a6ad_11 ?_
      refine J_goto (tgt := 16) dJ1_canEncode_9a6ad_12 rfl ?_
      refine M_zret dJ1_canEncode_9a6ad_16 rfl (by decide) ?_
      exact ⟨(bi_t trivial).symm, rfl⟩
theorem k_indexOfChar {mem : ZMem} {c : Int} (hc : 0 ≤ c ∧ c < 256) : CI mJ1_indexOfChar_4cfef 0 [zr 1004, zi c, zi 0, zi 5] mem (fun v mem' => v = kOf c - 1 ∧ mem' = mem) := by
  have hb := zb8_lo hc
  have hb2 : -128 ≤ zb8 c ∧ zb8 c < 128 := by rw [hb]; split <;> omega
  have l5 : c ≠ 115 → c ≠ 110 → c ≠ 97 → c ≠ 98 → c ≠ 100 → JM mJ1_indexOfChar_4cfef 0 (QI (fun v mem' => v = kOf c - 1 ∧ mem' = mem)) 7 [zr 1004, zi c, zi 0, zi 5, zi (zb8 c), zi 5] [] mem := by
    intro n0 n1 n2 n3 n4
    refine J_il5 dJ1_indexOfChar_4cfef_7 ?_
    refine J_il3 dJ1_indexOfChar_4cfef_9 ?_
    refine J_cge (tgt := 31) dJ1_indexOfChar_4cfef_10 rfl (by omega) (fun c_10 => ?_) (fun c_10 => ?_)
    · skip
      refine J_iconst dJ1_indexOfChar_4cfef_31 ?_
      refine M_iret dJ1_indexOfChar_4cfef_32 rfl ?_
      refine ⟨?_, rfl⟩
      unfold kOf
      rw [if_neg n0, if_neg n1, if_neg n2, if_neg n3, if_neg n4]; rfl
    · skip
      omega
  have l4 : c ≠ 115 → c ≠ 110 → c ≠ 97 → c ≠ 98 → JM mJ1_indexOfChar_4cfef 0 (QI (fun v mem' => v = kOf c - 1 ∧ mem' = mem)) 7 [zr 1004, zi c, zi 0, zi 5, zi (zb8 c), zi 4] [] mem := by
    intro n0 n1 n2 n3
    refine J_il5 dJ1_indexOfChar_4cfef_7 ?_
    refine J_il3 dJ1_indexOfChar_4cfef_9 ?_
    refine J_cge (tgt := 31) dJ1_indexOfChar_4cfef_10 rfl (by omega) (fun c_10 => ?_) (fun c_10 => ?_)
    · skip
      omega
    · skip
      refine J_al0 dJ1_indexOfChar_4cfef_13 ?_
      refine J_il5 dJ1_indexOfChar_4cfef_14 ?_
      refine J_kbald dJ1_indexOfChar_4cfef_16 rfl (by decide) (by omega) ?_
      refine J_st (st' := [zi 100]) rfl ?_
      refine J_il4 dJ1_indexOfChar_4cfef_17 ?_
      refine J_cne (tgt := 25) dJ1_indexOfChar_4cfef_19 rfl (by omega) (fun c_19 => ?_) (fun c_19 => ?_)
      · skip
        refine J_inc5 dJ1_indexOfChar_4cfef_25 (by decide) rfl ?_
        refine J_goto (tgt := 7) dJ1_indexOfChar_4cfef_28 rfl ?_
        refine l5 n0 n1 n2 n3 (fun e => ?_)
        subst e; exact c_19 (by decide)
      · skip
        refine J_il5 dJ1_indexOfChar_4cfef_22 ?_
        refine M_iret dJ1_indexOfChar_4cfef_24 rfl ?_
        refine ⟨?_, rfl⟩
        have e : c = 100 := by split at hb <;> omega
        subst e; rfl
  have l3 : c ≠ 115 → c ≠ 110 → c ≠ 97 → JM mJ1_indexOfChar_4cfef 0 (QI (fun v mem' => v = kOf c - 1 ∧ mem' = mem)) 7 [zr 1004, zi c, zi 0, zi 5, zi (zb8 c), zi 3] [] mem := by
    intro n0 n1 n2
    refine J_il5 dJ1_indexOfChar_4cfef_7 ?_
    refine J_il3 dJ1_indexOfChar_4cfef_9 ?_
    refine J_cge (tgt := 31) dJ1_indexOfChar_4cfef_10 rfl (by omega) (fun c_10 => ?_) (fun c_10 => ?_)
    · skip
      omega
    · skip
      refine J_al0 dJ1_indexOfChar_4cfef_13 ?_
      refine J_il5 dJ1_indexOfChar_4cfef_14 ?_
      refine J_kbald dJ1_indexOfChar_4cfef_16 rfl (by decide) (by omega) ?_
      refine J_st (st' := [zi 98]) rfl ?_
      refine J_il4 dJ1_indexOfChar_4cfef_17 ?_
      refine J_cne (tgt := 25) dJ1_indexOfChar_4cfef_19 rfl (by omega) (fun c_19 => ?_) (fun c_19 => ?_)
      · skip
        refine J_inc5 dJ1_indexOfChar_4cfef_25 (by decide) rfl ?_
        refine J_goto (tgt := 7) dJ1_indexOfChar_4cfef_28 rfl ?_
        refine l4 n0 n1 n2 (fun e => ?_)
        subst e; exact c_19 (by decide)
      · skip
        refine J_il5 dJ1_indexOfChar_4cfef_22 ?_
        refine M_iret dJ1_indexOfChar_4cfef_24 rfl ?_
        refine ⟨?_, rfl⟩
        have e : c = 98 := by split at hb <;> omega
        subst e; rfl
  have l2 : c ≠ 115 → c ≠ 110 → JM mJ1_indexOfChar_4cfef 0 (QI (fun v mem' => v = kOf c - 1 ∧ mem' = mem)) 7 [zr 1004, zi c, zi 0, zi 5, zi (zb8 c), zi 2] [] mem := by
    intro n0 n1
    refine J_il5 dJ1_indexOfChar_4cfef_7 ?_
    refine J_il3 dJ1_indexOfChar_4cfef_9 ?_
    refine J_cge (tgt := 31) dJ1_indexOfChar_4cfef_10 rfl (by omega) (fun c_10 => ?_) (fun c_10 => ?_)
    · skip
      omega
    · skip
      refine J_al0 dJ1_indexOfChar_4cfef_13 ?_
      refine J_il5 dJ1_indexOfChar_4cfef_14 ?_
      refine J_kbald dJ1_indexOfChar_4cfef_16 rfl (by decide) (by omega) ?_
      refine J_st (st' := [zi 97]) rfl ?_
      refine J_il4 dJ1_indexOfChar_4cfef_17 ?_
      refine J_cne (tgt := 25) dJ1_indexOfChar_4cfef_19 rfl (by omega) (fun c_19 => ?_) (fun c_19 => ?_)
      · skip
        refine J_inc5 dJ1_indexOfChar_4cfef_25 (by decide) rfl ?_
        refine J_goto (tgt := 7) dJ1_indexOfChar_4cfef_28 rfl ?_
        refine l3 n0 n1 (fun e => ?_)
        subst e; exact c_19 (by decide)
      · skip
        refine J_il5 dJ1_indexOfChar_4cfef_22 ?_
        refine M_iret dJ1_indexOfChar_4cfef_24 rfl ?_
        refine ⟨?_, rfl⟩
        have e : c = 97 := by split at hb <;> omega
        subst e; rfl
  have l1 : c ≠ 115 → JM mJ1_indexOfChar_4cfef 0 (QI (fun v mem' => v = kOf c - 1 ∧ mem' = mem)) 7 [zr 1004, zi c, zi 0, zi 5, zi (zb8 c), zi 1] [] mem := by
    intro n0
    refine J_il5 dJ1_indexOfChar_4cfef_7 ?_
    refine J_il3 dJ1_indexOfChar_4cfef_9 ?_
    refine J_cge (tgt := 31) dJ1_indexOfChar_4cfef_10 rfl (by omega) (fun c_10 => ?_) (fun c_10 => ?_)
    · skip
      omega
    · skip
      refine J_al0 dJ1_indexOfChar_4cfef_13 ?_
      refine J_il5 dJ1_indexOfChar_4cfef_14 ?_
      refine J_kbald dJ1_indexOfChar_4cfef_16 rfl (by decide) (by omega) ?_
      refine J_st (st' := [zi 110]) rfl ?_
      refine J_il4 dJ1_indexOfChar_4cfef_17 ?_
      refine J_cne (tgt := 25) dJ1_indexOfChar_4cfef_19 rfl (by omega) (fun c_19 => ?_) (fun c_19 => ?_)
      · skip
        refine J_inc5 dJ1_indexOfChar_4cfef_25 (by decide) rfl ?_
        refine J_goto (tgt := 7) dJ1_indexOfChar_4cfef_28 rfl ?_
        refine l2 n0 (fun e => ?_)
        subst e; exact c_19 (by decide)
      · skip
        refine J_il5 dJ1_indexOfChar_4cfef_22 ?_
        refine M_iret dJ1_indexOfChar_4cfef_24 rfl ?_
        refine ⟨?_, rfl⟩
        have e : c = 110 := by split at hb <;> omega
        subst e; rfl
  have l0 : JM mJ1_indexOfChar_4cfef 0 (QI (fun v mem' => v = kOf c - 1 ∧ mem' = mem)) 7 [zr 1004, zi c, zi 0, zi 5, zi (zb8 c), zi 0] [] mem := by
    refine J_il5 dJ1_indexOfChar_4cfef_7 ?_
    refine J_il3 dJ1_indexOfChar_4cfef_9 ?_
    refine J_cge (tgt := 31) dJ1_indexOfChar_4cfef_10 rfl (by omega) (fun c_10 => ?_) (fun c_10 => ?_)
    · skip
      omega
    · skip
      refine J_al0 dJ1_indexOfChar_4cfef_13 ?_
      refine J_il5 dJ1_indexOfChar_4cfef_14 ?_
      refine J_kbald dJ1_indexOfChar_4cfef_16 rfl (by decide) (by omega) ?_
      refine J_st (st' := [zi 115]) rfl ?_
      refine J_il4 dJ1_indexOfChar_4cfef_17 ?_
      refine J_cne (tgt := 25) dJ1_indexOfChar_4cfef_19 rfl (by omega) (fun c_19 => ?_) (fun c_19 => ?_)
      · skip
        refine J_inc5 dJ1_indexOfChar_4cfef_25 (by decide) rfl ?_
        refine J_goto (tgt := 7) dJ1_indexOfChar_4cfef_28 rfl ?_
        refine l1 (fun e => ?_)
        subst e; exact c_19 (by decide)
      · skip
        refine J_il5 dJ1_indexOfChar_4cfef_22 ?_
        refine M_iret dJ1_indexOfChar_4cfef_24 rfl ?_
        refine ⟨?_, rfl⟩
        have e : c = 115 := by split at hb <;> omega
        subst e; rfl
  refine CM.of (by decide +kernel) ([zr 1004, zi c, zi 0, zi 5, zu, zu]) (zok_all rfl) (Nat.le_of_ble_eq_true rfl) rfl ?_
  refine J_il1 dJ1_indexOfChar_4cfef_0 ?_
  refine J_i2b dJ1_indexOfChar_4cfef_1 ?_
  refine J_is4 dJ1_indexOfChar_4cfef_2 (by decide) rfl ?_
  refine J_il2 dJ1_indexOfChar_4cfef_4 ?_
  refine J_is5 dJ1_indexOfChar_4cfef_5 (by decide) rfl ?_
  exact l0
theorem k_indexOfL {mem : ZMem} {c : Int} (hc : 0 ≤ c ∧ c < 256) : CI mJ1_indexOf_4cfef 1 [zr 1004, zi c, zi 0, zi 5] mem (fun v mem' => v = kOf c - 1 ∧ mem' = mem) := by
  refine CM.of (by decide +kernel) ([zr 1004, zi c, zi 0, zi 5]) (zok_all rfl) (Nat.le_of_ble_eq_true rfl) rfl ?_
  refine J_il1 dJ1_indexOf_4cfef_0 ?_
  refine M_csI1 dJ1_indexOf_4cfef_1 lk_J1_88 cw_J1_canEncode_9a6ad (k_canEncode hc) (by decide) (Nat.le_of_ble_eq_true rfl) (fun v_1 mem_1 hq => ?_)
  obtain ⟨rfl, hq⟩ := hq; have hq := hq.symm; subst hq
  refine J_ifne_b (tgt := 9) dJ1_indexOf_4cfef_4 rfl (fun c_4 => ?_) (fun c_4 => ?_)
  · skip
    refine J_il2 dJ1_indexOf_4cfef_9 ?_
    refine J_iconst dJ1_indexOf_4cfef_10 ?_
    refine M_csI2 dJ1_indexOf_4cfef_11 lk_J1_92 cw_J9_max_7cf53 (k_max (by omega) (by omega)) (by decide) (Nat.le_of_ble_eq_true rfl) (fun v_11 mem_11 hq => ?_)
    obtain ⟨hv, hq⟩ := hq; have hq := hq.symm; subst hq
    have hv : v_11 = 0 := by omega
    subst hv
    refine J_is2 dJ1_indexOf_4cfef_14 (by decide) rfl ?_
    refine J_il3 dJ1_indexOf_4cfef_15 ?_
    refine J_al0 dJ1_indexOf_4cfef_16 ?_
    refine J_klen dJ1_indexOf_4cfef_17 rfl ?_
    refine M_csI2 dJ1_indexOf_4cfef_18 lk_J1_38 cw_J9_min_7cf53 (k_min (by omega) (by omega)) (by decide) (Nat.le_of_ble_eq_true rfl) (fun v_18 mem_18 hq => ?_)
    obtain ⟨hw, hq⟩ := hq; have hq := hq.symm; subst hq
    have hw : v_18 = 5 := by omega
    subst hw
    refine J_is3 dJ1_indexOf_4cfef_21 (by decide) rfl ?_
    refine J_il2 dJ1_indexOf_4cfef_22 ?_
    refine J_il3 dJ1_indexOf_4cfef_23 ?_
    refine J_clt (tgt := 29) dJ1_indexOf_4cfef_24 rfl (by omega) (fun c_24 => ?_) (fun c_24 => ?_)
    · skip
      refine J_al0 dJ1_indexOf_4cfef_29 ?_
      refine J_il1 dJ1_indexOf_4cfef_30 ?_
      refine J_il2 dJ1_indexOf_4cfef_31 ?_
      refine J_il3 dJ1_indexOf_4cfef_32 ?_
      refine M_csI4 dJ1_indexOf_4cfef_33 lk_J1_95 cw_J1_indexOfChar_4cfef (k_indexOfChar hc) (by decide) (Nat.le_of_ble_eq_true rfl) (fun v_33 mem_33 hq => ?_)
      obtain ⟨rfl, hq⟩ := hq; have hq := hq.symm; subst hq
      refine M_iret dJ1_indexOf_4cfef_36 rfl ?_
      exact ⟨rfl, rfl⟩
    · skip
      omega
  · skip
    exact absurd trivial c_4
theorem k_indexOf2 {mem : ZMem} {c : Int} (hc : 0 ≤ c ∧ c < 256) : CI mJ0_indexOf_7cf53 2 [zr 1003, zi c, zi 0] mem (fun v mem' => v = kOf c - 1 ∧ mem' = mem) := by
  refine CM.of (by decide +kernel) ([zr 1003, zi c, zi 0]) (zok_all rfl) (Nat.le_of_ble_eq_true rfl) rfl ?_
  refine J_al0 dJ0_indexOf_7cf53_0 ?_
  refine M_ckI0 dJ0_indexOf_7cf53_1 lk_J0_492 cw_J0_isLatin1_aae02 rfl k_isLatin1 (by decide) (Nat.le_of_ble_eq_true rfl) (fun v_1 mem_1 hq => ?_)
  obtain ⟨rfl, hq⟩ := hq; have hq := hq.symm; subst hq
  refine J_ifeq_b (tgt := 23) dJ0_indexOf_7cf53_4 rfl (fun c_4 => ?_) (fun c_4 => ?_)
  · skip
    exact absurd trivial c_4
  · skip
    refine J_al0 dJ0_indexOf_7cf53_7 ?_
    refine J_getk dJ0_indexOf_7cf53_8 (List.mem_of_getElem? (i := 1) rfl) fk_J0_9 ?_
    refine J_il1 dJ0_indexOf_7cf53_11 ?_
    refine J_il2 dJ0_indexOf_7cf53_12 ?_
    refine J_al0 dJ0_indexOf_7cf53_13 ?_
    refine M_ckI0 dJ0_indexOf_7cf53_14 lk_J0_505 cw_J0_length_8abf5 rfl k_slength (by decide) (Nat.le_of_ble_eq_true rfl) (fun v_14 mem_14 hq => ?_)
    obtain ⟨rfl, hq⟩ := hq; have hq := hq.symm; subst hq
    refine M_csI4 dJ0_indexOf_7cf53_17 lk_J0_637 cw_J1_indexOf_4cfef (k_indexOfL hc) (by decide) (Nat.le_of_ble_eq_true rfl) (fun v_17 mem_17 hq => ?_)
    obtain ⟨rfl, hq⟩ := hq; have hq := hq.symm; subst hq
    refine J_goto (tgt := 36) dJ0_indexOf_7cf53_20 rfl ?_
    refine M_iret dJ0_indexOf_7cf53_36 rfl ?_
    exact ⟨rfl, rfl⟩
theorem k_indexOf {mem : ZMem} {c : Int} (hc : 0 ≤ c ∧ c < 256) : CI mJ0_indexOf_0f7a4 3 [zr 1003, zi c] mem (fun v mem' => v = kOf c - 1 ∧ mem' = mem) := by
  refine CM.of (by decide +kernel) ([zr 1003, zi c]) (zok_all rfl) (Nat.le_of_ble_eq_true rfl) rfl ?_
  refine J_al0 dJ0_indexOf_0f7a4_0 ?_
  refine J_il1 dJ0_indexOf_0f7a4_1 ?_
  refine J_iconst dJ0_indexOf_0f7a4_2 ?_
  refine M_ckI2 dJ0_indexOf_0f7a4_3 lk_J0_633 cw_J0_indexOf_7cf53 rfl (k_indexOf2 hc) (by decide) (Nat.le_of_ble_eq_true rfl) (fun v_3 mem_3 hq => ?_)
  obtain ⟨rfl, hq⟩ := hq; have hq := hq.symm; subst hq
  refine M_iret dJ0_indexOf_0f7a4_6 rfl ?_
  exact ⟨rfl, rfl⟩
