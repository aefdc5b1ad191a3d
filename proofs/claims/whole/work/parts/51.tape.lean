/-! THE CLASS'S TAPE -/
def TpC (mem : ZMem) (t : Int → Int) (n : Int) : Prop := (mem 14 1 = n ∧ 0 ≤ n ∧ n ≤ 100) ∧ ∀ p, 0 ≤ p → p < n → mem 15 p = t p ∧ 0 ≤ t p ∧ t p ≤ 255
def PsC (mem : ZMem) (s : PS) : Prop := mem 14 4 = s.1 ∧ mem 14 2 = s.2.1 ∧ (s.2.1 ≠ 0 → mem 14 3 = s.2.2)
theorem TpC.ext {mem mem' : ZMem} {t : Int → Int} {n : Int} (h : TpC mem t n) (h1 : mem' 14 1 = mem 14 1) (h2 : mem' 15 = mem 15) : TpC mem' t n := by
  unfold TpC at h ⊢
  rw [h1, h2]
  exact h
theorem k_isFull {mem : ZMem} (h : 0 ≤ mem 14 1 ∧ mem 14 1 ≤ 100) : CI mX5_isFull 0 [zr 14] mem (fun v mem' => v = bi (mem 14 1 = 100) ∧ mem' = mem) := by
  refine CM.of (by decide +kernel) ([zr 14]) (zok_all rfl) (Nat.le_of_ble_eq_true rfl) rfl ?_
  refine J_al0 dX5_isFull_0 ?_
  refine M_get (ki := 1) dX5_isFull_1 fl_X5_15 sh_14 rfl rfl ?_
  refine J_bipush dX5_isFull_4 rfl ?_
  refine J_clt (tgt := 13) dX5_isFull_6 rfl (by omega) (fun c_6 => ?_) (fun c_6 => ?_)
  · skip
    refine J_iconst dX5_isFull_13 ?_
    refine M_zret dX5_isFull_14 rfl (by decide) ?_
    exact ⟨(bi_f (by omega)).symm, rfl⟩
  · skip
    refine J_iconst dX5_isFull_9 ?_
    refine J_goto (tgt := 14) dX5_isFull_10 rfl ?_
    refine M_zret dX5_isFull_14 rfl (by decide) ?_
    exact ⟨(bi_t (by omega)).symm, rfl⟩
theorem k_tadd {mem : ZMem} {c : Int} (h : 0 ≤ mem 14 1 ∧ mem 14 1 < 100) : CI mX5_add 0 [zr 14, zi c] mem (fun v mem' => v = mem 14 1 + 1 ∧ mem' = mset (mset mem 15 (mem 14 1) c) 14 1 (mem 14 1 + 1)) := by
  refine CM.of (by decide +kernel) ([zr 14, zi c]) (zok_all rfl) (Nat.le_of_ble_eq_true rfl) rfl ?_
  refine J_al0 dX5_add_0 ?_
  refine M_getR dX5_add_1 fl_X5_11 sh_14 rfl ?_
  refine J_al0 dX5_add_4 ?_
  refine M_get (ki := 1) dX5_add_5 fl_X5_15 sh_14 rfl rfl ?_
  refine J_il1 dX5_add_8 ?_
  refine M_ast dX5_add_9 sh_15 (by decide) (by omega) ?_
  refine J_al0 dX5_add_10 ?_
  refine J_dup dX5_add_11 rfl ?_
  refine M_get (ki := 1) dX5_add_12 fl_X5_15 sh_14 rfl rfl ?_
  rw [mset_n (show 14 ≠ 15 by omega)]
  refine J_iconst dX5_add_15 ?_
  refine J_iadd dX5_add_16 ?_
  refine M_put (ki := 1) dX5_add_17 fl_X5_15 sh_14 rfl rfl rfl (fun r hr => by cases hr; rfl) ?_
  refine J_al0 dX5_add_20 ?_
  refine M_get (ki := 1) dX5_add_21 fl_X5_15 sh_14 rfl rfl ?_
  rw [mset_s]
  refine M_iret dX5_add_24 rfl ?_
  exact ⟨rfl, rfl⟩
theorem k_tclear {mem : ZMem} : CV mX5_clear 0 [zr 14] mem (fun mem' => mem' = mset mem 14 1 0) := by
  refine CM.of (by decide +kernel) ([zr 14]) (zok_all rfl) (Nat.le_of_ble_eq_true rfl) rfl ?_
  refine J_al0 dX5_clear_0 ?_
  refine J_iconst dX5_clear_1 ?_
  refine M_put (ki := 1) dX5_clear_2 fl_X5_15 sh_14 rfl rfl rfl (fun r hr => by cases hr; rfl) ?_
  refine M_vret dX5_clear_5 rfl ?_
  rfl
theorem k_blame {mem : ZMem} {b : Int} : CV mX5_blame 0 [zr 14, zi b] mem (fun mem' => mem' = mset (mset mem 14 2 b) 14 3 (mem 14 4)) := by
  refine CM.of (by decide +kernel) ([zr 14, zi b]) (zok_all rfl) (Nat.le_of_ble_eq_true rfl) rfl ?_
  refine J_al0 dX5_blame_0 ?_
  refine J_il1 dX5_blame_1 ?_
  refine M_put (ki := 2) dX5_blame_2 fl_X5_19 sh_14 rfl rfl rfl (fun r hr => by cases hr; rfl) ?_
  refine J_al0 dX5_blame_5 ?_
  refine J_al0 dX5_blame_6 ?_
  refine M_get (ki := 4) dX5_blame_7 fl_X5_25 sh_14 rfl rfl ?_
  rw [mset_i (show (4 : Int) ≠ 2 by omega)]
  refine M_put (ki := 3) dX5_blame_10 fl_X5_22 sh_14 rfl rfl rfl (fun r hr => by cases hr; rfl) ?_
  refine M_vret dX5_blame_13 rfl ?_
  rfl
theorem k_isFigure {mem : ZMem} {c : Int} (h : -1000000 ≤ c ∧ c ≤ 1000000) : CI mX5_isFigure 0 [zi c] mem (fun v mem' => v = bi (48 ≤ c ∧ c ≤ 57) ∧ mem' = mem) := by
  refine CM.of (by decide +kernel) ([zi c]) (zok_all rfl) (Nat.le_of_ble_eq_true rfl) rfl ?_
  refine J_il0 dX5_isFigure_0 ?_
  refine J_bipush dX5_isFigure_1 rfl ?_
  refine J_clt (tgt := 16) dX5_isFigure_3 rfl (by omega) (fun c_3 => ?_) (fun c_3 => ?_)
  · skip
    refine J_iconst dX5_isFigure_16 ?_
    refine M_zret dX5_isFigure_17 rfl (by decide) ?_
    exact ⟨(bi_f (by omega)).symm, rfl⟩
  · skip
    refine J_il0 dX5_isFigure_6 ?_
    refine J_bipush dX5_isFigure_7 rfl ?_
    refine J_cgt (tgt := 16) dX5_isFigure_9 rfl (by omega) (fun c_9 => ?_) (fun c_9 => ?_)
    · skip
      refine J_iconst dX5_isFigure_16 ?_
      refine M_zret dX5_isFigure_17 rfl (by decide) ?_
      exact ⟨(bi_f (by omega)).symm, rfl⟩
    · skip
      refine J_iconst dX5_isFigure_12 ?_
      refine J_goto (tgt := 17) dX5_isFigure_13 rfl ?_
      refine M_zret dX5_isFigure_17 rfl (by decide) ?_
      exact ⟨(bi_t (by omega)).symm, rfl⟩
theorem PsC.blamed {mem : ZMem} {s : PS} {b : Int} (h : PsC mem s) (hb : b ≠ 0) : PsC (mset (mset mem 14 2 b) 14 3 (mem 14 4)) (s.1, b, s.1) := by
  obtain ⟨h1, h2, h3⟩ := h
  exact ⟨by rw [mset_i (by omega), mset_i (by omega)]; exact h1, by rw [mset_i (by omega), mset_s], fun _ => by rw [mset_s]; exact h1⟩
theorem PsC.moved {mem : ZMem} {s : PS} {v : Int} (h : PsC mem s) (hf : s.2.1 = 0) : PsC (mset mem 14 4 v) (v, 0, s.2.2) := by
  obtain ⟨h1, h2, h3⟩ := h
  exact ⟨mset_s _ _ _ _, by rw [mset_i (by omega)]; exact h2.trans hf, fun q => absurd rfl q⟩
theorem k_readSign {mem : ZMem} {t : Int → Int} {n c : Int} {s : PS} (hT : TpC mem t n) (hs : PsC mem s) (hI : PInv n s) (hc : 0 ≤ c ∧ c ≤ 255) : CV mX5_readSign 1 [zr 14, zi c] mem (fun mem' => PsC mem' (pSgn t n c s) ∧ TpC mem' t n ∧ ∀ q, q ≠ 14 → mem' q = mem q) := by
  obtain ⟨s1, s2, s3⟩ := id hs
  obtain ⟨i1, i2⟩ := id hI
  have t1 := hT.1
  refine CM.of (by decide +kernel) ([zr 14, zi c]) (zok_all rfl) (Nat.le_of_ble_eq_true rfl) rfl ?_
  refine J_al0 dX5_readSign_0 ?_
  refine M_get (ki := 2) dX5_readSign_1 fl_X5_19 sh_14 rfl rfl ?_
  refine J_ifeq (tgt := 8) dX5_readSign_4 rfl (by omega) (fun c_4 => ?_) (fun c_4 => ?_)
  · skip
    refine J_al0 dX5_readSign_8 ?_
    refine M_get (ki := 4) dX5_readSign_9 fl_X5_25 sh_14 rfl rfl ?_
    refine J_al0 dX5_readSign_12 ?_
    refine M_get (ki := 1) dX5_readSign_13 fl_X5_15 sh_14 rfl rfl ?_
    refine J_cge (tgt := 45) dX5_readSign_16 rfl (by omega) (fun c_16 => ?_) (fun c_16 => ?_)
    · skip
      refine J_al0 dX5_readSign_45 ?_
      refine J_iconst dX5_readSign_46 ?_
      refine M_cvV1 dX5_readSign_47 lk_X5_62 cw_X5_blame sh_14 rfl rfl k_blame (by decide) (Nat.le_of_ble_eq_true rfl) (fun mem_47 hq => ?_)
      subst hq
      refine M_vret dX5_readSign_50 rfl ?_
      first | (refine ⟨?_, hT.ext (by rw [mset_i (by omega)]) (by rw [mset_n (by omega)]), fun q hq => by rw [mset_n hq]⟩; unfold pSgn; rw [if_neg (by omega), if_pos ⟨by omega, by omega⟩, s1]; exact hs.moved (by omega)) | (refine ⟨?_, hT.ext (by rw [mset_i (by omega), mset_i (by omega)]) (by rw [mset_n (by omega), mset_n (by omega)]), fun q hq => by rw [mset_n hq, mset_n hq]⟩; unfold pSgn; rw [if_neg (by omega), if_neg (by omega)]; exact hs.blamed (by omega))
    · skip
      refine J_al0 dX5_readSign_19 ?_
      refine M_getR dX5_readSign_20 fl_X5_11 sh_14 rfl ?_
      have ht := hT.2 s.1 (by omega) (by omega)
      refine J_al0 dX5_readSign_23 ?_
      refine M_get (ki := 4) dX5_readSign_24 fl_X5_25 sh_14 rfl rfl ?_
      rw [s1]
      refine M_ald dX5_readSign_27 sh_15 (by decide) (by omega) ?_
      rw [ht.1]
      refine J_il1 dX5_readSign_28 ?_
      refine J_cne (tgt := 45) dX5_readSign_29 rfl (by omega) (fun c_29 => ?_) (fun c_29 => ?_)
      · skip
        refine J_al0 dX5_readSign_45 ?_
        refine J_iconst dX5_readSign_46 ?_
        refine M_cvV1 dX5_readSign_47 lk_X5_62 cw_X5_blame sh_14 rfl rfl k_blame (by decide) (Nat.le_of_ble_eq_true rfl) (fun mem_47 hq => ?_)
        subst hq
        refine M_vret dX5_readSign_50 rfl ?_
        first | (refine ⟨?_, hT.ext (by rw [mset_i (by omega)]) (by rw [mset_n (by omega)]), fun q hq => by rw [mset_n hq]⟩; unfold pSgn; rw [if_neg (by omega), if_pos ⟨by omega, by omega⟩, s1]; exact hs.moved (by omega)) | (refine ⟨?_, hT.ext (by rw [mset_i (by omega), mset_i (by omega)]) (by rw [mset_n (by omega), mset_n (by omega)]), fun q hq => by rw [mset_n hq, mset_n hq]⟩; unfold pSgn; rw [if_neg (by omega), if_neg (by omega)]; exact hs.blamed (by omega))
      · skip
        refine J_al0 dX5_readSign_32 ?_
        refine J_dup dX5_readSign_33 rfl ?_
        refine M_get (ki := 4) dX5_readSign_34 fl_X5_25 sh_14 rfl rfl ?_
        refine J_iconst dX5_readSign_37 ?_
        refine J_iadd dX5_readSign_38 ?_
        refine M_put (ki := 4) dX5_readSign_39 fl_X5_25 sh_14 rfl rfl rfl (fun r hr => by cases hr; rfl) ?_
        refine J_goto (tgt := 50) dX5_readSign_42 rfl ?_
        refine M_vret dX5_readSign_50 rfl ?_
        first | (refine ⟨?_, hT.ext (by rw [mset_i (by omega)]) (by rw [mset_n (by omega)]), fun q hq => by rw [mset_n hq]⟩; unfold pSgn; rw [if_neg (by omega), if_pos ⟨by omega, by omega⟩, s1]; exact hs.moved (by omega)) | (refine ⟨?_, hT.ext (by rw [mset_i (by omega), mset_i (by omega)]) (by rw [mset_n (by omega), mset_n (by omega)]), fun q hq => by rw [mset_n hq, mset_n hq]⟩; unfold pSgn; rw [if_neg (by omega), if_neg (by omega)]; exact hs.blamed (by omega))
  · skip
    refine M_vret dX5_readSign_7 rfl ?_
    refine ⟨?_, hT, fun _ _ => rfl⟩
    unfold pSgn
    rw [if_pos (by omega)]; exact hs
theorem k_readNumber {mem : ZMem} {t : Int → Int} {n lo hi : Int} {s : PS} (hT : TpC mem t n) (hs : PsC mem s) (hI : PInv n s) (hlo : 0 ≤ lo ∧ lo ≤ 100) (hhi : 0 ≤ hi ∧ hi ≤ 100) : CI mX5_readNumber 1 [zr 14, zi lo, zi hi] mem (fun v mem' => ((pNum t n lo hi s).2.1 = 0 → v = nval t n s.1) ∧ PsC mem' (pNum t n lo hi s) ∧ TpC mem' t n ∧ ∀ q, q ≠ 14 → mem' q = mem q) := by
  obtain ⟨s1, s2, s3⟩ := id hs
  obtain ⟨i1, i2⟩ := id hI
  have t1 := hT.1
  have b1 : s.2.1 = 0 → (nlen t n s.1 = 0 ∨ nlen t n s.1 = 3) → ∀ v : Int, ((pNum t n lo hi s).2.1 = 0 → v = nval t n s.1) ∧ PsC (mset (mset mem 14 2 1) 14 3 (mem 14 4)) (pNum t n lo hi s) ∧ TpC (mset (mset mem 14 2 1) 14 3 (mem 14 4)) t n ∧ ∀ q, q ≠ 14 → mset (mset mem 14 2 1) 14 3 (mem 14 4) q = mem q := by
    intro hf hn v
    refine ⟨fun q => ?_, ?_, hT.ext (by rw [mset_i (by omega), mset_i (by omega)]) (by rw [mset_n (by omega), mset_n (by omega)]), fun q hq => by rw [mset_n hq, mset_n hq]⟩
    · have hq := pNum_f q
      omega
    · unfold pNum
      rw [if_neg (by omega), if_pos hn]
      exact hs.blamed (by omega)
  have b2 : s.2.1 = 0 → ¬ (nlen t n s.1 = 0 ∨ nlen t n s.1 = 3) → (nval t n s.1 < lo ∨ hi < nval t n s.1) → ∀ v : Int, ((pNum t n lo hi s).2.1 = 0 → v = nval t n s.1) ∧ PsC (mset (mset mem 14 2 2) 14 3 (mem 14 4)) (pNum t n lo hi s) ∧ TpC (mset (mset mem 14 2 2) 14 3 (mem 14 4)) t n ∧ ∀ q, q ≠ 14 → mset (mset mem 14 2 2) 14 3 (mem 14 4) q = mem q := by
    intro hf hn hv v
    refine ⟨fun q => ?_, ?_, hT.ext (by rw [mset_i (by omega), mset_i (by omega)]) (by rw [mset_n (by omega), mset_n (by omega)]), fun q hq => by rw [mset_n hq, mset_n hq]⟩
    · have hq := pNum_f q
      omega
    · unfold pNum
      rw [if_neg (by omega), if_neg hn, if_pos hv]
      exact hs.blamed (by omega)
  have fin : s.2.1 = 0 → ∀ k v : Int, nlen t n s.1 = k → (k = 1 ∨ k = 2 → v = nval t n s.1) → 0 ≤ v → v ≤ 1000 → JM mX5_readNumber 1 (QI (fun v mem' => ((pNum t n lo hi s).2.1 = 0 → v = nval t n s.1) ∧ PsC mem' (pNum t n lo hi s) ∧ TpC mem' t n ∧ ∀ q, q ≠ 14 → mem' q = mem q)) 77 [zr 14, zi lo, zi hi, zi k, zi v] [] mem := by
    intro hf k v hk hv v0 v1
    have hr := nlen_range t n s.1
    refine J_il3 dX5_readNumber_77 ?_
    refine J_ifeq (tgt := 86) dX5_readNumber_78 rfl (by omega) (fun c_78 => ?_) (fun c_78 => ?_)
    · skip
      refine J_al0 dX5_readNumber_86 ?_
      refine J_iconst dX5_readNumber_87 ?_
      refine M_cvV1 dX5_readNumber_88 lk_X5_62 cw_X5_blame sh_14 rfl rfl k_blame (by decide) (Nat.le_of_ble_eq_true rfl) (fun mem_88 hq => ?_)
      subst hq
      refine J_goto (tgt := 122) dX5_readNumber_91 rfl ?_
      refine J_il4 dX5_readNumber_122 ?_
      refine M_iret dX5_readNumber_124 rfl ?_
      first | exact b1 hf (by omega) v | exact b2 hf (by omega) (by rw [← hv (by omega)]; omega) v | (refine ⟨fun _ => hv (by omega), ?_, hT.ext (by rw [mset_i (by omega)]) (by rw [mset_n (by omega)]), fun q hq => by rw [mset_n hq]⟩; have hv2 := hv (by omega); unfold pNum; rw [if_neg (by omega), if_neg (by omega), if_neg (by omega), s1, hk]; exact hs.moved hf)
    · skip
      refine J_il3 dX5_readNumber_81 ?_
      refine J_iconst dX5_readNumber_82 ?_
      refine J_cle (tgt := 94) dX5_readNumber_83 rfl (by omega) (fun c_83 => ?_) (fun c_83 => ?_)
      · skip
        refine J_il4 dX5_readNumber_94 ?_
        refine J_il1 dX5_readNumber_96 ?_
        refine J_il2 dX5_readNumber_97 ?_
        refine M_cnI3 dX5_readNumber_98 lk_X5_77 cw_X6_outside (k_outside (by omega) (by omega) (by omega)) (by decide) (Nat.le_of_ble_eq_true rfl) (fun v_98 mem_98 hq => ?_)
        obtain ⟨rfl, hq⟩ := hq; have hq := hq.symm; subst hq
        refine J_ifeq_b (tgt := 112) dX5_readNumber_101 rfl (fun c_101 => ?_) (fun c_101 => ?_)
        · skip
          refine J_al0 dX5_readNumber_112 ?_
          refine J_dup dX5_readNumber_113 rfl ?_
          refine M_get (ki := 4) dX5_readNumber_114 fl_X5_25 sh_14 rfl rfl ?_
          refine J_il3 dX5_readNumber_117 ?_
          refine J_iadd dX5_readNumber_118 ?_
          refine M_put (ki := 4) dX5_readNumber_119 fl_X5_25 sh_14 rfl rfl rfl (fun r hr => by cases hr; rfl) ?_
          refine J_il4 dX5_readNumber_122 ?_
          refine M_iret dX5_readNumber_124 rfl ?_
          first | exact b1 hf (by omega) v | exact b2 hf (by omega) (by rw [← hv (by omega)]; omega) v | (refine ⟨fun _ => hv (by omega), ?_, hT.ext (by rw [mset_i (by omega)]) (by rw [mset_n (by omega)]), fun q hq => by rw [mset_n hq]⟩; have hv2 := hv (by omega); unfold pNum; rw [if_neg (by omega), if_neg (by omega), if_neg (by omega), s1, hk]; exact hs.moved hf)
        · skip
          refine J_al0 dX5_readNumber_104 ?_
          refine J_iconst dX5_readNumber_105 ?_
          refine M_cvV1 dX5_readNumber_106 lk_X5_62 cw_X5_blame sh_14 rfl rfl k_blame (by decide) (Nat.le_of_ble_eq_true rfl) (fun mem_106 hq => ?_)
          subst hq
          refine J_goto (tgt := 122) dX5_readNumber_109 rfl ?_
          refine J_il4 dX5_readNumber_122 ?_
          refine M_iret dX5_readNumber_124 rfl ?_
          first | exact b1 hf (by omega) v | exact b2 hf (by omega) (by rw [← hv (by omega)]; omega) v | (refine ⟨fun _ => hv (by omega), ?_, hT.ext (by rw [mset_i (by omega)]) (by rw [mset_n (by omega)]), fun q hq => by rw [mset_n hq]⟩; have hv2 := hv (by omega); unfold pNum; rw [if_neg (by omega), if_neg (by omega), if_neg (by omega), s1, hk]; exact hs.moved hf)
      · skip
        refine J_al0 dX5_readNumber_86 ?_
        refine J_iconst dX5_readNumber_87 ?_
        refine M_cvV1 dX5_readNumber_88 lk_X5_62 cw_X5_blame sh_14 rfl rfl k_blame (by decide) (Nat.le_of_ble_eq_true rfl) (fun mem_88 hq => ?_)
        subst hq
        refine J_goto (tgt := 122) dX5_readNumber_91 rfl ?_
        refine J_il4 dX5_readNumber_122 ?_
        refine M_iret dX5_readNumber_124 rfl ?_
        first | exact b1 hf (by omega) v | exact b2 hf (by omega) (by rw [← hv (by omega)]; omega) v | (refine ⟨fun _ => hv (by omega), ?_, hT.ext (by rw [mset_i (by omega)]) (by rw [mset_n (by omega)]), fun q hq => by rw [mset_n hq]⟩; have hv2 := hv (by omega); unfold pNum; rw [if_neg (by omega), if_neg (by omega), if_neg (by omega), s1, hk]; exact hs.moved hf)
  have loop : s.2.1 = 0 → ∀ (c : Nat) (k v : Int), 0 ≤ k → k ≤ 3 → 3 - k ≤ c → (∀ i, 0 ≤ i → i < k → fg t n (s.1 + i)) → (k = 0 → v = 0) → (k = 1 → v = t s.1 - 48) → (k = 2 → v = (t s.1 - 48) * 10 + (t (s.1 + 1) - 48)) → 0 ≤ v → v ≤ 1000 → JM mX5_readNumber 1 (QI (fun v mem' => ((pNum t n lo hi s).2.1 = 0 → v = nval t n s.1) ∧ PsC mem' (pNum t n lo hi s) ∧ TpC mem' t n ∧ ∀ q, q ≠ 14 → mem' q = mem q)) 14 [zr 14, zi lo, zi hi, zi k, zi v] [] mem := by
    intro hf c
    have exit : ∀ k v : Int, 0 ≤ k → k ≤ 3 → (∀ i, 0 ≤ i → i < k → fg t n (s.1 + i)) → (k = 1 → v = t s.1 - 48) → (k = 2 → v = (t s.1 - 48) * 10 + (t (s.1 + 1) - 48)) → 0 ≤ v → v ≤ 1000 → (k = 3 ∨ ¬ fg t n (s.1 + k)) → JM mX5_readNumber 1 (QI (fun v mem' => ((pNum t n lo hi s).2.1 = 0 → v = nval t n s.1) ∧ PsC mem' (pNum t n lo hi s) ∧ TpC mem' t n ∧ ∀ q, q ≠ 14 → mem' q = mem q)) 77 [zr 14, zi lo, zi hi, zi k, zi v] [] mem := by
      intro k v k0 k1 hfg v1 v2 v3 v4 he
      refine fin hf k v (nlen_of ⟨k0, k1⟩ hfg he) (fun hk => ?_) v3 v4
      unfold nval
      rcases hk with rfl | rfl
      · rw [if_neg (by rcases he with q | q; · omega
                       · exact q)]
        exact v1 rfl
      · rw [if_pos (hfg 1 (by omega) (by omega))]
        exact v2 rfl
    induction c with
    | zero =>
      intro k v k0 k1 k2 hfg v0 v1 v2 v3 v4
      refine J_il3 dX5_readNumber_14 ?_
      refine J_iconst dX5_readNumber_15 ?_
      refine J_cgt (tgt := 77) dX5_readNumber_16 rfl (by omega) (fun c_16 => ?_) (fun c_16 => ?_)
      · skip
        exact exit k v k0 k1 hfg v1 v2 v3 v4 (Or.inl (by omega))
      · skip
        omega
    | succ c ih =>
      intro k v k0 k1 k2 hfg v0 v1 v2 v3 v4
      refine J_il3 dX5_readNumber_14 ?_
      refine J_iconst dX5_readNumber_15 ?_
      refine J_cgt (tgt := 77) dX5_readNumber_16 rfl (by omega) (fun c_16 => ?_) (fun c_16 => ?_)
      · skip
        exact exit k v k0 k1 hfg v1 v2 v3 v4 (Or.inl (by omega))
      · skip
        refine J_al0 dX5_readNumber_19 ?_
        refine M_get (ki := 4) dX5_readNumber_20 fl_X5_25 sh_14 rfl rfl ?_
        refine J_il3 dX5_readNumber_23 ?_
        refine J_iadd dX5_readNumber_24 ?_
        refine J_al0 dX5_readNumber_25 ?_
        refine M_get (ki := 1) dX5_readNumber_26 fl_X5_15 sh_14 rfl rfl ?_
        refine J_cge (tgt := 77) dX5_readNumber_29 rfl (by omega) (fun c_29 => ?_) (fun c_29 => ?_)
        · skip
          exact exit k v k0 k1 hfg v1 v2 v3 v4 (Or.inr (fun q => by have := q.1; omega))
        · skip
          have ht := hT.2 (s.1 + k) (by omega) (by omega)
          refine J_al0 dX5_readNumber_32 ?_
          refine M_getR dX5_readNumber_33 fl_X5_11 sh_14 rfl ?_
          refine J_al0 dX5_readNumber_36 ?_
          refine M_get (ki := 4) dX5_readNumber_37 fl_X5_25 sh_14 rfl rfl ?_
          refine J_il3 dX5_readNumber_40 ?_
          refine J_iadd dX5_readNumber_41 ?_
          rw [s1]
          refine M_ald dX5_readNumber_42 sh_15 (by decide) (by omega) ?_
          rw [ht.1]
          refine M_csI1 dX5_readNumber_43 lk_X5_73 cw_X5_isFigure (k_isFigure (by omega)) (by decide) (Nat.le_of_ble_eq_true rfl) (fun v_43 mem_43 hq => ?_)
          obtain ⟨rfl, hq⟩ := hq; have hq := hq.symm; subst hq
          refine J_ifeq_b (tgt := 77) dX5_readNumber_46 rfl (fun c_46 => ?_) (fun c_46 => ?_)
          · skip
            exact exit k v k0 k1 hfg v1 v2 v3 v4 (Or.inr (fun q => c_46 q.2))
          · skip
            refine J_il4 dX5_readNumber_49 ?_
            refine J_bipush dX5_readNumber_51 rfl ?_
            refine J_imul dX5_readNumber_53 ?_
            refine J_al0 dX5_readNumber_54 ?_
            refine M_getR dX5_readNumber_55 fl_X5_11 sh_14 rfl ?_
            refine J_al0 dX5_readNumber_58 ?_
            refine M_get (ki := 4) dX5_readNumber_59 fl_X5_25 sh_14 rfl rfl ?_
            refine J_il3 dX5_readNumber_62 ?_
            refine J_iadd dX5_readNumber_63 ?_
            rw [s1]
            refine M_ald dX5_readNumber_64 sh_15 (by decide) (by omega) ?_
            rw [ht.1]
            refine J_iadd dX5_readNumber_65 ?_
            refine J_bipush dX5_readNumber_66 rfl ?_
            refine J_isub dX5_readNumber_68 ?_
            refine J_is4 dX5_readNumber_69 (by decide) rfl ?_
            refine J_inc3 dX5_readNumber_71 (by decide) rfl ?_
            refine J_goto (tgt := 14) dX5_readNumber_74 rfl ?_
            refine ih (k + 1) _ (by omega) (by omega) (by omega) (fun i i0 i1 => ?_) (fun q => by omega) (fun q => ?_) (fun q => ?_) ?_ ?_
            · by_cases e : i = k
              · subst e; exact ⟨by omega, c_46⟩
              · exact hfg i i0 (by omega)
            · have e : k = 0 := by omega
              subst e
              rw [v0 rfl, Int.add_zero]; omega
            · have e : k = 1 := by omega
              subst e
              rw [v1 rfl]; omega
            · omega
            · have hk : k = 0 ∨ k = 1 ∨ k = 2 := by omega
              rcases hk with e | e | e
              · rw [v0 e]; omega
              · have := (hfg 0 (by omega) (by omega)).2
                rw [Int.add_zero] at this
                rw [v1 e]; omega
              · have h0 := (hfg 0 (by omega) (by omega)).2
                have h1 := (hfg 1 (by omega) (by omega)).2
                rw [Int.add_zero] at h0
                rw [v2 e]; omega
  refine CM.of (by decide +kernel) ([zr 14, zi lo, zi hi, zu, zu]) (zok_all rfl) (Nat.le_of_ble_eq_true rfl) rfl ?_
  refine J_al0 dX5_readNumber_0 ?_
  refine M_get (ki := 2) dX5_readNumber_1 fl_X5_19 sh_14 rfl rfl ?_
  refine J_ifeq (tgt := 9) dX5_readNumber_4 rfl (by omega) (fun c_4 => ?_) (fun c_4 => ?_)
  · skip
    refine J_iconst dX5_readNumber_9 ?_
    refine J_is3 dX5_readNumber_10 (by decide) rfl ?_
    refine J_iconst dX5_readNumber_11 ?_
    refine J_is4 dX5_readNumber_12 (by decide) rfl ?_
    exact loop (by omega) 3 0 0 (by omega) (by omega) (by omega) (fun i i0 i1 => by omega) (fun _ => rfl) (fun q => by omega) (fun q => by omega) (by omega) (by omega)
  · skip
    refine J_iconst dX5_readNumber_7 ?_
    refine M_iret dX5_readNumber_8 rfl ?_
    refine ⟨fun q => ?_, ?_, hT, fun _ _ => rfl⟩
    · have := (pNum_f q).1; omega
    · unfold pNum
      rw [if_pos (by omega)]; exact hs
