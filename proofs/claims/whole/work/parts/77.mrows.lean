theorem m_place {mem : ZMem} {S : ZS} (hS : MS mem S) (hI : SInv S) {p : Int} (hp : In32 p) : CI mX7_place 2 [zr 79, zi p] mem (QM mem (vPlace S p, S)) := by
  have hb := hI.bi
  have hl := hb.len
  have b1 := hb.1
  have h0 := hS.thr
  have htt := h0.th
  have hF : FrM mem (mset mem 79 0 0) := FrM.rf.set (by omega)
  generalize hm : mset mem 79 0 0 = m0 at *
  have h7 : m0 83 7 = (S.b.2.length : Int) := (mbch h0).1.2.2.2.2.2
  refine CM.of (by decide +kernel) ([zr 79, zi p]) (zok_all rfl) (Nat.le_of_ble_eq_true rfl) rfl ?_
  refine J_al0 dX7_place_0 ?_
  refine J_iconst dX7_place_1 ?_
  refine M_put (ki := 0) dX7_place_2 fl_X7_50 sh_79 rfl rfl rfl (fun r hr => by cases hr; rfl) ?_
  rw [hm]
  refine J_al0 dX7_place_5 ?_
  refine M_cvI0 dX7_place_6 lk_X7_186 cw_X7_isThere sh_79 rfl rfl (k_isThere htt.1) (by decide) (Nat.le_of_ble_eq_true rfl) (fun v_6 mem_6 hq => ?_)
  obtain ⟨rfl, hq⟩ := hq; have hq := hq.symm; subst hq
  refine J_ifne_b (tgt := 15) dX7_place_9 rfl (fun c_9 => ?_) (fun c_9 => ?_)
  · skip
    refine J_il1 dX7_place_15 ?_
    refine J_i2l dX7_place_16 (by omega) ?_
    refine J_lconst0 dX7_place_17 ?_
    refine J_ldc2 (n := 6) dX7_place_18 col_X7_206 (by decide) ?_
    refine M_csI3 dX7_place_21 lk_X7_60 cw_X7_in (k_in (by omega) (by omega) (by omega)) (by decide) (Nat.le_of_ble_eq_true rfl) (fun v_21 mem_21 hq => ?_)
    obtain ⟨rfl, hq⟩ := hq; have hq := hq.symm; subst hq
    refine J_ifne_b (tgt := 30) dX7_place_24 rfl (fun c_24 => ?_) (fun c_24 => ?_)
    · skip
      refine J_il1 dX7_place_30 ?_
      refine J_al0 dX7_place_31 ?_
      refine M_getR dX7_place_32 fl_X7_19 sh_79 rfl ?_
      refine J_bipush dX7_place_35 rfl ?_
      refine M_ald dX7_place_37 sh_83 (by decide) (by omega) ?_
      refine J_cge (tgt := 53) dX7_place_38 rfl (by omega) (fun c_38 => ?_) (fun c_38 => ?_)
      · skip
        refine J_ldc (n := -1000000) dX7_place_53 co_X7_93 (by decide) ?_
        refine M_iret dX7_place_55 rfl ?_
        first
        | exact ⟨by unfold vPlace; rw [if_neg (by omega), if_neg (by omega), if_neg (by omega)], h0, hF⟩
        | exact ⟨by unfold vPlace; rw [if_neg (by omega), if_neg (by omega), if_pos (by omega)]; exact (mbch h0).2.1 p (by omega) (by omega), h0, hF⟩
      · skip
        refine J_al0 dX7_place_41 ?_
        refine M_getR dX7_place_42 fl_X7_19 sh_79 rfl ?_
        refine J_bipush dX7_place_45 rfl ?_
        refine J_il1 dX7_place_47 ?_
        refine J_iadd dX7_place_48 ?_
        refine M_ald dX7_place_49 sh_83 (by decide) (by omega) ?_
        refine J_goto (tgt := 55) dX7_place_50 rfl ?_
        refine M_iret dX7_place_55 rfl ?_
        first
        | exact ⟨by unfold vPlace; rw [if_neg (by omega), if_neg (by omega), if_neg (by omega)], h0, hF⟩
        | exact ⟨by unfold vPlace; rw [if_neg (by omega), if_neg (by omega), if_pos (by omega)]; exact (mbch h0).2.1 p (by omega) (by omega), h0, hF⟩
    · skip
      refine J_ldc (n := -1000001) dX7_place_27 co_X7_70 (by decide) ?_
      refine M_iret dX7_place_29 rfl ?_
      exact ⟨by unfold vPlace; rw [if_neg (by omega), if_pos (by omega)], h0, hF⟩
  · skip
    refine J_ldc (n := -1000002) dX7_place_12 co_X7_189 (by decide) ?_
    refine M_iret dX7_place_14 rfl ?_
    exact ⟨by unfold vPlace; rw [if_pos (by omega)], h0, hF⟩
theorem m_man {mem : ZMem} {S : ZS} (hS : MS mem S) (hI : SInv S) {m w : Int} (hmr : In32 m) (hw : In32 w) : CI mX7_man 3 [zr 79, zi m, zi w] mem (QM mem (vMan S m w, S)) := by
  have hb := hI.bi
  have b1 := hb.1
  have hr := hI.hr
  have h0 := hS.thr
  have hF : FrM mem (mset mem 79 0 0) := FrM.rf.set (by omega)
  generalize hm : mset mem 79 0 0 = m0 at *
  have hen := h0.men
  have h4 : m0 83 4 = S.b.1 4 := (mbch h0).1.2.2.2.1
  have hX := mbch h0
  have go : ∀ v : Int, v = vMan S m w → QM mem (vMan S m w, S) v m0 := fun v e => ⟨e, h0, hF⟩
  refine CM.of (by decide +kernel) ([zr 79, zi m, zi w]) (zok_all rfl) (Nat.le_of_ble_eq_true rfl) rfl ?_
  refine J_al0 dX7_man_0 ?_
  refine J_iconst dX7_man_1 ?_
  refine M_put (ki := 0) dX7_man_2 fl_X7_50 sh_79 rfl rfl rfl (fun r hr => by cases hr; rfl) ?_
  rw [hm]
  refine J_al0 dX7_man_5 ?_
  refine J_il1 dX7_man_6 ?_
  refine M_cvI1 dX7_man_7 lk_X7_199 cw_X7_isMan sh_79 rfl rfl (k_isMan hmr (by omega)) (by decide) (Nat.le_of_ble_eq_true rfl) (fun v_7 mem_7 hq => ?_)
  obtain ⟨rfl, hq⟩ := hq; have hq := hq.symm; subst hq
  refine J_ifne_b (tgt := 16) dX7_man_10 rfl (fun c_10 => ?_) (fun c_10 => ?_)
  · skip
    obtain ⟨k0, k1, k2, k3, k4⟩ := hX.2.2 m (by omega) (by omega)
    have hg := (hb.2.2.2.2.1 m (by omega) (by omega)).2.2.2.2.1
    refine J_il2 dX7_man_16 ?_
    by_cases c_17 : w < 0 ∨ 5 < w
    · skip
      refine J_tsOut (tgt := 146) dX7_man_17 c_17 (by omega) rfl ?_
      refine J_ldc (n := -1000001) dX7_man_146 co_X7_70 (by decide) ?_
      refine M_iret dX7_man_148 rfl ?_
      exact go _ (by unfold vMan; rw [if_neg (by omega), if_neg (by omega), if_neg (by omega), if_neg (by omega), if_neg (by omega), if_neg (by omega), if_neg (by omega)])
    have c_17 : w = 0 ∨ w = 1 ∨ w = 2 ∨ w = 3 ∨ w = 4 ∨ w = 5 := by omega
    rcases c_17 with e_17 | e_17 | e_17 | e_17 | e_17 | e_17
    · skip
      refine J_tsIn (off := 39) (tgt := 56) dX7_man_17 (by omega) (by omega) (by omega) (by rw [e_17]; rfl) rfl ?_
      refine J_al0 dX7_man_56 ?_
      refine M_getR dX7_man_57 fl_X7_19 sh_79 rfl ?_
      refine J_il1 dX7_man_60 ?_
      refine M_csI2 dX7_man_61 lk_X7_156 cw_X7_placeOf (k_mplaceOf isW83 hX hb hmr) (by decide) (Nat.le_of_ble_eq_true rfl) (fun v_61 mem_61 hq => ?_)
      obtain ⟨rfl, hq⟩ := hq; have hq := hq.symm; subst hq
      refine M_iret dX7_man_64 rfl ?_
      exact go _ (by unfold vMan; rw [if_neg (by omega), if_pos (by omega)])
    · skip
      refine J_tsIn (off := 48) (tgt := 65) dX7_man_17 (by omega) (by omega) (by omega) (by rw [e_17]; rfl) rfl ?_
      refine J_al0 dX7_man_65 ?_
      refine M_getR dX7_man_66 fl_X7_19 sh_79 rfl ?_
      refine J_il1 dX7_man_69 ?_
      refine J_iconst dX7_man_70 ?_
      refine M_csI3 dX7_man_71 lk_X7_163 cw_X7_of (k_of isW83 (by omega) (by omega)) (by decide) (Nat.le_of_ble_eq_true rfl) (fun v_71 mem_71 hq => ?_)
      obtain ⟨rfl, hq⟩ := hq; have hq := hq.symm; subst hq
      refine M_iret dX7_man_74 rfl ?_
      exact go _ (by unfold vMan; rw [if_neg (by omega), if_neg (by omega), if_pos (by omega)]; exact k3)
    · skip
      refine J_tsIn (off := 58) (tgt := 75) dX7_man_17 (by omega) (by omega) (by omega) (by rw [e_17]; rfl) rfl ?_
      refine J_al0 dX7_man_75 ?_
      refine M_getR dX7_man_76 fl_X7_19 sh_79 rfl ?_
      refine J_il1 dX7_man_79 ?_
      refine J_iconst dX7_man_80 ?_
      refine M_csI3 dX7_man_81 lk_X7_163 cw_X7_of (k_of isW83 (by omega) (by omega)) (by decide) (Nat.le_of_ble_eq_true rfl) (fun v_81 mem_81 hq => ?_)
      obtain ⟨rfl, hq⟩ := hq; have hq := hq.symm; subst hq
      refine J_ifle (tgt := 106) dX7_man_84 rfl (by omega) (fun c_84 => ?_) (fun c_84 => ?_)
      · skip
        refine J_ldc (n := -1000000) dX7_man_106 co_X7_93 (by decide) ?_
        refine M_iret dX7_man_108 rfl ?_
        first
        | exact go _ (by unfold vMan; rw [if_neg (by omega), if_neg (by omega), if_neg (by omega), if_pos (by omega), if_neg (by omega)])
        | exact go _ (by unfold vMan; rw [if_neg (by omega), if_neg (by omega), if_neg (by omega), if_pos (by omega), if_pos (by omega), h4, k4])
      · skip
        refine J_al0 dX7_man_87 ?_
        refine M_getR dX7_man_88 fl_X7_19 sh_79 rfl ?_
        refine J_il1 dX7_man_91 ?_
        refine J_iconst dX7_man_92 ?_
        refine M_csI3 dX7_man_93 lk_X7_163 cw_X7_of (k_of isW83 (by omega) (by omega)) (by decide) (Nat.le_of_ble_eq_true rfl) (fun v_93 mem_93 hq => ?_)
        obtain ⟨rfl, hq⟩ := hq; have hq := hq.symm; subst hq
        refine J_al0 dX7_man_96 ?_
        refine M_getR dX7_man_97 fl_X7_19 sh_79 rfl ?_
        refine J_iconst dX7_man_100 ?_
        refine M_ald dX7_man_101 sh_83 (by decide) (by omega) ?_
        refine J_isub dX7_man_102 ?_
        refine J_goto (tgt := 108) dX7_man_103 rfl ?_
        refine M_iret dX7_man_108 rfl ?_
        first
        | exact go _ (by unfold vMan; rw [if_neg (by omega), if_neg (by omega), if_neg (by omega), if_pos (by omega), if_neg (by omega)])
        | exact go _ (by unfold vMan; rw [if_neg (by omega), if_neg (by omega), if_neg (by omega), if_pos (by omega), if_pos (by omega), h4, k4])
    · skip
      refine J_tsIn (off := 92) (tgt := 109) dX7_man_17 (by omega) (by omega) (by omega) (by rw [e_17]; rfl) rfl ?_
      refine J_al0 dX7_man_109 ?_
      refine M_getR dX7_man_110 fl_X7_19 sh_79 rfl ?_
      refine J_il1 dX7_man_113 ?_
      refine M_csI2 dX7_man_114 lk_X7_167 cw_X7_hasSun (k_mhasSun isW83 hX hb (by omega) hmr) (by decide) (Nat.le_of_ble_eq_true rfl) (fun v_114 mem_114 hq => ?_)
      obtain ⟨rfl, hq⟩ := hq; have hq := hq.symm; subst hq
      refine J_ifeq_b (tgt := 124) dX7_man_117 rfl (fun c_117 => ?_) (fun c_117 => ?_)
      · skip
        refine J_iconst dX7_man_124 ?_
        refine M_iret dX7_man_125 rfl ?_
        exact go _ (by unfold vMan; rw [if_neg (by omega), if_neg (by omega), if_neg (by omega), if_neg (by omega), if_pos (by omega)]; first | exact (bi_t c_117).symm | exact (bi_f c_117).symm)
      · skip
        refine J_iconst dX7_man_120 ?_
        refine J_goto (tgt := 125) dX7_man_121 rfl ?_
        refine M_iret dX7_man_125 rfl ?_
        exact go _ (by unfold vMan; rw [if_neg (by omega), if_neg (by omega), if_neg (by omega), if_neg (by omega), if_pos (by omega)]; first | exact (bi_t c_117).symm | exact (bi_f c_117).symm)
    · skip
      refine J_tsIn (off := 109) (tgt := 126) dX7_man_17 (by omega) (by omega) (by omega) (by rw [e_17]; rfl) rfl ?_
      refine J_al0 dX7_man_126 ?_
      refine M_getR dX7_man_127 fl_X7_19 sh_79 rfl ?_
      refine J_il1 dX7_man_130 ?_
      refine J_iconst dX7_man_131 ?_
      refine M_csI3 dX7_man_132 lk_X7_163 cw_X7_of (k_of isW83 (by omega) (by omega)) (by decide) (Nat.le_of_ble_eq_true rfl) (fun v_132 mem_132 hq => ?_)
      obtain ⟨rfl, hq⟩ := hq; have hq := hq.symm; subst hq
      refine M_iret dX7_man_135 rfl ?_
      exact go _ (by unfold vMan; rw [if_neg (by omega), if_neg (by omega), if_neg (by omega), if_neg (by omega), if_neg (by omega), if_pos (by omega)]; exact k1)
    · skip
      refine J_tsIn (off := 119) (tgt := 136) dX7_man_17 (by omega) (by omega) (by omega) (by rw [e_17]; rfl) rfl ?_
      refine J_al0 dX7_man_136 ?_
      refine M_getR dX7_man_137 fl_X7_19 sh_79 rfl ?_
      refine J_il1 dX7_man_140 ?_
      refine J_iconst dX7_man_141 ?_
      refine M_csI3 dX7_man_142 lk_X7_163 cw_X7_of (k_of isW83 (by omega) (by omega)) (by decide) (Nat.le_of_ble_eq_true rfl) (fun v_142 mem_142 hq => ?_)
      obtain ⟨rfl, hq⟩ := hq; have hq := hq.symm; subst hq
      refine M_iret dX7_man_145 rfl ?_
      exact go _ (by unfold vMan; rw [if_neg (by omega), if_neg (by omega), if_neg (by omega), if_neg (by omega), if_neg (by omega), if_neg (by omega), if_pos (by omega)]; exact k2)
  · skip
    refine J_ldc (n := -1000001) dX7_man_13 co_X7_70 (by decide) ?_
    refine M_iret dX7_man_15 rfl ?_
    exact go _ (by unfold vMan; rw [if_pos (by omega)])
theorem MS.rw {mem mem' : ZMem} {S : ZS} {ln mn : Int → Int} {it : Int → Int → Int} (h : MS mem S) (r : MRw mem' ln mn it) (e : ∀ q : Nat, q ≠ 80 → q ≠ 81 → q ≠ 82 → mem' q = mem q) : MS mem' (S.uRw ln mn it) := by
  have h2 := h.2
  refine ⟨r, ?_⟩
  unfold MTp MU MIm MTr at h2 ⊢
  rw [e 79 (by omega) (by omega) (by omega), e 83 (by omega) (by omega) (by omega), e 86 (by omega) (by omega) (by omega), e 87 (by omega) (by omega) (by omega), e 90 (by omega) (by omega) (by omega), e 91 (by omega) (by omega) (by omega), e 92 (by omega) (by omega) (by omega)]
  exact h2
theorem m_drop {mem : ZMem} {S : ZS} (hS : MS mem S) (hI : SInv S) {w : Int} (hw : In32 w) : CI mX7_drop 2 [zr 79, zi w] mem (QM mem (sDrop S w)) := by
  have h0 := hS.thr
  have hF : FrM mem (mset mem 79 0 0) := FrM.rf.set (by omega)
  generalize hm : mset mem 79 0 0 = m0 at *
  refine CM.of (by decide +kernel) ([zr 79, zi w]) (zok_all rfl) (Nat.le_of_ble_eq_true rfl) rfl ?_
  refine J_al0 dX7_drop_0 ?_
  refine J_iconst dX7_drop_1 ?_
  refine M_put (ki := 0) dX7_drop_2 fl_X7_50 sh_79 rfl rfl rfl (fun r hr => by cases hr; rfl) ?_
  rw [hm]
  refine J_il1 dX7_drop_5 ?_
  refine M_csI1 dX7_drop_6 lk_X7_64 cw_X7_isRow (k_isRow hw) (by decide) (Nat.le_of_ble_eq_true rfl) (fun v_6 mem_6 hq => ?_)
  obtain ⟨rfl, hq⟩ := hq; have hq := hq.symm; subst hq
  refine J_ifne_b (tgt := 15) dX7_drop_9 rfl (fun c_9 => ?_) (fun c_9 => ?_)
  · skip
    refine J_al0 dX7_drop_15 ?_
    refine J_iconst dX7_drop_16 ?_
    refine M_put (ki := 1) dX7_drop_17 fl_X7_54 sh_79 rfl rfl rfl (fun r hr => by cases hr; rfl) ?_
    have h1 := h0.fnd 0
    have hF1 : FrM mem (mset m0 79 1 0) := hF.set (by omega)
    generalize mset m0 79 1 0 = m1 at *
    obtain ⟨r1, r2, r3⟩ := h1.1 w (by omega) (by omega)
    obtain ⟨s1, s2, s3⟩ := hI.1 w (by omega) (by omega)
    have r1 : m1 80 w = S.ln w := r1
    have r2 : m1 81 w = S.mn w := r2
    refine J_al0 dX7_drop_20 ?_
    refine M_getR dX7_drop_21 fl_X7_7 sh_79 rfl ?_
    refine J_il1 dX7_drop_24 ?_
    refine M_ald dX7_drop_25 sh_80 (by decide) (by omega) ?_
    refine J_ifge (tgt := 35) dX7_drop_26 rfl (by omega) (fun c_26 => ?_) (fun c_26 => ?_)
    · skip
      refine J_al0 dX7_drop_35 ?_
      refine M_getR dX7_drop_36 fl_X7_7 sh_79 rfl ?_
      refine J_il1 dX7_drop_39 ?_
      refine J_iconst dX7_drop_40 ?_
      refine M_ast dX7_drop_41 sh_80 (by decide) (by omega) ?_
      refine J_al0 dX7_drop_42 ?_
      refine M_getR dX7_drop_43 fl_X7_13 sh_79 rfl ?_
      refine J_il1 dX7_drop_46 ?_
      refine M_ald dX7_drop_47 sh_81 (by decide) (by omega) ?_
      refine M_iret dX7_drop_48 rfl ?_
      unfold sDrop; rw [if_neg (by omega), if_neg (by omega)]
      refine ⟨by rw [mset_n (by omega)]; exact r2, MS.rw (S := S.uSt 0) (mem' := mset m1 80 w (-1)) h1 ?_ (fun q q1 q2 q3 => mset_n q1), hF1.set (by omega)⟩
      intro x x0 x1
      obtain ⟨d1, d2, d3⟩ := h1.1 x x0 x1
      rw [show mset m1 80 w (-1) 81 = m1 81 from mset_n (by omega), show mset m1 80 w (-1) 82 = m1 82 from mset_n (by omega), mset_q]
      refine ⟨?_, d2, d3⟩
      show zup (m1 80) w (-1) x = zup S.ln w (-1) x
      by_cases e : x = w
      · subst e; rw [zup_s, zup_s]
      · rw [zup_n e, zup_n e]; exact d1
    · skip
      refine J_al0 dX7_drop_29 ?_
      refine J_iconst dX7_drop_30 ?_
      refine M_cvI1 dX7_drop_31 lk_X7_71 cw_X7_finding sh_79 rfl rfl k_mfinding (by decide) (Nat.le_of_ble_eq_true rfl) (fun v_31 mem_31 hq => ?_)
      obtain ⟨rfl, hq⟩ := hq; have hq := hq.symm; subst hq
      refine M_iret dX7_drop_34 rfl ?_
      unfold sDrop; rw [if_neg (by omega), if_pos (by omega)]; exact ⟨rfl, h1.fnd 1, hF1.set (by omega)⟩
  · skip
    refine J_ldc (n := -1000001) dX7_drop_12 co_X7_70 (by decide) ?_
    refine M_iret dX7_drop_14 rfl ?_
    unfold sDrop; rw [if_pos (by omega)]; exact ⟨rfl, h0, hF⟩
theorem m_feed {mem : ZMem} {S : ZS} (hS : MS mem S) (hI : SInv S) {c : Int} (hc : In32 c) : CI mX7_feed 1 [zr 79, zi c] mem (QM mem (sFeed S c)) := by
  have h0 := hS.thr
  have hF : FrM mem (mset mem 79 0 0) := FrM.rf.set (by omega)
  have hn := hI.2.2.2.2.2.2
  generalize hm : mset mem 79 0 0 = m0 at *
  obtain ⟨t1, t2⟩ := h0.2.1
  refine CM.of (by decide +kernel) ([zr 79, zi c]) (zok_all rfl) (Nat.le_of_ble_eq_true rfl) rfl ?_
  refine J_al0 dX7_feed_0 ?_
  refine J_iconst dX7_feed_1 ?_
  refine M_put (ki := 0) dX7_feed_2 fl_X7_50 sh_79 rfl rfl rfl (fun r hr => by cases hr; rfl) ?_
  rw [hm]
  refine J_il1 dX7_feed_5 ?_
  refine J_i2l dX7_feed_6 (by omega) ?_
  refine J_lconst0 dX7_feed_7 ?_
  refine J_ldc2 (n := 255) dX7_feed_8 col_X7_75 (by decide) ?_
  refine M_csI3 dX7_feed_11 lk_X7_60 cw_X7_in (k_in (by omega) (by omega) (by omega)) (by decide) (Nat.le_of_ble_eq_true rfl) (fun v_11 mem_11 hq => ?_)
  obtain ⟨rfl, hq⟩ := hq; have hq := hq.symm; subst hq
  refine J_ifne_b (tgt := 20) dX7_feed_14 rfl (fun c_14 => ?_) (fun c_14 => ?_)
  · skip
    refine J_al0 dX7_feed_20 ?_
    refine M_get (ki := 11) dX7_feed_21 fl_X7_77 sh_79 rfl rfl ?_
    refine J_bipush dX7_feed_24 rfl ?_
    refine J_cne (tgt := 32) dX7_feed_26 rfl (by omega) (fun c_26 => ?_) (fun c_26 => ?_)
    · skip
      refine J_al0 dX7_feed_32 ?_
      refine M_getR dX7_feed_33 fl_X7_31 sh_79 rfl ?_
      refine J_al0 dX7_feed_36 ?_
      refine M_get (ki := 11) dX7_feed_37 fl_X7_77 sh_79 rfl rfl ?_
      refine J_il1 dX7_feed_40 ?_
      refine M_ast dX7_feed_41 sh_87 (by decide) (by omega) ?_
      refine J_al0 dX7_feed_42 ?_
      refine J_dup dX7_feed_43 rfl ?_
      refine M_get (ki := 11) dX7_feed_44 fl_X7_77 sh_79 rfl rfl ?_
      refine J_iconst dX7_feed_47 ?_
      refine J_iadd dX7_feed_48 ?_
      refine M_put (ki := 11) dX7_feed_49 fl_X7_77 sh_79 rfl rfl rfl (fun r hr => by cases hr; rfl) ?_
      refine J_al0 dX7_feed_52 ?_
      refine M_get (ki := 11) dX7_feed_53 fl_X7_77 sh_79 rfl rfl ?_
      refine M_iret dX7_feed_56 rfl ?_
      unfold sFeed; rw [if_neg (by omega), if_neg (by omega)]
      have e1 : mset m0 87 (m0 79 11) c 79 11 = S.n := by rw [mset_n (by omega)]; exact t1
      rw [e1, t1]
      refine ⟨mset_s _ _ _ _, ?_, (hF.set (by omega)).set (by omega)⟩
      have e : ∀ q : Nat, q ≠ 79 → q ≠ 87 → mset (mset m0 87 S.n c) 79 11 (S.n + 1) q = m0 q := fun q q1 q2 => by rw [mset_n q1, mset_n q2]
      have e79 : ∀ x : Int, x ≠ 11 → mset (mset m0 87 S.n c) 79 11 (S.n + 1) 79 x = m0 79 x := fun x hx => by rw [mset_i hx, mset_n (by omega)]
      refine ⟨?_, ⟨mset_s _ _ _ _, fun p p0 p1 => ?_⟩, ?_⟩
      · have := h0.1
        unfold MRw at this ⊢
        rw [e 80 (by omega) (by omega), e 81 (by omega) (by omega), e 82 (by omega) (by omega)]
        exact this
      · rw [mset_n (by omega), mset_q]
        by_cases z : p = S.n
        · subst z; rw [zup_s]; exact (zup_s _ _ _).symm
        · rw [zup_n z]
          have p1 : p < S.n + 1 := p1
          have := t2 p p0 (by omega)
          rw [this]
          exact (zup_n z).symm
      · have := h0.2.2
        unfold MU MIm MTr at this ⊢
        rw [e79 9 (by omega), e79 24 (by omega), e79 18 (by omega), e79 1 (by omega), e 83 (by omega) (by omega), e 86 (by omega) (by omega), e 90 (by omega) (by omega), e 91 (by omega) (by omega), e 92 (by omega) (by omega)]
        exact this
    · skip
      refine J_ldc (n := -1000003) dX7_feed_29 co_X7_80 (by decide) ?_
      refine M_iret dX7_feed_31 rfl ?_
      unfold sFeed; rw [if_neg (by omega), if_pos (by omega)]; exact ⟨rfl, h0, hF⟩
  · skip
    refine J_ldc (n := -1000001) dX7_feed_17 co_X7_70 (by decide) ?_
    refine M_iret dX7_feed_19 rfl ?_
    unfold sFeed; rw [if_pos (by omega)]; exact ⟨rfl, h0, hF⟩
