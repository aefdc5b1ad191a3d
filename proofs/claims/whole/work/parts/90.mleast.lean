theorem snfN_plc {b : BN} (hI : BInv b.1 b.2) {m : Int} : ∀ k : Nat, (k : Int) ≤ plc b.2 m → plc (snfN b m k).2 m = plc b.2 m - k
  | 0, _ => by show plc b.2 m = _; omega
  | k + 1, hk => by
    have ih := snfN_plc hI (m := m) k (by omega)
    obtain ⟨i1, i2⟩ := snfN_inv hI m k
    show plc (snf (snfN b m k) m).2 m = _
    generalize snfN b m k = d at *
    have hp := plc_range d.2 m
    have es : (snf d m).2 = swp d.2 (plc d.2 m) := by unfold snf; rw [if_pos (by omega)]
    have h1 : lget (swp d.2 (plc d.2 m)) (plc d.2 m - 1) = m := by
      rw [lget_swp (by omega) hp.2 (by omega), if_pos rfl, plc_at (by omega)]
    have h2 := plc_nodup (nodup_swp i1.2.1 (p := plc d.2 m) (by omega) hp.2) (p := plc d.2 m - 1) (by omega) (by rw [swp_len]; omega)
    rw [h1] at h2
    rw [es, h2]
    omega
theorem m_least {mem : ZMem} {S : ZS} (hS : MS mem S) (hI : SInv S) {m n w : Int} (hmr : In32 m) (hn : In32 n) (hw : In32 w) : CI mX7_leastSnuff 7 [zr 79, zi m, zi n, zi w] mem (QM mem (vLeast S m n w, S)) := by
  have hb := hI.bi
  have b1 := hb.1
  have hl := hb.len
  have hr := hI.hr
  have h0 := hS.thr
  have hF : FrM mem (mset mem 79 0 0) := FrM.rf.set (by omega)
  generalize hm : mset mem 79 0 0 = m0 at *
  have hen := h0.men
  have hp := plc_range S.b.2 m
  have hpN : (plc S.b.2 m < 0 ∧ pN (plc S.b.2 m) = -1000000) ∨ (0 ≤ plc S.b.2 m ∧ pN (plc S.b.2 m) = plc S.b.2 m) := by unfold pN; split <;> omega
  have bad : (noM S m ∨ n < 1 ∨ 60 < n ∨ w < 1 ∨ 60 < w) → QM mem (vLeast S m n w, S) (-1000001) m0 := fun q => ⟨by unfold vLeast; rw [if_pos q], h0, hF⟩
  have loop : ¬ (noM S m ∨ n < 1 ∨ 60 < n ∨ w < 1 ∨ 60 < w) → 0 ≤ plc S.b.2 m → ∀ (c kn : Nat) (k : Int) (z6 : ZV) (m2 : ZMem), k = kn → (c : Int) + k = plc S.b.2 m + 1 → FrX m0 m2 → vLeast S m n w = lsN S.b m n w c kn → JM mX7_leastSnuff 7 (QI (QM mem (vLeast S m n w, S))) 63 [zr 79, zi m, zi n, zi w, zi (plc S.b.2 m), zi k, z6] [] m2 := by
    intro hz hpl c
    have wb := (hb.2.2.2.2.1 m (by omega) (by omega)).2.2.2.1
    induction c with
    | zero =>
      intro kn k z6 m2 e0 a1 a2 a3
      refine J_il5 dX7_leastSnuff_63 ?_
      refine J_il4 dX7_leastSnuff_65 ?_
      refine J_cgt (tgt := 127) dX7_leastSnuff_67 rfl (by omega) (fun c_67 => ?_) (fun c_67 => ?_)
      · skip
        refine J_ldc (n := -1000000) dX7_leastSnuff_127 co_X7_93 (by decide) ?_
        refine M_iret dX7_leastSnuff_129 rfl ?_
        exact ⟨a3.symm, h0.x a2, hF.tr a2.m⟩
      · skip
        omega
    | succ c ih =>
      intro kn k z6 m2 e0 a1 a2 a3
      obtain ⟨s1, s2⟩ := snfN_inv hb m kn
      have s3 := s2 3 (by omega)
      have s4 := s2 4 (by omega)
      have sw : wm (snfN S.b m kn).1 m = wm S.b.1 m := s2 _ (by omega)
      obtain ⟨i1, i2, i3, i4⟩ := hrs_inv s1 n.toNat
      have i4m := i4 m
      have inner : ∀ (c2 jn : Nat) (j : Int) (m3 : ZMem), j = jn → (c2 : Int) + j = k → MX (m3 85) (snfN S.b m jn).1 (snfN S.b m jn).2 → FrX m0 m3 → JM mX7_leastSnuff 7 (QI (QM mem (vLeast S m n w, S))) 77 [zr 79, zi m, zi n, zi w, zi (plc S.b.2 m), zi k, zi j] [] m3 := by
        intro c2
        induction c2 with
        | zero =>
          intro jn j m3 f0 b1' b2 b3
          have ej : jn = kn := by omega
          subst ej
          have w1 : ∀ m4 : ZMem, FrH 85 m3 m4 → m4 83 (15 + 5 * m + 3) = wm S.b.1 m := fun m4 hf => by
            rw [hf.1 83 (by omega) (by omega), b3 83 (by omega) (by omega) (by omega)]
            exact ((mbch h0).2.2 m (by omega) (by omega)).2.2.2.1
          refine J_il6 dX7_leastSnuff_77 ?_
          refine J_il5 dX7_leastSnuff_79 ?_
          refine J_cge (tgt := 98) dX7_leastSnuff_81 rfl (by omega) (fun c_81 => ?_) (fun c_81 => ?_)
          · skip
            refine J_al0 dX7_leastSnuff_98 ?_
            refine J_il1 dX7_leastSnuff_99 ?_
            refine J_il2 dX7_leastSnuff_100 ?_
            refine M_cvI2 dX7_leastSnuff_101 lk_X7_215 cw_X7_warmBehind sh_79 rfl rfl (k_warmBehind b2 s1 (by omega) (by omega) (by omega)) (by decide) (Nat.le_of_ble_eq_true rfl) (fun v_101 mem_101 hq => ?_)
            obtain ⟨rfl, hM4, hF4⟩ := hq
            have w1' := w1 _ hF4
            refine J_al0 dX7_leastSnuff_104 ?_
            refine M_getR dX7_leastSnuff_105 fl_X7_19 sh_79 rfl ?_
            refine J_il1 dX7_leastSnuff_108 ?_
            refine J_iconst dX7_leastSnuff_109 ?_
            refine M_csI3 dX7_leastSnuff_110 lk_X7_163 cw_X7_of (k_of isW83 (by omega) (by omega)) (by decide) (Nat.le_of_ble_eq_true rfl) (fun v_110 mem_110 hq => ?_)
            obtain ⟨e, hq⟩ := hq; rw [w1'] at e; subst e; have hq := hq.symm; subst hq
            refine J_il3 dX7_leastSnuff_113 ?_
            refine J_iadd dX7_leastSnuff_114 ?_
            refine J_clt (tgt := 121) dX7_leastSnuff_115 rfl (by omega) (fun c_115 => ?_) (fun c_115 => ?_)
            · skip
              refine J_inc5 dX7_leastSnuff_121 (by decide) rfl ?_
              refine J_goto (tgt := 63) dX7_leastSnuff_124 rfl ?_
              exact ih (jn + 1) _ _ _ (by omega) (by omega) (b3.tr hF4.x) (by rw [a3, lsN, cif_f (by omega)])
            · skip
              refine J_il5 dX7_leastSnuff_118 ?_
              refine M_iret dX7_leastSnuff_120 rfl ?_
              exact ⟨by rw [a3, lsN, cif_t (by omega)]; exact e0, h0.x (b3.tr hF4.x), hF.tr (b3.tr hF4.x).m⟩
          · skip
            omega
        | succ c2 ih2 =>
          intro jn j m3 f0 b1' b2 b3
          have hpk := snfN_plc hb (m := m) jn (by omega)
          obtain ⟨t1, t2⟩ := snfN_inv hb m jn
          refine J_il6 dX7_leastSnuff_77 ?_
          refine J_il5 dX7_leastSnuff_79 ?_
          refine J_cge (tgt := 98) dX7_leastSnuff_81 rfl (by omega) (fun c_81 => ?_) (fun c_81 => ?_)
          · skip
            omega
          · skip
            refine J_al0 dX7_leastSnuff_84 ?_
            refine M_getR dX7_leastSnuff_85 fl_X7_25 sh_79 rfl ?_
            refine J_il1 dX7_leastSnuff_88 ?_
            refine M_csV2 dX7_leastSnuff_89 lk_X7_202 cw_X7_change (k_change isW85 b2 t1 (by omega) (by omega)) (by decide) (Nat.le_of_ble_eq_true rfl) (fun mem_89 hq => ?_)
            obtain ⟨hM2, hF2⟩ := hq
            have hM2 : MX (mem_89 85) (snfN S.b m (jn + 1)).1 (snfN S.b m (jn + 1)).2 := hM2
            refine J_inc6 dX7_leastSnuff_92 (by decide) rfl ?_
            refine J_goto (tgt := 77) dX7_leastSnuff_95 rfl ?_
            exact ih2 (jn + 1) _ _ (by omega) (by omega) hM2 (b3.tr hF2.x)
      refine J_il5 dX7_leastSnuff_63 ?_
      refine J_il4 dX7_leastSnuff_65 ?_
      refine J_cgt (tgt := 127) dX7_leastSnuff_67 rfl (by omega) (fun c_67 => ?_) (fun c_67 => ?_)
      · skip
        omega
      · skip
        refine J_al0 dX7_leastSnuff_70 ?_
        refine M_cvV0 dX7_leastSnuff_71 lk_X7_212 cw_X7_layThen sh_79 rfl rfl k_layThen (by decide) (Nat.le_of_ble_eq_true rfl) (fun mem_71 hq => ?_)
        obtain ⟨g1, g2⟩ := hq
        have hM0 : MX (m2 83) S.b.1 S.b.2 := by rw [a2 83 (by omega) (by omega) (by omega)]; exact mbch h0
        have hX : MX (mem_71 85) S.b.1 S.b.2 := hM0.ext (by omega) (by omega) g1
        have x1 : FrX m0 mem_71 := fun q q1 q2 q3 => by rw [g2 q q1]; exact a2 q q1 q2 q3
        refine J_iconst dX7_leastSnuff_74 ?_
        refine J_is6 dX7_leastSnuff_75 (by decide) rfl ?_
        exact inner kn 0 0 _ rfl (by omega) hX x1
  refine CM.of (by decide +kernel) ([zr 79, zi m, zi n, zi w, zu, zu, zu]) (zok_all rfl) (Nat.le_of_ble_eq_true rfl) rfl ?_
  refine J_al0 dX7_leastSnuff_0 ?_
  refine J_iconst dX7_leastSnuff_1 ?_
  refine M_put (ki := 0) dX7_leastSnuff_2 fl_X7_50 sh_79 rfl rfl rfl (fun r hr => by cases hr; rfl) ?_
  rw [hm]
  refine J_al0 dX7_leastSnuff_5 ?_
  refine J_il1 dX7_leastSnuff_6 ?_
  refine M_cvI1 dX7_leastSnuff_7 lk_X7_199 cw_X7_isMan sh_79 rfl rfl (k_isMan hmr (by omega)) (by decide) (Nat.le_of_ble_eq_true rfl) (fun v_7 mem_7 hq => ?_)
  obtain ⟨rfl, hq⟩ := hq; have hq := hq.symm; subst hq
  refine J_ifeq_b (tgt := 37) dX7_leastSnuff_10 rfl (fun c_10 => ?_) (fun c_10 => ?_)
  · skip
    refine J_ldc (n := -1000001) dX7_leastSnuff_37 co_X7_70 (by decide) ?_
    refine M_iret dX7_leastSnuff_39 rfl ?_
    exact bad (by omega)
  · skip
    refine J_il2 dX7_leastSnuff_13 ?_
    refine J_i2l dX7_leastSnuff_14 (by omega) ?_
    refine J_lconst1 dX7_leastSnuff_15 ?_
    refine J_ldc2 (n := 60) dX7_leastSnuff_16 col_X7_210 (by decide) ?_
    refine M_csI3 dX7_leastSnuff_19 lk_X7_60 cw_X7_in (k_in (by omega) (by omega) (by omega)) (by decide) (Nat.le_of_ble_eq_true rfl) (fun v_19 mem_19 hq => ?_)
    obtain ⟨rfl, hq⟩ := hq; have hq := hq.symm; subst hq
    refine J_ifeq_b (tgt := 37) dX7_leastSnuff_22 rfl (fun c_22 => ?_) (fun c_22 => ?_)
    · skip
      refine J_ldc (n := -1000001) dX7_leastSnuff_37 co_X7_70 (by decide) ?_
      refine M_iret dX7_leastSnuff_39 rfl ?_
      exact bad (by omega)
    · skip
      refine J_il3 dX7_leastSnuff_25 ?_
      refine J_i2l dX7_leastSnuff_26 (by omega) ?_
      refine J_lconst1 dX7_leastSnuff_27 ?_
      refine J_ldc2 (n := 60) dX7_leastSnuff_28 col_X7_210 (by decide) ?_
      refine M_csI3 dX7_leastSnuff_31 lk_X7_60 cw_X7_in (k_in (by omega) (by omega) (by omega)) (by decide) (Nat.le_of_ble_eq_true rfl) (fun v_31 mem_31 hq => ?_)
      obtain ⟨rfl, hq⟩ := hq; have hq := hq.symm; subst hq
      refine J_ifne_b (tgt := 40) dX7_leastSnuff_34 rfl (fun c_34 => ?_) (fun c_34 => ?_)
      · skip
        refine J_al0 dX7_leastSnuff_40 ?_
        refine M_getR dX7_leastSnuff_41 fl_X7_19 sh_79 rfl ?_
        refine J_il1 dX7_leastSnuff_44 ?_
        refine M_csI2 dX7_leastSnuff_45 lk_X7_156 cw_X7_placeOf (k_mplaceOf isW83 (mbch h0) hb hmr) (by decide) (Nat.le_of_ble_eq_true rfl) (fun v_45 mem_45 hq => ?_)
        obtain ⟨rfl, hq⟩ := hq; have hq := hq.symm; subst hq
        refine J_is4 dX7_leastSnuff_48 (by decide) rfl ?_
        refine J_il4 dX7_leastSnuff_50 ?_
        refine J_ldc (n := -1000000) dX7_leastSnuff_52 co_X7_93 (by decide) ?_
        refine J_cne (tgt := 60) dX7_leastSnuff_54 rfl (by omega) (fun c_54 => ?_) (fun c_54 => ?_)
        · skip
          have ep : pN (plc S.b.2 m) = plc S.b.2 m := by omega
          rw [ep]
          refine J_iconst dX7_leastSnuff_60 ?_
          refine J_is5 dX7_leastSnuff_61 (by decide) rfl ?_
          exact loop (by omega) (by omega) ((plc S.b.2 m).toNat + 1) 0 0 _ _ rfl (by omega) FrX.rf (by unfold vLeast; rw [if_neg (by omega), if_neg (by omega)])
        · skip
          refine J_ldc (n := -1000002) dX7_leastSnuff_57 co_X7_189 (by decide) ?_
          refine M_iret dX7_leastSnuff_59 rfl ?_
          exact ⟨by unfold vLeast; rw [if_neg (by omega), if_pos (by omega)], h0, hF⟩
      · skip
        refine J_ldc (n := -1000001) dX7_leastSnuff_37 co_X7_70 (by decide) ?_
        refine M_iret dX7_leastSnuff_39 rfl ?_
        exact bad (by omega)
theorem m_when {mem : ZMem} {S : ZS} (hS : MS mem S) (hI : SInv S) {m n w : Int} (hmr : In32 m) (hn : In32 n) (hw : In32 w) : CI mX7_whenToCome 7 [zr 79, zi m, zi n, zi w] mem (QM mem (vWhen S m n w, S)) := by
  have hb := hI.bi
  have b1 := hb.1
  have hl := hb.len
  have hr := hI.hr
  have h0 := hS.thr
  have hF : FrM mem (mset mem 79 0 0) := FrM.rf.set (by omega)
  generalize hm : mset mem 79 0 0 = m0 at *
  have hen := h0.men
  have hX0 := mbch h0
  have bad : (noM S m ∨ n < 1 ∨ 40 < n ∨ w < 0 ∨ 1 < w) → QM mem (vWhen S m n w, S) (-1000001) m0 := fun q => ⟨by unfold vWhen; rw [if_pos q], h0, hF⟩
  have loop : ¬ (noM S m ∨ n < 1 ∨ 40 < n ∨ w < 0 ∨ 1 < w) → gn S.b.1 m < 0 → ∀ (c kn : Nat) (k best most : Int) (z7 z8 : ZV) (m2 : ZMem), k = kn → (c : Int) + k = n → FrX m0 m2 → ((kn = 0 ∧ best = -1000000 ∧ most = -1000000) ∨ (0 < kn ∧ best = (wcN S.b m n kn).1 ∧ most = (wcN S.b m n kn).2)) → (-1000000 ≤ most ∧ most ≤ 5000) → JM mX7_whenToCome 7 (QI (QM mem (vWhen S m n w, S))) 64 [zr 79, zi m, zi n, zi w, zi best, zi most, zi k, z7, z8] [] m2 := by
    intro hz hg c
    have mp0 : 0 ≤ m := by omega
    have mp1 : m < S.b.1 3 := by omega
    have wb := (hb.2.2.2.2.1 m (by omega) (by omega)).2.2.2.1
    induction c with
    | zero =>
      intro kn k best most z7 z8 m2 e0 a1 a2 a3 a4
      have ek : kn = n.toNat := by omega
      rcases a3 with ⟨h1, -, -⟩ | ⟨h1, h2, h3⟩
      · omega
      subst ek
      refine J_il6 dX7_whenToCome_64 ?_
      refine J_il2 dX7_whenToCome_66 ?_
      refine J_cge (tgt := 160) dX7_whenToCome_67 rfl (by omega) (fun c_67 => ?_) (fun c_67 => ?_)
      · skip
        refine J_il3 dX7_whenToCome_160 ?_
        refine J_ifne (tgt := 169) dX7_whenToCome_161 rfl (by omega) (fun c_161 => ?_) (fun c_161 => ?_)
        · skip
          refine J_il5 dX7_whenToCome_169 ?_
          refine M_iret dX7_whenToCome_171 rfl ?_
          first
          | exact ⟨by unfold vWhen; rw [if_neg hz, if_pos hg, if_pos (by omega)]; exact h2, h0.x a2, hF.tr a2.m⟩
          | exact ⟨by unfold vWhen; rw [if_neg hz, if_pos hg, if_neg (by omega)]; exact h3, h0.x a2, hF.tr a2.m⟩
        · skip
          refine J_il4 dX7_whenToCome_164 ?_
          refine J_goto (tgt := 171) dX7_whenToCome_166 rfl ?_
          refine M_iret dX7_whenToCome_171 rfl ?_
          first
          | exact ⟨by unfold vWhen; rw [if_neg hz, if_pos hg, if_pos (by omega)]; exact h2, h0.x a2, hF.tr a2.m⟩
          | exact ⟨by unfold vWhen; rw [if_neg hz, if_pos hg, if_neg (by omega)]; exact h3, h0.x a2, hF.tr a2.m⟩
      · skip
        omega
    | succ c ih =>
      intro kn k best most z7 z8 m2 e0 a1 a2 a3 a4
      obtain ⟨i1, i2, i3, i4⟩ := hrs_inv (b := S.b) hb kn
      have e3 := i2.1 3 (by omega) (by omega)
      have hl2 := i1.len
      have hg2 := hrs_away hb mp0 mp1 hg kn
      have hI3 := cmR_inv i1 mp0 (by omega) (by omega)
      have hnm : m ∉ (hrs kn S.b).1.2 := fun q => by
        have := (i1.2.2.2.2.1 m (by omega) (by omega)).2.2.2.2.2.mpr q
        omega
      have hl1 := i1.len1 mp0 (by omega) hnm
      have c4 : (cmR (hrs kn S.b).1 m).1 4 = (hrs kn S.b).1.1 4 := zup_n (by omega)
      have c3 : (cmR (hrs kn S.b).1 m).1 3 = (hrs kn S.b).1.1 3 := zup_n (by omega)
      have en : (n - k).toNat = n.toNat - kn := by omega
      obtain ⟨j1, j2, j3, j4⟩ := hrs_inv hI3 (n.toNat - kn)
      have cw : wm (cmR (hrs kn S.b).1 m).1 m = wm (hrs kn S.b).1.1 m := wm_up
      have w1 := i4 m
      have w2 := j4 m
      have hv : wcV S.b m n kn = wm (hrs (n.toNat - kn) (cmR (hrs kn S.b).1 m)).1.1 m - wm S.b.1 m := rfl
      have ew : wcN S.b m n (kn + 1) = if (wcN S.b m n kn).2 < wcV S.b m n kn then ((kn : Int), wcV S.b m n kn) else wcN S.b m n kn := rfl
      have hz0 : kn = 0 → wcN S.b m n kn = (0, -1) := fun e => by rw [e]; rfl
      have ekn : k.toNat = kn := by omega
      have yes : most < wcV S.b m n kn → k = (wcN S.b m n (kn + 1)).1 ∧ wcV S.b m n kn = (wcN S.b m n (kn + 1)).2 := fun q => by
        have q2 : (wcN S.b m n kn).2 < wcV S.b m n kn := by
          rcases a3 with ⟨h1, h2, h3⟩ | ⟨h1, h2, h3⟩
          · rw [hz0 h1]; show (-1 : Int) < _; omega
          · rw [← h3]; exact q
        rw [ew, if_pos q2]
        exact ⟨e0, rfl⟩
      have no : ¬ most < wcV S.b m n kn → best = (wcN S.b m n (kn + 1)).1 ∧ most = (wcN S.b m n (kn + 1)).2 := fun q => by
        rcases a3 with ⟨h1, h2, h3⟩ | ⟨h1, h2, h3⟩
        · omega
        · rw [ew, if_neg (by rw [← h3]; exact q)]
          exact ⟨h2, h3⟩
      refine J_il6 dX7_whenToCome_64 ?_
      refine J_il2 dX7_whenToCome_66 ?_
      refine J_cge (tgt := 160) dX7_whenToCome_67 rfl (by omega) (fun c_67 => ?_) (fun c_67 => ?_)
      · skip
        omega
      · skip
        refine J_al0 dX7_whenToCome_70 ?_
        refine M_cvV0 dX7_whenToCome_71 lk_X7_212 cw_X7_layThen sh_79 rfl rfl k_layThen (by decide) (Nat.le_of_ble_eq_true rfl) (fun mem_71 hq => ?_)
        obtain ⟨g1, g2⟩ := hq
        have hM0 : MX (m2 83) S.b.1 S.b.2 := by rw [a2 83 (by omega) (by omega) (by omega)]; exact hX0
        have hX : MX (mem_71 85) S.b.1 S.b.2 := hM0.ext (by omega) (by omega) g1
        have x1 : FrX m0 mem_71 := fun q q1 q2 q3 => by rw [g2 q q1]; exact a2 q q1 q2 q3
        refine J_al0 dX7_whenToCome_74 ?_
        refine J_al0 dX7_whenToCome_75 ?_
        refine M_getR dX7_whenToCome_76 fl_X7_25 sh_79 rfl ?_
        refine J_il6 dX7_whenToCome_79 ?_
        refine M_cvI2 dX7_whenToCome_81 lk_X7_183 cw_X7_hoursOf sh_79 rfl rfl (k_hoursOf isW85 hX hb (by omega) (by omega)) (by decide) (Nat.le_of_ble_eq_true rfl) (fun v_81 mem_81 hq => ?_)
        obtain ⟨rfl, hM2, hF2⟩ := hq
        rw [ekn] at hM2
        have h7 : mem_81 85 7 = ((hrs kn S.b).1.2.length : Int) := hM2.1.2.2.2.2.2
        have x2 := x1.tr hF2.x
        refine J_is7 dX7_whenToCome_84 (by decide) rfl ?_
        refine J_al0 dX7_whenToCome_86 ?_
        refine M_getR dX7_whenToCome_87 fl_X7_25 sh_79 rfl ?_
        refine J_il1 dX7_whenToCome_90 ?_
        refine J_al0 dX7_whenToCome_91 ?_
        refine M_getR dX7_whenToCome_92 fl_X7_25 sh_79 rfl ?_
        refine J_bipush dX7_whenToCome_95 rfl ?_
        refine M_ald dX7_whenToCome_97 sh_85 (by decide) (by omega) ?_
        rw [h7]
        refine M_csV3 dX7_whenToCome_98 lk_X7_170 cw_X7_sitDown (k_sitDown isW85 hM2 (by omega) (by omega) (by omega)) (by decide) (Nat.le_of_ble_eq_true rfl) (fun mem_98 hq => ?_)
        obtain ⟨hM3, hF3⟩ := hq
        have hM3 : MX (mem_98 85) (cmR (hrs kn S.b).1 m).1 (cmR (hrs kn S.b).1 m).2 := hM3
        have x3 := x2.tr hF3.x
        refine J_al0 dX7_whenToCome_101 ?_
        refine J_il1 dX7_whenToCome_102 ?_
        refine J_il2 dX7_whenToCome_103 ?_
        refine J_il6 dX7_whenToCome_104 ?_
        refine J_isub dX7_whenToCome_106 ?_
        refine M_cvI2 dX7_whenToCome_107 lk_X7_215 cw_X7_warmBehind sh_79 rfl rfl (k_warmBehind hM3 hI3 (by omega) (by omega) (by omega)) (by decide) (Nat.le_of_ble_eq_true rfl) (fun v_107 mem_107 hq => ?_)
        obtain ⟨e, hM4, hF4⟩ := hq
        rw [en] at e
        subst e
        have x4 := x3.tr hF4.x
        have w5 : mem_107 83 (15 + 5 * m + 3) = wm S.b.1 m := by rw [x4 83 (by omega) (by omega) (by omega)]; exact (hX0.2.2 m (by omega) (by omega)).2.2.2.1
        refine J_al0 dX7_whenToCome_110 ?_
        refine M_getR dX7_whenToCome_111 fl_X7_19 sh_79 rfl ?_
        refine J_il1 dX7_whenToCome_114 ?_
        refine J_iconst dX7_whenToCome_115 ?_
        refine M_csI3 dX7_whenToCome_116 lk_X7_163 cw_X7_of (k_of isW83 (by omega) (by omega)) (by decide) (Nat.le_of_ble_eq_true rfl) (fun v_116 mem_116 hq => ?_)
        obtain ⟨e, hq⟩ := hq; rw [w5] at e; subst e; have hq := hq.symm; subst hq
        refine J_isub dX7_whenToCome_119 ?_
        rw [← hv]
        refine J_is8 dX7_whenToCome_120 (by decide) rfl ?_
        refine J_il8 dX7_whenToCome_122 ?_
        refine J_il5 dX7_whenToCome_124 ?_
        refine J_cle (tgt := 134) dX7_whenToCome_126 rfl (by omega) (fun c_126 => ?_) (fun c_126 => ?_)
        · skip
          refine J_il4 dX7_whenToCome_134 ?_
          refine J_is4 dX7_whenToCome_136 (by decide) rfl ?_
          refine J_il8 dX7_whenToCome_138 ?_
          refine J_il5 dX7_whenToCome_140 ?_
          refine J_cle (tgt := 150) dX7_whenToCome_142 rfl (by omega) (fun c_142 => ?_) (fun c_142 => ?_)
          · skip
            refine J_il5 dX7_whenToCome_150 ?_
            refine J_is5 dX7_whenToCome_152 (by decide) rfl ?_
            refine J_inc6 dX7_whenToCome_154 (by decide) rfl ?_
            refine J_goto (tgt := 64) dX7_whenToCome_157 rfl ?_
            first
            | exact ih (kn + 1) _ _ _ _ _ _ (by omega) (by omega) x4 (Or.inr ⟨by omega, yes (by omega)⟩) (by omega)
            | exact ih (kn + 1) _ _ _ _ _ _ (by omega) (by omega) x4 (Or.inr ⟨by omega, no (by omega)⟩) (by omega)
            | omega
          · skip
            refine J_il8 dX7_whenToCome_145 ?_
            refine J_goto (tgt := 152) dX7_whenToCome_147 rfl ?_
            refine J_is5 dX7_whenToCome_152 (by decide) rfl ?_
            refine J_inc6 dX7_whenToCome_154 (by decide) rfl ?_
            refine J_goto (tgt := 64) dX7_whenToCome_157 rfl ?_
            first
            | exact ih (kn + 1) _ _ _ _ _ _ (by omega) (by omega) x4 (Or.inr ⟨by omega, yes (by omega)⟩) (by omega)
            | exact ih (kn + 1) _ _ _ _ _ _ (by omega) (by omega) x4 (Or.inr ⟨by omega, no (by omega)⟩) (by omega)
            | omega
        · skip
          refine J_il6 dX7_whenToCome_129 ?_
          refine J_goto (tgt := 136) dX7_whenToCome_131 rfl ?_
          refine J_is4 dX7_whenToCome_136 (by decide) rfl ?_
          refine J_il8 dX7_whenToCome_138 ?_
          refine J_il5 dX7_whenToCome_140 ?_
          refine J_cle (tgt := 150) dX7_whenToCome_142 rfl (by omega) (fun c_142 => ?_) (fun c_142 => ?_)
          · skip
            refine J_il5 dX7_whenToCome_150 ?_
            refine J_is5 dX7_whenToCome_152 (by decide) rfl ?_
            refine J_inc6 dX7_whenToCome_154 (by decide) rfl ?_
            refine J_goto (tgt := 64) dX7_whenToCome_157 rfl ?_
            first
            | exact ih (kn + 1) _ _ _ _ _ _ (by omega) (by omega) x4 (Or.inr ⟨by omega, yes (by omega)⟩) (by omega)
            | exact ih (kn + 1) _ _ _ _ _ _ (by omega) (by omega) x4 (Or.inr ⟨by omega, no (by omega)⟩) (by omega)
            | omega
          · skip
            refine J_il8 dX7_whenToCome_145 ?_
            refine J_goto (tgt := 152) dX7_whenToCome_147 rfl ?_
            refine J_is5 dX7_whenToCome_152 (by decide) rfl ?_
            refine J_inc6 dX7_whenToCome_154 (by decide) rfl ?_
            refine J_goto (tgt := 64) dX7_whenToCome_157 rfl ?_
            first
            | exact ih (kn + 1) _ _ _ _ _ _ (by omega) (by omega) x4 (Or.inr ⟨by omega, yes (by omega)⟩) (by omega)
            | exact ih (kn + 1) _ _ _ _ _ _ (by omega) (by omega) x4 (Or.inr ⟨by omega, no (by omega)⟩) (by omega)
            | omega
  refine CM.of (by decide +kernel) ([zr 79, zi m, zi n, zi w, zu, zu, zu, zu, zu]) (zok_all rfl) (Nat.le_of_ble_eq_true rfl) rfl ?_
  refine J_al0 dX7_whenToCome_0 ?_
  refine J_iconst dX7_whenToCome_1 ?_
  refine M_put (ki := 0) dX7_whenToCome_2 fl_X7_50 sh_79 rfl rfl rfl (fun r hr => by cases hr; rfl) ?_
  rw [hm]
  refine J_al0 dX7_whenToCome_5 ?_
  refine J_il1 dX7_whenToCome_6 ?_
  refine M_cvI1 dX7_whenToCome_7 lk_X7_199 cw_X7_isMan sh_79 rfl rfl (k_isMan hmr (by omega)) (by decide) (Nat.le_of_ble_eq_true rfl) (fun v_7 mem_7 hq => ?_)
  obtain ⟨rfl, hq⟩ := hq; have hq := hq.symm; subst hq
  refine J_ifeq_b (tgt := 35) dX7_whenToCome_10 rfl (fun c_10 => ?_) (fun c_10 => ?_)
  · skip
    refine J_ldc (n := -1000001) dX7_whenToCome_35 co_X7_70 (by decide) ?_
    refine M_iret dX7_whenToCome_37 rfl ?_
    exact bad (by omega)
  · skip
    refine J_il2 dX7_whenToCome_13 ?_
    refine J_i2l dX7_whenToCome_14 (by omega) ?_
    refine J_lconst1 dX7_whenToCome_15 ?_
    refine J_ldc2 (n := 40) dX7_whenToCome_16 col_X7_218 (by decide) ?_
    refine M_csI3 dX7_whenToCome_19 lk_X7_60 cw_X7_in (k_in (by omega) (by omega) (by omega)) (by decide) (Nat.le_of_ble_eq_true rfl) (fun v_19 mem_19 hq => ?_)
    obtain ⟨rfl, hq⟩ := hq; have hq := hq.symm; subst hq
    refine J_ifeq_b (tgt := 35) dX7_whenToCome_22 rfl (fun c_22 => ?_) (fun c_22 => ?_)
    · skip
      refine J_ldc (n := -1000001) dX7_whenToCome_35 co_X7_70 (by decide) ?_
      refine M_iret dX7_whenToCome_37 rfl ?_
      exact bad (by omega)
    · skip
      refine J_il3 dX7_whenToCome_25 ?_
      refine J_i2l dX7_whenToCome_26 (by omega) ?_
      refine J_lconst0 dX7_whenToCome_27 ?_
      refine J_lconst1 dX7_whenToCome_28 ?_
      refine M_csI3 dX7_whenToCome_29 lk_X7_60 cw_X7_in (k_in (by omega) (by omega) (by omega)) (by decide) (Nat.le_of_ble_eq_true rfl) (fun v_29 mem_29 hq => ?_)
      obtain ⟨rfl, hq⟩ := hq; have hq := hq.symm; subst hq
      refine J_ifne_b (tgt := 38) dX7_whenToCome_32 rfl (fun c_32 => ?_) (fun c_32 => ?_)
      · skip
        have hg4 := (hX0.2.2 m (by omega) (by omega)).2.2.2.2
        have hgr := (hb.2.2.2.2.1 m (by omega) (by omega)).2.2.2.2.1
        refine J_al0 dX7_whenToCome_38 ?_
        refine M_getR dX7_whenToCome_39 fl_X7_19 sh_79 rfl ?_
        refine J_il1 dX7_whenToCome_42 ?_
        refine J_iconst dX7_whenToCome_43 ?_
        refine M_csI3 dX7_whenToCome_44 lk_X7_163 cw_X7_of (k_of isW83 (by omega) (by omega)) (by decide) (Nat.le_of_ble_eq_true rfl) (fun v_44 mem_44 hq => ?_)
        obtain ⟨e, hq⟩ := hq; rw [hg4] at e; subst e; have hq := hq.symm; subst hq
        refine J_iflt (tgt := 53) dX7_whenToCome_47 rfl (by omega) (fun c_47 => ?_) (fun c_47 => ?_)
        · skip
          refine J_ldc (n := -1000000) dX7_whenToCome_53 co_X7_93 (by decide) ?_
          refine J_is4 dX7_whenToCome_55 (by decide) rfl ?_
          refine J_ldc (n := -1000000) dX7_whenToCome_57 co_X7_93 (by decide) ?_
          refine J_is5 dX7_whenToCome_59 (by decide) rfl ?_
          refine J_iconst dX7_whenToCome_61 ?_
          refine J_is6 dX7_whenToCome_62 (by decide) rfl ?_
          exact loop (by omega) (by omega) n.toNat 0 0 (-1000000) (-1000000) _ _ _ rfl (by omega) FrX.rf (Or.inl ⟨rfl, rfl, rfl⟩) (by omega)
        · skip
          refine J_ldc (n := -1000002) dX7_whenToCome_50 co_X7_189 (by decide) ?_
          refine M_iret dX7_whenToCome_52 rfl ?_
          exact ⟨by unfold vWhen; rw [if_neg (by omega), if_neg (by omega)], h0, hF⟩
      · skip
        refine J_ldc (n := -1000001) dX7_whenToCome_35 co_X7_70 (by decide) ?_
        refine M_iret dX7_whenToCome_37 rfl ?_
        exact bad (by omega)
