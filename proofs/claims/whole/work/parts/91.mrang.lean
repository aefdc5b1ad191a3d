theorem zor_z {a : Int} (h : In32 a) : zor a 0 = a := by
  unfold zor
  rw [i32_0, Int32.or_zero, i32_toInt h]
theorem zor2_all : ∀ a : Fin 256, ∀ b : Fin 7, 0 ≤ zor ((a.val : Nat) : Int) (zshl 1 ((b.val : Nat) : Int)) ∧ zor ((a.val : Nat) : Int) (zshl 1 ((b.val : Nat) : Int)) < 256 := by decide +kernel
theorem zor2_rg {a b : Int} (ha : 0 ≤ a ∧ a < 256) (hb : 0 ≤ b ∧ b < 7) : 0 ≤ zor a (zshl 1 b) ∧ zor a (zshl 1 b) < 256 := by
  have := zor2_all ⟨a.toNat, by omega⟩ ⟨b.toNat, by omega⟩
  simp only at this
  rw [show ((a.toNat : Nat) : Int) = a by omega, show ((b.toNat : Nat) : Int) = b by omega] at this
  exact this
theorem rgN_rg {S : ZS} {w i n : Int} : ∀ k : Nat, k ≤ 7 → 0 ≤ rgN S w i n k ∧ rgN S w i n k < 256
  | 0, _ => by
    unfold rgN
    by_cases c : SitT S.it S.b w i n
    · rw [cif_t c]; omega
    · rw [cif_f c]; omega
  | k + 1, hk => by
    have ih := rgN_rg (S := S) (w := w) (i := i) (n := n) k (by omega)
    unfold rgN
    by_cases c : SitT S.it (dnR S.b k) w i n
    · rw [cif_t c]; exact zor2_rg ih (by omega)
    · rw [cif_f c]; exact ih
theorem whN_rg {S : ZS} {m w i n : Int} : ∀ k : Nat, k ≤ 5 → 0 ≤ whN S m w i n k ∧ whN S m w i n k < 256
  | 0, _ => ⟨Int.le_refl 0, by show (0 : Int) < 256; omega⟩
  | k + 1, hk => by
    have ih := whN_rg (S := S) (m := m) (w := w) (i := i) (n := n) k (by omega)
    unfold whN
    by_cases c : WhoT S.it (kdR S.b m (k + 1)) m w i n
    · rw [cif_t c]; exact zor2_rg ih (by omega)
    · rw [cif_f c]; exact ih
theorem k_sitSo {mem : ZMem} {S : ZS} {b : BN} (hS : MRw mem S.ln S.mn S.it) (hI : SInv S) (hB : MX (mem 85) b.1 b.2) (hb : BInv b.1 b.2) (hr : b.1 4 ≤ 999) {w i n : Int} (hw : 0 ≤ w ∧ w < 8) (hi : 0 ≤ i ∧ i + n ≤ 40) (hn : 1 ≤ n ∧ n ≤ 12) : CI mX7_sitSo 5 [zr 79, zi (40 * w + i), zi n] mem (fun v mem' => v = bi (SitT S.it b w i n) ∧ FrX mem mem') := by
  have loop : ∀ (c kn : Nat) (s k : Int) (z : ZV) (m2 : ZMem), k = kn → (c : Int) + k = n → s = bi (SitT S.it b w i kn) → MX (m2 85) (hrs kn b).1.1 (hrs kn b).1.2 → FrX mem m2 → JM mX7_sitSo 5 (QI (fun v mem' => v = bi (SitT S.it b w i n) ∧ FrX mem mem')) 5 [zr 79, zi (40 * w + i), zi n, zi s, zi k, z] [] m2 := by
    intro c
    induction c with
    | zero =>
      intro kn s k z m2 e0 a1 a2 a3 a4
      have h01 := bi_01 (SitT S.it b w i kn)
      refine J_il4 dX7_sitSo_5 ?_
      refine J_il2 dX7_sitSo_7 ?_
      refine J_cge (tgt := 57) dX7_sitSo_8 rfl (by omega) (fun c_8 => ?_) (fun c_8 => ?_)
      · skip
        refine J_il3 dX7_sitSo_57 ?_
        refine M_zret dX7_sitSo_58 rfl (by omega) ?_
        exact ⟨by rw [a2, show (kn : Int) = n by omega], a4⟩
      · skip
        omega
    | succ c ih =>
      intro kn s k z m2 e0 a1 a2 a3 a4
      obtain ⟨i1, i2, i3, i4⟩ := hrs_inv (b := b) hb kn
      obtain ⟨j1, j2, j3, j4⟩ := hrs_inv (b := b) hb (kn + 1)
      have hl2 := j1.len
      have j33 := j1.1
      have h01 := bi_01 (SitT S.it b w i kn)
      have hit := (hI.1 w hw.1 hw.2).2.2 (i + k) (by omega) (by omega)
      have h82 := (hS w hw.1 hw.2).2.2 (i + k) (by omega) (by omega)
      have yes : SitT S.it b w i kn → ((hrs (kn + 1) b).1.2.length : Int) = S.it w (i + k) → SitT S.it b w i ((kn + 1 : Nat) : Int) := fun q1 q2 x hx => by
        by_cases e : x = kn
        · subst e; rw [← e0]; exact q2
        · exact q1 x (by omega)
      have no1 : ¬ SitT S.it b w i kn → ¬ SitT S.it b w i ((kn + 1 : Nat) : Int) := fun q1 q2 => q1 (fun x hx => q2 x (by omega))
      have no2 : ¬ ((hrs (kn + 1) b).1.2.length : Int) = S.it w (i + k) → ¬ SitT S.it b w i ((kn + 1 : Nat) : Int) := fun q1 q2 => q1 (by
        have := q2 kn (by omega)
        rw [← e0] at this
        exact this)
      refine J_il4 dX7_sitSo_5 ?_
      refine J_il2 dX7_sitSo_7 ?_
      refine J_cge (tgt := 57) dX7_sitSo_8 rfl (by omega) (fun c_8 => ?_) (fun c_8 => ?_)
      · skip
        omega
      · skip
        refine J_al0 dX7_sitSo_11 ?_
        refine J_al0 dX7_sitSo_12 ?_
        refine M_getR dX7_sitSo_13 fl_X7_25 sh_79 rfl ?_
        refine J_iconst dX7_sitSo_16 ?_
        refine M_cvI2 dX7_sitSo_17 lk_X7_180 cw_X7_hour sh_79 rfl rfl (k_mhour isW85 a3 i1 (by omega) (fun _ => True) mgt0) (by decide) (Nat.le_of_ble_eq_true rfl) (fun v_17 mem_17 hq => ?_)
        obtain ⟨rfl, hM2, hF2⟩ := hq
        have hM2 : MX (mem_17 85) (hrs (kn + 1) b).1.1 (hrs (kn + 1) b).1.2 := hM2
        have x2 := a4.tr hF2.x
        have d7 : mem_17 85 7 = ((hrs (kn + 1) b).1.2.length : Int) := hM2.1.2.2.2.2.2
        have d82 : mem_17 82 (40 * w + i + k) = S.it w (i + k) := by rw [x2 82 (by omega) (by omega) (by omega), show 40 * w + i + k = 40 * w + (i + k) by omega]; exact h82
        refine J_is5 dX7_sitSo_20 (by decide) rfl ?_
        refine J_il3 dX7_sitSo_22 ?_
        refine J_ifeq (tgt := 49) dX7_sitSo_23 rfl (by omega) (fun c_23 => ?_) (fun c_23 => ?_)
        · skip
          refine J_iconst dX7_sitSo_49 ?_
          refine J_is3 dX7_sitSo_50 (by decide) rfl ?_
          refine J_inc4 dX7_sitSo_51 (by decide) rfl ?_
          refine J_goto (tgt := 5) dX7_sitSo_54 rfl ?_
          first
          | exact ih (kn + 1) _ _ _ _ (by omega) (by omega) (bi_t (yes (bi_ne.mp (by omega)) (by omega))).symm hM2 x2
          | exact ih (kn + 1) _ _ _ _ (by omega) (by omega) (bi_f (no1 (bi_eq.mp (by omega)))).symm hM2 x2
          | exact ih (kn + 1) _ _ _ _ (by omega) (by omega) (bi_f (no2 (by omega))).symm hM2 x2
        · skip
          refine J_al0 dX7_sitSo_26 ?_
          refine M_getR dX7_sitSo_27 fl_X7_25 sh_79 rfl ?_
          refine J_bipush dX7_sitSo_30 rfl ?_
          refine M_ald dX7_sitSo_32 sh_85 (by decide) (by omega) ?_
          refine J_al0 dX7_sitSo_33 ?_
          refine M_getR dX7_sitSo_34 fl_X7_16 sh_79 rfl ?_
          refine J_il1 dX7_sitSo_37 ?_
          refine J_il4 dX7_sitSo_38 ?_
          refine J_iadd dX7_sitSo_40 ?_
          refine M_ald dX7_sitSo_41 sh_82 (by decide) (by omega) ?_
          rw [d7, d82]
          refine J_cne (tgt := 49) dX7_sitSo_42 rfl (by omega) (fun c_42 => ?_) (fun c_42 => ?_)
          · skip
            refine J_iconst dX7_sitSo_49 ?_
            refine J_is3 dX7_sitSo_50 (by decide) rfl ?_
            refine J_inc4 dX7_sitSo_51 (by decide) rfl ?_
            refine J_goto (tgt := 5) dX7_sitSo_54 rfl ?_
            first
            | exact ih (kn + 1) _ _ _ _ (by omega) (by omega) (bi_t (yes (bi_ne.mp (by omega)) (by omega))).symm hM2 x2
            | exact ih (kn + 1) _ _ _ _ (by omega) (by omega) (bi_f (no1 (bi_eq.mp (by omega)))).symm hM2 x2
            | exact ih (kn + 1) _ _ _ _ (by omega) (by omega) (bi_f (no2 (by omega))).symm hM2 x2
          · skip
            refine J_iconst dX7_sitSo_45 ?_
            refine J_goto (tgt := 50) dX7_sitSo_46 rfl ?_
            refine J_is3 dX7_sitSo_50 (by decide) rfl ?_
            refine J_inc4 dX7_sitSo_51 (by decide) rfl ?_
            refine J_goto (tgt := 5) dX7_sitSo_54 rfl ?_
            first
            | exact ih (kn + 1) _ _ _ _ (by omega) (by omega) (bi_t (yes (bi_ne.mp (by omega)) (by omega))).symm hM2 x2
            | exact ih (kn + 1) _ _ _ _ (by omega) (by omega) (bi_f (no1 (bi_eq.mp (by omega)))).symm hM2 x2
            | exact ih (kn + 1) _ _ _ _ (by omega) (by omega) (bi_f (no2 (by omega))).symm hM2 x2
  refine CM.of (by decide +kernel) ([zr 79, zi (40 * w + i), zi n, zu, zu, zu]) (zok_all rfl) (Nat.le_of_ble_eq_true rfl) rfl ?_
  refine J_iconst dX7_sitSo_0 ?_
  refine J_is3 dX7_sitSo_1 (by decide) rfl ?_
  refine J_iconst dX7_sitSo_2 ?_
  refine J_is4 dX7_sitSo_3 (by decide) rfl ?_
  exact loop n.toNat 0 1 0 _ mem rfl (by omega) (bi_t (fun x hx => absurd hx (by omega))).symm hB FrX.rf
theorem MS.st0 {mem mem' : ZMem} {S : ZS} (h : MS mem S) (e : FrX (mset mem 79 1 0) mem') : MS mem' (S.uSt 0) := (h.fnd 0).x e
theorem m_rang {mem : ZMem} {S : ZS} (hS : MS mem S) (hI : SInv S) {w i n : Int} (hw : In32 w) (hi : In32 i) (hn : In32 n) : CI mX7_rang 6 [zr 79, zi w, zi i, zi n] mem (QM mem (sRang S w i n)) := by
  have hb := hI.bi
  have b1 := hb.1
  have hl := hb.len
  have hr := hI.hr
  have h0 := hS.thr
  have htt := h0.th
  have hF : FrM mem (mset mem 79 0 0) := FrM.rf.set (by omega)
  generalize hm : mset mem 79 0 0 = m0 at *
  have hen := h0.men
  have hX0 := mbch h0
  have hS1 := h0.fnd 0
  have hF1 : FrM mem (mset m0 79 1 0) := hF.set (by omega)
  have fnd : ¬ S.b.1 3 = 0 → ¬ (w < 0 ∨ 7 < w ∨ n < 1 ∨ 12 < n) → ∀ k : Int, k ≠ 0 → fndS S w i n = k → QM mem (sRang S w i n) (-1000010 - k) (mset m0 79 1 k) := fun q0 q1 k hk hf => by
    unfold sRang
    rw [if_neg q0, if_neg q1, hf, if_pos hk]
    exact ⟨rfl, h0.fnd k, hF.set (by omega)⟩
  have loop : ¬ S.b.1 3 = 0 → ¬ (w < 0 ∨ 7 < w ∨ n < 1 ∨ 12 < n) → 0 ≤ S.ln w → 0 ≤ i → i + n ≤ S.mn w → ∀ (c kn : Nat) (s k : Int) (m2 : ZMem), k = kn → (c : Int) + k = S.b.1 3 → s = rgN S w i n kn → FrX (mset m0 79 1 0) m2 → JM mX7_rang 6 (QI (QM mem (sRang S w i n))) 113 [zr 79, zi w, zi i, zi n, zi s, zi k] [] m2 := by
    intro q0 q1 q2 q3 q4 c
    have hmn := (hI.1 w (by omega) (by omega)).2.1
    induction c with
    | zero =>
      intro kn s k m2 e0 a1 a2 a3
      have d3 : m2 83 3 = S.b.1 3 := by rw [a3 83 (by omega) (by omega) (by omega), mset_n (by omega)]; exact hen
      refine J_il5 dX7_rang_113 ?_
      refine J_al0 dX7_rang_115 ?_
      refine M_getR dX7_rang_116 fl_X7_19 sh_79 rfl ?_
      refine J_iconst dX7_rang_119 ?_
      refine M_ald dX7_rang_120 sh_83 (by decide) (by omega) ?_
      refine J_cge (tgt := 191) dX7_rang_121 rfl (by omega) (fun c_121 => ?_) (fun c_121 => ?_)
      · skip
        refine J_il4 dX7_rang_191 ?_
        refine M_iret dX7_rang_193 rfl ?_
        unfold sRang
        rw [if_neg q0, if_neg q1, if_neg (by unfold fndS; rw [if_neg (by omega), if_pos (by omega)]; omega)]
        exact ⟨by rw [a2, show kn = (S.b.1 3).toNat by omega], h0.st0 a3, hF1.tr a3.m⟩
      · skip
        omega
    | succ c ih =>
      intro kn s k m2 e0 a1 a2 a3
      have hS2 := h0.st0 a3
      have d3 : m2 83 3 = S.b.1 3 := hS2.men
      have hM0 : MX (m2 83) S.b.1 S.b.2 := hS2.2.2.1.1
      have hdn := (hM0.2.2 k (by omega) (by omega)).2.1
      have hdr := (hb.2.2.2.2.1 k (by omega) (by omega)).2.1
      have hD := dnR_inv hb (x := k) (by omega)
      have d4 : (dnR S.b k).1 4 = S.b.1 4 := zup_n (by omega)
      have rg := rgN_rg (S := S) (w := w) (i := i) (n := n) kn (by omega)
      have nx : rgN S w i n (kn + 1) = cif (SitT S.it (dnR S.b k) w i n) (zor (rgN S w i n kn) (zshl 1 k)) (rgN S w i n kn) := by rw [e0]; rfl
      refine J_il5 dX7_rang_113 ?_
      refine J_al0 dX7_rang_115 ?_
      refine M_getR dX7_rang_116 fl_X7_19 sh_79 rfl ?_
      refine J_iconst dX7_rang_119 ?_
      refine M_ald dX7_rang_120 sh_83 (by decide) (by omega) ?_
      refine J_cge (tgt := 191) dX7_rang_121 rfl (by omega) (fun c_121 => ?_) (fun c_121 => ?_)
      · skip
        omega
      · skip
        refine J_al0 dX7_rang_124 ?_
        refine M_cvV0 dX7_rang_125 lk_X7_212 cw_X7_layThen sh_79 rfl rfl k_layThen (by decide) (Nat.le_of_ble_eq_true rfl) (fun mem_125 hq => ?_)
        obtain ⟨g1, g2⟩ := hq
        have hX : MX (mem_125 85) S.b.1 S.b.2 := hM0.ext (by omega) (by omega) g1
        have x1 : FrX m2 mem_125 := fun q q1 _ _ => g2 q q1
        have hdn2 : mem_125 83 (15 + 5 * k + 1) = dn S.b.1 k := by rw [g2 83 (by omega)]; exact hdn
        refine J_al0 dX7_rang_128 ?_
        refine M_getR dX7_rang_129 fl_X7_25 sh_79 rfl ?_
        refine J_bipush dX7_rang_132 rfl ?_
        refine J_iconst dX7_rang_134 ?_
        refine J_il5 dX7_rang_135 ?_
        refine J_imul dX7_rang_137 ?_
        refine J_iadd dX7_rang_138 ?_
        refine J_iconst dX7_rang_139 ?_
        refine J_iadd dX7_rang_140 ?_
        refine J_al0 dX7_rang_141 ?_
        refine M_getR dX7_rang_142 fl_X7_19 sh_79 rfl ?_
        refine J_il5 dX7_rang_145 ?_
        refine J_iconst dX7_rang_147 ?_
        refine M_csI3 dX7_rang_148 lk_X7_163 cw_X7_of (k_of isW83 (by omega) (by omega)) (by decide) (Nat.le_of_ble_eq_true rfl) (fun v_148 mem_148 hq => ?_)
        obtain ⟨e, hq⟩ := hq; rw [hdn2] at e; subst e; have hq := hq.symm; subst hq
        have hX3 : MX (mset mem_125 85 (15 + 5 * k + 1) ((dn S.b.1 k + 23) % 24) 85) (dnR S.b k).1 (dnR S.b k).2 := by
          rw [mset_q]
          exact hX.upd (by omega) (by omega)
        have x2 : FrX m2 (mset mem_125 85 (15 + 5 * k + 1) ((dn S.b.1 k + 23) % 24)) := fun q q1 q2 q3 => by rw [mset_n q1]; exact x1 q q1 q2 q3
        refine J_bipush dX7_rang_151 rfl ?_
        refine J_iadd dX7_rang_153 ?_
        refine J_bipush dX7_rang_154 rfl ?_
        refine J_irem dX7_rang_156 (by omega) ?_
        refine M_ast dX7_rang_157 sh_85 (by decide) (by omega) ?_
        refine J_il4 dX7_rang_158 ?_
        refine J_al0 dX7_rang_160 ?_
        refine J_bipush dX7_rang_161 rfl ?_
        refine J_il1 dX7_rang_163 ?_
        refine J_imul dX7_rang_164 ?_
        refine J_il2 dX7_rang_165 ?_
        refine J_iadd dX7_rang_166 ?_
        refine J_il3 dX7_rang_167 ?_
        refine M_cvI2 dX7_rang_168 lk_X7_222 cw_X7_sitSo sh_79 rfl rfl (k_sitSo (S := S) (hS2.x x2).1 hI hX3 hD (by omega) (by omega) (by omega) (by omega)) (by decide) (Nat.le_of_ble_eq_true rfl) (fun v_168 mem_168 hq => ?_)
        obtain ⟨rfl, x3⟩ := hq
        refine J_ifeq_b (tgt := 181) dX7_rang_171 rfl (fun c_171 => ?_) (fun c_171 => ?_)
        · skip
          refine J_iconst dX7_rang_181 ?_
          refine J_ior dX7_rang_182 ?_
          refine J_is4 dX7_rang_183 (by decide) rfl ?_
          refine J_inc5 dX7_rang_185 (by decide) rfl ?_
          refine J_goto (tgt := 113) dX7_rang_188 rfl ?_
          refine ih (kn + 1) _ _ _ (by omega) (by omega) ?_ (a3.tr (x2.tr x3))
          rw [nx, a2]
          first | rw [cif_t c_171] | rw [cif_f c_171, zor_z (by omega)]
        · skip
          refine J_iconst dX7_rang_174 ?_
          refine J_il5 dX7_rang_175 ?_
          refine J_ishl dX7_rang_177 ?_
          refine J_goto (tgt := 182) dX7_rang_178 rfl ?_
          refine J_ior dX7_rang_182 ?_
          refine J_is4 dX7_rang_183 (by decide) rfl ?_
          refine J_inc5 dX7_rang_185 (by decide) rfl ?_
          refine J_goto (tgt := 113) dX7_rang_188 rfl ?_
          refine ih (kn + 1) _ _ _ (by omega) (by omega) ?_ (a3.tr (x2.tr x3))
          rw [nx, a2]
          first | rw [cif_t c_171] | rw [cif_f c_171, zor_z (by omega)]
  refine CM.of (by decide +kernel) ([zr 79, zi w, zi i, zi n, zu, zu]) (zok_all rfl) (Nat.le_of_ble_eq_true rfl) rfl ?_
  refine J_al0 dX7_rang_0 ?_
  refine J_iconst dX7_rang_1 ?_
  refine M_put (ki := 0) dX7_rang_2 fl_X7_50 sh_79 rfl rfl rfl (fun r hr => by cases hr; rfl) ?_
  rw [hm]
  refine J_al0 dX7_rang_5 ?_
  refine M_cvI0 dX7_rang_6 lk_X7_186 cw_X7_isThere sh_79 rfl rfl (k_isThere htt.1) (by decide) (Nat.le_of_ble_eq_true rfl) (fun v_6 mem_6 hq => ?_)
  obtain ⟨rfl, hq⟩ := hq; have hq := hq.symm; subst hq
  refine J_ifne_b (tgt := 15) dX7_rang_9 rfl (fun c_9 => ?_) (fun c_9 => ?_)
  · skip
    refine J_il1 dX7_rang_15 ?_
    refine M_csI1 dX7_rang_16 lk_X7_64 cw_X7_isRow (k_isRow hw) (by decide) (Nat.le_of_ble_eq_true rfl) (fun v_16 mem_16 hq => ?_)
    obtain ⟨rfl, hq⟩ := hq; have hq := hq.symm; subst hq
    refine J_ifeq_b (tgt := 34) dX7_rang_19 rfl (fun c_19 => ?_) (fun c_19 => ?_)
    · skip
      refine J_ldc (n := -1000001) dX7_rang_34 co_X7_70 (by decide) ?_
      refine M_iret dX7_rang_36 rfl ?_
      unfold sRang; rw [if_neg (by omega), if_pos (by omega)]; exact ⟨rfl, h0, hF⟩
    · skip
      refine J_il3 dX7_rang_22 ?_
      refine J_i2l dX7_rang_23 (by omega) ?_
      refine J_lconst1 dX7_rang_24 ?_
      refine J_ldc2 (n := 12) dX7_rang_25 col_X7_220 (by decide) ?_
      refine M_csI3 dX7_rang_28 lk_X7_60 cw_X7_in (k_in (by omega) (by omega) (by omega)) (by decide) (Nat.le_of_ble_eq_true rfl) (fun v_28 mem_28 hq => ?_)
      obtain ⟨rfl, hq⟩ := hq; have hq := hq.symm; subst hq
      refine J_ifne_b (tgt := 37) dX7_rang_31 rfl (fun c_31 => ?_) (fun c_31 => ?_)
      · skip
        obtain ⟨l1, l2, -⟩ := h0.1 w (by omega) (by omega)
        obtain ⟨t1, t2, -⟩ := hI.1 w (by omega) (by omega)
        refine J_al0 dX7_rang_37 ?_
        refine M_getR dX7_rang_38 fl_X7_7 sh_79 rfl ?_
        refine J_il1 dX7_rang_41 ?_
        refine M_ald dX7_rang_42 sh_80 (by decide) (by omega) ?_
        refine J_ifge (tgt := 52) dX7_rang_43 rfl (by omega) (fun c_43 => ?_) (fun c_43 => ?_)
        · skip
          refine J_il2 dX7_rang_52 ?_
          refine J_iflt (tgt := 72) dX7_rang_53 rfl (by omega) (fun c_53 => ?_) (fun c_53 => ?_)
          · skip
            refine J_al0 dX7_rang_72 ?_
            refine J_iconst dX7_rang_73 ?_
            refine M_cvI1 dX7_rang_74 lk_X7_71 cw_X7_finding sh_79 rfl rfl k_mfinding (by decide) (Nat.le_of_ble_eq_true rfl) (fun v_74 mem_74 hq => ?_)
            obtain ⟨rfl, hq⟩ := hq; have hq := hq.symm; subst hq
            refine M_iret dX7_rang_77 rfl ?_
            exact fnd (by omega) (by omega) 2 (by omega) (by unfold fndS; rw [if_neg (by omega), if_neg (by omega)])
          · skip
            refine J_il2 dX7_rang_56 ?_
            refine J_i2l dX7_rang_57 (by omega) ?_
            refine J_il3 dX7_rang_58 ?_
            refine J_i2l dX7_rang_59 (by omega) ?_
            refine J_ladd dX7_rang_60 ?_
            refine J_al0 dX7_rang_61 ?_
            refine M_getR dX7_rang_62 fl_X7_13 sh_79 rfl ?_
            refine J_il1 dX7_rang_65 ?_
            refine M_ald dX7_rang_66 sh_81 (by decide) (by omega) ?_
            refine J_i2l dX7_rang_67 (by omega) ?_
            refine J_lle (tgt := 78) dX7_rang_68 dX7_rang_69 rfl (by omega) (fun c_68 => ?_) (fun c_68 => ?_)
            · skip
              refine J_al0 dX7_rang_78 ?_
              refine J_iconst dX7_rang_79 ?_
              refine M_put (ki := 1) dX7_rang_80 fl_X7_54 sh_79 rfl rfl rfl (fun r hr => by cases hr; rfl) ?_
              have hM1 : MX (mset m0 79 1 0 83) S.b.1 S.b.2 := hS1.2.2.1.1
              refine J_al0 dX7_rang_83 ?_
              refine M_cvV0 dX7_rang_84 lk_X7_212 cw_X7_layThen sh_79 rfl rfl k_layThen (by decide) (Nat.le_of_ble_eq_true rfl) (fun mem_84 hq => ?_)
              obtain ⟨g1, g2⟩ := hq
              have hX : MX (mem_84 85) S.b.1 S.b.2 := hM1.ext (by omega) (by omega) g1
              have x1 : FrX (mset m0 79 1 0) mem_84 := fun q q1 _ _ => g2 q q1
              refine J_al0 dX7_rang_87 ?_
              refine J_bipush dX7_rang_88 rfl ?_
              refine J_il1 dX7_rang_90 ?_
              refine J_imul dX7_rang_91 ?_
              refine J_il2 dX7_rang_92 ?_
              refine J_iadd dX7_rang_93 ?_
              refine J_il3 dX7_rang_94 ?_
              refine M_cvI2 dX7_rang_95 lk_X7_222 cw_X7_sitSo sh_79 rfl rfl (k_sitSo (S := S) (hS1.x x1).1 hI hX hb (by omega) (by omega) (by omega) (by omega)) (by decide) (Nat.le_of_ble_eq_true rfl) (fun v_95 mem_95 hq => ?_)
              obtain ⟨rfl, x3⟩ := hq
              refine J_ifeq_b (tgt := 107) dX7_rang_98 rfl (fun c_98 => ?_) (fun c_98 => ?_)
              · skip
                refine J_iconst dX7_rang_107 ?_
                refine J_is4 dX7_rang_108 (by decide) rfl ?_
                refine J_iconst dX7_rang_110 ?_
                refine J_is5 dX7_rang_111 (by decide) rfl ?_
                refine loop (by omega) (by omega) (by omega) (by omega) (by omega) (S.b.1 3).toNat 0 _ 0 _ rfl (by omega) ?_ (x1.tr x3)
                show _ = cif (SitT S.it S.b w i n) 128 0
                first | rw [cif_t c_98] | rw [cif_f c_98]
              · skip
                refine J_sipush dX7_rang_101 rfl ?_
                refine J_goto (tgt := 108) dX7_rang_104 rfl ?_
                refine J_is4 dX7_rang_108 (by decide) rfl ?_
                refine J_iconst dX7_rang_110 ?_
                refine J_is5 dX7_rang_111 (by decide) rfl ?_
                refine loop (by omega) (by omega) (by omega) (by omega) (by omega) (S.b.1 3).toNat 0 _ 0 _ rfl (by omega) ?_ (x1.tr x3)
                show _ = cif (SitT S.it S.b w i n) 128 0
                first | rw [cif_t c_98] | rw [cif_f c_98]
            · skip
              refine J_al0 dX7_rang_72 ?_
              refine J_iconst dX7_rang_73 ?_
              refine M_cvI1 dX7_rang_74 lk_X7_71 cw_X7_finding sh_79 rfl rfl k_mfinding (by decide) (Nat.le_of_ble_eq_true rfl) (fun v_74 mem_74 hq => ?_)
              obtain ⟨rfl, hq⟩ := hq; have hq := hq.symm; subst hq
              refine M_iret dX7_rang_77 rfl ?_
              exact fnd (by omega) (by omega) 2 (by omega) (by unfold fndS; rw [if_neg (by omega), if_neg (by omega)])
        · skip
          refine J_al0 dX7_rang_46 ?_
          refine J_iconst dX7_rang_47 ?_
          refine M_cvI1 dX7_rang_48 lk_X7_71 cw_X7_finding sh_79 rfl rfl k_mfinding (by decide) (Nat.le_of_ble_eq_true rfl) (fun v_48 mem_48 hq => ?_)
          obtain ⟨rfl, hq⟩ := hq; have hq := hq.symm; subst hq
          refine M_iret dX7_rang_51 rfl ?_
          exact fnd (by omega) (by omega) 1 (by omega) (by unfold fndS; rw [if_pos (by omega)])
      · skip
        refine J_ldc (n := -1000001) dX7_rang_34 co_X7_70 (by decide) ?_
        refine M_iret dX7_rang_36 rfl ?_
        unfold sRang; rw [if_neg (by omega), if_pos (by omega)]; exact ⟨rfl, h0, hF⟩
  · skip
    refine J_ldc (n := -1000002) dX7_rang_12 co_X7_189 (by decide) ?_
    refine M_iret dX7_rang_14 rfl ?_
    unfold sRang; rw [if_pos (by omega)]; exact ⟨rfl, h0, hF⟩
theorem m_who {mem : ZMem} {S : ZS} (hS : MS mem S) (hI : SInv S) {m w i n : Int} (hmr : In32 m) (hw : In32 w) (hi : In32 i) (hn : In32 n) : CI mX7_who 5 [zr 79, zi m, zi w, zi i, zi n] mem (QM mem (sWho S m w i n)) := by
  have hb := hI.bi
  have b1 := hb.1
  have hl := hb.len
  have hr := hI.hr
  have h0 := hS.thr
  have hF : FrM mem (mset mem 79 0 0) := FrM.rf.set (by omega)
  generalize hm : mset mem 79 0 0 = m0 at *
  have hen := h0.men
  have hS1 := h0.fnd 0
  have hF1 : FrM mem (mset m0 79 1 0) := hF.set (by omega)
  have bad : (noM S m ∨ w < 0 ∨ 7 < w ∨ n < 1 ∨ 12 < n) → QM mem (sWho S m w i n) (-1000001) m0 := fun q => by unfold sWho; rw [if_pos q]; exact ⟨rfl, h0, hF⟩
  have fnd : ¬ (noM S m ∨ w < 0 ∨ 7 < w ∨ n < 1 ∨ 12 < n) → ∀ k : Int, k ≠ 0 → fndS S w i n = k → QM mem (sWho S m w i n) (-1000010 - k) (mset m0 79 1 k) := fun q1 k hk hf => by
    unfold sWho
    rw [if_neg q1, hf, if_pos hk]
    exact ⟨rfl, h0.fnd k, hF.set (by omega)⟩
  have loop : ¬ (noM S m ∨ w < 0 ∨ 7 < w ∨ n < 1 ∨ 12 < n) → 0 ≤ S.ln w → 0 ≤ i → i + n ≤ S.mn w → ∀ (c kn : Nat) (s k : Int) (z7 z8 z9 z10 : ZV) (m2 : ZMem), k = kn + 1 → (c : Int) + k = 6 → s = whN S m w i n kn → FrX (mset m0 79 1 0) m2 → JM mX7_who 5 (QI (QM mem (sWho S m w i n))) 89 [zr 79, zi m, zi w, zi i, zi n, zi s, zi k, z7, z8, z9, z10] [] m2 := by
    intro q1 q2 q3 q4 c
    have hmn := (hI.1 w (by omega) (by omega)).2.1
    induction c with
    | zero =>
      intro kn s k z7 z8 z9 z10 m2 e0 a1 a2 a3
      refine J_il6 dX7_who_89 ?_
      refine J_iconst dX7_who_91 ?_
      refine J_cgt (tgt := 220) dX7_who_92 rfl (by omega) (fun c_92 => ?_) (fun c_92 => ?_)
      · skip
        refine J_il5 dX7_who_220 ?_
        refine M_iret dX7_who_222 rfl ?_
        unfold sWho
        rw [if_neg q1, if_neg (by unfold fndS; rw [if_neg (by omega), if_pos (by omega)]; omega)]
        exact ⟨by rw [a2, show kn = 5 by omega], h0.st0 a3, hF1.tr a3.m⟩
      · skip
        omega
    | succ c ih =>
      intro kn s k z7 z8 z9 z10 m2 e0 a1 a2 a3
      have hS2 := h0.st0 a3
      have hM0 : MX (m2 83) S.b.1 S.b.2 := hS2.2.2.1.1
      have hD := kdR_inv hb (x := m) (k := k) (by omega) (by omega)
      have d4 : (kdR S.b m k).1 4 = S.b.1 4 := zup_n (by omega)
      have rg := whN_rg (S := S) (m := m) (w := w) (i := i) (n := n) kn (by omega)
      have nx : whN S m w i n (kn + 1) = cif (WhoT S.it (kdR S.b m k) m w i n) (zor (whN S m w i n kn) (zshl 1 k)) (whN S m w i n kn) := by rw [e0]; rfl
      have inner : ∀ (c2 jn : Nat) (g j : Int) (z9 z10 : ZV) (m3 : ZMem), j = jn → (c2 : Int) + j = n → g = bi (WhoT S.it (kdR S.b m k) m w i jn) → MX (m3 85) (hrs jn (kdR S.b m k)).1.1 (hrs jn (kdR S.b m k)).1.2 → FrX m2 m3 → JM mX7_who 5 (QI (QM mem (sWho S m w i n))) 120 [zr 79, zi m, zi w, zi i, zi n, zi s, zi k, zi g, zi j, z9, z10] [] m3 := by
        intro c2
        induction c2 with
        | zero =>
          intro jn g j z9 z10 m3 f0 b1' b2 b3 b4
          have h01 := bi_01 (WhoT S.it (kdR S.b m k) m w i jn)
          have ejn : (jn : Int) = n := by omega
          refine J_il8 dX7_who_120 ?_
          refine J_il4 dX7_who_122 ?_
          refine J_cge (tgt := 196) dX7_who_124 rfl (by omega) (fun c_124 => ?_) (fun c_124 => ?_)
          · skip
            refine J_il5 dX7_who_196 ?_
            refine J_il7 dX7_who_198 ?_
            refine J_ifeq (tgt := 210) dX7_who_200 rfl (by omega) (fun c_200 => ?_) (fun c_200 => ?_)
            · skip
              refine J_iconst dX7_who_210 ?_
              refine J_ior dX7_who_211 ?_
              refine J_is5 dX7_who_212 (by decide) rfl ?_
              refine J_inc6 dX7_who_214 (by decide) rfl ?_
              refine J_goto (tgt := 89) dX7_who_217 rfl ?_
              refine ih (kn + 1) _ _ _ _ _ _ _ (by omega) (by omega) ?_ (a3.tr b4)
              rw [nx, a2]
              rw [ejn] at b2
              first
              | rw [cif_t (bi_ne.mp (by omega))]
              | rw [cif_f (bi_eq.mp (by omega)), zor_z (by omega)]
            · skip
              refine J_iconst dX7_who_203 ?_
              refine J_il6 dX7_who_204 ?_
              refine J_ishl dX7_who_206 ?_
              refine J_goto (tgt := 211) dX7_who_207 rfl ?_
              refine J_ior dX7_who_211 ?_
              refine J_is5 dX7_who_212 (by decide) rfl ?_
              refine J_inc6 dX7_who_214 (by decide) rfl ?_
              refine J_goto (tgt := 89) dX7_who_217 rfl ?_
              refine ih (kn + 1) _ _ _ _ _ _ _ (by omega) (by omega) ?_ (a3.tr b4)
              rw [nx, a2]
              rw [ejn] at b2
              first
              | rw [cif_t (bi_ne.mp (by omega))]
              | rw [cif_f (bi_eq.mp (by omega)), zor_z (by omega)]
          · skip
            omega
        | succ c2 ih2 =>
          intro jn g j z9 z10 m3 f0 b1' b2 b3 b4
          obtain ⟨i1, i2, i3, i4⟩ := hrs_inv (b := kdR S.b m k) hD jn
          obtain ⟨j1, j2, j3, j4⟩ := hrs_inv (b := kdR S.b m k) hD (jn + 1)
          have hl2 := j1.len
          have j33 := j1.1
          have h01 := bi_01 (WhoT S.it (kdR S.b m k) m w i jn)
          have hit := (hI.1 w (by omega) (by omega)).2.2 (i + j) (by omega) (by omega)
          have h82 := (h0.1 w (by omega) (by omega)).2.2 (i + j) (by omega) (by omega)
          have hp := plc_range (hrs (jn + 1) (kdR S.b m k)).1.2 m
          have hpN : (plc (hrs (jn + 1) (kdR S.b m k)).1.2 m < 0 ∧ pN (plc (hrs (jn + 1) (kdR S.b m k)).1.2 m) = -1000000) ∨ (0 ≤ plc (hrs (jn + 1) (kdR S.b m k)).1.2 m ∧ pN (plc (hrs (jn + 1) (kdR S.b m k)).1.2 m) = plc (hrs (jn + 1) (kdR S.b m k)).1.2 m) := by unfold pN; split <;> omega
          have yes : WhoT S.it (kdR S.b m k) m w i jn → plc (hrs (jn + 1) (kdR S.b m k)).1.2 m = S.it w (i + j) → WhoT S.it (kdR S.b m k) m w i ((jn + 1 : Nat) : Int) := fun q1 q2 x hx => by
            by_cases e : x = jn
            · subst e; rw [← f0]; exact q2
            · exact q1 x (by omega)
          have no1 : ¬ WhoT S.it (kdR S.b m k) m w i jn → ¬ WhoT S.it (kdR S.b m k) m w i ((jn + 1 : Nat) : Int) := fun q1 q2 => q1 (fun x hx => q2 x (by omega))
          have no2 : ¬ plc (hrs (jn + 1) (kdR S.b m k)).1.2 m = S.it w (i + j) → ¬ WhoT S.it (kdR S.b m k) m w i ((jn + 1 : Nat) : Int) := fun q1 q2 => q1 (by
            have := q2 jn (by omega)
            rw [← f0] at this
            exact this)
          refine J_il8 dX7_who_120 ?_
          refine J_il4 dX7_who_122 ?_
          refine J_cge (tgt := 196) dX7_who_124 rfl (by omega) (fun c_124 => ?_) (fun c_124 => ?_)
          · skip
            omega
          · skip
            refine J_al0 dX7_who_127 ?_
            refine J_al0 dX7_who_128 ?_
            refine M_getR dX7_who_129 fl_X7_25 sh_79 rfl ?_
            refine J_iconst dX7_who_132 ?_
            refine M_cvI2 dX7_who_133 lk_X7_180 cw_X7_hour sh_79 rfl rfl (k_mhour isW85 b3 i1 (by omega) (fun _ => True) mgt0) (by decide) (Nat.le_of_ble_eq_true rfl) (fun v_133 mem_133 hq => ?_)
            obtain ⟨rfl, hM2, hF2⟩ := hq
            have hM2 : MX (mem_133 85) (hrs (jn + 1) (kdR S.b m k)).1.1 (hrs (jn + 1) (kdR S.b m k)).1.2 := hM2
            have x2 := b4.tr hF2.x
            have d82 : mem_133 82 (40 * w + i + j) = S.it w (i + j) := by rw [x2 82 (by omega) (by omega) (by omega), a3 82 (by omega) (by omega) (by omega), mset_n (by omega), show 40 * w + i + j = 40 * w + (i + j) by omega]; exact h82
            refine J_is9 dX7_who_136 (by decide) rfl ?_
            refine J_al0 dX7_who_138 ?_
            refine M_getR dX7_who_139 fl_X7_25 sh_79 rfl ?_
            refine J_il1 dX7_who_142 ?_
            refine M_csI2 dX7_who_143 lk_X7_156 cw_X7_placeOf (k_mplaceOf isW85 hM2 j1 hmr) (by decide) (Nat.le_of_ble_eq_true rfl) (fun v_143 mem_143 hq => ?_)
            obtain ⟨rfl, hq⟩ := hq; have hq := hq.symm; subst hq
            refine J_is10 dX7_who_146 (by decide) rfl ?_
            refine J_il7 dX7_who_148 ?_
            refine J_ifeq (tgt := 187) dX7_who_150 rfl (by omega) (fun c_150 => ?_) (fun c_150 => ?_)
            · skip
              refine J_iconst dX7_who_187 ?_
              refine J_is7 dX7_who_188 (by decide) rfl ?_
              refine J_inc8 dX7_who_190 (by decide) rfl ?_
              refine J_goto (tgt := 120) dX7_who_193 rfl ?_
              first
              | exact ih2 (jn + 1) _ _ _ _ _ (by omega) (by omega) (bi_t (yes (bi_ne.mp (by omega)) (by omega))).symm hM2 x2
              | exact ih2 (jn + 1) _ _ _ _ _ (by omega) (by omega) (bi_f (no1 (bi_eq.mp (by omega)))).symm hM2 x2
              | exact ih2 (jn + 1) _ _ _ _ _ (by omega) (by omega) (bi_f (no2 (by omega))).symm hM2 x2
            · skip
              refine J_il10 dX7_who_153 ?_
              refine J_ldc (n := -1000000) dX7_who_155 co_X7_93 (by decide) ?_
              refine J_cne (tgt := 164) dX7_who_157 rfl (by omega) (fun c_157 => ?_) (fun c_157 => ?_)
              · skip
                refine J_il10 dX7_who_164 ?_
                refine J_al0 dX7_who_166 ?_
                refine M_getR dX7_who_167 fl_X7_16 sh_79 rfl ?_
                refine J_bipush dX7_who_170 rfl ?_
                refine J_il2 dX7_who_172 ?_
                refine J_imul dX7_who_173 ?_
                refine J_il3 dX7_who_174 ?_
                refine J_iadd dX7_who_175 ?_
                refine J_il8 dX7_who_176 ?_
                refine J_iadd dX7_who_178 ?_
                refine M_ald dX7_who_179 sh_82 (by decide) (by omega) ?_
                rw [d82]
                refine J_cne (tgt := 187) dX7_who_180 rfl (by omega) (fun c_180 => ?_) (fun c_180 => ?_)
                · skip
                  refine J_iconst dX7_who_187 ?_
                  refine J_is7 dX7_who_188 (by decide) rfl ?_
                  refine J_inc8 dX7_who_190 (by decide) rfl ?_
                  refine J_goto (tgt := 120) dX7_who_193 rfl ?_
                  first
                  | exact ih2 (jn + 1) _ _ _ _ _ (by omega) (by omega) (bi_t (yes (bi_ne.mp (by omega)) (by omega))).symm hM2 x2
                  | exact ih2 (jn + 1) _ _ _ _ _ (by omega) (by omega) (bi_f (no1 (bi_eq.mp (by omega)))).symm hM2 x2
                  | exact ih2 (jn + 1) _ _ _ _ _ (by omega) (by omega) (bi_f (no2 (by omega))).symm hM2 x2
                · skip
                  refine J_iconst dX7_who_183 ?_
                  refine J_goto (tgt := 188) dX7_who_184 rfl ?_
                  refine J_is7 dX7_who_188 (by decide) rfl ?_
                  refine J_inc8 dX7_who_190 (by decide) rfl ?_
                  refine J_goto (tgt := 120) dX7_who_193 rfl ?_
                  first
                  | exact ih2 (jn + 1) _ _ _ _ _ (by omega) (by omega) (bi_t (yes (bi_ne.mp (by omega)) (by omega))).symm hM2 x2
                  | exact ih2 (jn + 1) _ _ _ _ _ (by omega) (by omega) (bi_f (no1 (bi_eq.mp (by omega)))).symm hM2 x2
                  | exact ih2 (jn + 1) _ _ _ _ _ (by omega) (by omega) (bi_f (no2 (by omega))).symm hM2 x2
              · skip
                refine J_iconst dX7_who_160 ?_
                refine J_goto (tgt := 166) dX7_who_161 rfl ?_
                refine J_al0 dX7_who_166 ?_
                refine M_getR dX7_who_167 fl_X7_16 sh_79 rfl ?_
                refine J_bipush dX7_who_170 rfl ?_
                refine J_il2 dX7_who_172 ?_
                refine J_imul dX7_who_173 ?_
                refine J_il3 dX7_who_174 ?_
                refine J_iadd dX7_who_175 ?_
                refine J_il8 dX7_who_176 ?_
                refine J_iadd dX7_who_178 ?_
                refine M_ald dX7_who_179 sh_82 (by decide) (by omega) ?_
                rw [d82]
                refine J_cne (tgt := 187) dX7_who_180 rfl (by omega) (fun c_180 => ?_) (fun c_180 => ?_)
                · skip
                  refine J_iconst dX7_who_187 ?_
                  refine J_is7 dX7_who_188 (by decide) rfl ?_
                  refine J_inc8 dX7_who_190 (by decide) rfl ?_
                  refine J_goto (tgt := 120) dX7_who_193 rfl ?_
                  first
                  | exact ih2 (jn + 1) _ _ _ _ _ (by omega) (by omega) (bi_t (yes (bi_ne.mp (by omega)) (by omega))).symm hM2 x2
                  | exact ih2 (jn + 1) _ _ _ _ _ (by omega) (by omega) (bi_f (no1 (bi_eq.mp (by omega)))).symm hM2 x2
                  | exact ih2 (jn + 1) _ _ _ _ _ (by omega) (by omega) (bi_f (no2 (by omega))).symm hM2 x2
                · skip
                  refine J_iconst dX7_who_183 ?_
                  refine J_goto (tgt := 188) dX7_who_184 rfl ?_
                  refine J_is7 dX7_who_188 (by decide) rfl ?_
                  refine J_inc8 dX7_who_190 (by decide) rfl ?_
                  refine J_goto (tgt := 120) dX7_who_193 rfl ?_
                  first
                  | exact ih2 (jn + 1) _ _ _ _ _ (by omega) (by omega) (bi_t (yes (bi_ne.mp (by omega)) (by omega))).symm hM2 x2
                  | exact ih2 (jn + 1) _ _ _ _ _ (by omega) (by omega) (bi_f (no1 (bi_eq.mp (by omega)))).symm hM2 x2
                  | exact ih2 (jn + 1) _ _ _ _ _ (by omega) (by omega) (bi_f (no2 (by omega))).symm hM2 x2
      refine J_il6 dX7_who_89 ?_
      refine J_iconst dX7_who_91 ?_
      refine J_cgt (tgt := 220) dX7_who_92 rfl (by omega) (fun c_92 => ?_) (fun c_92 => ?_)
      · skip
        omega
      · skip
        refine J_al0 dX7_who_95 ?_
        refine M_cvV0 dX7_who_96 lk_X7_212 cw_X7_layThen sh_79 rfl rfl k_layThen (by decide) (Nat.le_of_ble_eq_true rfl) (fun mem_96 hq => ?_)
        obtain ⟨g1, g2⟩ := hq
        have hX : MX (mem_96 85) S.b.1 S.b.2 := hM0.ext (by omega) (by omega) g1
        have hX3 : MX (mset mem_96 85 (15 + 5 * m) k 85) (kdR S.b m k).1 (kdR S.b m k).2 := by
          rw [mset_q]
          exact hX.upd (by omega) (by omega)
        have x2 : FrX m2 (mset mem_96 85 (15 + 5 * m) k) := fun q q1 q2 q3 => by rw [mset_n q1, g2 q q1]
        refine J_al0 dX7_who_99 ?_
        refine M_getR dX7_who_100 fl_X7_25 sh_79 rfl ?_
        refine J_bipush dX7_who_103 rfl ?_
        refine J_iconst dX7_who_105 ?_
        refine J_il1 dX7_who_106 ?_
        refine J_imul dX7_who_107 ?_
        refine J_iadd dX7_who_108 ?_
        refine J_iconst dX7_who_109 ?_
        refine J_iadd dX7_who_110 ?_
        rw [Int.add_zero]
        refine J_il6 dX7_who_111 ?_
        refine M_ast dX7_who_113 sh_85 (by decide) (by omega) ?_
        refine J_iconst dX7_who_114 ?_
        refine J_is7 dX7_who_115 (by decide) rfl ?_
        refine J_iconst dX7_who_117 ?_
        refine J_is8 dX7_who_118 (by decide) rfl ?_
        exact inner n.toNat 0 1 0 _ _ _ rfl (by omega) (bi_t (fun x hx => absurd hx (by omega))).symm hX3 x2
  refine CM.of (by decide +kernel) ([zr 79, zi m, zi w, zi i, zi n, zu, zu, zu, zu, zu, zu]) (zok_all rfl) (Nat.le_of_ble_eq_true rfl) rfl ?_
  refine J_al0 dX7_who_0 ?_
  refine J_iconst dX7_who_1 ?_
  refine M_put (ki := 0) dX7_who_2 fl_X7_50 sh_79 rfl rfl rfl (fun r hr => by cases hr; rfl) ?_
  rw [hm]
  refine J_al0 dX7_who_5 ?_
  refine J_il1 dX7_who_6 ?_
  refine M_cvI1 dX7_who_7 lk_X7_199 cw_X7_isMan sh_79 rfl rfl (k_isMan hmr (by omega)) (by decide) (Nat.le_of_ble_eq_true rfl) (fun v_7 mem_7 hq => ?_)
  obtain ⟨rfl, hq⟩ := hq; have hq := hq.symm; subst hq
  refine J_ifeq_b (tgt := 33) dX7_who_10 rfl (fun c_10 => ?_) (fun c_10 => ?_)
  · skip
    refine J_ldc (n := -1000001) dX7_who_33 co_X7_70 (by decide) ?_
    refine M_iret dX7_who_35 rfl ?_
    exact bad (by omega)
  · skip
    refine J_il2 dX7_who_13 ?_
    refine M_csI1 dX7_who_14 lk_X7_64 cw_X7_isRow (k_isRow hw) (by decide) (Nat.le_of_ble_eq_true rfl) (fun v_14 mem_14 hq => ?_)
    obtain ⟨rfl, hq⟩ := hq; have hq := hq.symm; subst hq
    refine J_ifeq_b (tgt := 33) dX7_who_17 rfl (fun c_17 => ?_) (fun c_17 => ?_)
    · skip
      refine J_ldc (n := -1000001) dX7_who_33 co_X7_70 (by decide) ?_
      refine M_iret dX7_who_35 rfl ?_
      exact bad (by omega)
    · skip
      refine J_il4 dX7_who_20 ?_
      refine J_i2l dX7_who_22 (by omega) ?_
      refine J_lconst1 dX7_who_23 ?_
      refine J_ldc2 (n := 12) dX7_who_24 col_X7_220 (by decide) ?_
      refine M_csI3 dX7_who_27 lk_X7_60 cw_X7_in (k_in (by omega) (by omega) (by omega)) (by decide) (Nat.le_of_ble_eq_true rfl) (fun v_27 mem_27 hq => ?_)
      obtain ⟨rfl, hq⟩ := hq; have hq := hq.symm; subst hq
      refine J_ifne_b (tgt := 36) dX7_who_30 rfl (fun c_30 => ?_) (fun c_30 => ?_)
      · skip
        obtain ⟨l1, l2, -⟩ := h0.1 w (by omega) (by omega)
        obtain ⟨t1, t2, -⟩ := hI.1 w (by omega) (by omega)
        refine J_al0 dX7_who_36 ?_
        refine M_getR dX7_who_37 fl_X7_7 sh_79 rfl ?_
        refine J_il2 dX7_who_40 ?_
        refine M_ald dX7_who_41 sh_80 (by decide) (by omega) ?_
        refine J_ifge (tgt := 51) dX7_who_42 rfl (by omega) (fun c_42 => ?_) (fun c_42 => ?_)
        · skip
          refine J_il3 dX7_who_51 ?_
          refine J_iflt (tgt := 72) dX7_who_52 rfl (by omega) (fun c_52 => ?_) (fun c_52 => ?_)
          · skip
            refine J_al0 dX7_who_72 ?_
            refine J_iconst dX7_who_73 ?_
            refine M_cvI1 dX7_who_74 lk_X7_71 cw_X7_finding sh_79 rfl rfl k_mfinding (by decide) (Nat.le_of_ble_eq_true rfl) (fun v_74 mem_74 hq => ?_)
            obtain ⟨rfl, hq⟩ := hq; have hq := hq.symm; subst hq
            refine M_iret dX7_who_77 rfl ?_
            exact fnd (by omega) 2 (by omega) (by unfold fndS; rw [if_neg (by omega), if_neg (by omega)])
          · skip
            refine J_il3 dX7_who_55 ?_
            refine J_i2l dX7_who_56 (by omega) ?_
            refine J_il4 dX7_who_57 ?_
            refine J_i2l dX7_who_59 (by omega) ?_
            refine J_ladd dX7_who_60 ?_
            refine J_al0 dX7_who_61 ?_
            refine M_getR dX7_who_62 fl_X7_13 sh_79 rfl ?_
            refine J_il2 dX7_who_65 ?_
            refine M_ald dX7_who_66 sh_81 (by decide) (by omega) ?_
            refine J_i2l dX7_who_67 (by omega) ?_
            refine J_lle (tgt := 78) dX7_who_68 dX7_who_69 rfl (by omega) (fun c_68 => ?_) (fun c_68 => ?_)
            · skip
              refine J_al0 dX7_who_78 ?_
              refine J_iconst dX7_who_79 ?_
              refine M_put (ki := 1) dX7_who_80 fl_X7_54 sh_79 rfl rfl rfl (fun r hr => by cases hr; rfl) ?_
              refine J_iconst dX7_who_83 ?_
              refine J_is5 dX7_who_84 (by decide) rfl ?_
              refine J_iconst dX7_who_86 ?_
              refine J_is6 dX7_who_87 (by decide) rfl ?_
              exact loop (by omega) (by omega) (by omega) (by omega) 5 0 0 1 _ _ _ _ _ rfl (by omega) rfl FrX.rf
            · skip
              refine J_al0 dX7_who_72 ?_
              refine J_iconst dX7_who_73 ?_
              refine M_cvI1 dX7_who_74 lk_X7_71 cw_X7_finding sh_79 rfl rfl k_mfinding (by decide) (Nat.le_of_ble_eq_true rfl) (fun v_74 mem_74 hq => ?_)
              obtain ⟨rfl, hq⟩ := hq; have hq := hq.symm; subst hq
              refine M_iret dX7_who_77 rfl ?_
              exact fnd (by omega) 2 (by omega) (by unfold fndS; rw [if_neg (by omega), if_neg (by omega)])
        · skip
          refine J_al0 dX7_who_45 ?_
          refine J_iconst dX7_who_46 ?_
          refine M_cvI1 dX7_who_47 lk_X7_71 cw_X7_finding sh_79 rfl rfl k_mfinding (by decide) (Nat.le_of_ble_eq_true rfl) (fun v_47 mem_47 hq => ?_)
          obtain ⟨rfl, hq⟩ := hq; have hq := hq.symm; subst hq
          refine M_iret dX7_who_50 rfl ?_
          exact fnd (by omega) 1 (by omega) (by unfold fndS; rw [if_pos (by omega)])
      · skip
        refine J_ldc (n := -1000001) dX7_who_33 co_X7_70 (by decide) ?_
        refine M_iret dX7_who_35 rfl ?_
        exact bad (by omega)
