abbrev Fg (f : Int) : Int → Prop := fun m => zand f (zshl 1 m) = 0
theorem zor_all : ∀ a : Fin 128, ∀ b : Fin 7, 0 ≤ zor ((a.val : Nat) : Int) (zshl 1 ((b.val : Nat) : Int)) ∧ zor ((a.val : Nat) : Int) (zshl 1 ((b.val : Nat) : Int)) < 128 := by decide +kernel
theorem zor0_all : ∀ a : Fin 128, zor ((a.val : Nat) : Int) 0 = ((a.val : Nat) : Int) := by decide +kernel
theorem sub_all : ∀ a : Fin 128, ∀ b : Fin 128, zand ((a.val : Nat) : Int) (zxor ((b.val : Nat) : Int) (-1)) = 0 → bcI ((a.val : Nat) : Int) ≤ bcI ((b.val : Nat) : Int) := by decide +kernel
theorem zor_rg {a b : Int} (ha : 0 ≤ a ∧ a < 128) (hb : 0 ≤ b ∧ b < 7) : 0 ≤ zor a (zshl 1 b) ∧ zor a (zshl 1 b) < 128 := by
  have := zor_all ⟨a.toNat, by omega⟩ ⟨b.toNat, by omega⟩
  rw [show (((⟨a.toNat, by omega⟩ : Fin 128).val : Nat) : Int) = a by show ((a.toNat : Nat) : Int) = a; omega, show (((⟨b.toNat, by omega⟩ : Fin 7).val : Nat) : Int) = b by show ((b.toNat : Nat) : Int) = b; omega] at this
  exact this
theorem zor_0 {a : Int} (ha : 0 ≤ a ∧ a < 128) : zor a 0 = a := by
  have := zor0_all ⟨a.toNat, by omega⟩
  rw [show (((⟨a.toNat, by omega⟩ : Fin 128).val : Nat) : Int) = a by show ((a.toNat : Nat) : Int) = a; omega] at this
  exact this
theorem sub_bc {a b : Int} (ha : 0 ≤ a ∧ a < 128) (hb : 0 ≤ b ∧ b < 128) (h : zand a (zxor b (-1)) = 0) : bcI a ≤ bcI b := by
  have := sub_all ⟨a.toNat, by omega⟩ ⟨b.toNat, by omega⟩
  rw [show (((⟨a.toNat, by omega⟩ : Fin 128).val : Nat) : Int) = a by show ((a.toNat : Nat) : Int) = a; omega, show (((⟨b.toNat, by omega⟩ : Fin 128).val : Nat) : Int) = b by show ((b.toNat : Nat) : Int) = b; omega] at this
  exact this h
theorem dueB_rg {r : Int → Int} {L : List Int} (h : BInv r L) : ∀ k : Nat, k ≤ L.length → 0 ≤ dueB r L k ∧ dueB r L k < 128
  | 0, _ => ⟨Int.le_refl 0, by show (0 : Int) < 128; omega⟩
  | k + 1, hk => by
    have ih := dueB_rg h k (by omega)
    have hm := h.2.2.1 _ (lget_mem (L := L) (p := (k : Int)) (by omega) (by omega))
    have h3 := h.1
    unfold dueB
    by_cases c : dn r (lget L k) = r 4 % 24
    · rw [cif_t c]; exact zor_rg ih (by omega)
    · rw [cif_f c, zor_0 ih]; exact ih
theorem pw_all : ∀ a : Fin 11, ∀ b : Fin 8, 0 ≤ pw ((a.val : Nat) : Int) ((b.val : Nat) : Int) ∧ pw ((a.val : Nat) : Int) ((b.val : Nat) : Int) ≤ 10000000 := by decide +kernel
theorem pw_rg {a b : Int} (ha : 0 ≤ a ∧ a ≤ 10) (hb : 0 ≤ b ∧ b ≤ 7) : 0 ≤ pw a b ∧ pw a b ≤ 10000000 := by
  have := pw_all ⟨a.toNat, by omega⟩ ⟨b.toNat, by omega⟩
  rw [show (((⟨a.toNat, by omega⟩ : Fin 11).val : Nat) : Int) = a by show ((a.toNat : Nat) : Int) = a; omega, show (((⟨b.toNat, by omega⟩ : Fin 8).val : Nat) : Int) = b by show ((b.toNat : Nat) : Int) = b; omega] at this
  exact this
theorem pw10_all : ∀ b : Fin 8, 1 ≤ pw 10 ((b.val : Nat) : Int) := by decide +kernel
theorem pw10 {b : Int} (hb : 0 ≤ b ∧ b ≤ 7) : 1 ≤ pw 10 b := by
  have := pw10_all ⟨b.toNat, by omega⟩
  rw [show (((⟨b.toNat, by omega⟩ : Fin 8).val : Nat) : Int) = b by show ((b.toNat : Nat) : Int) = b; omega] at this
  exact this
/-- one case's part -/
def wyI (p d f : Int) : Int := pw p (bcI f) * pw (10 - p) (bcI d - bcI f)
theorem wyI_rg {p d f : Int} (hp : 0 ≤ p ∧ p ≤ 10) (h : bcI f ≤ bcI d) : 0 ≤ wyI p d f ∧ wyI p d f ≤ 100000000000000 := by
  have a := bcI_range f
  have c := bcI_range d
  have x := pw_rg (a := p) (b := bcI f) hp a
  have y := pw_rg (a := 10 - p) (b := bcI d - bcI f) (by omega) (by omega)
  unfold wyI
  refine ⟨Int.mul_nonneg x.1 y.1, ?_⟩
  have := Int.mul_le_mul x.2 y.2 y.1 (by omega)
  omega
noncomputable def caN (b : BN) (m p d : Int) : Nat → Int
  | 0 => 0
  | k + 1 => cif (zand k (zxor d (-1)) = 0 ∧ wm b.1 m < wm (hourR (Fg k) b).1.1 m) (caN b m p d k + wyI p d k) (caN b m p d k)
theorem caN_rg {b : BN} {m p d : Int} (hp : 0 ≤ p ∧ p ≤ 10) (hd : 0 ≤ d ∧ d < 128) : ∀ k : Nat, k ≤ 128 → 0 ≤ caN b m p d k ∧ caN b m p d k ≤ k * 100000000000000
  | 0, _ => ⟨Int.le_refl 0, by show (0 : Int) ≤ ((0 : Nat) : Int) * 100000000000000; omega⟩
  | k + 1, hk => by
    have ih := caN_rg (b := b) (m := m) hp hd k (by omega)
    unfold caN
    by_cases c : zand k (zxor d (-1)) = 0 ∧ wm b.1 m < wm (hourR (Fg k) b).1.1 m
    · rw [cif_t c]
      have := wyI_rg (f := (k : Int)) hp (sub_bc (by omega) hd c.1)
      omega
    · rw [cif_f c]; omega
noncomputable def vLate (S : ZS) (m p w : Int) : Int := if noM S m ∨ p < 0 ∨ 10 < p ∨ w < 0 ∨ 1 < w then -1000001 else if w = 0 then caN S.b m p (dueB S.b.1 S.b.2 S.b.2.length) 128 / (Nat.gcd (caN S.b m p (dueB S.b.1 S.b.2 S.b.2.length) 128).toNat (pw 10 (bcI (dueB S.b.1 S.b.2 S.b.2.length))).toNat : Int) else pw 10 (bcI (dueB S.b.1 S.b.2 S.b.2.length)) / (Nat.gcd (caN S.b m p (dueB S.b.1 S.b.2 S.b.2.length) 128).toNat (pw 10 (bcI (dueB S.b.1 S.b.2 S.b.2.length))).toNat : Int)
theorem k_commonI {mem : ZMem} {a b : Int} (ha : 0 ≤ a ∧ a < 4000000000000000000) (hb : 0 ≤ b ∧ b ≤ 10000000) : CL mX6_commonDivisor 0 [zl a, zl b] mem (fun v mem' => v = (Nat.gcd a.toNat b.toNat : Int) ∧ mem' = mem) := by
  obtain ⟨x, rfl⟩ := Int.eq_ofNat_of_zero_le ha.1
  obtain ⟨y, rfl⟩ := Int.eq_ofNat_of_zero_le hb.1
  exact k_common ha.2 hb.2
theorem k_casesWarm {mem : ZMem} {S : ZS} (hC : CS mem S) (hI : SInv S) {m p d : Int} (hm : 0 ≤ m ∧ m < S.b.1 3) (hp : 0 ≤ p ∧ p ≤ 10) (hd : 0 ≤ d ∧ d < 128) : CL mX6_casesWarm 6 [zr 0, zi m, zi p, zi d] mem (fun v mem' => v = caN S.b m p d 128 ∧ FrT mem mem') := by
  have hb := hI.bi
  have b1 := hb.1
  have hl := hb.len
  have hr := hI.hr
  have hB := bch hC
  have hbd := bcI_range d
  have loop : ∀ (c kn : Nat) (s k : Int) (z : ZV) (m2 : ZMem), k = kn → (c : Int) + k = 128 → s = caN S.b m p d kn → FrT mem m2 → JM mX6_casesWarm 6 (QL (fun v mem' => v = caN S.b m p d 128 ∧ FrT mem mem')) 12 [zr 0, zi m, zi p, zi d, zi (bcI d), zl s, zu, zi k, z] [] m2 := by
    intro c
    induction c with
    | zero =>
      intro kn s k z m2 e0 a1 a2 a3
      refine J_il7 dX6_casesWarm_12 ?_
      refine J_sipush dX6_casesWarm_14 rfl ?_
      refine J_cge (tgt := 111) dX6_casesWarm_17 rfl (by omega) (fun c_17 => ?_) (fun c_17 => ?_)
      · skip
        refine J_ll5 dX6_casesWarm_111 ?_
        refine M_lret dX6_casesWarm_113 rfl ?_
        exact ⟨by rw [a2, show kn = 128 by omega], a3⟩
      · skip
        omega
    | succ c ih =>
      intro kn s k z m2 e0 a1 a2 a3
      obtain ⟨i1, i2, i3, i4, -⟩ := hourR_inv (Fg k) (b := S.b) hb
      have f3 := i2.1 3 (by omega) (by omega)
      have wb := (hb.2.2.2.2.1 m (by omega) (by omega)).2.2.2.1
      have wt := (i1.2.2.2.2.1 m (by omega) (by omega)).2.2.2.1
      have hbk := bcI_range k
      have ec : caN S.b m p d (kn + 1) = cif (zand k (zxor d (-1)) = 0 ∧ wm S.b.1 m < wm (hourR (Fg k) S.b).1.1 m) (s + wyI p d k) s := by rw [e0, a2]; rfl
      refine J_il7 dX6_casesWarm_12 ?_
      refine J_sipush dX6_casesWarm_14 rfl ?_
      refine J_cge (tgt := 111) dX6_casesWarm_17 rfl (by omega) (fun c_17 => ?_) (fun c_17 => ?_)
      · skip
        omega
      · skip
        refine J_il7 dX6_casesWarm_20 ?_
        refine J_il3 dX6_casesWarm_22 ?_
        refine J_iconst dX6_casesWarm_23 ?_
        refine J_ixor dX6_casesWarm_24 ?_
        refine J_iand dX6_casesWarm_25 ?_
        refine J_ifeq (tgt := 32) dX6_casesWarm_26 rfl (by exact zand_r _ _) (fun c_26 => ?_) (fun c_26 => ?_)
        · skip
          refine J_al0 dX6_casesWarm_32 ?_
          refine M_getR dX6_casesWarm_33 fl_X6_43 sh_0 rfl ?_
          refine J_al0 dX6_casesWarm_36 ?_
          refine M_getR dX6_casesWarm_37 fl_X6_26 sh_0 rfl ?_
          refine M_cvV1 dX6_casesWarm_40 lk_X6_128 cw_X2_become sh_63 rfl rfl (k_become isB63 (Or.inl rfl) (by decide) (hB.ext (fun q q0 q1 => a3 q (by omega))) (by omega) (by omega) hb.2.2.2.2.2.2.2) (by decide) (Nat.le_of_ble_eq_true rfl) (fun mem_40 hq => ?_)
          obtain ⟨hB2, hF2⟩ := hq
          have T2 := wrt a3 63 hF2 (by omega)
          have hsb := sub_bc (by omega) hd c_26
          refine J_al0 dX6_casesWarm_43 ?_
          refine M_getR dX6_casesWarm_44 fl_X6_43 sh_0 rfl ?_
          refine J_il7 dX6_casesWarm_47 ?_
          refine M_cvI1 dX6_casesWarm_49 lk_X6_152 cw_X2_passHour sh_63 rfl rfl (k_passHour isB63 hB2 hb (by omega) (Fg k) (fun _ _ _ => Iff.rfl)) (by decide) (Nat.le_of_ble_eq_true rfl) (fun v_49 mem_49 hq => ?_)
          obtain ⟨rfl, hB4, hF4⟩ := hq
          have hB4 : CB mem_49 63 (hourR (Fg k) S.b).1.1 (hourR (Fg k) S.b).1.2 := hB4
          have T4 := wrt T2 63 hF4 (by omega)
          have e5 : mem_49 68 m = wm (hourR (Fg k) S.b).1.1 m := (hB4.2.2 m (by omega) (by omega)).2.2.2.1
          have e6 : mem_49 21 m = wm S.b.1 m := by rw [T4 21 (by omega)]; exact (hB.2.2 m (by omega) (by omega)).2.2.2.1
          refine J_pop dX6_casesWarm_52 rfl ?_
          refine J_al0 dX6_casesWarm_53 ?_
          refine M_getR dX6_casesWarm_54 fl_X6_43 sh_0 rfl ?_
          refine M_getR dX6_casesWarm_57 fl_X6_193 sh_63 rfl ?_
          refine J_il1 dX6_casesWarm_60 ?_
          refine M_ald dX6_casesWarm_61 sh_68 (by decide) (by omega) ?_
          refine J_al0 dX6_casesWarm_62 ?_
          refine M_getR dX6_casesWarm_63 fl_X6_26 sh_0 rfl ?_
          refine M_getR dX6_casesWarm_66 fl_X6_193 sh_16 rfl ?_
          refine J_il1 dX6_casesWarm_69 ?_
          refine M_ald dX6_casesWarm_70 sh_21 (by decide) (by omega) ?_
          refine J_cle (tgt := 105) dX6_casesWarm_71 rfl (by omega) (fun c_71 => ?_) (fun c_71 => ?_)
          · skip
            refine J_inc7 dX6_casesWarm_105 (by decide) rfl ?_
            refine J_goto (tgt := 12) dX6_casesWarm_108 rfl ?_
            first
            | exact ih (kn + 1) _ _ _ _ (by omega) (by omega) (by rw [ec, cif_t ⟨c_26, by omega⟩]; rfl) T4
            | exact ih (kn + 1) _ _ _ _ (by omega) (by omega) (by rw [ec, cif_f (fun q => by omega)]) T4
            | exact ih (kn + 1) _ _ _ _ (by omega) (by omega) (by rw [ec, cif_f (fun q => c_26 q.1)]) a3
          · skip
            refine J_il7 dX6_casesWarm_74 ?_
            refine M_csI1 dX6_casesWarm_76 lk_X6_249 cw_J6_bitCount_0f7a4 (k_bitCount (by omega)) (by decide) (Nat.le_of_ble_eq_true rfl) (fun v_76 mem_76 hq => ?_)
            obtain ⟨rfl, hq⟩ := hq; have hq := hq.symm; subst hq
            refine J_is8 dX6_casesWarm_79 (by decide) rfl ?_
            refine J_ll5 dX6_casesWarm_81 ?_
            refine J_il2 dX6_casesWarm_83 ?_
            refine J_il8 dX6_casesWarm_84 ?_
            refine M_csL2 dX6_casesWarm_86 lk_X6_254 cw_X6_power (k_power (by omega) (by omega)) (by decide) (Nat.le_of_ble_eq_true rfl) (fun v_86 mem_86 hq => ?_)
            obtain ⟨rfl, hq⟩ := hq; have hq := hq.symm; subst hq
            refine J_bipush dX6_casesWarm_89 rfl ?_
            refine J_il2 dX6_casesWarm_91 ?_
            refine J_isub dX6_casesWarm_92 ?_
            refine J_il4 dX6_casesWarm_93 ?_
            refine J_il8 dX6_casesWarm_95 ?_
            refine J_isub dX6_casesWarm_97 ?_
            refine M_csL2 dX6_casesWarm_98 lk_X6_254 cw_X6_power (k_power (by omega) (by omega)) (by decide) (Nat.le_of_ble_eq_true rfl) (fun v_98 mem_98 hq => ?_)
            obtain ⟨rfl, hq⟩ := hq; have hq := hq.symm; subst hq
            refine J_lmul dX6_casesWarm_101 ?_
            refine J_ladd dX6_casesWarm_102 ?_
            refine J_ls5 dX6_casesWarm_103 (by decide) rfl ?_
            refine J_inc7 dX6_casesWarm_105 (by decide) rfl ?_
            refine J_goto (tgt := 12) dX6_casesWarm_108 rfl ?_
            first
            | exact ih (kn + 1) _ _ _ _ (by omega) (by omega) (by rw [ec, cif_t ⟨c_26, by omega⟩]; rfl) T4
            | exact ih (kn + 1) _ _ _ _ (by omega) (by omega) (by rw [ec, cif_f (fun q => by omega)]) T4
            | exact ih (kn + 1) _ _ _ _ (by omega) (by omega) (by rw [ec, cif_f (fun q => c_26 q.1)]) a3
        · skip
          refine J_goto (tgt := 105) dX6_casesWarm_29 rfl ?_
          refine J_inc7 dX6_casesWarm_105 (by decide) rfl ?_
          refine J_goto (tgt := 12) dX6_casesWarm_108 rfl ?_
          first
          | exact ih (kn + 1) _ _ _ _ (by omega) (by omega) (by rw [ec, cif_t ⟨c_26, by omega⟩]; rfl) T4
          | exact ih (kn + 1) _ _ _ _ (by omega) (by omega) (by rw [ec, cif_f (fun q => by omega)]) T4
          | exact ih (kn + 1) _ _ _ _ (by omega) (by omega) (by rw [ec, cif_f (fun q => c_26 q.1)]) a3
  refine CM.of (by decide +kernel) ([zr 0, zi m, zi p, zi d, zu, zu, zu, zu, zu]) (zok_all rfl) (Nat.le_of_ble_eq_true rfl) rfl ?_
  refine J_il3 dX6_casesWarm_0 ?_
  refine M_csI1 dX6_casesWarm_1 lk_X6_249 cw_J6_bitCount_0f7a4 (k_bitCount hd) (by decide) (Nat.le_of_ble_eq_true rfl) (fun v_1 mem_1 hq => ?_)
  obtain ⟨rfl, hq⟩ := hq; have hq := hq.symm; subst hq
  refine J_is4 dX6_casesWarm_4 (by decide) rfl ?_
  refine J_lconst0 dX6_casesWarm_6 ?_
  refine J_ls5 dX6_casesWarm_7 (by decide) rfl ?_
  refine J_iconst dX6_casesWarm_9 ?_
  refine J_is7 dX6_casesWarm_10 (by decide) rfl ?_
  exact loop 128 0 0 0 _ _ rfl (by omega) rfl FrT.rf
theorem c_late {mem : ZMem} {S : ZS} (hC : CS mem S) (hI : SInv S) {m p w : Int} (hm : In32 m) (hp : In32 p) (hw : In32 w) : CL mX6_late 7 [zr 0, zi m, zi p, zi w] mem (QS mem (vLate S m p w, S)) := by
  have hb := hI.bi
  have b1 := hb.1
  have hl := hb.len
  have hr := hI.hr
  have hen := hC.men
  have hB := bch hC
  have bad : (noM S m ∨ p < 0 ∨ 10 < p ∨ w < 0 ∨ 1 < w) → QS mem (vLate S m p w, S) (-1000001) mem := fun q => ⟨by unfold vLate; rw [if_pos q], hC, FrC.rf⟩
  have hd := dueB_rg hb S.b.2.length (Nat.le_refl _)
  have hbd := bcI_range (dueB S.b.1 S.b.2 S.b.2.length)
  have p1 := pw10 hbd
  have p2 := pw_rg (a := 10) (by omega) hbd
  refine CM.of (by decide +kernel) ([zr 0, zi m, zi p, zi w, zu, zu, zu, zu, zu, zu, zu]) (zok_all rfl) (Nat.le_of_ble_eq_true rfl) rfl ?_
  refine J_al0 dX6_late_0 ?_
  refine J_il1 dX6_late_1 ?_
  refine M_cvI1 dX6_late_2 lk_X6_159 cw_X6_noMan sh_0 rfl rfl (k_noMan hm (by omega)) (by decide) (Nat.le_of_ble_eq_true rfl) (fun v_2 mem_2 hq => ?_)
  obtain ⟨rfl, hq⟩ := hq; have hq := hq.symm; subst hq
  refine J_ifne_b (tgt := 27) dX6_late_5 rfl (fun c_5 => ?_) (fun c_5 => ?_)
  · skip
    refine J_ldc2 (n := -1000001) dX6_late_27 col_X6_240 (by decide) ?_
    refine M_lret dX6_late_30 rfl ?_
    exact bad (by omega)
  · skip
    refine J_il2 dX6_late_8 ?_
    refine J_iconst dX6_late_9 ?_
    refine J_bipush dX6_late_10 rfl ?_
    refine M_csI3 dX6_late_12 lk_X6_67 cw_X6_outside (k_outside hp (by omega) (by omega)) (by decide) (Nat.le_of_ble_eq_true rfl) (fun v_12 mem_12 hq => ?_)
    obtain ⟨rfl, hq⟩ := hq; have hq := hq.symm; subst hq
    refine J_ifne_b (tgt := 27) dX6_late_15 rfl (fun c_15 => ?_) (fun c_15 => ?_)
    · skip
      refine J_ldc2 (n := -1000001) dX6_late_27 col_X6_240 (by decide) ?_
      refine M_lret dX6_late_30 rfl ?_
      exact bad (by omega)
    · skip
      refine J_il3 dX6_late_18 ?_
      refine J_iconst dX6_late_19 ?_
      refine J_iconst dX6_late_20 ?_
      refine M_csI3 dX6_late_21 lk_X6_67 cw_X6_outside (k_outside hw (by omega) (by omega)) (by decide) (Nat.le_of_ble_eq_true rfl) (fun v_21 mem_21 hq => ?_)
      obtain ⟨rfl, hq⟩ := hq; have hq := hq.symm; subst hq
      refine J_ifeq_b (tgt := 31) dX6_late_24 rfl (fun c_24 => ?_) (fun c_24 => ?_)
      · skip
        refine J_al0 dX6_late_31 ?_
        refine M_getR dX6_late_32 fl_X6_26 sh_0 rfl ?_
        refine M_cvI0 dX6_late_35 lk_X6_242 cw_X2_dueAsBits sh_16 rfl rfl (k_dueAsBits (Or.inl rfl) hB hb (by omega)) (by decide) (Nat.le_of_ble_eq_true rfl) (fun v_35 mem_35 hq => ?_)
        obtain ⟨rfl, hq⟩ := hq; have hq := hq.symm; subst hq
        refine J_is4 dX6_late_38 (by decide) rfl ?_
        refine J_al0 dX6_late_40 ?_
        refine J_il1 dX6_late_41 ?_
        refine J_il2 dX6_late_42 ?_
        refine J_il4 dX6_late_43 ?_
        refine M_cvL3 dX6_late_45 lk_X6_245 cw_X6_casesWarm sh_0 rfl rfl (k_casesWarm hC hI (by omega) (by omega) hd) (by decide) (Nat.le_of_ble_eq_true rfl) (fun v_45 mem_45 hq => ?_)
        obtain ⟨rfl, T2⟩ := hq
        have hca := caN_rg (b := S.b) (m := m) (p := p) (by omega) hd 128 (Nat.le_refl _)
        refine J_ls5 dX6_late_48 (by decide) rfl ?_
        refine J_bipush dX6_late_50 rfl ?_
        refine J_il4 dX6_late_52 ?_
        refine M_csI1 dX6_late_54 lk_X6_249 cw_J6_bitCount_0f7a4 (k_bitCount hd) (by decide) (Nat.le_of_ble_eq_true rfl) (fun v_54 mem_54 hq => ?_)
        obtain ⟨rfl, hq⟩ := hq; have hq := hq.symm; subst hq
        refine M_csL2 dX6_late_57 lk_X6_254 cw_X6_power (k_power (by omega) (by omega)) (by decide) (Nat.le_of_ble_eq_true rfl) (fun v_57 mem_57 hq => ?_)
        obtain ⟨rfl, hq⟩ := hq; have hq := hq.symm; subst hq
        refine J_ls7 dX6_late_60 (by decide) rfl ?_
        refine J_ll5 dX6_late_62 ?_
        refine J_ll7 dX6_late_64 ?_
        refine M_csL2 dX6_late_66 lk_X6_258 cw_X6_commonDivisor (k_commonI (by omega) (by omega)) (by decide) (Nat.le_of_ble_eq_true rfl) (fun v_66 mem_66 hq => ?_)
        obtain ⟨rfl, hq⟩ := hq; have hq := hq.symm; subst hq
        have hg : 0 < Nat.gcd (caN S.b m p (dueB S.b.1 S.b.2 S.b.2.length) 128).toNat (pw 10 (bcI (dueB S.b.1 S.b.2 S.b.2.length))).toNat := Nat.gcd_pos_of_pos_right _ (by omega)
        have hg2 : Nat.gcd (caN S.b m p (dueB S.b.1 S.b.2 S.b.2.length) 128).toNat (pw 10 (bcI (dueB S.b.1 S.b.2 S.b.2.length))).toNat ≤ (pw 10 (bcI (dueB S.b.1 S.b.2 S.b.2.length))).toNat := Nat.gcd_le_right _ (by omega)
        refine J_ls9 dX6_late_69 (by decide) rfl ?_
        refine J_ll9 dX6_late_71 ?_
        refine J_lconst0 dX6_late_73 ?_
        refine J_lne (tgt := 81) dX6_late_74 dX6_late_75 rfl (by omega) (fun c_74 => ?_) (fun c_74 => ?_)
        · skip
          refine J_il3 dX6_late_81 ?_
          refine J_ifne (tgt := 93) dX6_late_82 rfl (by omega) (fun c_82 => ?_) (fun c_82 => ?_)
          · skip
            refine J_ll7 dX6_late_93 ?_
            refine J_ll9 dX6_late_95 ?_
            refine J_ldiv dX6_late_97 (by omega) ?_
            refine M_lret dX6_late_98 rfl ?_
            first
            | exact ⟨by unfold vLate; rw [if_neg (by omega), if_pos (by omega)], hC.ext T2, T2.c⟩
            | exact ⟨by unfold vLate; rw [if_neg (by omega), if_neg (by omega)], hC.ext T2, T2.c⟩
          · skip
            refine J_ll5 dX6_late_85 ?_
            refine J_ll9 dX6_late_87 ?_
            refine J_ldiv dX6_late_89 (by omega) ?_
            refine J_goto (tgt := 98) dX6_late_90 rfl ?_
            refine M_lret dX6_late_98 rfl ?_
            first
            | exact ⟨by unfold vLate; rw [if_neg (by omega), if_pos (by omega)], hC.ext T2, T2.c⟩
            | exact ⟨by unfold vLate; rw [if_neg (by omega), if_neg (by omega)], hC.ext T2, T2.c⟩
        · skip
          exact absurd c_74 (by omega)
      · skip
        refine J_ldc2 (n := -1000001) dX6_late_27 col_X6_240 (by decide) ?_
        refine M_lret dX6_late_30 rfl ?_
        exact bad (by omega)
