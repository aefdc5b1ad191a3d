/-! A bench as it is told -/
def Told (r : Int → Int) (k : Nat) : Prop := r 3 = k ∧ k ≤ 7 ∧ r 4 = 0 ∧ r 5 = 0 ∧ r 6 = 0 ∧ (0 ≤ r 1 ∧ r 1 ≤ 23) ∧ (0 ≤ r 2 ∧ r 2 ≤ 9) ∧ ∀ m : Int, 0 ≤ m → m < k → (1 ≤ kd r m ∧ kd r m ≤ 5) ∧ (0 ≤ dn r m ∧ dn r m ≤ 23) ∧ (1 ≤ lg r m ∧ lg r m ≤ 9) ∧ wm r m = 0 ∧ gn r m = 0
theorem Told.inv {r : Int → Int} {k : Nat} (h : Told r k) : BInv r (rng k) := by
  obtain ⟨h3, hk, h4, h5, h6, h1, h2, hm⟩ := h
  refine ⟨by omega, nodup_rng k, fun m q => ?_, by omega, fun m m0 m1 => ?_, h1, by omega, Or.inl h5⟩
  · have := mem_rng.mp q; omega
  · obtain ⟨a, b, c, d, e⟩ := hm m m0 (by omega)
    exact ⟨a, b, c, by omega, by omega, ⟨fun _ => mem_rng.mpr (by omega), fun _ => e⟩⟩
theorem Told.add {r : Int → Int} {k : Nat} (h : Told r k) (hk : k < 7) {kind d l : Int} (h1 : 1 ≤ kind ∧ kind ≤ 5) (h2 : 0 ≤ d ∧ d ≤ 23) (h3 : 1 ≤ l ∧ l ≤ 9) : Told (addR r k kind d l) (k + 1) := by
  obtain ⟨g3, gk, g4, g5, g6, g1, g2, hm⟩ := h
  refine ⟨?_, by omega, ?_, ?_, ?_, ?_, ?_, fun m m0 m1 => ?_⟩
  · rw [addR_3]; omega
  · rw [addR_lo (by omega) (by omega) (by omega)]; exact g4
  · rw [addR_lo (by omega) (by omega) (by omega)]; exact g5
  · rw [addR_lo (by omega) (by omega) (by omega)]; exact g6
  · rw [addR_lo (by omega) (by omega) (by omega)]; exact g1
  · rw [addR_lo (by omega) (by omega) (by omega)]; exact g2
  · by_cases e : m = k
    · subst e
      obtain ⟨a, b, c, d', e'⟩ := addR_new (r := r) (k := k) (kind := kind) (d := d) (l := l) (by omega)
      rw [a, b, c, d', e']
      exact ⟨h1, h2, h3, rfl, rfl⟩
    · obtain ⟨a, b, c, d', e'⟩ := addR_old (r := r) (k := k) (kind := kind) (d := d) (l := l) (m := m) (by omega) m0 e
      rw [a, b, c, d', e']
      exact hm m m0 (by omega)
theorem pMan_f {t : Int → Int} {n k : Int} {s : PS} (h : (pMan t n k s).2.1 = 0) : s.1 < n ∧ (1 ≤ kOf (t s.1) ∧ kOf (t s.1) ≤ 5) ∧ k < 7 ∧ (0 ≤ nval t n (s.1 + 1) ∧ nval t n (s.1 + 1) ≤ 23) ∧ (1 ≤ nval t n (pM3 t n s).1 ∧ nval t n (pM3 t n s).1 ≤ 9) := by
  have hkr := kOf_range (t s.1)
  unfold pMan at h
  by_cases a : n ≤ s.1 ∨ kOf (t s.1) = 0
  · rw [if_pos a] at h; exact absurd (show (1 : Int) = 0 from h) (by decide)
  · rw [if_neg a] at h
    by_cases b : 7 ≤ k
    · rw [if_pos b] at h; exact absurd (show (3 : Int) = 0 from h) (by decide)
    · rw [if_neg b] at h
      have g4 := (pSgn_f h).1
      obtain ⟨g3, -, -, v1, v2, -⟩ := pNum_f g4
      have g2 := (pSgn_f g3).1
      obtain ⟨-, -, -, w1, w2, -⟩ := pNum_f g2
      exact ⟨by omega, by omega, by omega, ⟨w1, w2⟩, ⟨v1, v2⟩⟩
theorem pLaw_inv {t : Int → Int} {n : Int} {s : PS} (h : PInv n s) : PInv n (pLaw t n s) := pSgn_inv (pNum_inv (pSgn_inv (pNum_inv (pSgn_inv h))))
theorem lawR_told {t : Int → Int} {n : Int} (h : (pLaw t n (0, 0, 0)).2.1 = 0) : Told (lawR t n) 0 := by
  have g4 := (pSgn_f h).1
  obtain ⟨g3, -, -, v1, v2, -⟩ := pNum_f g4
  have g2 := (pSgn_f g3).1
  obtain ⟨-, -, -, w1, w2, -⟩ := pNum_f g2
  exact ⟨rfl, by omega, rfl, rfl, rfl, ⟨w1, w2⟩, ⟨v1, v2⟩, fun m m0 m1 => by omega⟩
/-- what reading ends in -/
def RdQ (mem : ZMem) (t : Int → Int) (n : Int) (mem' : ZMem) : Prop := PsC mem' (pAll t n).1 ∧ TpC mem' t n ∧ ((pAll t n).1.2.1 = 0 → CB mem' 63 (pAll t n).2.1 (rng (pAll t n).2.2) ∧ Told (pAll t n).2.1 (pAll t n).2.2) ∧ ∀ q, q ≠ 14 → (q < 63 ∨ 69 < q) → mem' q = mem q
theorem k_readInto {mem : ZMem} {t : Int → Int} {n : Int} (hT : TpC mem t n) : CI mX5_readInto 5 [zr 14, zr 63] mem (fun v mem' => v = bi ((pAll t n).1.2.1 = 0) ∧ RdQ mem t n mem') := by
  have hn := hT.1
  have fin : ∀ (i : Int) (s : PS) (m2 : ZMem), PInv n s → (pAll t n).1 = s → RdQ mem t n m2 → JM mX5_readInto 5 (QI (fun v mem' => v = bi ((pAll t n).1.2.1 = 0) ∧ RdQ mem t n mem')) 60 [zr 14, zr 63, zi i] [] m2 := by
    intro i s m2 i1 i2 i3
    have e2 := i3.1.2.1
    have e3 : (pAll t n).1.2.1 = s.2.1 := by rw [i2]
    obtain ⟨j1, j2⟩ := id i1
    refine J_al0 dX5_readInto_60 ?_
    refine M_get (ki := 2) dX5_readInto_61 fl_X5_19 sh_14 rfl rfl ?_
    refine J_ifne (tgt := 71) dX5_readInto_64 rfl (by omega) (fun c_64 => ?_) (fun c_64 => ?_)
    · skip
      refine J_iconst dX5_readInto_71 ?_
      refine M_zret dX5_readInto_72 rfl (by decide) ?_
      exact ⟨by first | exact (bi_t (by omega)).symm | exact (bi_f (by omega)).symm, i3⟩
    · skip
      refine J_iconst dX5_readInto_67 ?_
      refine J_goto (tgt := 72) dX5_readInto_68 rfl ?_
      refine M_zret dX5_readInto_72 rfl (by decide) ?_
      exact ⟨by first | exact (bi_t (by omega)).symm | exact (bi_f (by omega)).symm, i3⟩
  have loop : ∀ (c kn : Nat) (i : Int) (s : PS) (r : Int → Int) (m2 : ZMem), i = kn → PsC m2 s → TpC m2 t n → PInv n s → ((s.2.1 ≠ 0 ∧ (pAll t n).1 = s ∧ kn ≤ 8) ∨ (s.2.1 = 0 ∧ c + kn = 8 ∧ pMen t n c kn s r = pAll t n ∧ Told r kn ∧ CB m2 63 r (rng kn))) → (∀ q, q ≠ 14 → (q < 63 ∨ 69 < q) → m2 q = mem q) → JM mX5_readInto 5 (QI (fun v mem' => v = bi ((pAll t n).1.2.1 = 0) ∧ RdQ mem t n mem')) 21 [zr 14, zr 63, zi i] [] m2 := by
    intro c
    induction c with
    | zero =>
      intro kn i s r m2 e0 a1 a2 a3 a4 a5
      rcases a4 with ⟨b1, b2, b3⟩ | ⟨b1, b2, b3, b4, b5⟩
      · have e2 := a1.2.1
        obtain ⟨j1, j2⟩ := id a3
        have hf := fin i s m2 a3 b2 ⟨b2 ▸ a1, a2, fun q => absurd (b2 ▸ q) b1, a5⟩
        refine J_il2 dX5_readInto_21 ?_
        refine J_bipush dX5_readInto_22 rfl ?_
        refine J_cgt (tgt := 60) dX5_readInto_24 rfl (by omega) (fun c_24 => ?_) (fun c_24 => ?_)
        · skip
          exact hf
        · skip
          refine J_al0 dX5_readInto_27 ?_
          refine M_get (ki := 2) dX5_readInto_28 fl_X5_19 sh_14 rfl rfl ?_
          refine J_ifne (tgt := 60) dX5_readInto_31 rfl (by omega) (fun c_31 => ?_) (fun c_31 => ?_)
          · skip
            exact hf
          · skip
            omega
      · have := b4.2.1; omega
    | succ c ih =>
      intro kn i s r m2 e0 a1 a2 a3 a4 a5
      have e1 := a1.1
      have e2 := a1.2.1
      obtain ⟨j1, j2⟩ := id a3
      have t1 := a2.1
      rcases a4 with ⟨b1, b2, b3⟩ | ⟨b1, b2, b3, b4, b5⟩
      · have hf := fin i s m2 a3 b2 ⟨b2 ▸ a1, a2, fun q => absurd (b2 ▸ q) b1, a5⟩
        refine J_il2 dX5_readInto_21 ?_
        refine J_bipush dX5_readInto_22 rfl ?_
        refine J_cgt (tgt := 60) dX5_readInto_24 rfl (by omega) (fun c_24 => ?_) (fun c_24 => ?_)
        · skip
          exact hf
        · skip
          refine J_al0 dX5_readInto_27 ?_
          refine M_get (ki := 2) dX5_readInto_28 fl_X5_19 sh_14 rfl rfl ?_
          refine J_ifne (tgt := 60) dX5_readInto_31 rfl (by omega) (fun c_31 => ?_) (fun c_31 => ?_)
          · skip
            exact hf
          · skip
            omega
      · have hk := b4.2.1
        have stop : ¬ (kn = 0 ∨ s.1 < n) → pAll t n = (s, r, kn) := fun q => by
          rw [← b3]; unfold pMen; rw [if_neg (fun w => q w.2)]
        have step : (kn = 0 ∨ s.1 < n) → JM mX5_readInto 5 (QI (fun v mem' => v = bi ((pAll t n).1.2.1 = 0) ∧ RdQ mem t n mem')) 49 [zr 14, zr 63, zi i] [] m2 := by
          intro w
          have hM := pMan_inv (t := t) (k := kn) a3
          have ef : pMen t n (c + 1) kn s r = (if (pMan t n kn s).2.1 = 0 then pMen t n c (kn + 1) (pMan t n kn s) (addR r kn (kOf (t s.1)) (nval t n (s.1 + 1)) (nval t n (pM3 t n s).1)) else (pMan t n kn s, r, kn)) := by
            show (if s.2.1 = 0 ∧ (kn = 0 ∨ s.1 < n) then _ else _) = _
            rw [if_pos ⟨b1, w⟩]
          refine J_al0 dX5_readInto_49 ?_
          refine J_al1 dX5_readInto_50 ?_
          refine M_cvV1 dX5_readInto_51 lk_X5_37 cw_X5_readMan sh_14 rfl rfl (k_treadMan a2 a1 a3 b1 b5 b4.1 hk) (by decide) (Nat.le_of_ble_eq_true rfl) (fun mem_51 hq => ?_)
          obtain ⟨g1, g2, g3, g4⟩ := hq
          refine J_inc2 dX5_readInto_54 (by decide) rfl ?_
          refine J_goto (tgt := 21) dX5_readInto_57 rfl ?_
          refine ih (kn + 1) (i + 1) (pMan t n kn s) (addR r kn (kOf (t s.1)) (nval t n (s.1 + 1)) (nval t n (pM3 t n s).1)) _ (by omega) g1 g2 hM ?_ (fun q q1 q2 => (g4 q q1 q2).trans (a5 q q1 q2))
          by_cases z : (pMan t n kn s).2.1 = 0
          · obtain ⟨f1, f2, f3, f4, f5⟩ := pMan_f z
            refine Or.inr ⟨z, by omega, ?_, b4.add (by omega) f2 f4 f5, g3 z⟩
            rw [← b3, ef, if_pos z]
          · refine Or.inl ⟨z, ?_, by omega⟩
            rw [← b3, ef, if_neg z]
        refine J_il2 dX5_readInto_21 ?_
        refine J_bipush dX5_readInto_22 rfl ?_
        refine J_cgt (tgt := 60) dX5_readInto_24 rfl (by omega) (fun c_24 => ?_) (fun c_24 => ?_)
        · skip
          omega
        · skip
          refine J_al0 dX5_readInto_27 ?_
          refine M_get (ki := 2) dX5_readInto_28 fl_X5_19 sh_14 rfl rfl ?_
          refine J_ifne (tgt := 60) dX5_readInto_31 rfl (by omega) (fun c_31 => ?_) (fun c_31 => ?_)
          · skip
            omega
          · skip
            refine J_il2 dX5_readInto_34 ?_
            refine J_ifeq (tgt := 49) dX5_readInto_35 rfl (by omega) (fun c_35 => ?_) (fun c_35 => ?_)
            · skip
              exact step (by omega)
            · skip
              refine J_al0 dX5_readInto_38 ?_
              refine M_get (ki := 4) dX5_readInto_39 fl_X5_25 sh_14 rfl rfl ?_
              refine J_al0 dX5_readInto_42 ?_
              refine M_get (ki := 1) dX5_readInto_43 fl_X5_15 sh_14 rfl rfl ?_
              refine J_cge (tgt := 60) dX5_readInto_46 rfl (by omega) (fun c_46 => ?_) (fun c_46 => ?_)
              · skip
                have eS := stop (by omega)
                exact fin i s m2 a3 (by rw [eS]) ⟨by rw [eS]; exact a1, a2, fun _ => by rw [eS]; exact ⟨b5, b4⟩, a5⟩
              · skip
                exact step (by omega)
  refine CM.of (by decide +kernel) ([zr 14, zr 63, zu]) (zok_all rfl) (Nat.le_of_ble_eq_true rfl) rfl ?_
  refine J_al0 dX5_readInto_0 ?_
  refine J_iconst dX5_readInto_1 ?_
  refine M_put (ki := 4) dX5_readInto_2 fl_X5_25 sh_14 rfl rfl rfl (fun r hr => by cases hr; rfl) ?_
  refine J_al0 dX5_readInto_5 ?_
  refine J_iconst dX5_readInto_6 ?_
  refine M_put (ki := 2) dX5_readInto_7 fl_X5_19 sh_14 rfl rfl rfl (fun r hr => by cases hr; rfl) ?_
  have s0 : PsC (mset (mset mem 14 4 0) 14 2 0) (0, 0, 0) := ⟨by rw [mset_i (by omega), mset_s], by rw [mset_s], fun q => absurd rfl q⟩
  have T0 : TpC (mset (mset mem 14 4 0) 14 2 0) t n := hT.ext (by rw [mset_i (by omega), mset_i (by omega)]) (by rw [mset_n (by omega), mset_n (by omega)])
  refine J_al1 dX5_readInto_10 ?_
  refine M_cvV0 dX5_readInto_11 lk_X5_28 cw_X2_clear sh_63 rfl rfl (k_bclear (Or.inr (Or.inr (Or.inr (Or.inl rfl))))) (by decide) (Nat.le_of_ble_eq_true rfl) (fun mem_11 hq => ?_)
  obtain ⟨⟨z0, z1, z2, z6, z7, z8, z9⟩, zF⟩ := hq
  have s1 : PsC mem_11 (0, 0, 0) := s0.ext (zF 14 (by omega))
  have T1 : TpC mem_11 t n := T0.ext (by rw [zF 14 (by omega)]) (zF 15 (by omega))
  have P0 : PInv n (0, 0, 0) := ⟨⟨Int.le_refl 0, hn.2.1⟩, ⟨Int.le_refl 0, by decide⟩⟩
  refine J_al0 dX5_readInto_14 ?_
  refine J_al1 dX5_readInto_15 ?_
  refine M_cvV1 dX5_readInto_16 lk_X5_33 cw_X5_readLaw sh_14 rfl rfl (k_readLaw T1 s1 P0) (by decide) (Nat.le_of_ble_eq_true rfl) (fun mem_16 hq => ?_)
  obtain ⟨g1, g2, g3, g4, g5⟩ := hq
  refine J_iconst dX5_readInto_19 ?_
  refine J_is2 dX5_readInto_20 (by decide) rfl ?_
  refine loop 8 0 0 _ (lawR t n) _ rfl g1 g2 (pLaw_inv P0) ?_ (fun q q1 q2 => by rw [g5 q q1 (by omega), zF q (by omega), mset_n q1, mset_n q1])
  by_cases z : (pLaw t n (0, 0, 0)).2.1 = 0
  · obtain ⟨w1, w2⟩ := g3 z
    refine Or.inr ⟨z, rfl, rfl, lawR_told z, ⟨w1, w2, ?_, ?_, ?_, ?_, ?_⟩, fun p p0 p1 => ?_, fun m m0 m1 => ?_⟩
    · rw [g4 2 (by omega) (by omega)]; exact z2
    · rw [g4 6 (by omega) (by omega)]; exact z6
    · rw [g4 7 (by omega) (by omega)]; exact z7
    · rw [g4 8 (by omega) (by omega)]; exact z8
    · rw [g4 9 (by omega) (by omega)]; exact z9
    · rw [rng_len] at p1; omega
    · exact absurd (show m < 0 from m1) (by omega)
  · refine Or.inl ⟨z, ?_, by omega⟩
    show (pMen t n 8 0 (pLaw t n (0, 0, 0)) (lawR t n)).1 = _
    unfold pMen
    rw [if_neg (fun w => z w.1)]
