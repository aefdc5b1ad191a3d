/-- the fresh row, k men told -/
def MFr (f r : Int → Int) (k : Nat) : Prop := (f 0 = 1 ∧ f 1 = r 1 ∧ f 2 = r 2 ∧ f 3 = (k : Int) ∧ f 4 = 0 ∧ f 5 = 0 ∧ f 6 = 0) ∧ (∀ m : Int, 0 ≤ m → m < k → f (8 + m) = m ∧ f (15 + 5 * m) = kd r m ∧ f (15 + 5 * m + 1) = dn r m ∧ f (15 + 5 * m + 2) = lg r m ∧ f (15 + 5 * m + 3) = wm r m ∧ f (15 + 5 * m + 4) = gn r m) ∧ ∀ x : Int, 15 + 5 * (k : Int) ≤ x → x < 50 → f x = 0
theorem MFr.add {f r : Int → Int} {k : Nat} {K D Lg : Int} (h : MFr f r k) (hk : k < 7) : MFr (zup (zup (zup (zup (zup f (15 + 5 * (k : Int)) K) (15 + 5 * (k : Int) + 1) D) (15 + 5 * (k : Int) + 2) Lg) (8 + (k : Int)) (k : Int)) 3 ((k : Int) + 1)) (addR r k K D Lg) (k + 1) := by
  obtain ⟨⟨a0, a1, a2, a3, a4, a5, a6⟩, b, c⟩ := h
  have z : ∀ x : Int, x ≠ 3 → x ≠ 8 + (k : Int) → (x < 15 + 5 * (k : Int) ∨ 15 + 5 * (k : Int) + 2 < x) → zup (zup (zup (zup (zup f (15 + 5 * (k : Int)) K) (15 + 5 * (k : Int) + 1) D) (15 + 5 * (k : Int) + 2) Lg) (8 + (k : Int)) (k : Int)) 3 ((k : Int) + 1) x = f x := fun x h1 h2 h3 => by
    rw [zup_n h1, zup_n h2, zup_n (by omega), zup_n (by omega), zup_n (by omega)]
  have y : ∀ x : Int, x ≠ 3 → (x < 15 + 5 * (k : Int) ∨ 15 + 5 * (k : Int) + 4 < x) → addR r k K D Lg x = r x := fun x h1 h3 => by
    unfold addR
    rw [zup_n h1, zup_n (by omega), zup_n (by omega), zup_n (by omega), zup_n (by omega), zup_n (by omega)]
  refine ⟨⟨?_, ?_, ?_, ?_, ?_, ?_, ?_⟩, fun m m0 m1 => ?_, fun x x0 x1 => ?_⟩
  · rw [z 0 (by omega) (by omega) (by omega)]; exact a0
  · rw [z 1 (by omega) (by omega) (by omega), y 1 (by omega) (by omega)]; exact a1
  · rw [z 2 (by omega) (by omega) (by omega), y 2 (by omega) (by omega)]; exact a2
  · rw [zup_s]; omega
  · rw [z 4 (by omega) (by omega) (by omega)]; exact a4
  · rw [z 5 (by omega) (by omega) (by omega)]; exact a5
  · rw [z 6 (by omega) (by omega) (by omega)]; exact a6
  · by_cases e : m = (k : Int)
    · subst e
      have e0 : kd (addR r k K D Lg) (k : Int) = K := by
        unfold kd addR
        rw [zup_n (by omega), zup_n (by omega), zup_n (by omega), zup_n (by omega), zup_n (by omega), zup_s]
      have e1 : dn (addR r k K D Lg) (k : Int) = D := by
        unfold dn addR
        rw [zup_n (by omega), zup_n (by omega), zup_n (by omega), zup_n (by omega), zup_s]
      have e2 : lg (addR r k K D Lg) (k : Int) = Lg := by
        unfold lg addR
        rw [zup_n (by omega), zup_n (by omega), zup_n (by omega), zup_s]
      have e3 : wm (addR r k K D Lg) (k : Int) = 0 := by
        unfold wm addR
        rw [zup_n (by omega), zup_n (by omega), zup_s]
      have e4 : gn (addR r k K D Lg) (k : Int) = 0 := by
        unfold gn addR
        rw [zup_n (by omega), zup_s]
      rw [e0, e1, e2, e3, e4]
      refine ⟨?_, ?_, ?_, ?_, ?_, ?_⟩
      · rw [zup_n (by omega), zup_s]
      · rw [zup_n (by omega), zup_n (by omega), zup_n (by omega), zup_n (by omega), zup_s]
      · rw [zup_n (by omega), zup_n (by omega), zup_n (by omega), zup_s]
      · rw [zup_n (by omega), zup_n (by omega), zup_s]
      · rw [z _ (by omega) (by omega) (by omega)]; exact c _ (by omega) (by omega)
      · rw [z _ (by omega) (by omega) (by omega)]; exact c _ (by omega) (by omega)
    · obtain ⟨d0, d1, d2, d3, d4, d5⟩ := b m m0 (by omega)
      rw [z (8 + m) (by omega) (by omega) (by omega), z (15 + 5 * m) (by omega) (by omega) (by omega), z (15 + 5 * m + 1) (by omega) (by omega) (by omega), z (15 + 5 * m + 2) (by omega) (by omega) (by omega), z (15 + 5 * m + 3) (by omega) (by omega) (by omega), z (15 + 5 * m + 4) (by omega) (by omega) (by omega)]
      refine ⟨d0, ?_, ?_, ?_, ?_, ?_⟩
      · rw [d1]; exact (y _ (by omega) (by omega)).symm
      · rw [d2]; exact (y _ (by omega) (by omega)).symm
      · rw [d3]; exact (y _ (by omega) (by omega)).symm
      · rw [d4]; exact (y _ (by omega) (by omega)).symm
      · rw [d5]; exact (y _ (by omega) (by omega)).symm
  · rw [z x (by omega) (by omega) (by omega)]; exact c x (by omega) x1
def FrQ (mem mem' : ZMem) : Prop := (∀ x : Int, x < 12 ∨ 17 < x → mem' 79 x = mem 79 x) ∧ ∀ q : Nat, q ≠ 79 → q ≠ 84 → mem' q = mem q
theorem FrQ.tr {a b c : ZMem} (h : FrQ a b) (g : FrQ b c) : FrQ a c := ⟨fun x hx => (g.1 x hx).trans (h.1 x hx), fun q hq h8 => (g.2 q hq h8).trans (h.2 q hq h8)⟩
theorem FrP.q {a b : ZMem} (h : FrP a b) : FrQ a b := ⟨h.1, fun q hq _ => h.2 q hq⟩
theorem FrQ.set {a b : ZMem} {i v : Int} (h : FrQ a b) : FrQ a (mset b 84 i v) := ⟨fun x hx => by rw [mset_n (by omega)]; exact h.1 x hx, fun q hq h8 => by rw [mset_n h8]; exact h.2 q hq h8⟩
theorem MTp.q {a b : ZMem} {t : Int → Int} {n : Int} (h : MTp a t n) (f : FrQ a b) : MTp b t n := ⟨by rw [f.1 11 (by omega)]; exact h.1, fun p p0 p1 => by rw [f.2 87 (by omega) (by omega)]; exact h.2 p p0 p1⟩
theorem isW84 : isW 84 := Or.inr (Or.inl rfl)
theorem k_mreadMan {mem : ZMem} {t : Int → Int} {n : Int} {s : PS} {r : Int → Int} {k : Nat} (hT : MTp mem t n) (hR : Rg t n) (hP : PsM mem t n s) (hs : isS t n s) (hM : MFr (mem 84) r k) (hk : k ≤ 7) : CV mX7_readMan 4 [zr 79] mem (fun mem' => PsM mem' t n (pMan t n k s) ∧ ((pMan t n k s).2.1 = 0 → MFr (mem' 84) (addR r k (kOf (t s.1)) (nval t n (s.1 + 1)) (nval t n (pM3 t n s).1)) (k + 1) ∧ k < 7) ∧ FrQ mem mem') := by
  obtain ⟨p1, p2, p3, p4, p5, p6⟩ := id hP
  obtain ⟨g0, g1, g2, g3, g4, g5⟩ := p6 hs.1
  have h2 := (tk_name (t := t) g0.2).mpr ⟨hs.2.1, kOf_let hs.2.2⟩
  obtain ⟨hv, hcur⟩ := g3 (Or.inl h2)
  have h3 : mem 84 3 = (k : Int) := hM.1.2.2.2.1
  have hkr := kOf_range (t s.1)
  have rest : ∀ (m2 : ZMem) (s1 : PS), PsM m2 t n s1 → FrP mem m2 → (s1.2.1 = 0 → 0 ≤ m2 79 12 ∧ m2 79 12 ≤ n) → pMan t n k s = pSgn t n 59 (pNum t n 1 9 (pSgn t n 44 (pNum t n 0 23 (sM 1 (m2 79 12) s1)))) → ((sM 1 (m2 79 12) s1).2.1 = 0 → sM 1 (m2 79 12) s1 = (s.1 + 1, 0, s.2.2) ∧ k < 7) → JM mX7_readMan 4 (QV (fun mem' => PsM mem' t n (pMan t n k s) ∧ ((pMan t n k s).2.1 = 0 → MFr (mem' 84) (addR r k (kOf (t s.1)) (nval t n (s.1 + 1)) (nval t n (pM3 t n s).1)) (k + 1) ∧ k < 7) ∧ FrQ mem mem')) 24 [zr 79, zi (kOf (t s.1)), zu, zu, zu] [] m2 := by
    intro m2 s1 hP2 hF2 hc2 hpm hok
    refine J_al0 dX7_readMan_24 ?_
    refine J_iconst dX7_readMan_25 ?_
    refine M_cvV1 dX7_readMan_26 lk_X7_115 cw_X7_must sh_79 rfl rfl (k_must (hT.p hF2) hR hP2 (by omega) (fun q _ => hc2 q)) (by decide) (Nat.le_of_ble_eq_true rfl) (fun mem_26 hq => ?_)
    obtain ⟨k1, k2⟩ := hq
    have F1 := hF2.tr k2
    generalize sM 1 (m2 79 12) s1 = s2 at *
    refine J_al0 dX7_readMan_29 ?_
    refine J_iconst dX7_readMan_30 ?_
    refine J_bipush dX7_readMan_31 rfl ?_
    refine M_cvI2 dX7_readMan_33 lk_X7_125 cw_X7_number sh_79 rfl rfl (k_number (hT.p F1) hR k1 (by omega) (by omega)) (by decide) (Nat.le_of_ble_eq_true rfl) (fun v_33 mem_33 hq => ?_)
    obtain ⟨v1, k3, k4⟩ := hq
    have F2 := F1.tr k4
    refine J_is2 dX7_readMan_36 (by decide) rfl ?_
    refine J_al0 dX7_readMan_37 ?_
    refine J_bipush dX7_readMan_38 rfl ?_
    refine M_cvV1 dX7_readMan_40 lk_X7_129 cw_X7_mustSign sh_79 rfl rfl (k_mustSign (hT.p F2) hR k3 (by omega)) (by decide) (Nat.le_of_ble_eq_true rfl) (fun mem_40 hq => ?_)
    obtain ⟨k5, k6⟩ := hq
    have F3 := F2.tr k6
    refine J_al0 dX7_readMan_43 ?_
    refine J_iconst dX7_readMan_44 ?_
    refine J_bipush dX7_readMan_45 rfl ?_
    refine M_cvI2 dX7_readMan_47 lk_X7_125 cw_X7_number sh_79 rfl rfl (k_number (hT.p F3) hR k5 (by omega) (by omega)) (by decide) (Nat.le_of_ble_eq_true rfl) (fun v_47 mem_47 hq => ?_)
    obtain ⟨v2, k7, k8⟩ := hq
    have F4 := F3.tr k8
    refine J_is3 dX7_readMan_50 (by decide) rfl ?_
    refine J_al0 dX7_readMan_51 ?_
    refine J_bipush dX7_readMan_52 rfl ?_
    refine M_cvV1 dX7_readMan_54 lk_X7_129 cw_X7_mustSign sh_79 rfl rfl (k_mustSign (hT.p F4) hR k7 (by omega)) (by decide) (Nat.le_of_ble_eq_true rfl) (fun mem_54 hq => ?_)
    obtain ⟨k9, k10⟩ := hq
    have F5 := F4.tr k10
    rw [← hpm] at k9
    have e16 := k9.1
    have r16 := k9.2.1
    have e84 : mem_54 84 = mem 84 := F5.2 84 (by omega)
    have d3 : mem_54 84 3 = (k : Int) := by rw [e84]; exact h3
    refine J_al0 dX7_readMan_57 ?_
    refine M_get (ki := 16) dX7_readMan_58 fl_X7_81 sh_79 rfl rfl ?_
    refine J_ifne (tgt := 135) dX7_readMan_61 rfl (by omega) (fun c_61 => ?_) (fun c_61 => ?_)
    · skip
      refine M_vret dX7_readMan_135 rfl ?_
      first
      | exact ⟨k9, fun q => absurd q (by omega), F5.q⟩
      | (refine ⟨k9.ext (fun x x0 x1 => by rw [mset_n (by omega), mset_n (by omega), mset_n (by omega), mset_n (by omega), mset_n (by omega)]), fun _ => ⟨?_, hk7⟩, F5.q.set.set.set.set.set⟩
         rw [mset_q, mset_q, mset_q, mset_q, mset_q, e84]
         exact hM.add hk7)
    · skip
      have hf0 : (pMan t n k s).2.1 = 0 := by omega
      have hf := hf0
      rw [hpm] at hf
      have f1 := (pSgn_f hf).1
      have f2 := (pNum_f f1).1
      have f3 := (pSgn_f f2).1
      have f4 := (pNum_f f3).1
      obtain ⟨es, hk7⟩ := hok f4
      have ev1 := v1 f3
      have ev2 := v2 f1
      have em3 : pM3 t n s = pSgn t n 44 (pNum t n 0 23 s2) := by rw [es]; rfl
      rw [← em3] at ev2
      rw [es] at ev1
      have ev1 : v_33 = nval t n (s.1 + 1) := ev1
      subst ev1
      subst ev2
      refine J_bipush dX7_readMan_64 rfl ?_
      refine J_iconst dX7_readMan_66 ?_
      refine J_al0 dX7_readMan_67 ?_
      refine M_getR dX7_readMan_68 fl_X7_22 sh_79 rfl ?_
      refine J_iconst dX7_readMan_71 ?_
      refine M_ald dX7_readMan_72 sh_84 (by decide) (by omega) ?_
      rw [d3]
      refine J_imul dX7_readMan_73 ?_
      refine J_iadd dX7_readMan_74 ?_
      refine J_is4 dX7_readMan_75 (by decide) rfl ?_
      refine J_al0 dX7_readMan_77 ?_
      refine M_getR dX7_readMan_78 fl_X7_22 sh_79 rfl ?_
      refine J_il4 dX7_readMan_81 ?_
      refine J_il1 dX7_readMan_83 ?_
      refine M_ast dX7_readMan_84 sh_84 (by decide) (by omega) ?_
      refine J_al0 dX7_readMan_85 ?_
      refine M_getR dX7_readMan_86 fl_X7_22 sh_79 rfl ?_
      refine J_il4 dX7_readMan_89 ?_
      refine J_iconst dX7_readMan_91 ?_
      refine J_iadd dX7_readMan_92 ?_
      refine J_il2 dX7_readMan_93 ?_
      refine M_ast dX7_readMan_94 sh_84 (by decide) (by omega) ?_
      refine J_al0 dX7_readMan_95 ?_
      refine M_getR dX7_readMan_96 fl_X7_22 sh_79 rfl ?_
      refine J_il4 dX7_readMan_99 ?_
      refine J_iconst dX7_readMan_101 ?_
      refine J_iadd dX7_readMan_102 ?_
      refine J_il3 dX7_readMan_103 ?_
      refine M_ast dX7_readMan_104 sh_84 (by decide) (by omega) ?_
      refine J_al0 dX7_readMan_105 ?_
      refine M_getR dX7_readMan_106 fl_X7_22 sh_79 rfl ?_
      refine J_bipush dX7_readMan_109 rfl ?_
      refine J_al0 dX7_readMan_111 ?_
      refine M_getR dX7_readMan_112 fl_X7_22 sh_79 rfl ?_
      refine J_iconst dX7_readMan_115 ?_
      refine M_ald dX7_readMan_116 sh_84 (by decide) (by omega) ?_
      rw [mset_i (by omega), mset_i (by omega), mset_i (by omega), d3]
      refine J_iadd dX7_readMan_117 ?_
      refine J_al0 dX7_readMan_118 ?_
      refine M_getR dX7_readMan_119 fl_X7_22 sh_79 rfl ?_
      refine J_iconst dX7_readMan_122 ?_
      refine M_ald dX7_readMan_123 sh_84 (by decide) (by omega) ?_
      rw [mset_i (by omega), mset_i (by omega), mset_i (by omega), d3]
      refine M_ast dX7_readMan_124 sh_84 (by decide) (by omega) ?_
      refine J_al0 dX7_readMan_125 ?_
      refine M_getR dX7_readMan_126 fl_X7_22 sh_79 rfl ?_
      refine J_iconst dX7_readMan_129 ?_
      refine J_dup2 dX7_readMan_130 rfl rfl ?_
      refine M_ald dX7_readMan_131 sh_84 (by decide) (by omega) ?_
      rw [mset_i (by omega), mset_i (by omega), mset_i (by omega), mset_i (by omega), d3]
      refine J_iconst dX7_readMan_132 ?_
      refine J_iadd dX7_readMan_133 ?_
      refine M_ast dX7_readMan_134 sh_84 (by decide) (by omega) ?_
      refine M_vret dX7_readMan_135 rfl ?_
      first
      | exact ⟨k9, fun q => absurd q (by omega), F5.q⟩
      | (refine ⟨k9.ext (fun x x0 x1 => by rw [mset_n (by omega), mset_n (by omega), mset_n (by omega), mset_n (by omega), mset_n (by omega)]), fun _ => ⟨?_, hk7⟩, F5.q.set.set.set.set.set⟩
         rw [mset_q, mset_q, mset_q, mset_q, mset_q, e84]
         exact hM.add hk7)
  refine CM.of (by decide +kernel) ([zr 79, zu, zu, zu, zu]) (zok_all rfl) (Nat.le_of_ble_eq_true rfl) rfl ?_
  refine J_al0 dX7_readMan_0 ?_
  refine M_get (ki := 15) dX7_readMan_1 fl_X7_94 sh_79 rfl rfl ?_
  rw [hv]
  refine M_csI1 dX7_readMan_4 lk_X7_122 cw_X7_kindBy (k_kindBy (by omega)) (by decide) (Nat.le_of_ble_eq_true rfl) (fun v_4 mem_4 hq => ?_)
  obtain ⟨e9, hq⟩ := hq; have hq := hq.symm; subst hq; rw [if_neg hs.2.2] at e9; subst e9
  refine J_is1 dX7_readMan_7 (by decide) rfl ?_
  refine J_al0 dX7_readMan_8 ?_
  refine M_getR dX7_readMan_9 fl_X7_22 sh_79 rfl ?_
  refine J_iconst dX7_readMan_12 ?_
  refine M_ald dX7_readMan_13 sh_84 (by decide) (by omega) ?_
  refine J_bipush dX7_readMan_14 rfl ?_
  refine J_cne (tgt := 24) dX7_readMan_16 rfl (by omega) (fun c_16 => ?_) (fun c_16 => ?_)
  · skip
    first
    | (have hk7 : (k : Int) = 7 := by omega
       have eb : pBad 3 s = (s.1, 3, s.1) := by unfold pBad; rw [if_neg (by omega)]
       rw [eb] at k1
       have esm : ∀ c : Int, sM 1 c (s.1, 3, s.1) = (s.1, 3, s.1) := fun c => by unfold sM; rw [if_pos (show (3 : Int) ≠ 0 by omega)]
       refine rest mem_21 (s.1, 3, s.1) k1 k2 (fun q => absurd (show (3 : Int) = 0 from q) (by omega)) ?_ (fun q => ?_)
       · rw [esm]
         unfold pMan
         rw [if_neg (by have := hs.2; omega), if_pos (by omega)]
         rfl
       · rw [esm] at q
         exact absurd (show (3 : Int) = 0 from q) (by omega))
    | (have hk7 : ¬ (k : Int) = 7 := by omega
       have esm : sM 1 (mem 79 12) s = (s.1 + 1, 0, s.2.2) := by unfold sM; rw [if_neg (by have := hs.1; omega), if_pos rfl, hcur]
       refine rest mem s hP FrP.rf (fun _ => by have := hs.2.1; omega) ?_ (fun _ => ⟨esm, by omega⟩)
       rw [esm]
       unfold pMan pM3
       rw [if_neg (by have := hs.2; omega), if_neg (by omega)])
  · skip
    refine J_al0 dX7_readMan_19 ?_
    refine J_iconst dX7_readMan_20 ?_
    refine M_cvV1 dX7_readMan_21 lk_X7_108 cw_X7_bad sh_79 rfl rfl (k_bad hP (by omega)) (by decide) (Nat.le_of_ble_eq_true rfl) (fun mem_21 hq => ?_)
    obtain ⟨k1, k2⟩ := hq
    first
    | (have hk7 : (k : Int) = 7 := by omega
       have eb : pBad 3 s = (s.1, 3, s.1) := by unfold pBad; rw [if_neg (by omega)]
       rw [eb] at k1
       have esm : ∀ c : Int, sM 1 c (s.1, 3, s.1) = (s.1, 3, s.1) := fun c => by unfold sM; rw [if_pos (show (3 : Int) ≠ 0 by omega)]
       refine rest mem_21 (s.1, 3, s.1) k1 k2 (fun q => absurd (show (3 : Int) = 0 from q) (by omega)) ?_ (fun q => ?_)
       · rw [esm]
         unfold pMan
         rw [if_neg (by have := hs.2; omega), if_pos (by omega)]
         rfl
       · rw [esm] at q
         exact absurd (show (3 : Int) = 0 from q) (by omega))
    | (have hk7 : ¬ (k : Int) = 7 := by omega
       have esm : sM 1 (mem 79 12) s = (s.1 + 1, 0, s.2.2) := by unfold sM; rw [if_neg (by have := hs.1; omega), if_pos rfl, hcur]
       refine rest mem s hP FrP.rf (fun _ => by have := hs.2.1; omega) ?_ (fun _ => ⟨esm, by omega⟩)
       rw [esm]
       unfold pMan pM3
       rw [if_neg (by have := hs.2; omega), if_neg (by omega)])
theorem k_mbegin {mem : ZMem} {t : Int → Int} {n : Int} (hT : MTp mem t n) (hR : Rg t n) : CV mX7_begin 2 [zr 79] mem (fun mem' => PsM mem' t n (0, 0, 0) ∧ FrP mem mem') := by
  have F1 : FrP mem (mset (mset mem 79 12 0) 79 16 0) := (FrP.rf.set (by omega)).set (by omega)
  have hn := hR.1
  refine CM.of (by decide +kernel) ([zr 79]) (zok_all rfl) (Nat.le_of_ble_eq_true rfl) rfl ?_
  refine J_al0 dX7_begin_0 ?_
  refine J_iconst dX7_begin_1 ?_
  refine M_put (ki := 12) dX7_begin_2 fl_X7_90 sh_79 rfl rfl rfl (fun r hr => by cases hr; rfl) ?_
  refine J_al0 dX7_begin_5 ?_
  refine J_iconst dX7_begin_6 ?_
  refine M_put (ki := 16) dX7_begin_7 fl_X7_81 sh_79 rfl rfl rfl (fun r hr => by cases hr; rfl) ?_
  refine J_al0 dX7_begin_10 ?_
  refine M_cvV0 dX7_begin_11 lk_X7_112 cw_X7_nextToken sh_79 rfl rfl (k_nextToken (p := 0) (hT.p F1) hR (by rw [mset_i (by omega), mset_s]) (by omega)) (by decide) (Nat.le_of_ble_eq_true rfl) (fun mem_11 hq => ?_)
  obtain ⟨k1, k2⟩ := hq
  refine M_vret dX7_begin_14 rfl ?_
  exact ⟨PsM.tok (by omega) k1 (by rw [k2.1 16 (by omega), mset_s]), F1.tr k2.p⟩
def sF (n : Int) (s : PS) : PS := if s.2.1 ≠ 0 then s else if s.1 = n then s else (s.1, 1, s.1)
theorem k_failed {mem : ZMem} {t : Int → Int} {n : Int} {s : PS} (hP : PsM mem t n s) : CI mX7_failed 1 [zr 79] mem (fun v mem' => v = bi (¬ (sF n s).2.1 = 0) ∧ mem' 79 11 = 0 ∧ mem' 79 18 = (if (sF n s).2.1 = 0 then mem 79 18 else (sF n s).2.1) ∧ ((sF n s).2.1 ≠ 0 → mem' 79 17 = (sF n s).2.2) ∧ (∀ x : Int, x < 11 ∨ 18 < x → mem' 79 x = mem 79 x) ∧ ∀ q : Nat, q ≠ 79 → mem' q = mem q) := by
  have rest : ∀ m2 : ZMem, PsM m2 t n (sF n s) → FrP mem m2 → JM mX7_failed 1 (QI (fun v mem' => v = bi (¬ (sF n s).2.1 = 0) ∧ mem' 79 11 = 0 ∧ mem' 79 18 = (if (sF n s).2.1 = 0 then mem 79 18 else (sF n s).2.1) ∧ ((sF n s).2.1 ≠ 0 → mem' 79 17 = (sF n s).2.2) ∧ (∀ x : Int, x < 11 ∨ 18 < x → mem' 79 x = mem 79 x) ∧ ∀ q : Nat, q ≠ 79 → mem' q = mem q)) 20 [zr 79] [] m2 := by
    intro m2 hP2 hF2
    obtain ⟨p1, p2, p3, p4, p5, p6⟩ := id hP2
    have g16 : mset m2 79 11 0 79 16 = (sF n s).2.1 := by rw [mset_i (by omega)]; exact p1
    have g18 : mset m2 79 11 0 79 18 = mem 79 18 := by rw [mset_i (by omega)]; exact hF2.1 18 (by omega)
    have fr : ∀ X : Int, mset (mset m2 79 11 0) 79 18 X 79 11 = 0 ∧ mset (mset m2 79 11 0) 79 18 X 79 18 = X ∧ ((sF n s).2.1 ≠ 0 → mset (mset m2 79 11 0) 79 18 X 79 17 = (sF n s).2.2) ∧ (∀ x : Int, x < 11 ∨ 18 < x → mset (mset m2 79 11 0) 79 18 X 79 x = mem 79 x) ∧ ∀ q : Nat, q ≠ 79 → mset (mset m2 79 11 0) 79 18 X q = mem q := fun X =>
      ⟨by rw [mset_i (by omega), mset_s], mset_s _ _ _ _, fun q => by rw [mset_i (by omega), mset_i (by omega)]; exact p5 q, fun x hx => by rw [mset_i (by omega), mset_i (by omega)]; exact hF2.1 x (by omega), fun q hq => by rw [mset_n hq, mset_n hq]; exact hF2.2 q hq⟩
    refine J_al0 dX7_failed_20 ?_
    refine J_iconst dX7_failed_21 ?_
    refine M_put (ki := 11) dX7_failed_22 fl_X7_77 sh_79 rfl rfl rfl (fun r hr => by cases hr; rfl) ?_
    refine J_al0 dX7_failed_25 ?_
    refine J_al0 dX7_failed_26 ?_
    refine M_get (ki := 16) dX7_failed_27 fl_X7_81 sh_79 rfl rfl ?_
    rw [g16]
    refine J_ifle (tgt := 40) dX7_failed_30 rfl (by omega) (fun c_30 => ?_) (fun c_30 => ?_)
    · skip
      refine J_al0 dX7_failed_40 ?_
      refine M_get (ki := 18) dX7_failed_41 fl_X7_119 sh_79 rfl rfl ?_
      first | rw [g18] | skip
      refine M_put (ki := 18) dX7_failed_44 fl_X7_119 sh_79 rfl rfl rfl (fun r hr => by cases hr; rfl) ?_
      refine J_al0 dX7_failed_47 ?_
      refine M_get (ki := 16) dX7_failed_48 fl_X7_81 sh_79 rfl rfl ?_
      rw [mset_i (by omega), g16]
      refine J_ifle (tgt := 58) dX7_failed_51 rfl (by omega) (fun c_51 => ?_) (fun c_51 => ?_)
      · skip
        refine J_iconst dX7_failed_58 ?_
        refine M_zret dX7_failed_59 rfl (by decide) ?_
        first
        | (exfalso; omega)
        | (obtain ⟨x1, x2, x3⟩ := fr (mem 79 18)
           exact ⟨(bi_f (fun z => z (by omega))).symm, x1, by rw [if_pos (by omega)]; exact x2, x3⟩)
        | (obtain ⟨x1, x2, x3⟩ := fr (sF n s).2.1
           exact ⟨(bi_t (by omega)).symm, x1, by rw [if_neg (by omega)]; exact x2, x3⟩)
      · skip
        refine J_iconst dX7_failed_54 ?_
        refine J_goto (tgt := 59) dX7_failed_55 rfl ?_
        refine M_zret dX7_failed_59 rfl (by decide) ?_
        first
        | (exfalso; omega)
        | (obtain ⟨x1, x2, x3⟩ := fr (mem 79 18)
           exact ⟨(bi_f (fun z => z (by omega))).symm, x1, by rw [if_pos (by omega)]; exact x2, x3⟩)
        | (obtain ⟨x1, x2, x3⟩ := fr (sF n s).2.1
           exact ⟨(bi_t (by omega)).symm, x1, by rw [if_neg (by omega)]; exact x2, x3⟩)
    · skip
      refine J_al0 dX7_failed_33 ?_
      refine M_get (ki := 16) dX7_failed_34 fl_X7_81 sh_79 rfl rfl ?_
      rw [g16]
      refine J_goto (tgt := 44) dX7_failed_37 rfl ?_
      first | rw [g18] | skip
      refine M_put (ki := 18) dX7_failed_44 fl_X7_119 sh_79 rfl rfl rfl (fun r hr => by cases hr; rfl) ?_
      refine J_al0 dX7_failed_47 ?_
      refine M_get (ki := 16) dX7_failed_48 fl_X7_81 sh_79 rfl rfl ?_
      rw [mset_i (by omega), g16]
      refine J_ifle (tgt := 58) dX7_failed_51 rfl (by omega) (fun c_51 => ?_) (fun c_51 => ?_)
      · skip
        refine J_iconst dX7_failed_58 ?_
        refine M_zret dX7_failed_59 rfl (by decide) ?_
        first
        | (exfalso; omega)
        | (obtain ⟨x1, x2, x3⟩ := fr (mem 79 18)
           exact ⟨(bi_f (fun z => z (by omega))).symm, x1, by rw [if_pos (by omega)]; exact x2, x3⟩)
        | (obtain ⟨x1, x2, x3⟩ := fr (sF n s).2.1
           exact ⟨(bi_t (by omega)).symm, x1, by rw [if_neg (by omega)]; exact x2, x3⟩)
      · skip
        refine J_iconst dX7_failed_54 ?_
        refine J_goto (tgt := 59) dX7_failed_55 rfl ?_
        refine M_zret dX7_failed_59 rfl (by decide) ?_
        first
        | (exfalso; omega)
        | (obtain ⟨x1, x2, x3⟩ := fr (mem 79 18)
           exact ⟨(bi_f (fun z => z (by omega))).symm, x1, by rw [if_pos (by omega)]; exact x2, x3⟩)
        | (obtain ⟨x1, x2, x3⟩ := fr (sF n s).2.1
           exact ⟨(bi_t (by omega)).symm, x1, by rw [if_neg (by omega)]; exact x2, x3⟩)
  obtain ⟨p1, p2, p3, p4, p5, p6⟩ := id hP
  have key : s.2.1 = 0 → (mem 79 14 = 1 ↔ s.1 = n) := fun q => by
    obtain ⟨g0, g1, g2, -⟩ := p6 q
    rw [g2]
    exact tk_end
  refine CM.of (by decide +kernel) ([zr 79]) (zok_all rfl) (Nat.le_of_ble_eq_true rfl) rfl ?_
  refine J_al0 dX7_failed_0 ?_
  refine M_get (ki := 16) dX7_failed_1 fl_X7_81 sh_79 rfl rfl ?_
  refine J_ifne (tgt := 20) dX7_failed_4 rfl (by omega) (fun c_4 => ?_) (fun c_4 => ?_)
  · skip
    first
    | (have e : sF n s = s := by unfold sF; rw [if_pos (by omega)]
       exact rest mem (by rw [e]; exact hP) FrP.rf)
    | (have q := key (by omega)
       have e : sF n s = s := by unfold sF; rw [if_neg (by omega), if_pos (by omega)]
       exact rest mem (by rw [e]; exact hP) FrP.rf)
    | (have q := key (by omega)
       have e : sF n s = pBad 1 s := by unfold sF pBad; rw [if_neg (by omega), if_neg (by omega), if_neg (by omega)]
       exact rest mem_17 (by rw [e]; exact k1) k2)
  · skip
    refine J_al0 dX7_failed_7 ?_
    refine M_get (ki := 14) dX7_failed_8 fl_X7_105 sh_79 rfl rfl ?_
    refine J_iconst dX7_failed_11 ?_
    refine J_ceq (tgt := 20) dX7_failed_12 rfl (by omega) (fun c_12 => ?_) (fun c_12 => ?_)
    · skip
      first
      | (have e : sF n s = s := by unfold sF; rw [if_pos (by omega)]
         exact rest mem (by rw [e]; exact hP) FrP.rf)
      | (have q := key (by omega)
         have e : sF n s = s := by unfold sF; rw [if_neg (by omega), if_pos (by omega)]
         exact rest mem (by rw [e]; exact hP) FrP.rf)
      | (have q := key (by omega)
         have e : sF n s = pBad 1 s := by unfold sF pBad; rw [if_neg (by omega), if_neg (by omega), if_neg (by omega)]
         exact rest mem_17 (by rw [e]; exact k1) k2)
    · skip
      refine J_al0 dX7_failed_15 ?_
      refine J_iconst dX7_failed_16 ?_
      refine M_cvV1 dX7_failed_17 lk_X7_108 cw_X7_bad sh_79 rfl rfl (k_bad hP (by omega)) (by decide) (Nat.le_of_ble_eq_true rfl) (fun mem_17 hq => ?_)
      obtain ⟨k1, k2⟩ := hq
      first
      | (have e : sF n s = s := by unfold sF; rw [if_pos (by omega)]
         exact rest mem (by rw [e]; exact hP) FrP.rf)
      | (have q := key (by omega)
         have e : sF n s = s := by unfold sF; rw [if_neg (by omega), if_pos (by omega)]
         exact rest mem (by rw [e]; exact hP) FrP.rf)
      | (have q := key (by omega)
         have e : sF n s = pBad 1 s := by unfold sF pBad; rw [if_neg (by omega), if_neg (by omega), if_neg (by omega)]
         exact rest mem_17 (by rw [e]; exact k1) k2)
