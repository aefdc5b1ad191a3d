def PsM (m : ZMem) (t : Int → Int) (n : Int) (s : PS) : Prop := m 79 16 = s.2.1 ∧ (0 ≤ s.2.1 ∧ s.2.1 ≤ 3) ∧ (0 ≤ m 79 14 ∧ m 79 14 ≤ 4) ∧ (-1000000 ≤ m 79 15 ∧ m 79 15 ≤ 1000) ∧ (s.2.1 ≠ 0 → m 79 17 = s.2.2) ∧ (s.2.1 = 0 → (0 ≤ s.1 ∧ s.1 ≤ n) ∧ Tok m t n s.1)
def pBad (k : Int) (s : PS) : PS := if s.2.1 ≠ 0 then s else (s.1, k, s.1)
theorem PsM.tok {m' : ZMem} {t : Int → Int} {n p x : Int} (hp : 0 ≤ p ∧ p ≤ n) (h : Tok m' t n p) (h16 : m' 79 16 = 0) : PsM m' t n (p, 0, x) := by
  have hk := tkF_range t n p
  obtain ⟨a, b, c, d, e⟩ := id h
  exact ⟨h16, by show (0 : Int) ≤ 0 ∧ (0 : Int) ≤ 3; omega, by omega, e, fun q => absurd rfl q, fun _ => ⟨hp, h⟩⟩
theorem PsM.ext {m m' : ZMem} {t : Int → Int} {n : Int} {s : PS} (h : PsM m t n s) (e : ∀ x : Int, 12 ≤ x → x ≤ 17 → m' 79 x = m 79 x) : PsM m' t n s := by
  unfold PsM Tok at h ⊢
  rw [e 16 (by omega) (by omega), e 14 (by omega) (by omega), e 15 (by omega) (by omega), e 17 (by omega) (by omega), e 13 (by omega) (by omega), e 12 (by omega) (by omega)]
  exact h
theorem k_bad {mem : ZMem} {t : Int → Int} {n k : Int} {s : PS} (hP : PsM mem t n s) (hk : 1 ≤ k ∧ k ≤ 3) : CV mX7_bad 0 [zr 79, zi k] mem (fun mem' => PsM mem' t n (pBad k s) ∧ FrP mem mem') := by
  obtain ⟨p1, p2, p3, p4, p5, p6⟩ := id hP
  refine CM.of (by decide +kernel) ([zr 79, zi k]) (zok_all rfl) (Nat.le_of_ble_eq_true rfl) rfl ?_
  refine J_al0 dX7_bad_0 ?_
  refine M_get (ki := 16) dX7_bad_1 fl_X7_81 sh_79 rfl rfl ?_
  refine J_ifne (tgt := 20) dX7_bad_4 rfl (by omega) (fun c_4 => ?_) (fun c_4 => ?_)
  · skip
    refine M_vret dX7_bad_20 rfl ?_
    first
    | (unfold pBad; rw [if_pos (by omega)]; exact ⟨hP, FrP.rf⟩)
    | (unfold pBad; rw [if_neg (by omega)]
       obtain ⟨-, q1, -⟩ := p6 (by omega)
       refine ⟨⟨?_, by show 0 ≤ k ∧ k ≤ 3; omega, ?_, ?_, fun _ => ?_, fun q => ?_⟩, (FrP.rf.set (by omega)).set (by omega)⟩
       · rw [mset_i (by omega), mset_s]
       · rw [mset_i (by omega), mset_i (by omega)]; exact p3
       · rw [mset_i (by omega), mset_i (by omega)]; exact p4
       · rw [mset_s, mset_i (by omega)]; exact q1
       · have q : k = 0 := q
         omega)
  · skip
    refine J_al0 dX7_bad_7 ?_
    refine J_il1 dX7_bad_8 ?_
    refine M_put (ki := 16) dX7_bad_9 fl_X7_81 sh_79 rfl rfl rfl (fun r hr => by cases hr; rfl) ?_
    refine J_al0 dX7_bad_12 ?_
    refine J_al0 dX7_bad_13 ?_
    refine M_get (ki := 13) dX7_bad_14 fl_X7_84 sh_79 rfl rfl ?_
    refine M_put (ki := 17) dX7_bad_17 fl_X7_87 sh_79 rfl rfl rfl (fun r hr => by cases hr; rfl) ?_
    refine M_vret dX7_bad_20 rfl ?_
    first
    | (unfold pBad; rw [if_pos (by omega)]; exact ⟨hP, FrP.rf⟩)
    | (unfold pBad; rw [if_neg (by omega)]
       obtain ⟨-, q1, -⟩ := p6 (by omega)
       refine ⟨⟨?_, by show 0 ≤ k ∧ k ≤ 3; omega, ?_, ?_, fun _ => ?_, fun q => ?_⟩, (FrP.rf.set (by omega)).set (by omega)⟩
       · rw [mset_i (by omega), mset_s]
       · rw [mset_i (by omega), mset_i (by omega)]; exact p3
       · rw [mset_i (by omega), mset_i (by omega)]; exact p4
       · rw [mset_s, mset_i (by omega)]; exact q1
       · have q : k = 0 := q
         omega)
def sM (b cur : Int) (s : PS) : PS := if s.2.1 ≠ 0 then s else if b = 1 then (cur, 0, s.2.2) else (s.1, 1, s.1)
theorem k_must {mem : ZMem} {t : Int → Int} {n b : Int} {s : PS} (hT : MTp mem t n) (hR : Rg t n) (hP : PsM mem t n s) (hb : b = 0 ∨ b = 1) (hc : s.2.1 = 0 → b = 1 → 0 ≤ mem 79 12 ∧ mem 79 12 ≤ n) : CV mX7_must 2 [zr 79, zi b] mem (fun mem' => PsM mem' t n (sM b (mem 79 12) s) ∧ FrP mem mem') := by
  have rest : ∀ (m2 : ZMem) (s2 : PS), PsM m2 t n s2 → FrP mem m2 → (s2.2.1 = 0 → 0 ≤ m2 79 12 ∧ m2 79 12 ≤ n) → (s2.2.1 ≠ 0 → sM b (mem 79 12) s = s2) → (s2.2.1 = 0 → sM b (mem 79 12) s = (m2 79 12, 0, s2.2.2)) → JM mX7_must 2 (QV (fun mem' => PsM mem' t n (sM b (mem 79 12) s) ∧ FrP mem mem')) 9 [zr 79, zi b] [] m2 := by
    intro m2 s2 hP2 hF2 hc2 y n0
    obtain ⟨p1, p2, p3, p4, p5, p6⟩ := id hP2
    refine J_al0 dX7_must_9 ?_
    refine M_get (ki := 16) dX7_must_10 fl_X7_81 sh_79 rfl rfl ?_
    refine J_ifne (tgt := 20) dX7_must_13 rfl (by omega) (fun c_13 => ?_) (fun c_13 => ?_)
    · skip
      refine M_vret dX7_must_20 rfl ?_
      first
      | (rw [y (by omega)]; exact ⟨hP2, hF2⟩)
      | (rw [n0 (by omega)]; exact ⟨PsM.tok (hc2 (by omega)) k1 (by rw [k2.1 16 (by omega)]; omega), hF2.tr k2.p⟩)
    · skip
      refine J_al0 dX7_must_16 ?_
      refine M_cvV0 dX7_must_17 lk_X7_112 cw_X7_nextToken sh_79 rfl rfl (k_nextToken (hT.p hF2) hR rfl (hc2 (by omega))) (by decide) (Nat.le_of_ble_eq_true rfl) (fun mem_17 hq => ?_)
      obtain ⟨k1, k2⟩ := hq
      refine M_vret dX7_must_20 rfl ?_
      first
      | (rw [y (by omega)]; exact ⟨hP2, hF2⟩)
      | (rw [n0 (by omega)]; exact ⟨PsM.tok (hc2 (by omega)) k1 (by rw [k2.1 16 (by omega)]; omega), hF2.tr k2.p⟩)
  have p2 := hP.2.1
  refine CM.of (by decide +kernel) ([zr 79, zi b]) (zok_all rfl) (Nat.le_of_ble_eq_true rfl) rfl ?_
  refine J_il1 dX7_must_0 ?_
  refine J_ifne (tgt := 9) dX7_must_1 rfl (by omega) (fun c_1 => ?_) (fun c_1 => ?_)
  · skip
    first
    | exact rest mem s hP FrP.rf (fun q => hc q (by omega)) (fun q => by unfold sM; rw [if_pos q]) (fun q => by unfold sM; rw [if_neg (by omega), if_pos (by omega)])
    | (have hbad : (pBad 1 s).2.1 ≠ 0 := by
         unfold pBad
         by_cases q : s.2.1 ≠ 0
         · rw [if_pos q]; exact q
         · rw [if_neg q]; show (1 : Int) ≠ 0; omega
       exact rest mem_6 (pBad 1 s) k1 k2 (fun q => absurd q hbad) (fun _ => by
         unfold sM pBad
         by_cases q : s.2.1 ≠ 0
         · rw [if_pos q, if_pos q]
         · rw [if_neg q, if_neg q, if_neg (by omega)]) (fun q => absurd q hbad))
  · skip
    refine J_al0 dX7_must_4 ?_
    refine J_iconst dX7_must_5 ?_
    refine M_cvV1 dX7_must_6 lk_X7_108 cw_X7_bad sh_79 rfl rfl (k_bad hP (by omega)) (by decide) (Nat.le_of_ble_eq_true rfl) (fun mem_6 hq => ?_)
    obtain ⟨k1, k2⟩ := hq
    first
    | exact rest mem s hP FrP.rf (fun q => hc q (by omega)) (fun q => by unfold sM; rw [if_pos q]) (fun q => by unfold sM; rw [if_neg (by omega), if_pos (by omega)])
    | (have hbad : (pBad 1 s).2.1 ≠ 0 := by
         unfold pBad
         by_cases q : s.2.1 ≠ 0
         · rw [if_pos q]; exact q
         · rw [if_neg q]; show (1 : Int) ≠ 0; omega
       exact rest mem_6 (pBad 1 s) k1 k2 (fun q => absurd q hbad) (fun _ => by
         unfold sM pBad
         by_cases q : s.2.1 ≠ 0
         · rw [if_pos q, if_pos q]
         · rw [if_neg q, if_neg q, if_neg (by omega)]) (fun q => absurd q hbad))
theorem k_mustSign {mem : ZMem} {t : Int → Int} {n c : Int} {s : PS} (hT : MTp mem t n) (hR : Rg t n) (hP : PsM mem t n s) (hcc : c = 44 ∨ c = 59) : CV mX7_mustSign 3 [zr 79, zi c] mem (fun mem' => PsM mem' t n (pSgn t n c s) ∧ FrP mem mem') := by
  obtain ⟨p1, p2, p3, p4, p5, p6⟩ := id hP
  have key : ∀ b : Int, ((b = 1 ∧ mem 79 14 = 4 ∧ mem 79 15 = c) ∨ (b = 0 ∧ ¬ (mem 79 14 = 4 ∧ mem 79 15 = c))) → (s.2.1 = 0 → b = 1 → 0 ≤ mem 79 12 ∧ mem 79 12 ≤ n) ∧ sM b (mem 79 12) s = pSgn t n c s := by
    intro b hb
    by_cases q : s.2.1 ≠ 0
    · exact ⟨fun z => absurd z q, by unfold sM pSgn; rw [if_pos q, if_pos q]⟩
    · obtain ⟨g0, g1, g2, g3, g4, g5⟩ := p6 (by omega)
      have hs := tk_sign (t := t) g0.2
      rcases hb with ⟨b1, b2, b3⟩ | ⟨b1, b2⟩
      · have h4 : tkF t n s.1 = 4 := by omega
        obtain ⟨v1, v2⟩ := g3 (Or.inr h4)
        have h5 := hs.mp h4
        exact ⟨fun _ _ => by omega, by unfold sM pSgn; rw [if_neg q, if_neg q, if_pos b1, if_pos ⟨h5.1, by omega⟩, v2]⟩
      · refine ⟨fun _ z => by omega, ?_⟩
        unfold sM pSgn
        rw [if_neg q, if_neg q, if_neg (by omega), if_neg]
        rintro ⟨z1, z2⟩
        have h4 := hs.mpr ⟨z1, by omega⟩
        have := g3 (Or.inr h4)
        exact b2 ⟨by omega, by omega⟩
  refine CM.of (by decide +kernel) ([zr 79, zi c]) (zok_all rfl) (Nat.le_of_ble_eq_true rfl) rfl ?_
  refine J_al0 dX7_mustSign_0 ?_
  refine J_al0 dX7_mustSign_1 ?_
  refine M_get (ki := 14) dX7_mustSign_2 fl_X7_105 sh_79 rfl rfl ?_
  refine J_iconst dX7_mustSign_5 ?_
  refine J_cne (tgt := 21) dX7_mustSign_6 rfl (by omega) (fun c_6 => ?_) (fun c_6 => ?_)
  · skip
    refine J_iconst dX7_mustSign_21 ?_
    refine M_cvV1 dX7_mustSign_22 lk_X7_115 cw_X7_must sh_79 rfl rfl (k_must hT hR hP (by omega) (key _ (by omega)).1) (by decide) (Nat.le_of_ble_eq_true rfl) (fun mem_22 hq => ?_)
    obtain ⟨k1, k2⟩ := hq
    refine M_vret dX7_mustSign_25 rfl ?_
    first
    | (rw [← (key 1 (by omega)).2]; exact ⟨k1, k2⟩)
    | (rw [← (key 0 (by omega)).2]; exact ⟨k1, k2⟩)
  · skip
    refine J_al0 dX7_mustSign_9 ?_
    refine M_get (ki := 15) dX7_mustSign_10 fl_X7_94 sh_79 rfl rfl ?_
    refine J_il1 dX7_mustSign_13 ?_
    refine J_cne (tgt := 21) dX7_mustSign_14 rfl (by omega) (fun c_14 => ?_) (fun c_14 => ?_)
    · skip
      refine J_iconst dX7_mustSign_21 ?_
      refine M_cvV1 dX7_mustSign_22 lk_X7_115 cw_X7_must sh_79 rfl rfl (k_must hT hR hP (by omega) (key _ (by omega)).1) (by decide) (Nat.le_of_ble_eq_true rfl) (fun mem_22 hq => ?_)
      obtain ⟨k1, k2⟩ := hq
      refine M_vret dX7_mustSign_25 rfl ?_
      first
      | (rw [← (key 1 (by omega)).2]; exact ⟨k1, k2⟩)
      | (rw [← (key 0 (by omega)).2]; exact ⟨k1, k2⟩)
    · skip
      refine J_iconst dX7_mustSign_17 ?_
      refine J_goto (tgt := 22) dX7_mustSign_18 rfl ?_
      refine M_cvV1 dX7_mustSign_22 lk_X7_115 cw_X7_must sh_79 rfl rfl (k_must hT hR hP (by omega) (key _ (by omega)).1) (by decide) (Nat.le_of_ble_eq_true rfl) (fun mem_22 hq => ?_)
      obtain ⟨k1, k2⟩ := hq
      refine M_vret dX7_mustSign_25 rfl ?_
      first
      | (rw [← (key 1 (by omega)).2]; exact ⟨k1, k2⟩)
      | (rw [← (key 0 (by omega)).2]; exact ⟨k1, k2⟩)
theorem k_isLetter {mem : ZMem} {t : Int → Int} {n c : Int} {s : PS} (hP : PsM mem t n s) (hcc : 97 ≤ c ∧ c ≤ 122) : CI mX7_isLetter 0 [zr 79, zi c] mem (fun v mem' => v = bi (s.2.1 = 0 ∧ s.1 < n ∧ t s.1 = c) ∧ mem' = mem) := by
  obtain ⟨p1, p2, p3, p4, p5, p6⟩ := id hP
  have no1 : ¬ s.2.1 = 0 → bi (s.2.1 = 0 ∧ s.1 < n ∧ t s.1 = c) = 0 := fun q => bi_f (fun z => q z.1)
  have key : s.2.1 = 0 → bi (s.2.1 = 0 ∧ s.1 < n ∧ t s.1 = c) = bi (mem 79 14 = 2 ∧ mem 79 15 = c) := fun q => by
    obtain ⟨g0, g1, g2, g3, g4, g5⟩ := p6 q
    have hs := tk_name (t := t) g0.2
    refine bi_congr ⟨fun z => ?_, fun z => ?_⟩
    · have h2 := hs.mpr ⟨z.2.1, by omega⟩
      have := g3 (Or.inl h2)
      exact ⟨by omega, by omega⟩
    · have h2 : tkF t n s.1 = 2 := by omega
      have := g3 (Or.inl h2)
      have := hs.mp h2
      exact ⟨q, this.1, by omega⟩
  refine CM.of (by decide +kernel) ([zr 79, zi c]) (zok_all rfl) (Nat.le_of_ble_eq_true rfl) rfl ?_
  refine J_al0 dX7_isLetter_0 ?_
  refine M_get (ki := 16) dX7_isLetter_1 fl_X7_81 sh_79 rfl rfl ?_
  refine J_ifne (tgt := 27) dX7_isLetter_4 rfl (by omega) (fun c_4 => ?_) (fun c_4 => ?_)
  · skip
    refine J_iconst dX7_isLetter_27 ?_
    refine M_zret dX7_isLetter_28 rfl (by decide) ?_
    first
    | exact ⟨(no1 (by omega)).symm, rfl⟩
    | exact ⟨by rw [key (by omega)]; exact (bi_t (by omega)).symm, rfl⟩
    | exact ⟨by rw [key (by omega)]; exact (bi_f (by omega)).symm, rfl⟩
  · skip
    refine J_al0 dX7_isLetter_7 ?_
    refine M_get (ki := 14) dX7_isLetter_8 fl_X7_105 sh_79 rfl rfl ?_
    refine J_iconst dX7_isLetter_11 ?_
    refine J_cne (tgt := 27) dX7_isLetter_12 rfl (by omega) (fun c_12 => ?_) (fun c_12 => ?_)
    · skip
      refine J_iconst dX7_isLetter_27 ?_
      refine M_zret dX7_isLetter_28 rfl (by decide) ?_
      first
      | exact ⟨(no1 (by omega)).symm, rfl⟩
      | exact ⟨by rw [key (by omega)]; exact (bi_t (by omega)).symm, rfl⟩
      | exact ⟨by rw [key (by omega)]; exact (bi_f (by omega)).symm, rfl⟩
    · skip
      refine J_al0 dX7_isLetter_15 ?_
      refine M_get (ki := 15) dX7_isLetter_16 fl_X7_94 sh_79 rfl rfl ?_
      refine J_il1 dX7_isLetter_19 ?_
      refine J_cne (tgt := 27) dX7_isLetter_20 rfl (by omega) (fun c_20 => ?_) (fun c_20 => ?_)
      · skip
        refine J_iconst dX7_isLetter_27 ?_
        refine M_zret dX7_isLetter_28 rfl (by decide) ?_
        first
        | exact ⟨(no1 (by omega)).symm, rfl⟩
        | exact ⟨by rw [key (by omega)]; exact (bi_t (by omega)).symm, rfl⟩
        | exact ⟨by rw [key (by omega)]; exact (bi_f (by omega)).symm, rfl⟩
      · skip
        refine J_iconst dX7_isLetter_23 ?_
        refine J_goto (tgt := 28) dX7_isLetter_24 rfl ?_
        refine M_zret dX7_isLetter_28 rfl (by decide) ?_
        first
        | exact ⟨(no1 (by omega)).symm, rfl⟩
        | exact ⟨by rw [key (by omega)]; exact (bi_t (by omega)).symm, rfl⟩
        | exact ⟨by rw [key (by omega)]; exact (bi_f (by omega)).symm, rfl⟩
theorem k_kindBy {mem : ZMem} {c : Int} (hc : In32 c) : CI mX7_kindBy 0 [zi c] mem (fun v mem' => v = (if kOf c = 0 then -1000000 else kOf c) ∧ mem' = mem) := by
  have key : ∀ v : Int, ((c = 115 ∧ v = 1) ∨ (c = 110 ∧ v = 2) ∨ (c = 97 ∧ v = 3) ∨ (c = 98 ∧ v = 4) ∨ (c = 100 ∧ v = 5) ∨ (c ≠ 115 ∧ c ≠ 110 ∧ c ≠ 97 ∧ c ≠ 98 ∧ c ≠ 100 ∧ v = -1000000)) → v = (if kOf c = 0 then -1000000 else kOf c) := by
    intro v hv
    unfold kOf
    rcases hv with ⟨rfl, rfl⟩ | ⟨rfl, rfl⟩ | ⟨rfl, rfl⟩ | ⟨rfl, rfl⟩ | ⟨rfl, rfl⟩ | ⟨h1, h2, h3, h4, h5, rfl⟩
    · rfl
    · rfl
    · rfl
    · rfl
    · rfl
    · rw [if_neg h1, if_neg h2, if_neg h3, if_neg h4, if_neg h5, if_pos rfl]
  refine CM.of (by decide +kernel) ([zi c]) (zok_all rfl) (Nat.le_of_ble_eq_true rfl) rfl ?_
  refine J_il0 dX7_kindBy_0 ?_
  refine J_bipush dX7_kindBy_1 rfl ?_
  refine J_cne (tgt := 10) dX7_kindBy_3 rfl (by omega) (fun c_3 => ?_) (fun c_3 => ?_)
  · skip
    refine J_il0 dX7_kindBy_10 ?_
    refine J_bipush dX7_kindBy_11 rfl ?_
    refine J_cne (tgt := 20) dX7_kindBy_13 rfl (by omega) (fun c_13 => ?_) (fun c_13 => ?_)
    · skip
      refine J_il0 dX7_kindBy_20 ?_
      refine J_bipush dX7_kindBy_21 rfl ?_
      refine J_cne (tgt := 30) dX7_kindBy_23 rfl (by omega) (fun c_23 => ?_) (fun c_23 => ?_)
      · skip
        refine J_il0 dX7_kindBy_30 ?_
        refine J_bipush dX7_kindBy_31 rfl ?_
        refine J_cne (tgt := 40) dX7_kindBy_33 rfl (by omega) (fun c_33 => ?_) (fun c_33 => ?_)
        · skip
          refine J_il0 dX7_kindBy_40 ?_
          refine J_bipush dX7_kindBy_41 rfl ?_
          refine J_cne (tgt := 50) dX7_kindBy_43 rfl (by omega) (fun c_43 => ?_) (fun c_43 => ?_)
          · skip
            refine J_ldc (n := -1000000) dX7_kindBy_50 co_X7_93 (by decide) ?_
            refine M_iret dX7_kindBy_52 rfl ?_
            exact ⟨key _ (by omega), rfl⟩
          · skip
            refine J_iconst dX7_kindBy_46 ?_
            refine J_goto (tgt := 52) dX7_kindBy_47 rfl ?_
            refine M_iret dX7_kindBy_52 rfl ?_
            exact ⟨key _ (by omega), rfl⟩
        · skip
          refine J_iconst dX7_kindBy_36 ?_
          refine J_goto (tgt := 52) dX7_kindBy_37 rfl ?_
          refine M_iret dX7_kindBy_52 rfl ?_
          exact ⟨key _ (by omega), rfl⟩
      · skip
        refine J_iconst dX7_kindBy_26 ?_
        refine J_goto (tgt := 52) dX7_kindBy_27 rfl ?_
        refine M_iret dX7_kindBy_52 rfl ?_
        exact ⟨key _ (by omega), rfl⟩
    · skip
      refine J_iconst dX7_kindBy_16 ?_
      refine J_goto (tgt := 52) dX7_kindBy_17 rfl ?_
      refine M_iret dX7_kindBy_52 rfl ?_
      exact ⟨key _ (by omega), rfl⟩
  · skip
    refine J_iconst dX7_kindBy_6 ?_
    refine J_goto (tgt := 52) dX7_kindBy_7 rfl ?_
    refine M_iret dX7_kindBy_52 rfl ?_
    exact ⟨key _ (by omega), rfl⟩
theorem kOf_let {c : Int} (h : kOf c ≠ 0) : 97 ≤ c ∧ c ≤ 122 := by
  unfold kOf at h
  by_cases h1 : c = 115
  · omega
  · by_cases h2 : c = 110
    · omega
    · by_cases h3 : c = 97
      · omega
      · by_cases h4 : c = 98
        · omega
        · by_cases h5 : c = 100
          · omega
          · rw [if_neg h1, if_neg h2, if_neg h3, if_neg h4, if_neg h5] at h; exact absurd rfl h
abbrev isS (t : Int → Int) (n : Int) (s : PS) : Prop := s.2.1 = 0 ∧ s.1 < n ∧ kOf (t s.1) ≠ 0
theorem k_isSort {mem : ZMem} {t : Int → Int} {n : Int} {s : PS} (hP : PsM mem t n s) : CI mX7_isSort 1 [zr 79] mem (fun v mem' => v = bi (isS t n s) ∧ mem' = mem) := by
  obtain ⟨p1, p2, p3, p4, p5, p6⟩ := id hP
  have hk := kOf_range (mem 79 15)
  have hi : In32 (if kOf (mem 79 15) = 0 then -1000000 else kOf (mem 79 15)) ∧ ((if kOf (mem 79 15) = 0 then -1000000 else kOf (mem 79 15)) = -1000000 ↔ kOf (mem 79 15) = 0) := by
    split <;> omega
  have no1 : ¬ s.2.1 = 0 → bi (isS t n s) = 0 := fun q => bi_f (fun z => q z.1)
  have key : s.2.1 = 0 → bi (isS t n s) = bi (mem 79 14 = 2 ∧ kOf (mem 79 15) ≠ 0) := fun q => by
    obtain ⟨g0, g1, g2, g3, g4, g5⟩ := p6 q
    have hs := tk_name (t := t) g0.2
    refine bi_congr ⟨fun z => ?_, fun z => ?_⟩
    · have h2 := hs.mpr ⟨z.2.1, kOf_let z.2.2⟩
      have h3 := (g3 (Or.inl h2)).1
      exact ⟨by omega, by rw [h3]; exact z.2.2⟩
    · have h2 : tkF t n s.1 = 2 := by omega
      have h3 := (g3 (Or.inl h2)).1
      have := hs.mp h2
      exact ⟨q, this.1, by rw [← h3]; exact z.2⟩
  refine CM.of (by decide +kernel) ([zr 79]) (zok_all rfl) (Nat.le_of_ble_eq_true rfl) rfl ?_
  refine J_al0 dX7_isSort_0 ?_
  refine M_get (ki := 16) dX7_isSort_1 fl_X7_81 sh_79 rfl rfl ?_
  refine J_ifne (tgt := 31) dX7_isSort_4 rfl (by omega) (fun c_4 => ?_) (fun c_4 => ?_)
  · skip
    refine J_iconst dX7_isSort_31 ?_
    refine M_zret dX7_isSort_32 rfl (by decide) ?_
    first
    | exact ⟨(no1 (by omega)).symm, rfl⟩
    | exact ⟨by rw [key (by omega)]; exact (bi_t (by omega)).symm, rfl⟩
    | exact ⟨by rw [key (by omega)]; exact (bi_f (by omega)).symm, rfl⟩
  · skip
    refine J_al0 dX7_isSort_7 ?_
    refine M_get (ki := 14) dX7_isSort_8 fl_X7_105 sh_79 rfl rfl ?_
    refine J_iconst dX7_isSort_11 ?_
    refine J_cne (tgt := 31) dX7_isSort_12 rfl (by omega) (fun c_12 => ?_) (fun c_12 => ?_)
    · skip
      refine J_iconst dX7_isSort_31 ?_
      refine M_zret dX7_isSort_32 rfl (by decide) ?_
      first
      | exact ⟨(no1 (by omega)).symm, rfl⟩
      | exact ⟨by rw [key (by omega)]; exact (bi_t (by omega)).symm, rfl⟩
      | exact ⟨by rw [key (by omega)]; exact (bi_f (by omega)).symm, rfl⟩
    · skip
      refine J_al0 dX7_isSort_15 ?_
      refine M_get (ki := 15) dX7_isSort_16 fl_X7_94 sh_79 rfl rfl ?_
      refine M_csI1 dX7_isSort_19 lk_X7_122 cw_X7_kindBy (k_kindBy (by omega)) (by decide) (Nat.le_of_ble_eq_true rfl) (fun v_19 mem_19 hq => ?_)
      obtain ⟨e9, hq⟩ := hq; have hq := hq.symm; subst hq; rw [← e9] at hi
      refine J_ldc (n := -1000000) dX7_isSort_22 co_X7_93 (by decide) ?_
      refine J_ceq (tgt := 31) dX7_isSort_24 rfl (by omega) (fun c_24 => ?_) (fun c_24 => ?_)
      · skip
        refine J_iconst dX7_isSort_31 ?_
        refine M_zret dX7_isSort_32 rfl (by decide) ?_
        first
        | exact ⟨(no1 (by omega)).symm, rfl⟩
        | exact ⟨by rw [key (by omega)]; exact (bi_t (by omega)).symm, rfl⟩
        | exact ⟨by rw [key (by omega)]; exact (bi_f (by omega)).symm, rfl⟩
      · skip
        refine J_iconst dX7_isSort_27 ?_
        refine J_goto (tgt := 32) dX7_isSort_28 rfl ?_
        refine M_zret dX7_isSort_32 rfl (by decide) ?_
        first
        | exact ⟨(no1 (by omega)).symm, rfl⟩
        | exact ⟨by rw [key (by omega)]; exact (bi_t (by omega)).symm, rfl⟩
        | exact ⟨by rw [key (by omega)]; exact (bi_f (by omega)).symm, rfl⟩
theorem k_number {mem : ZMem} {t : Int → Int} {n lo hi : Int} {s : PS} (hT : MTp mem t n) (hR : Rg t n) (hP : PsM mem t n s) (hlo : 0 ≤ lo ∧ lo ≤ 100) (hhi : 0 ≤ hi ∧ hi ≤ 100) : CI mX7_number 3 [zr 79, zi lo, zi hi] mem (fun v mem' => ((pNum t n lo hi s).2.1 = 0 → v = nval t n s.1) ∧ PsM mem' t n (pNum t n lo hi s) ∧ FrP mem mem') := by
  have three : ∀ (m2 : ZMem) (s2 : PS), PsM m2 t n s2 → FrP mem m2 → (s2.2.1 ≠ 0 → pNum t n lo hi s = s2) → (s2.2.1 = 0 → s2 = s ∧ (1 ≤ nlen t n s.1 ∧ nlen t n s.1 ≤ 2) ∧ (lo ≤ nval t n s.1 ∧ nval t n s.1 ≤ hi)) → ∀ z : ZV, JM mX7_number 3 (QI (fun v mem' => ((pNum t n lo hi s).2.1 = 0 → v = nval t n s.1) ∧ PsM mem' t n (pNum t n lo hi s) ∧ FrP mem mem')) 47 [zr 79, zi lo, zi hi, z] [] m2 := by
    intro m2 s2 hP2 hF2 y n0 z
    obtain ⟨p1, p2, p3, p4, p5, p6⟩ := id hP2
    have cur : s2.2.1 = 0 → m2 79 15 = nval t n s.1 ∧ m2 79 12 = s.1 + nlen t n s.1 ∧ s.1 + nlen t n s.1 ≤ n ∧ 0 ≤ s.1 := fun q => by
      obtain ⟨e, h1, h2⟩ := n0 q
      obtain ⟨g0, g1, g2, g3, g4, g5⟩ := p6 q
      rw [e] at g0 g4
      have h3 := (tk_num (t := t) g0.2).mpr h1
      have := g4 h3
      have := (nlen_fit h1.1 h1.2).1
      omega
    have ends : sM 1 (m2 79 12) s2 = pNum t n lo hi s := by
      unfold sM
      by_cases q : s2.2.1 ≠ 0
      · rw [if_pos q, y q]
      · obtain ⟨e, h1, h2⟩ := n0 (by omega)
        obtain ⟨c1, c2, c3⟩ := cur (by omega)
        have q' : ¬ s.2.1 ≠ 0 := by rw [← e]; exact q
        unfold pNum
        rw [if_neg q, if_pos rfl, if_neg q', if_neg (by omega), if_neg (by omega), c2, e]
    refine J_al0 dX7_number_47 ?_
    refine M_get (ki := 16) dX7_number_48 fl_X7_81 sh_79 rfl rfl ?_
    refine J_ifne (tgt := 61) dX7_number_51 rfl (by omega) (fun c_51 => ?_) (fun c_51 => ?_)
    · skip
      refine J_il1 dX7_number_61 ?_
      refine J_is3 dX7_number_62 (by decide) rfl ?_
      refine J_al0 dX7_number_63 ?_
      refine J_iconst dX7_number_64 ?_
      refine M_cvV1 dX7_number_65 lk_X7_115 cw_X7_must sh_79 rfl rfl (k_must (hT.p hF2) hR hP2 (by omega) (fun q _ => by have := cur q; have := nlen_range t n s.1; omega)) (by decide) (Nat.le_of_ble_eq_true rfl) (fun mem_65 hq => ?_)
      obtain ⟨k1, k2⟩ := hq; rw [ends] at k1
      refine J_il3 dX7_number_68 ?_
      refine M_iret dX7_number_69 rfl ?_
      first
      | exact ⟨fun q => absurd (show s2.2.1 = 0 from by rw [← y (by omega)]; exact q) (by omega), k1, hF2.tr k2⟩
      | exact ⟨fun q => (cur (by omega)).1, k1, hF2.tr k2⟩
    · skip
      refine J_al0 dX7_number_54 ?_
      refine M_get (ki := 15) dX7_number_55 fl_X7_94 sh_79 rfl rfl ?_
      refine J_goto (tgt := 62) dX7_number_58 rfl ?_
      refine J_is3 dX7_number_62 (by decide) rfl ?_
      refine J_al0 dX7_number_63 ?_
      refine J_iconst dX7_number_64 ?_
      refine M_cvV1 dX7_number_65 lk_X7_115 cw_X7_must sh_79 rfl rfl (k_must (hT.p hF2) hR hP2 (by omega) (fun q _ => by have := cur q; have := nlen_range t n s.1; omega)) (by decide) (Nat.le_of_ble_eq_true rfl) (fun mem_65 hq => ?_)
      obtain ⟨k1, k2⟩ := hq; rw [ends] at k1
      refine J_il3 dX7_number_68 ?_
      refine M_iret dX7_number_69 rfl ?_
      first
      | exact ⟨fun q => absurd (show s2.2.1 = 0 from by rw [← y (by omega)]; exact q) (by omega), k1, hF2.tr k2⟩
      | exact ⟨fun q => (cur (by omega)).1, k1, hF2.tr k2⟩
  have two : ∀ (m2 : ZMem) (s2 : PS), PsM m2 t n s2 → FrP mem m2 → (s2.2.1 ≠ 0 → pNum t n lo hi s = s2) → (s2.2.1 = 0 → s2 = s ∧ (1 ≤ nlen t n s.1 ∧ nlen t n s.1 ≤ 2)) → ∀ z : ZV, JM mX7_number 3 (QI (fun v mem' => ((pNum t n lo hi s).2.1 = 0 → v = nval t n s.1) ∧ PsM mem' t n (pNum t n lo hi s) ∧ FrP mem mem')) 20 [zr 79, zi lo, zi hi, z] [] m2 := by
    intro m2 s2 hP2 hF2 y n0 z
    obtain ⟨p1, p2, p3, p4, p5, p6⟩ := id hP2
    have cur : s2.2.1 = 0 → m2 79 15 = nval t n s.1 := fun q => by
      obtain ⟨e, h1⟩ := n0 q
      obtain ⟨g0, g1, g2, g3, g4, g5⟩ := p6 q
      rw [e] at g0 g4
      exact (g4 ((tk_num (t := t) g0.2).mpr h1)).1
    refine J_al0 dX7_number_20 ?_
    refine M_get (ki := 16) dX7_number_21 fl_X7_81 sh_79 rfl rfl ?_
    refine J_ifne (tgt := 47) dX7_number_24 rfl (by omega) (fun c_24 => ?_) (fun c_24 => ?_)
    · skip
      first
      | (have q : s2.2.1 ≠ 0 := by omega
         exact three m2 s2 hP2 hF2 y (fun z => absurd z q) z)
      | (have q : s2.2.1 = 0 := by omega
         obtain ⟨e, h1⟩ := n0 q
         have cv := cur q
         exact three m2 s2 hP2 hF2 (fun z => absurd q z) (fun _ => ⟨e, h1, by omega⟩) z)
      | (have q : s2.2.1 = 0 := by omega
         obtain ⟨e, h1⟩ := n0 q
         have cv := cur q
         have eb : pBad 2 s2 = (s2.1, 2, s2.1) := by unfold pBad; rw [if_neg (by omega)]
         rw [eb] at k1
         refine three mem_44 (s2.1, 2, s2.1) k1 (hF2.tr k2) (fun _ => ?_) (fun z => absurd (show (2 : Int) = 0 from z) (by omega)) z
         have q' : ¬ s.2.1 ≠ 0 := by rw [← e]; omega
         unfold pNum
         rw [if_neg q', if_neg (by omega), if_pos (by omega), e])
    · skip
      refine J_al0 dX7_number_27 ?_
      refine M_get (ki := 15) dX7_number_28 fl_X7_94 sh_79 rfl rfl ?_
      refine J_i2l dX7_number_31 (by omega) ?_
      refine J_il1 dX7_number_32 ?_
      refine J_i2l dX7_number_33 (by omega) ?_
      refine J_il2 dX7_number_34 ?_
      refine J_i2l dX7_number_35 (by omega) ?_
      refine M_csI3 dX7_number_36 lk_X7_60 cw_X7_in (k_in (by omega) (by omega) (by omega)) (by decide) (Nat.le_of_ble_eq_true rfl) (fun v_36 mem_36 hq => ?_)
      obtain ⟨rfl, hq⟩ := hq; have hq := hq.symm; subst hq
      refine J_ifne_b (tgt := 47) dX7_number_39 rfl (fun c_39 => ?_) (fun c_39 => ?_)
      · skip
        first
        | (have q : s2.2.1 ≠ 0 := by omega
           exact three m2 s2 hP2 hF2 y (fun z => absurd z q) z)
        | (have q : s2.2.1 = 0 := by omega
           obtain ⟨e, h1⟩ := n0 q
           have cv := cur q
           exact three m2 s2 hP2 hF2 (fun z => absurd q z) (fun _ => ⟨e, h1, by omega⟩) z)
        | (have q : s2.2.1 = 0 := by omega
           obtain ⟨e, h1⟩ := n0 q
           have cv := cur q
           have eb : pBad 2 s2 = (s2.1, 2, s2.1) := by unfold pBad; rw [if_neg (by omega)]
           rw [eb] at k1
           refine three mem_44 (s2.1, 2, s2.1) k1 (hF2.tr k2) (fun _ => ?_) (fun z => absurd (show (2 : Int) = 0 from z) (by omega)) z
           have q' : ¬ s.2.1 ≠ 0 := by rw [← e]; omega
           unfold pNum
           rw [if_neg q', if_neg (by omega), if_pos (by omega), e])
      · skip
        refine J_al0 dX7_number_42 ?_
        refine J_iconst dX7_number_43 ?_
        refine M_cvV1 dX7_number_44 lk_X7_108 cw_X7_bad sh_79 rfl rfl (k_bad hP2 (by omega)) (by decide) (Nat.le_of_ble_eq_true rfl) (fun mem_44 hq => ?_)
        obtain ⟨k1, k2⟩ := hq
        first
        | (have q : s2.2.1 ≠ 0 := by omega
           exact three m2 s2 hP2 hF2 y (fun z => absurd z q) z)
        | (have q : s2.2.1 = 0 := by omega
           obtain ⟨e, h1⟩ := n0 q
           have cv := cur q
           exact three m2 s2 hP2 hF2 (fun z => absurd q z) (fun _ => ⟨e, h1, by omega⟩) z)
        | (have q : s2.2.1 = 0 := by omega
           obtain ⟨e, h1⟩ := n0 q
           have cv := cur q
           have eb : pBad 2 s2 = (s2.1, 2, s2.1) := by unfold pBad; rw [if_neg (by omega)]
           rw [eb] at k1
           refine three mem_44 (s2.1, 2, s2.1) k1 (hF2.tr k2) (fun _ => ?_) (fun z => absurd (show (2 : Int) = 0 from z) (by omega)) z
           have q' : ¬ s.2.1 ≠ 0 := by rw [← e]; omega
           unfold pNum
           rw [if_neg q', if_neg (by omega), if_pos (by omega), e])
  obtain ⟨p1, p2, p3, p4, p5, p6⟩ := id hP
  have hl := nlen_range t n s.1
  have cur : s.2.1 = 0 → (mem 79 14 = 3 ↔ (1 ≤ nlen t n s.1 ∧ nlen t n s.1 ≤ 2)) := fun q => by
    obtain ⟨g0, g1, g2, -⟩ := p6 q
    rw [g2]
    exact tk_num g0.2
  refine CM.of (by decide +kernel) ([zr 79, zi lo, zi hi, zu]) (zok_all rfl) (Nat.le_of_ble_eq_true rfl) rfl ?_
  refine J_al0 dX7_number_0 ?_
  refine M_get (ki := 16) dX7_number_1 fl_X7_81 sh_79 rfl rfl ?_
  refine J_ifne (tgt := 20) dX7_number_4 rfl (by omega) (fun c_4 => ?_) (fun c_4 => ?_)
  · skip
    first
    | (have q : s.2.1 ≠ 0 := by omega
       exact two mem s hP FrP.rf (fun _ => by unfold pNum; rw [if_pos q]) (fun z => absurd z q) zu)
    | (have q : s.2.1 = 0 := by omega
       have hc := (cur q).mp (by omega)
       exact two mem s hP FrP.rf (fun z => absurd q z) (fun _ => ⟨rfl, hc⟩) zu)
    | (have q : s.2.1 = 0 := by omega
       have hc := cur q
       have eb : pBad 1 s = (s.1, 1, s.1) := by unfold pBad; rw [if_neg (by omega)]
       rw [eb] at k1
       refine two mem_17 (s.1, 1, s.1) k1 k2 (fun _ => ?_) (fun z => absurd (show (1 : Int) = 0 from z) (by omega)) zu
       unfold pNum
       rw [if_neg (by omega), if_pos (by omega)])
  · skip
    refine J_al0 dX7_number_7 ?_
    refine M_get (ki := 14) dX7_number_8 fl_X7_105 sh_79 rfl rfl ?_
    refine J_iconst dX7_number_11 ?_
    refine J_ceq (tgt := 20) dX7_number_12 rfl (by omega) (fun c_12 => ?_) (fun c_12 => ?_)
    · skip
      first
      | (have q : s.2.1 ≠ 0 := by omega
         exact two mem s hP FrP.rf (fun _ => by unfold pNum; rw [if_pos q]) (fun z => absurd z q) zu)
      | (have q : s.2.1 = 0 := by omega
         have hc := (cur q).mp (by omega)
         exact two mem s hP FrP.rf (fun z => absurd q z) (fun _ => ⟨rfl, hc⟩) zu)
      | (have q : s.2.1 = 0 := by omega
         have hc := cur q
         have eb : pBad 1 s = (s.1, 1, s.1) := by unfold pBad; rw [if_neg (by omega)]
         rw [eb] at k1
         refine two mem_17 (s.1, 1, s.1) k1 k2 (fun _ => ?_) (fun z => absurd (show (1 : Int) = 0 from z) (by omega)) zu
         unfold pNum
         rw [if_neg (by omega), if_pos (by omega)])
    · skip
      refine J_al0 dX7_number_15 ?_
      refine J_iconst dX7_number_16 ?_
      refine M_cvV1 dX7_number_17 lk_X7_108 cw_X7_bad sh_79 rfl rfl (k_bad hP (by omega)) (by decide) (Nat.le_of_ble_eq_true rfl) (fun mem_17 hq => ?_)
      obtain ⟨k1, k2⟩ := hq
      first
      | (have q : s.2.1 ≠ 0 := by omega
         exact two mem s hP FrP.rf (fun _ => by unfold pNum; rw [if_pos q]) (fun z => absurd z q) zu)
      | (have q : s.2.1 = 0 := by omega
         have hc := (cur q).mp (by omega)
         exact two mem s hP FrP.rf (fun z => absurd q z) (fun _ => ⟨rfl, hc⟩) zu)
      | (have q : s.2.1 = 0 := by omega
         have hc := cur q
         have eb : pBad 1 s = (s.1, 1, s.1) := by unfold pBad; rw [if_neg (by omega)]
         rw [eb] at k1
         refine two mem_17 (s.1, 1, s.1) k1 k2 (fun _ => ?_) (fun z => absurd (show (1 : Int) = 0 from z) (by omega)) zu
         unfold pNum
         rw [if_neg (by omega), if_pos (by omega)])
