theorem sgn_let {m : ZMem} {t : Int → Int} {n : Int} {s : PS} (hP : PsM m t n s) : (s.2.1 = 0 → bi (s.2.1 = 0 ∧ s.1 < n ∧ t s.1 = 98) = 1 → 0 ≤ m 79 12 ∧ m 79 12 ≤ n) ∧ sM (bi (s.2.1 = 0 ∧ s.1 < n ∧ t s.1 = 98)) (m 79 12) s = pSgn t n 98 s := by
  obtain ⟨p1, p2, p3, p4, p5, p6⟩ := id hP
  by_cases q : s.2.1 ≠ 0
  · exact ⟨fun z => absurd z q, by unfold sM pSgn; rw [if_pos q, if_pos q]⟩
  · obtain ⟨g0, g1, g2, g3, g4, g5⟩ := p6 (by omega)
    by_cases c : s.1 < n ∧ t s.1 = 98
    · have h2 := (tk_name (t := t) g0.2).mpr ⟨c.1, by omega⟩
      obtain ⟨v1, v2⟩ := g3 (Or.inl h2)
      refine ⟨fun _ _ => by omega, ?_⟩
      rw [bi_t ⟨by omega, c⟩]
      unfold sM pSgn
      rw [if_neg q, if_neg q, if_pos rfl, if_pos c, v2]
    · rw [bi_f (fun z => c z.2)]
      refine ⟨fun _ z => by omega, ?_⟩
      unfold sM pSgn
      rw [if_neg q, if_neg q, if_neg (by omega), if_neg c]
theorem MFr.law {f : Int → Int} {t : Int → Int} {n : Int} (h : ∀ x : Int, 0 ≤ x → x < 50 → f x = 0) : MFr (zup (zup (zup f 0 1) 1 (nval t n (pL1 t n (0, 0, 0)).1)) 2 (nval t n (pL3 t n (0, 0, 0)).1)) (lawR t n) 0 := by
  refine ⟨⟨?_, ?_, ?_, ?_, ?_, ?_, ?_⟩, fun m m0 m1 => by omega, fun x x0 x1 => ?_⟩
  · rw [zup_n (by omega), zup_n (by omega), zup_s]
  · rw [zup_n (by omega), zup_s]; rfl
  · rw [zup_s]; rfl
  · rw [zup_n (by omega), zup_n (by omega), zup_n (by omega), h 3 (by omega) (by omega)]; rfl
  · rw [zup_n (by omega), zup_n (by omega), zup_n (by omega), h 4 (by omega) (by omega)]
  · rw [zup_n (by omega), zup_n (by omega), zup_n (by omega), h 5 (by omega) (by omega)]
  · rw [zup_n (by omega), zup_n (by omega), zup_n (by omega), h 6 (by omega) (by omega)]
  · rw [zup_n (by omega), zup_n (by omega), zup_n (by omega), h x (by omega) x1]
theorem MFr.mb {f g r : Int → Int} {k : Nat} (h : MFr f r k) (hT : Told r k) (h1 : 1 ≤ k) (e : ∀ x : Int, 0 ≤ x → x < 50 → g x = zup f 7 (k : Int) x) : MB g r (rng k) := by
  obtain ⟨⟨a0, a1, a2, a3, a4, a5, a6⟩, b, c⟩ := h
  obtain ⟨t3, tk, t4, t5, t6, -⟩ := hT
  have e' : ∀ x : Int, 0 ≤ x → x < 50 → x ≠ 7 → g x = f x := fun x x0 x1 x2 => by rw [e x x0 x1, zup_n x2]
  refine ⟨⟨⟨?_, ?_, ?_, ?_, ?_, ?_⟩, fun p p0 p1 => ?_, fun m m0 m1 => ?_⟩, ?_, ?_⟩
  · rw [e' 1 (by omega) (by omega) (by omega)]; exact a1
  · rw [e' 2 (by omega) (by omega) (by omega)]; exact a2
  · rw [e' 3 (by omega) (by omega) (by omega), t3]; exact a3
  · rw [e' 4 (by omega) (by omega) (by omega), t4]; exact a4
  · rw [e' 5 (by omega) (by omega) (by omega), t5]; exact a5
  · rw [e 7 (by omega) (by omega), zup_s, rng_len]
  · rw [rng_len] at p1
    rw [e' _ (by omega) (by omega) (by omega), lget_rng p0 p1]
    exact (b p p0 p1).1
  · obtain ⟨d0, d1, d2, d3, d4, d5⟩ := b m m0 (by omega)
    rw [e' _ (by omega) (by omega) (by omega), e' _ (by omega) (by omega) (by omega), e' _ (by omega) (by omega) (by omega), e' _ (by omega) (by omega) (by omega), e' _ (by omega) (by omega) (by omega)]
    exact ⟨d1, d2, d3, d4, d5⟩
  · rw [e' 6 (by omega) (by omega) (by omega), t6]; exact a6
  · rw [e' 0 (by omega) (by omega) (by omega), bi_t (by omega)]; exact a0
/-- all but the tape, the fault and the fresh row -/
theorem MS.tpf {mem mem' : ZMem} {S : ZS} {k : Int} (h : MS mem S) (h11 : mem' 79 11 = 0) (h18 : mem' 79 18 = k) (h79 : ∀ x : Int, x < 11 ∨ 18 < x → mem' 79 x = mem 79 x) (e : ∀ q : Nat, q ≠ 79 → q ≠ 84 → mem' q = mem q) : MS mem' ((S.uTp S.t 0).uFl k) := by
  obtain ⟨g1, g2, g3, g4, g5, g6, g7, g8, g9⟩ := h
  refine ⟨?_, ⟨h11, fun p p0 p1 => absurd p1 (by show ¬ p < 0; omega)⟩, ?_, ?_, ?_, ?_, ?_, h18, ?_⟩
  · unfold MRw at g1 ⊢
    rw [e 80 (by omega) (by omega), e 81 (by omega) (by omega), e 82 (by omega) (by omega)]
    exact g1
  · rw [e 83 (by omega) (by omega)]; exact g3
  · exact g4.ext (h79 9 (by omega)) (e 86 (by omega) (by omega))
  · unfold MIm at g5 ⊢
    rw [e 90 (by omega) (by omega), e 91 (by omega) (by omega)]
    exact g5
  · unfold MIm at g6 ⊢
    rw [e 90 (by omega) (by omega), e 91 (by omega) (by omega)]
    exact g6
  · unfold MTr at g7 ⊢
    rw [h79 24 (by omega), e 92 (by omega) (by omega)]
    exact g7
  · rw [h79 1 (by omega)]; exact g9
theorem m_bench {mem : ZMem} {S : ZS} (hS : MS mem S) (hI : SInv S) : CI mX7_bench 5 [zr 79] mem (QM mem (sBench S)) := by
  have hR : Rg S.t S.n := hI.2.2.2.2.2.2
  have h0 := hS.thr
  have hF : FrM mem (mset mem 79 0 0) := FrM.rf.set (by omega)
  generalize hm : mset mem 79 0 0 = m0 at *
  have hT := h0.2.1
  -- the row is laid
  have cpy : ∀ (r : Int → Int) (k : Nat), 1 ≤ k → Told r k → pAll S.t S.n = ((pAll S.t S.n).1, r, k) → (pAll S.t S.n).1.2.1 = 0 → ∀ (m1 : ZMem), MFr (m1 84) r k → m1 79 11 = 0 → m1 79 18 = m0 79 18 → (∀ x : Int, x < 11 ∨ 18 < x → m1 79 x = m0 79 x) → (∀ q : Nat, q ≠ 79 → q ≠ 84 → m1 q = m0 q) → ∀ (c : Nat) (i : Int) (m2 : ZMem), (c : Int) + i = 50 → 0 ≤ i → m2 79 9 = 0 → (∀ x : Int, x ≠ 9 → m2 79 x = m1 79 x) → (∀ x : Int, m2 84 x = zup (m1 84) 7 (k : Int) x) → (∀ x : Int, 0 ≤ x → x < i → m2 83 x = zup (m1 84) 7 (k : Int) x) → (∀ q : Nat, q ≠ 79 → q ≠ 83 → q ≠ 84 → m2 q = m1 q) → JM mX7_bench 5 (QI (QM mem (sBench S))) 146 [zr 79, zi i] [] m2 := by
    intro r k h1 hTo hA hA0 m1 hM1 x11 x18 x79 xq c
    induction c with
    | zero =>
      intro i m2 e0 i0 y9 y79 y84 y83 yq
      have hmb := hM1.mb hTo h1 (fun x x0 x1 => y83 x x0 (by omega))
      have h3 : m2 83 3 = r 3 := hmb.1.1.2.2.1
      refine J_il1 dX7_bench_146 ?_
      refine J_bipush dX7_bench_147 rfl ?_
      refine J_cge (tgt := 170) dX7_bench_149 rfl (by omega) (fun c_149 => ?_) (fun c_149 => ?_)
      · skip
        refine J_al0 dX7_bench_170 ?_
        refine M_getR dX7_bench_171 fl_X7_19 sh_79 rfl ?_
        refine J_iconst dX7_bench_174 ?_
        refine M_ald dX7_bench_175 sh_83 (by decide) (by omega) ?_
        refine M_iret dX7_bench_176 rfl ?_
        unfold sBench
        rw [if_pos hA0, hA]
        refine ⟨h3, ?_, fun q hq => by rw [yq q (by omega) (by omega) (by omega), xq q (by omega) (by omega)]; exact hF q hq⟩
        have hb : MS m1 ((S.uTp S.t 0).uFl S.fl) := h0.tpf x11 (x18.trans h0.2.2.2.2.2.2.2.1) x79 xq
        exact MS.bn (S := (S.uTp S.t 0).uFl S.fl) hb hmb ⟨y9, fun i i0 i1 => absurd i1 (by show ¬ i < ((0 : Nat) : Int); omega)⟩ (fun x hx => y79 x (by omega)) (fun q q1 q2 q3 q4 q5 q6 q7 q8 => yq q (by omega) q3 q4)
      · skip
        omega
    | succ c ih =>
      intro i m2 e0 i0 y9 y79 y84 y83 yq
      refine J_il1 dX7_bench_146 ?_
      refine J_bipush dX7_bench_147 rfl ?_
      refine J_cge (tgt := 170) dX7_bench_149 rfl (by omega) (fun c_149 => ?_) (fun c_149 => ?_)
      · skip
        omega
      · skip
        refine J_al0 dX7_bench_152 ?_
        refine M_getR dX7_bench_153 fl_X7_19 sh_79 rfl ?_
        refine J_il1 dX7_bench_156 ?_
        refine J_al0 dX7_bench_157 ?_
        refine M_getR dX7_bench_158 fl_X7_22 sh_79 rfl ?_
        refine J_il1 dX7_bench_161 ?_
        refine M_ald dX7_bench_162 sh_84 (by decide) (by omega) ?_
        refine M_ast dX7_bench_163 sh_83 (by decide) (by omega) ?_
        refine J_inc1 dX7_bench_164 (by decide) rfl ?_
        refine J_goto (tgt := 146) dX7_bench_167 rfl ?_
        refine ih _ _ (by omega) (by omega) (by rw [mset_n (by omega)]; exact y9) (fun x hx => by rw [mset_n (by omega)]; exact y79 x hx) (fun x => by rw [mset_n (by omega)]; exact y84 x) (fun x x0 x1 => ?_) (fun q q1 q2 q3 => by rw [mset_n q2]; exact yq q q1 q2 q3)
        by_cases e : x = i
        · subst e; rw [mset_s]; exact y84 x
        · rw [mset_i e]; exact y83 x x0 (by omega)
  have fin : ∀ (z : Int) (s : PS) (m2 : ZMem), PsM m2 S.t S.n s → FrQ m0 m2 → ((s.2.1 ≠ 0 ∧ (pAll S.t S.n).1 = s) ∨ (s.2.1 = 0 ∧ s.1 < S.n ∧ (pAll S.t S.n).1 = (s.1, 1, s.1)) ∨ (s.2.1 = 0 ∧ s.1 = S.n ∧ ∃ (r : Int → Int) (k : Nat), pAll S.t S.n = (s, r, k) ∧ 1 ≤ k ∧ Told r k ∧ MFr (m2 84) r k)) → JM mX7_bench 5 (QI (QM mem (sBench S))) 111 [zr 79, zi z] [] m2 := by
    intro z s m2 hP hF2 hc
    have esf : sF S.n s = (pAll S.t S.n).1 := by
      unfold sF
      rcases hc with ⟨q1, q2⟩ | ⟨q1, q2, q3⟩ | ⟨q1, q2, r, k, q3, -⟩
      · rw [if_pos q1, q2]
      · rw [if_neg (by omega), if_neg (by omega), q3]
      · rw [if_neg (by omega), if_pos q2, q3]
    refine J_al0 dX7_bench_111 ?_
    refine M_cvI0 dX7_bench_112 lk_X7_145 cw_X7_failed sh_79 rfl rfl (k_failed hP) (by decide) (Nat.le_of_ble_eq_true rfl) (fun v_112 mem_112 hq => ?_)
    obtain ⟨e9, w11, w18, w17, w79, wq⟩ := hq
    subst e9
    rw [esf] at w18 w17
    have x79 : ∀ x : Int, x < 11 ∨ 18 < x → mem_112 79 x = m0 79 x := fun x hx => by rw [w79 x hx]; exact hF2.1 x (by omega)
    have xq : ∀ q : Nat, q ≠ 79 → q ≠ 84 → mem_112 q = m0 q := fun q q1 q2 => by rw [wq q q1]; exact hF2.2 q q1 q2
    refine J_ifeq_b (tgt := 126) dX7_bench_115 rfl (fun c_115 => ?_) (fun c_115 => ?_)
    · skip
      rw [esf] at c_115
      have hA0 : (pAll S.t S.n).1.2.1 = 0 := Classical.not_not.mp c_115
      rw [if_pos hA0] at w18
      have hc3 : ∃ (r : Int → Int) (k : Nat), pAll S.t S.n = (s, r, k) ∧ 1 ≤ k ∧ Told r k ∧ MFr (m2 84) r k := by
        rcases hc with ⟨q1, q2⟩ | ⟨q1, q2, q3⟩ | ⟨q1, q2, q3⟩
        · rw [q2] at hA0; exact absurd hA0 q1
        · rw [q3] at hA0; exact absurd (show (1 : Int) = 0 from hA0) (by omega)
        · exact q3
      obtain ⟨r, k, hA, h1, hTo, hMf⟩ := hc3
      have h84 : mem_112 84 = m2 84 := wq 84 (by omega)
      have d3 : mset mem_112 79 9 0 84 3 = (k : Int) := by rw [mset_n (by omega), h84]; exact hMf.1.2.2.2.1
      refine J_al0 dX7_bench_126 ?_
      refine J_iconst dX7_bench_127 ?_
      refine M_put (ki := 9) dX7_bench_128 fl_X7_149 sh_79 rfl rfl rfl (fun r hr => by cases hr; rfl) ?_
      refine J_al0 dX7_bench_131 ?_
      refine M_getR dX7_bench_132 fl_X7_22 sh_79 rfl ?_
      refine J_bipush dX7_bench_135 rfl ?_
      refine J_al0 dX7_bench_137 ?_
      refine M_getR dX7_bench_138 fl_X7_22 sh_79 rfl ?_
      refine J_iconst dX7_bench_141 ?_
      refine M_ald dX7_bench_142 sh_84 (by decide) (by omega) ?_
      rw [d3]
      refine M_ast dX7_bench_143 sh_84 (by decide) (by omega) ?_
      refine J_iconst dX7_bench_144 ?_
      refine J_is1 dX7_bench_145 (by decide) rfl ?_
      refine cpy r k h1 hTo (by rw [hA]) hA0 mem_112 (by rw [h84]; exact hMf) w11 (w18.trans (hF2.1 18 (by omega))) x79 xq 50 0 _ (by omega) (by omega) (by rw [mset_n (by omega), mset_s]) (fun x hx => by rw [mset_n (by omega), mset_i hx]) (fun x => ?_) (fun x x0 x1 => by omega) (fun q q1 q2 q3 => by rw [mset_n q3, mset_n q1])
      rw [mset_q, mset_n (by omega)]
    · skip
      refine J_ldc (n := -1000100) dX7_bench_118 co_X7_148 (by decide) ?_
      refine J_al0 dX7_bench_120 ?_
      refine M_get (ki := 17) dX7_bench_121 fl_X7_87 sh_79 rfl rfl ?_
      refine J_isub dX7_bench_124 ?_
      refine M_iret dX7_bench_125 rfl ?_
      rw [esf] at c_115
      rw [if_neg c_115] at w18
      unfold sBench
      rw [if_neg c_115]
      exact ⟨by rw [w17 c_115], h0.tpf w11 w18 x79 xq, fun q hq => by rw [xq q (by omega) (by omega)]; exact hF q hq⟩
  have loop : ∀ (f k : Nat) (z : Int) (s : PS) (r : Int → Int) (m2 : ZMem), PsM m2 S.t S.n s → FrQ m0 m2 → ((s.2.1 ≠ 0 ∧ (pAll S.t S.n).1 = s) ∨ (s.2.1 = 0 ∧ f + k = 8 ∧ pMen S.t S.n f k s r = pAll S.t S.n ∧ Told r k ∧ MFr (m2 84) r k ∧ (k = 0 → isS S.t S.n s))) → JM mX7_bench 5 (QI (QM mem (sBench S))) 97 [zr 79, zi z] [] m2 := by
    intro f
    induction f with
    | zero =>
      intro k z s r m2 hP hF2 hc
      rcases hc with ⟨q1, q2⟩ | ⟨q1, q2, q3, q4, -⟩
      · have hno : ¬ isS S.t S.n s := fun w => q1 w.1
        have hf := fin z s m2 hP hF2 (Or.inl ⟨q1, q2⟩)
        refine J_al0 dX7_bench_97 ?_
        refine M_cvI0 dX7_bench_98 lk_X7_138 cw_X7_isSort sh_79 rfl rfl (k_isSort hP) (by decide) (Nat.le_of_ble_eq_true rfl) (fun v_98 mem_98 hq => ?_)
        obtain ⟨rfl, hq⟩ := hq; have hq := hq.symm; subst hq
        refine J_ifeq_b (tgt := 111) dX7_bench_101 rfl (fun c_101 => ?_) (fun c_101 => ?_)
        · skip
          exact hf
        · skip
          exact absurd c_101 hno
      · have := q4.2.1; omega
    | succ f ih =>
      intro k z s r m2 hP hF2 hc
      rcases hc with ⟨q1, q2⟩ | ⟨q1, q2, q3, q4, q5, q6⟩
      · have hno : ¬ isS S.t S.n s := fun w => q1 w.1
        have hf := fin z s m2 hP hF2 (Or.inl ⟨q1, q2⟩)
        refine J_al0 dX7_bench_97 ?_
        refine M_cvI0 dX7_bench_98 lk_X7_138 cw_X7_isSort sh_79 rfl rfl (k_isSort hP) (by decide) (Nat.le_of_ble_eq_true rfl) (fun v_98 mem_98 hq => ?_)
        obtain ⟨rfl, hq⟩ := hq; have hq := hq.symm; subst hq
        refine J_ifeq_b (tgt := 111) dX7_bench_101 rfl (fun c_101 => ?_) (fun c_101 => ?_)
        · skip
          exact hf
        · skip
          exact absurd c_101 hno
      · have hps := hP.2.2.2.2.2 q1
        have hk7 := q4.2.1
        have unf : pMen S.t S.n (f + 1) k s r = if s.2.1 = 0 ∧ (k = 0 ∨ s.1 < S.n) then (if (pMan S.t S.n k s).2.1 = 0 then pMen S.t S.n f (k + 1) (pMan S.t S.n k s) (addR r k (kOf (S.t s.1)) (nval S.t S.n (s.1 + 1)) (nval S.t S.n (pM3 S.t S.n s).1)) else (pMan S.t S.n k s, r, k)) else (s, r, k) := rfl
        refine J_al0 dX7_bench_97 ?_
        refine M_cvI0 dX7_bench_98 lk_X7_138 cw_X7_isSort sh_79 rfl rfl (k_isSort hP) (by decide) (Nat.le_of_ble_eq_true rfl) (fun v_98 mem_98 hq => ?_)
        obtain ⟨rfl, hq⟩ := hq; have hq := hq.symm; subst hq
        refine J_ifeq_b (tgt := 111) dX7_bench_101 rfl (fun c_101 => ?_) (fun c_101 => ?_)
        · skip
          refine fin z s _ hP hF2 ?_
          have hk0 : k ≠ 0 := fun e => c_101 (q6 e)
          by_cases hn : s.1 < S.n
          · refine Or.inr (Or.inl ⟨q1, hn, ?_⟩)
            have hko : kOf (S.t s.1) = 0 := Classical.byContradiction fun w => c_101 ⟨q1, hn, w⟩
            have em : pMan S.t S.n k s = (s.1, 1, s.1) := by unfold pMan; rw [if_pos (Or.inr hko)]
            rw [← q3, unf, if_pos ⟨q1, Or.inr hn⟩, em, if_neg (show ¬ (1 : Int) = 0 by omega)]
          · refine Or.inr (Or.inr ⟨q1, by omega, r, k, ?_, by omega, q4, q5⟩)
            rw [← q3, unf, if_neg (fun w => by rcases w.2 with w | w; exact hk0 w; exact hn w)]
        · skip
          refine J_al0 dX7_bench_104 ?_
          refine M_cvV0 dX7_bench_105 lk_X7_142 cw_X7_readMan sh_79 rfl rfl (k_mreadMan (hT.q hF2) hR hP c_101 q5 (by omega)) (by decide) (Nat.le_of_ble_eq_true rfl) (fun mem_105 hq => ?_)
          obtain ⟨k1, k2, k3⟩ := hq
          refine J_goto (tgt := 97) dX7_bench_108 rfl ?_
          by_cases hfz : (pMan S.t S.n k s).2.1 = 0
          · obtain ⟨k4, k5⟩ := k2 hfz
            refine ih (k + 1) z _ _ _ k1 (hF2.tr k3) (Or.inr ⟨hfz, by omega, ?_, ?_, k4, fun e => by omega⟩)
            · rw [← q3, unf, if_pos ⟨q1, Or.inr c_101.2.1⟩, if_pos hfz]
            · have hkr := kOf_range (S.t s.1)
              have hko := c_101.2.2
              have epm : pMan S.t S.n k s = pSgn S.t S.n 59 (pNum S.t S.n 1 9 (pM3 S.t S.n s)) := by unfold pMan; rw [if_neg (by have := c_101.2; omega), if_neg (by omega)]
              have hf9 := hfz
              rw [epm] at hf9
              have f1 := (pSgn_f hf9).1
              obtain ⟨f2, -, -, l1, l2, -⟩ := pNum_f f1
              have f3 := (pSgn_f (show (pSgn S.t S.n 44 (pNum S.t S.n 0 23 (s.1 + 1, 0, s.2.2))).2.1 = 0 from f2)).1
              obtain ⟨-, -, -, d1, d2, -⟩ := pNum_f f3
              exact q4.add k5 (by omega) ⟨d1, d2⟩ ⟨l1, l2⟩
          · refine ih k z _ r _ k1 (hF2.tr k3) (Or.inl ⟨hfz, ?_⟩)
            rw [← q3, unf, if_pos ⟨q1, Or.inr c_101.2.1⟩, if_neg hfz]
  have main : ∀ (z : Int) (m2 : ZMem), (∀ x : Int, 0 ≤ x → x < 50 → m2 84 x = 0) → PsM m2 S.t S.n (0, 0, 0) → FrQ m0 m2 → JM mX7_bench 5 (QI (QM mem (sBench S))) 30 [zr 79, zi z] [] m2 := by
    intro z m2 h84 hP hF2
    have hP1 : PsM (mset m2 84 0 1) S.t S.n (0, 0, 0) := hP.ext (fun x x0 x1 => by rw [mset_n (by omega)])
    have F1 : FrQ m0 (mset m2 84 0 1) := hF2.set
    have hs1 := sgn_let hP1
    refine J_al0 dX7_bench_30 ?_
    refine M_getR dX7_bench_31 fl_X7_22 sh_79 rfl ?_
    refine J_iconst dX7_bench_34 ?_
    refine J_iconst dX7_bench_35 ?_
    refine M_ast dX7_bench_36 sh_84 (by decide) (by omega) ?_
    refine J_al0 dX7_bench_37 ?_
    refine J_al0 dX7_bench_38 ?_
    refine J_bipush dX7_bench_39 rfl ?_
    refine M_cvI1 dX7_bench_41 lk_X7_135 cw_X7_isLetter sh_79 rfl rfl (k_isLetter hP1 (by omega)) (by decide) (Nat.le_of_ble_eq_true rfl) (fun v_41 mem_41 hq => ?_)
    obtain ⟨rfl, hq⟩ := hq; have hq := hq.symm; subst hq
    refine M_cvV1 dX7_bench_44 lk_X7_115 cw_X7_must sh_79 rfl rfl (k_must (hT.q F1) hR hP1 (bi_01 _) hs1.1) (by decide) (Nat.le_of_ble_eq_true rfl) (fun mem_44 hq => ?_)
    obtain ⟨k1, k2⟩ := hq; rw [hs1.2] at k1
    have F2 := F1.tr k2.q
    refine J_al0 dX7_bench_47 ?_
    refine M_getR dX7_bench_48 fl_X7_22 sh_79 rfl ?_
    refine J_iconst dX7_bench_51 ?_
    refine J_al0 dX7_bench_52 ?_
    refine J_iconst dX7_bench_53 ?_
    refine J_bipush dX7_bench_54 rfl ?_
    refine M_cvI2 dX7_bench_56 lk_X7_125 cw_X7_number sh_79 rfl rfl (k_number (hT.q F2) hR k1 (by omega) (by omega)) (by decide) (Nat.le_of_ble_eq_true rfl) (fun v_56 mem_56 hq => ?_)
    obtain ⟨v1, k3, k4⟩ := hq
    have F3 : FrQ m0 (mset mem_56 84 1 v_56) := (F2.tr k4.q).set
    have k3' : PsM (mset mem_56 84 1 v_56) S.t S.n _ := k3.ext (fun x x0 x1 => by rw [mset_n (by omega)])
    refine M_ast dX7_bench_59 sh_84 (by decide) (by omega) ?_
    refine J_al0 dX7_bench_60 ?_
    refine J_bipush dX7_bench_61 rfl ?_
    refine M_cvV1 dX7_bench_63 lk_X7_129 cw_X7_mustSign sh_79 rfl rfl (k_mustSign (hT.q F3) hR k3' (by omega)) (by decide) (Nat.le_of_ble_eq_true rfl) (fun mem_63 hq => ?_)
    obtain ⟨k5, k6⟩ := hq
    have F4 := F3.tr k6.q
    refine J_al0 dX7_bench_66 ?_
    refine M_getR dX7_bench_67 fl_X7_22 sh_79 rfl ?_
    refine J_iconst dX7_bench_70 ?_
    refine J_al0 dX7_bench_71 ?_
    refine J_iconst dX7_bench_72 ?_
    refine J_bipush dX7_bench_73 rfl ?_
    refine M_cvI2 dX7_bench_75 lk_X7_125 cw_X7_number sh_79 rfl rfl (k_number (hT.q F4) hR k5 (by omega) (by omega)) (by decide) (Nat.le_of_ble_eq_true rfl) (fun v_75 mem_75 hq => ?_)
    obtain ⟨v2, k7, k8⟩ := hq
    have F5 : FrQ m0 (mset mem_75 84 2 v_75) := (F4.tr k8.q).set
    have k7' : PsM (mset mem_75 84 2 v_75) S.t S.n _ := k7.ext (fun x x0 x1 => by rw [mset_n (by omega)])
    refine M_ast dX7_bench_78 sh_84 (by decide) (by omega) ?_
    refine J_al0 dX7_bench_79 ?_
    refine J_bipush dX7_bench_80 rfl ?_
    refine M_cvV1 dX7_bench_82 lk_X7_129 cw_X7_mustSign sh_79 rfl rfl (k_mustSign (hT.q F5) hR k7' (by omega)) (by decide) (Nat.le_of_ble_eq_true rfl) (fun mem_82 hq => ?_)
    obtain ⟨k9, k10⟩ := hq
    have F6 := F5.tr k10.q
    have k9 : PsM mem_82 S.t S.n (pLaw S.t S.n (0, 0, 0)) := k9
    have hM : (pLaw S.t S.n (0, 0, 0)).2.1 = 0 → MFr (mem_82 84) (lawR S.t S.n) 0 := fun q => by
      have f1 := (pSgn_f q).1
      have f2 := (pNum_f f1).1
      have f3 := (pSgn_f f2).1
      have e1 := v1 f3
      have e2 := v2 f1
      have e1 : v_56 = nval S.t S.n (pL1 S.t S.n (0, 0, 0)).1 := e1
      have e2 : v_75 = nval S.t S.n (pL3 S.t S.n (0, 0, 0)).1 := e2
      have e84 : mem_82 84 = zup (zup (zup (m2 84) 0 1) 1 v_56) 2 v_75 := by
        rw [k10.2 84 (by omega), mset_q, k8.2 84 (by omega), k6.2 84 (by omega), mset_q, k4.2 84 (by omega), k2.2 84 (by omega), mset_q]
      rw [e84, e1, e2]
      exact MFr.law h84
    refine J_al0 dX7_bench_85 ?_
    refine M_cvI0 dX7_bench_86 lk_X7_138 cw_X7_isSort sh_79 rfl rfl (k_isSort k9) (by decide) (Nat.le_of_ble_eq_true rfl) (fun v_86 mem_86 hq => ?_)
    obtain ⟨rfl, hq⟩ := hq; have hq := hq.symm; subst hq
    refine J_ifne_b (tgt := 97) dX7_bench_89 rfl (fun c_89 => ?_) (fun c_89 => ?_)
    · skip
      first
      | exact loop 8 0 z _ (lawR S.t S.n) _ k9 F6 (Or.inr ⟨c_89.1, rfl, rfl, lawR_told c_89.1, hM c_89.1, fun _ => c_89⟩)
      | (by_cases hfz : (pLaw S.t S.n (0, 0, 0)).2.1 = 0
         · have eb : pBad 1 (pLaw S.t S.n (0, 0, 0)) = ((pLaw S.t S.n (0, 0, 0)).1, 1, (pLaw S.t S.n (0, 0, 0)).1) := by unfold pBad; rw [if_neg (by omega)]
           rw [eb] at k11
           refine loop 0 0 z _ (lawR S.t S.n) _ k11 (F6.tr k12.q) (Or.inl ⟨show (1 : Int) ≠ 0 by omega, ?_⟩)
           have em : pMan S.t S.n ((0 : Nat) : Int) (pLaw S.t S.n (0, 0, 0)) = ((pLaw S.t S.n (0, 0, 0)).1, 1, (pLaw S.t S.n (0, 0, 0)).1) := by
             unfold pMan
             rw [if_pos]
             by_cases hn : S.n ≤ (pLaw S.t S.n (0, 0, 0)).1
             · exact Or.inl hn
             · exact Or.inr (Classical.byContradiction fun w => c_89 ⟨hfz, by omega, w⟩)
           have unf : pAll S.t S.n = if (pLaw S.t S.n (0, 0, 0)).2.1 = 0 ∧ (0 = 0 ∨ (pLaw S.t S.n (0, 0, 0)).1 < S.n) then (if (pMan S.t S.n ((0 : Nat) : Int) (pLaw S.t S.n (0, 0, 0))).2.1 = 0 then pMen S.t S.n 7 1 (pMan S.t S.n ((0 : Nat) : Int) (pLaw S.t S.n (0, 0, 0))) (addR (lawR S.t S.n) ((0 : Nat) : Int) (kOf (S.t (pLaw S.t S.n (0, 0, 0)).1)) (nval S.t S.n ((pLaw S.t S.n (0, 0, 0)).1 + 1)) (nval S.t S.n (pM3 S.t S.n (pLaw S.t S.n (0, 0, 0))).1)) else (pMan S.t S.n ((0 : Nat) : Int) (pLaw S.t S.n (0, 0, 0)), lawR S.t S.n, 0)) else (pLaw S.t S.n (0, 0, 0), lawR S.t S.n, 0) := rfl
           rw [unf, if_pos ⟨hfz, Or.inl rfl⟩, em, if_neg (show ¬ (1 : Int) = 0 by omega)]
         · have eb : pBad 1 (pLaw S.t S.n (0, 0, 0)) = pLaw S.t S.n (0, 0, 0) := by unfold pBad; rw [if_pos hfz]
           rw [eb] at k11
           refine loop 0 0 z _ (lawR S.t S.n) _ k11 (F6.tr k12.q) (Or.inl ⟨hfz, ?_⟩)
           have unf : pAll S.t S.n = if (pLaw S.t S.n (0, 0, 0)).2.1 = 0 ∧ (0 = 0 ∨ (pLaw S.t S.n (0, 0, 0)).1 < S.n) then (if (pMan S.t S.n ((0 : Nat) : Int) (pLaw S.t S.n (0, 0, 0))).2.1 = 0 then pMen S.t S.n 7 1 (pMan S.t S.n ((0 : Nat) : Int) (pLaw S.t S.n (0, 0, 0))) (addR (lawR S.t S.n) ((0 : Nat) : Int) (kOf (S.t (pLaw S.t S.n (0, 0, 0)).1)) (nval S.t S.n ((pLaw S.t S.n (0, 0, 0)).1 + 1)) (nval S.t S.n (pM3 S.t S.n (pLaw S.t S.n (0, 0, 0))).1)) else (pMan S.t S.n ((0 : Nat) : Int) (pLaw S.t S.n (0, 0, 0)), lawR S.t S.n, 0)) else (pLaw S.t S.n (0, 0, 0), lawR S.t S.n, 0) := rfl
           rw [unf, if_neg (fun w => hfz w.1)])
    · skip
      refine J_al0 dX7_bench_92 ?_
      refine J_iconst dX7_bench_93 ?_
      refine M_cvV1 dX7_bench_94 lk_X7_108 cw_X7_bad sh_79 rfl rfl (k_bad k9 (by omega)) (by decide) (Nat.le_of_ble_eq_true rfl) (fun mem_94 hq => ?_)
      obtain ⟨k11, k12⟩ := hq
      first
      | exact loop 8 0 z _ (lawR S.t S.n) _ k9 F6 (Or.inr ⟨c_89.1, rfl, rfl, lawR_told c_89.1, hM c_89.1, fun _ => c_89⟩)
      | (by_cases hfz : (pLaw S.t S.n (0, 0, 0)).2.1 = 0
         · have eb : pBad 1 (pLaw S.t S.n (0, 0, 0)) = ((pLaw S.t S.n (0, 0, 0)).1, 1, (pLaw S.t S.n (0, 0, 0)).1) := by unfold pBad; rw [if_neg (by omega)]
           rw [eb] at k11
           refine loop 0 0 z _ (lawR S.t S.n) _ k11 (F6.tr k12.q) (Or.inl ⟨show (1 : Int) ≠ 0 by omega, ?_⟩)
           have em : pMan S.t S.n ((0 : Nat) : Int) (pLaw S.t S.n (0, 0, 0)) = ((pLaw S.t S.n (0, 0, 0)).1, 1, (pLaw S.t S.n (0, 0, 0)).1) := by
             unfold pMan
             rw [if_pos]
             by_cases hn : S.n ≤ (pLaw S.t S.n (0, 0, 0)).1
             · exact Or.inl hn
             · exact Or.inr (Classical.byContradiction fun w => c_89 ⟨hfz, by omega, w⟩)
           have unf : pAll S.t S.n = if (pLaw S.t S.n (0, 0, 0)).2.1 = 0 ∧ (0 = 0 ∨ (pLaw S.t S.n (0, 0, 0)).1 < S.n) then (if (pMan S.t S.n ((0 : Nat) : Int) (pLaw S.t S.n (0, 0, 0))).2.1 = 0 then pMen S.t S.n 7 1 (pMan S.t S.n ((0 : Nat) : Int) (pLaw S.t S.n (0, 0, 0))) (addR (lawR S.t S.n) ((0 : Nat) : Int) (kOf (S.t (pLaw S.t S.n (0, 0, 0)).1)) (nval S.t S.n ((pLaw S.t S.n (0, 0, 0)).1 + 1)) (nval S.t S.n (pM3 S.t S.n (pLaw S.t S.n (0, 0, 0))).1)) else (pMan S.t S.n ((0 : Nat) : Int) (pLaw S.t S.n (0, 0, 0)), lawR S.t S.n, 0)) else (pLaw S.t S.n (0, 0, 0), lawR S.t S.n, 0) := rfl
           rw [unf, if_pos ⟨hfz, Or.inl rfl⟩, em, if_neg (show ¬ (1 : Int) = 0 by omega)]
         · have eb : pBad 1 (pLaw S.t S.n (0, 0, 0)) = pLaw S.t S.n (0, 0, 0) := by unfold pBad; rw [if_pos hfz]
           rw [eb] at k11
           refine loop 0 0 z _ (lawR S.t S.n) _ k11 (F6.tr k12.q) (Or.inl ⟨hfz, ?_⟩)
           have unf : pAll S.t S.n = if (pLaw S.t S.n (0, 0, 0)).2.1 = 0 ∧ (0 = 0 ∨ (pLaw S.t S.n (0, 0, 0)).1 < S.n) then (if (pMan S.t S.n ((0 : Nat) : Int) (pLaw S.t S.n (0, 0, 0))).2.1 = 0 then pMen S.t S.n 7 1 (pMan S.t S.n ((0 : Nat) : Int) (pLaw S.t S.n (0, 0, 0))) (addR (lawR S.t S.n) ((0 : Nat) : Int) (kOf (S.t (pLaw S.t S.n (0, 0, 0)).1)) (nval S.t S.n ((pLaw S.t S.n (0, 0, 0)).1 + 1)) (nval S.t S.n (pM3 S.t S.n (pLaw S.t S.n (0, 0, 0))).1)) else (pMan S.t S.n ((0 : Nat) : Int) (pLaw S.t S.n (0, 0, 0)), lawR S.t S.n, 0)) else (pLaw S.t S.n (0, 0, 0), lawR S.t S.n, 0) := rfl
           rw [unf, if_neg (fun w => hfz w.1)])
  have zero : ∀ (c : Nat) (i : Int) (m1 m2 : ZMem), (c : Int) + i = 50 → 0 ≤ i → PsM m1 S.t S.n (0, 0, 0) → FrP m0 m1 → (∀ x : Int, 0 ≤ x → x < i → m2 84 x = 0) → (∀ q : Nat, q ≠ 84 → m2 q = m1 q) → JM mX7_bench 5 (QI (QM mem (sBench S))) 11 [zr 79, zi i] [] m2 := by
    intro c
    induction c with
    | zero =>
      intro i m1 m2 e0 i0 hP hF1 a1 a2
      refine J_il1 dX7_bench_11 ?_
      refine J_bipush dX7_bench_12 rfl ?_
      refine J_cge (tgt := 30) dX7_bench_14 rfl (by omega) (fun c_14 => ?_) (fun c_14 => ?_)
      · skip
        exact main i m2 (fun x x0 x1 => a1 x x0 (by omega)) (hP.ext (fun x _ _ => by rw [a2 79 (by omega)])) ⟨fun x hx => by rw [a2 79 (by omega)]; exact hF1.1 x hx, fun q q1 q2 => by rw [a2 q q2]; exact hF1.2 q q1⟩
      · skip
        omega
    | succ c ih =>
      intro i m1 m2 e0 i0 hP hF1 a1 a2
      refine J_il1 dX7_bench_11 ?_
      refine J_bipush dX7_bench_12 rfl ?_
      refine J_cge (tgt := 30) dX7_bench_14 rfl (by omega) (fun c_14 => ?_) (fun c_14 => ?_)
      · skip
        omega
      · skip
        refine J_al0 dX7_bench_17 ?_
        refine M_getR dX7_bench_18 fl_X7_22 sh_79 rfl ?_
        refine J_il1 dX7_bench_21 ?_
        refine J_iconst dX7_bench_22 ?_
        refine M_ast dX7_bench_23 sh_84 (by decide) (by omega) ?_
        refine J_inc1 dX7_bench_24 (by decide) rfl ?_
        refine J_goto (tgt := 11) dX7_bench_27 rfl ?_
        refine ih _ m1 _ (by omega) (by omega) hP hF1 (fun x x0 x1 => ?_) (fun q hq => by rw [mset_n hq]; exact a2 q hq)
        by_cases e : x = i
        · subst e; rw [mset_s]
        · rw [mset_i e]; exact a1 x x0 (by omega)
  refine CM.of (by decide +kernel) ([zr 79, zu]) (zok_all rfl) (Nat.le_of_ble_eq_true rfl) rfl ?_
  refine J_al0 dX7_bench_0 ?_
  refine J_iconst dX7_bench_1 ?_
  refine M_put (ki := 0) dX7_bench_2 fl_X7_50 sh_79 rfl rfl rfl (fun r hr => by cases hr; rfl) ?_
  rw [hm]
  refine J_al0 dX7_bench_5 ?_
  refine M_cvV0 dX7_bench_6 lk_X7_132 cw_X7_begin sh_79 rfl rfl (k_mbegin hT hR) (by decide) (Nat.le_of_ble_eq_true rfl) (fun mem_6 hq => ?_)
  obtain ⟨k1, k2⟩ := hq
  refine J_iconst dX7_bench_9 ?_
  refine J_is1 dX7_bench_10 (by decide) rfl ?_
  exact zero 50 0 _ _ (by omega) (by omega) k1 k2 (fun x x0 x1 => by omega) (fun _ _ => rfl)
