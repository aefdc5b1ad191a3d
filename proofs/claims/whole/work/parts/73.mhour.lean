def FrH (q : Nat) (mem mem' : ZMem) : Prop := (∀ x : Nat, x ≠ q → x ≠ 88 → mem' x = mem x) ∧ mem' q 6 = mem q 6 ∧ mem' q 0 = mem q 0
theorem FrH.rf {q : Nat} {mem : ZMem} : FrH q mem mem := ⟨fun _ _ _ => rfl, rfl, rfl⟩
theorem FrH.tr {q : Nat} {a b c : ZMem} (h : FrH q a b) (g : FrH q b c) : FrH q a c := ⟨fun x hx hy => (g.1 x hx hy).trans (h.1 x hx hy), g.2.1.trans h.2.1, g.2.2.trans h.2.2⟩
theorem FrR.h {q : Nat} {a b : ZMem} (h : FrR q a b) : FrH q a b := ⟨fun x hx _ => h.1 x hx, h.2.1, h.2.2⟩
theorem FrH.set {q : Nat} {a b : ZMem} {i v : Int} (h : FrH q a b) (i6 : i ≠ 6) (i0 : i ≠ 0) : FrH q a (mset b q i v) := ⟨fun x hx hy => by rw [mset_n hx]; exact h.1 x hx hy, by rw [mset_i (Ne.symm i6)]; exact h.2.1, by rw [mset_i (Ne.symm i0)]; exact h.2.2⟩
theorem FrH.set88 {q : Nat} {a b : ZMem} {i v : Int} (h : FrH q a b) (hq : q ≠ 88) : FrH q a (mset b 88 i v) := ⟨fun x hx hy => by rw [mset_n hy]; exact h.1 x hx hy, by rw [mset_n hq]; exact h.2.1, by rw [mset_n hq]; exact h.2.2⟩
theorem MX.warmd {f r : Int → Int} {L : List Int} {m v : Int} (h : MX f r L) (m0 : 0 ≤ m) (hl : (L.length : Int) ≤ 7) : MX (zup f (15 + 5 * m + 3) v) (zup r (15 + 5 * m + 3) v) L := by
  obtain ⟨⟨c1, c2, c3, c4, c5, c7⟩, cO, cM⟩ := h
  have e : ∀ (g : Int → Int) (k : Int), k < 15 → zup g (15 + 5 * m + 3) v k = g k := fun g k hk => zup_n (by omega)
  refine ⟨?_, fun p p0 p1 => ?_, fun x x0 x1 => ?_⟩
  · rw [e f 1 (by omega), e f 2 (by omega), e f 3 (by omega), e f 4 (by omega), e f 5 (by omega), e f 7 (by omega), e r 1 (by omega), e r 2 (by omega), e r 3 (by omega), e r 4 (by omega), e r 5 (by omega)]
    exact ⟨c1, c2, c3, c4, c5, c7⟩
  · rw [zup_n (by omega)]; exact cO p p0 p1
  · rw [e r 3 (by omega)] at x1
    obtain ⟨d1, d2, d3, d4, d5⟩ := cM x x0 x1
    have k1 : kd (zup r (15 + 5 * m + 3) v) x = kd r x := zup_n (by omega)
    have k2 : dn (zup r (15 + 5 * m + 3) v) x = dn r x := zup_n (by omega)
    have k3 : lg (zup r (15 + 5 * m + 3) v) x = lg r x := zup_n (by omega)
    have k5 : gn (zup r (15 + 5 * m + 3) v) x = gn r x := zup_n (by omega)
    rw [k1, k2, k3, k5, zup_n (show 15 + 5 * x ≠ 15 + 5 * m + 3 by omega), zup_n (show 15 + 5 * x + 1 ≠ 15 + 5 * m + 3 by omega), zup_n (show 15 + 5 * x + 2 ≠ 15 + 5 * m + 3 by omega), zup_n (show 15 + 5 * x + 4 ≠ 15 + 5 * m + 3 by omega)]
    refine ⟨d1, d2, d3, ?_, d5⟩
    by_cases q : x = m
    · subst q; unfold wm; rw [zup_s, zup_s]
    · unfold wm; rw [zup_n (by omega), zup_n (by omega)]; exact d4
theorem MX.hourd {f r : Int → Int} {L : List Int} {v : Int} (h : MX f r L) : MX (zup f 4 v) (zup r 4 v) L := by
  obtain ⟨⟨c1, c2, c3, c4, c5, c7⟩, cO, cM⟩ := h
  have e : ∀ (g : Int → Int) (k : Int), k ≠ 4 → zup g 4 v k = g k := fun g k hk => zup_n hk
  refine ⟨?_, fun p p0 p1 => ?_, fun x x0 x1 => ?_⟩
  · rw [e f 1 (by omega), e f 2 (by omega), e f 3 (by omega), e f 5 (by omega), e f 7 (by omega), e r 1 (by omega), e r 2 (by omega), e r 3 (by omega), e r 5 (by omega), zup_s, zup_s]
    exact ⟨c1, c2, c3, rfl, c5, c7⟩
  · rw [e f _ (by omega)]; exact cO p p0 p1
  · rw [e r 3 (by omega)] at x1
    have k1 : kd (zup r 4 v) x = kd r x := zup_n (by omega)
    have k2 : dn (zup r 4 v) x = dn r x := zup_n (by omega)
    have k3 : lg (zup r 4 v) x = lg r x := zup_n (by omega)
    have k4 : wm (zup r 4 v) x = wm r x := zup_n (by omega)
    have k5 : gn (zup r 4 v) x = gn r x := zup_n (by omega)
    rw [k1, k2, k3, k4, k5, e f _ (by omega), e f _ (by omega), e f _ (by omega), e f _ (by omega), e f _ (by omega)]
    exact cM x x0 x1
theorem isW88 {q : Nat} (h : isW q) : q ≠ 88 ∧ q ≠ 79 := by unfold isW at h; omega
/-- what an hour ends in -/
abbrev HrQ (F : Int → Prop) (b : BN) (q : Nat) (mem : ZMem) : Int → ZMem → Prop := fun v mem' => v = (hourR F b).2 ∧ MX (mem' q) (hourR F b).1.1 (hourR F b).1.2 ∧ FrH q mem mem'
theorem hr_warm {mem : ZMem} {q : Nat} (hQ : isW q) {b : BN} (hI : BInv b.1 b.2) (hh : b.1 4 ≤ 2999) (F : Int → Prop) {fb h n0 : Int} {c : BN × Int} (hc : c = (((callR F (bckN (b.1 3).toNat b).1 [] (bckN (b.1 3).toNat b).2).1, (callR F (bckN (b.1 3).toNat b).1 [] (bckN (b.1 3).toNat b).2).2.1), (callR F (bckN (b.1 3).toNat b).1 [] (bckN (b.1 3).toNat b).2).2.2)) (hcI : BInv c.1.1 c.1.2) (hc4 : c.1.1 4 = b.1 4) : ∀ (k kn : Nat) (p : Int) (m2 : ZMem), p = kn → (k : Int) + p = c.1.2.length → MX (m2 q) (wrmN c.1.2 kn c.1.1) c.1.2 → FrH q mem m2 → JM mX7_hour 4 (QI (HrQ F b q mem)) 204 [zr 79, zr q, zi fb, zi h, zi n0, zi c.2, zi p] [] m2 := by
  have hl := hcI.len
  have h3 := hcI.1
  have hw := isW88 hQ
  intro k
  induction k with
  | zero =>
    intro kn p m2 e0 a1 a2 a3
    have c7 : m2 q 7 = (c.1.2.length : Int) := a2.1.2.2.2.2.2
    have c4 : m2 q 4 = wrmN c.1.2 kn c.1.1 4 := a2.1.2.2.2.1
    have w4 := (wrmN_inv (r := c.1.1) hcI.2.1 (fun m hm => (hcI.2.2.1 m hm).1) kn (by omega)).2.1
    refine J_il6 dX7_hour_204 ?_
    refine J_al1 dX7_hour_206 ?_
    refine J_bipush dX7_hour_207 rfl ?_
    refine M_ald dX7_hour_209 (isW_sh hQ) (by decide) (by omega) ?_
    refine J_cge (tgt := 252) dX7_hour_210 rfl (by omega) (fun c_210 => ?_) (fun c_210 => ?_)
    · skip
      refine J_al1 dX7_hour_252 ?_
      refine J_iconst dX7_hour_253 ?_
      refine J_dup2 dX7_hour_254 rfl rfl ?_
      refine M_ald dX7_hour_255 (isW_sh hQ) (by decide) (by omega) ?_
      refine J_iconst dX7_hour_256 ?_
      refine J_iadd dX7_hour_257 ?_
      refine M_ast dX7_hour_258 (isW_sh hQ) (by decide) (by omega) ?_
      refine J_il5 dX7_hour_259 ?_
      refine M_iret dX7_hour_261 rfl ?_
      refine ⟨by rw [hc]; rfl, ?_, a3.set (by omega) (by omega)⟩
      have e4 : m2 q 4 + 1 = b.1 4 + 1 := by omega
      have ek : kn = c.1.2.length := by omega
      rw [mset_q, e4]
      have := MX.hourd (v := b.1 4 + 1) a2
      rw [ek, hc] at this
      exact this
    · skip
      omega
  | succ k ih =>
    intro kn p m2 e0 a1 a2 a3
    have c7 : m2 q 7 = (c.1.2.length : Int) := a2.1.2.2.2.2.2
    obtain ⟨w1, w2, w3, w4, w5⟩ := wrmN_inv (r := c.1.1) hcI.2.1 (fun m hm => (hcI.2.2.1 m hm).1) kn (by omega)
    have x3 := w1.1 3 (by omega) (by omega)
    have hO : m2 q (8 + p) = lget c.1.2 p := a2.2.1 p (by omega) (by omega)
    have hkm := hcI.2.2.1 _ (lget_mem (L := c.1.2) (p := p) (by omega) (by omega))
    have hW : m2 q (15 + 5 * lget c.1.2 p + 3) = wm (wrmN c.1.2 kn c.1.1) (lget c.1.2 p) := (a2.2.2 _ hkm.1 (by omega)).2.2.2.1
    have hLt : BLt (wrmN c.1.2 kn c.1.1) c.1.2 := by
      obtain ⟨j1, j2, j3, j4, j5, j6⟩ := hcI.lt
      refine ⟨by omega, j2, by omega, ?_, ?_, ?_⟩
      · rw [w1.1 1 (by omega) (by omega)]; exact j4
      · rw [w1.1 2 (by omega) (by omega)]; exact j5
      · rw [w1.1 5 (by omega) (by omega)]; exact j6
    refine J_il6 dX7_hour_204 ?_
    refine J_al1 dX7_hour_206 ?_
    refine J_bipush dX7_hour_207 rfl ?_
    refine M_ald dX7_hour_209 (isW_sh hQ) (by decide) (by omega) ?_
    refine J_cge (tgt := 252) dX7_hour_210 rfl (by omega) (fun c_210 => ?_) (fun c_210 => ?_)
    · skip
      omega
    · skip
      refine J_al1 dX7_hour_213 ?_
      refine J_bipush dX7_hour_214 rfl ?_
      refine J_iconst dX7_hour_216 ?_
      refine J_al1 dX7_hour_217 ?_
      refine J_bipush dX7_hour_218 rfl ?_
      refine J_il6 dX7_hour_220 ?_
      refine J_iadd dX7_hour_222 ?_
      refine M_ald dX7_hour_223 (isW_sh hQ) (by decide) (by omega) ?_
      rw [hO]
      refine J_imul dX7_hour_224 ?_
      refine J_iadd dX7_hour_225 ?_
      refine J_iconst dX7_hour_226 ?_
      refine J_iadd dX7_hour_227 ?_
      refine J_dup2 dX7_hour_228 rfl rfl ?_
      refine M_ald dX7_hour_229 (isW_sh hQ) (by decide) (by omega) ?_
      rw [hW]
      refine J_al1 dX7_hour_230 ?_
      refine J_il6 dX7_hour_231 ?_
      refine M_csI2 dX7_hour_233 lk_X7_159 cw_X7_isSunny (k_isSunny hQ a2 hLt (by omega) (by omega)) (by decide) (Nat.le_of_ble_eq_true rfl) (fun v_233 mem_233 hq => ?_)
      obtain ⟨rfl, hq⟩ := hq; have hq := hq.symm; subst hq
      refine J_ifeq_b (tgt := 243) dX7_hour_236 rfl (fun c_236 => ?_) (fun c_236 => ?_)
      · skip
        refine J_iconst dX7_hour_243 ?_
        refine J_iadd dX7_hour_244 ?_
        refine M_ast dX7_hour_245 (isW_sh hQ) (by decide) (by omega) ?_
        refine J_inc6 dX7_hour_246 (by decide) rfl ?_
        refine J_goto (tgt := 204) dX7_hour_249 rfl ?_
        refine ih (kn + 1) (p + 1) _ (by omega) (by omega) ?_ (a3.set (by omega) (by omega))
        show MX _ (wrm c.1.2 (wrmN c.1.2 kn c.1.1) kn) c.1.2
        unfold wrm
        rw [mset_q, ← e0]
        first
        | (rw [bi_t c_236]; exact a2.warmd hkm.1 (by omega))
        | (rw [bi_f c_236]; exact a2.warmd hkm.1 (by omega))
      · skip
        refine J_iconst dX7_hour_239 ?_
        refine J_goto (tgt := 244) dX7_hour_240 rfl ?_
        refine J_iadd dX7_hour_244 ?_
        refine M_ast dX7_hour_245 (isW_sh hQ) (by decide) (by omega) ?_
        refine J_inc6 dX7_hour_246 (by decide) rfl ?_
        refine J_goto (tgt := 204) dX7_hour_249 rfl ?_
        refine ih (kn + 1) (p + 1) _ (by omega) (by omega) ?_ (a3.set (by omega) (by omega))
        show MX _ (wrm c.1.2 (wrmN c.1.2 kn c.1.1) kn) c.1.2
        unfold wrm
        rw [mset_q, ← e0]
        first
        | (rw [bi_t c_236]; exact a2.warmd hkm.1 (by omega))
        | (rw [bi_f c_236]; exact a2.warmd hkm.1 (by omega))
