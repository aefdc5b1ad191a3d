/-! THE REFERENCE READS -/
theorem nlen_pos {t : Int → Int} {n p : Int} : 1 ≤ nlen t n p ↔ fg t n p := by
  unfold nlen
  by_cases a : fg t n p
  · rw [if_pos a]
    exact ⟨fun _ => a, fun _ => by (repeat' split) <;> omega⟩
  · rw [if_neg a]
    exact ⟨fun q => by omega, fun q => absurd q a⟩
def tk0 (t : Int → Int) (n p : Int) : Int := if p = n then 1 else if 97 ≤ t p ∧ t p ≤ 122 then 2 else if 48 ≤ t p ∧ t p ≤ 57 then 3 else if t p = 44 ∨ t p = 59 then 4 else 0
def tkF (t : Int → Int) (n p : Int) : Int := if tk0 t n p = 3 ∧ nlen t n p = 3 then 0 else tk0 t n p
theorem tk0_range (t : Int → Int) (n p : Int) : 0 ≤ tk0 t n p ∧ tk0 t n p ≤ 4 := by unfold tk0; (repeat' split) <;> omega
theorem tkF_range (t : Int → Int) (n p : Int) : 0 ≤ tkF t n p ∧ tkF t n p ≤ 4 := by
  have := tk0_range t n p
  unfold tkF; split <;> omega
theorem tk_end {t : Int → Int} {n p : Int} : tkF t n p = 1 ↔ p = n := by
  unfold tkF tk0; (repeat' split) <;> omega
theorem tk_name {t : Int → Int} {n p : Int} (h : p ≤ n) : tkF t n p = 2 ↔ p < n ∧ 97 ≤ t p ∧ t p ≤ 122 := by
  unfold tkF tk0; (repeat' split) <;> omega
theorem tk_sign {t : Int → Int} {n p : Int} (h : p ≤ n) : tkF t n p = 4 ↔ p < n ∧ (t p = 44 ∨ t p = 59) := by
  unfold tkF tk0; (repeat' split) <;> omega
theorem tk_num {t : Int → Int} {n p : Int} (h : p ≤ n) : tkF t n p = 3 ↔ (1 ≤ nlen t n p ∧ nlen t n p ≤ 2) := by
  have h1 := nlen_range t n p
  have h2 : 1 ≤ nlen t n p ↔ (p < n ∧ 48 ≤ t p ∧ t p ≤ 57) := nlen_pos
  unfold tkF tk0; (repeat' split) <;> omega
/-- the token from p on -/
def Tok (m : ZMem) (t : Int → Int) (n p : Int) : Prop := m 79 13 = p ∧ m 79 14 = tkF t n p ∧ ((tkF t n p = 2 ∨ tkF t n p = 4) → m 79 15 = t p ∧ m 79 12 = p + 1) ∧ (tkF t n p = 3 → m 79 15 = nval t n p ∧ m 79 12 = p + nlen t n p) ∧ (-1000000 ≤ m 79 15 ∧ m 79 15 ≤ 1000)
def FrN (mem mem' : ZMem) : Prop := (∀ x : Int, x < 12 ∨ 15 < x → mem' 79 x = mem 79 x) ∧ ∀ q : Nat, q ≠ 79 → mem' q = mem q
def FrP (mem mem' : ZMem) : Prop := (∀ x : Int, x < 12 ∨ 17 < x → mem' 79 x = mem 79 x) ∧ ∀ q : Nat, q ≠ 79 → mem' q = mem q
theorem FrN.set {a b : ZMem} {i v : Int} (h : FrN a b) (hi : 12 ≤ i ∧ i ≤ 15) : FrN a (mset b 79 i v) := ⟨fun x hx => by rw [mset_i (by omega)]; exact h.1 x hx, fun q hq => by rw [mset_n hq]; exact h.2 q hq⟩
theorem FrN.rf {a : ZMem} : FrN a a := ⟨fun _ _ => rfl, fun _ _ => rfl⟩
theorem FrP.rf {a : ZMem} : FrP a a := ⟨fun _ _ => rfl, fun _ _ => rfl⟩
theorem FrP.set {a b : ZMem} {i v : Int} (h : FrP a b) (hi : 12 ≤ i ∧ i ≤ 17) : FrP a (mset b 79 i v) := ⟨fun x hx => by rw [mset_i (by omega)]; exact h.1 x hx, fun q hq => by rw [mset_n hq]; exact h.2 q hq⟩
theorem FrP.tr {a b c : ZMem} (h : FrP a b) (g : FrP b c) : FrP a c := ⟨fun x hx => (g.1 x hx).trans (h.1 x hx), fun q hq => (g.2 q hq).trans (h.2 q hq)⟩
theorem FrN.p {a b : ZMem} (h : FrN a b) : FrP a b := ⟨fun x hx => h.1 x (by omega), h.2⟩
theorem MTp.p {a b : ZMem} {t : Int → Int} {n : Int} (h : MTp a t n) (f : FrP a b) : MTp b t n := ⟨by rw [f.1 11 (by omega)]; exact h.1, fun p p0 p1 => by rw [f.2 87 (by omega)]; exact h.2 p p0 p1⟩
def Rg (t : Int → Int) (n : Int) : Prop := 0 ≤ n ∧ n ≤ 100 ∧ ∀ p, 0 ≤ p → p < n → 0 ≤ t p ∧ t p ≤ 255
theorem k_nextToken {mem : ZMem} {t : Int → Int} {n p : Int} (hT : MTp mem t n) (hR : Rg t n) (hc : mem 79 12 = p) (hp : 0 ≤ p ∧ p ≤ n) : CV mX7_nextToken 1 [zr 79] mem (fun mem' => Tok mem' t n p ∧ FrN mem mem') := by
  obtain ⟨hn0, hn1, hr⟩ := hR
  have hr' : p < n → 0 ≤ t p ∧ t p ≤ 255 := fun q => hr p hp.1 q
  have f0 : ∀ m : ZMem, FrN mem m → m 79 11 = n := fun m f => by rw [f.1 11 (by omega)]; exact hT.1
  have f87 : ∀ (m : ZMem), FrN mem m → ∀ x : Int, 0 ≤ x → x < n → m 87 x = t x := fun m f x x0 x1 => by rw [f.2 87 (by omega)]; exact hT.2 x x0 x1
  -- the run of figures
  have loop : (p < n ∧ 48 ≤ t p ∧ t p ≤ 57) → ∀ (c : Nat) (cur : Int) (m5 : ZMem), (c : Int) + cur = n → p + 1 ≤ cur → (∀ x : Int, p ≤ x → x < cur → 48 ≤ t x ∧ t x ≤ 57) → m5 79 12 = cur → m5 79 13 = p → ((cur = p + 1 ∧ m5 79 15 = t p - 48) ∨ (p + 2 ≤ cur ∧ m5 79 15 = (t p - 48) * 10 + (t (p + 1) - 48))) → FrN mem m5 → JM mX7_nextToken 1 (QV (fun mem' => Tok mem' t n p ∧ FrN mem mem')) 165 [zr 79] [] m5 := by
    intro hd c
    have e0 : tk0 t n p = 3 := by unfold tk0; rw [if_neg (by omega), if_neg (by omega), if_pos (by omega)]
    have fin : ∀ (cur : Int) (m5 : ZMem) (v : Int), cur ≤ n → p + 1 ≤ cur → (∀ x : Int, p ≤ x → x < cur → 48 ≤ t x ∧ t x ≤ 57) → ¬ fg t n cur → m5 79 12 = cur → m5 79 13 = p → ((cur = p + 1 ∧ m5 79 15 = t p - 48) ∨ (p + 2 ≤ cur ∧ m5 79 15 = (t p - 48) * 10 + (t (p + 1) - 48))) → FrN mem m5 → ((2 < cur - p ∧ v = 0) ∨ (cur - p ≤ 2 ∧ v = 3)) → Tok (mset m5 79 14 v) t n p ∧ FrN mem (mset m5 79 14 v) := by
      intro cur m5 v a0 a1 a2 a3 a4 a5 a6 a7 a8
      have d1 : p + 2 ≤ cur → 48 ≤ t (p + 1) ∧ t (p + 1) ≤ 57 := fun q => a2 (p + 1) (by omega) (by omega)
      have rg : -1000000 ≤ m5 79 15 ∧ m5 79 15 ≤ 1000 := by
        rcases a6 with ⟨q, e⟩ | ⟨q, e⟩
        · omega
        · have := d1 q; omega
      refine ⟨?_, a7.set (by omega)⟩
      unfold Tok
      rw [mset_i (by omega), mset_s, mset_i (by omega), mset_i (by omega)]
      rcases a8 with ⟨b1, b2⟩ | ⟨b1, b2⟩
      · have hl : nlen t n p = 3 := nlen_of (by omega) (fun i i0 i1 => ⟨by omega, a2 (p + i) (by omega) (by omega)⟩) (Or.inl rfl)
        have ek : tkF t n p = 0 := by unfold tkF; rw [if_pos ⟨e0, hl⟩]
        rw [ek]
        exact ⟨a5, b2, fun q => by omega, fun q => by omega, rg⟩
      · have hl : nlen t n p = cur - p := nlen_of (by omega) (fun i i0 i1 => ⟨by omega, a2 (p + i) (by omega) (by omega)⟩) (Or.inr (by rw [show p + (cur - p) = cur by omega]; exact a3))
        have ek : tkF t n p = 3 := by unfold tkF; rw [if_neg (by omega)]; exact e0
        rw [ek]
        refine ⟨a5, b2, fun q => by omega, fun _ => ⟨?_, by omega⟩, rg⟩
        unfold nval
        rcases a6 with ⟨q, e⟩ | ⟨q, e⟩
        · rw [if_neg (by rw [← q]; exact a3)]; exact e
        · rw [if_pos ⟨by omega, d1 q⟩]; exact e
    induction c with
    | zero =>
      intro cur m5 e1 a1 a2 a4 a5 a6 a7
      have f11 := f0 m5 a7
      refine J_al0 dX7_nextToken_165 ?_
      refine M_get (ki := 12) dX7_nextToken_166 fl_X7_90 sh_79 rfl rfl ?_
      refine J_al0 dX7_nextToken_169 ?_
      refine M_get (ki := 11) dX7_nextToken_170 fl_X7_77 sh_79 rfl rfl ?_
      refine J_cge (tgt := 255) dX7_nextToken_173 rfl (by omega) (fun c_173 => ?_) (fun c_173 => ?_)
      · skip
        refine J_al0 dX7_nextToken_255 ?_
        refine J_al0 dX7_nextToken_256 ?_
        refine M_get (ki := 12) dX7_nextToken_257 fl_X7_90 sh_79 rfl rfl ?_
        refine J_al0 dX7_nextToken_260 ?_
        refine M_get (ki := 13) dX7_nextToken_261 fl_X7_84 sh_79 rfl rfl ?_
        refine J_isub dX7_nextToken_264 ?_
        refine J_iconst dX7_nextToken_265 ?_
        refine J_cle (tgt := 273) dX7_nextToken_266 rfl (by omega) (fun c_266 => ?_) (fun c_266 => ?_)
        · skip
          refine J_iconst dX7_nextToken_273 ?_
          refine M_put (ki := 14) dX7_nextToken_274 fl_X7_105 sh_79 rfl rfl rfl (fun r hr => by cases hr; rfl) ?_
          refine M_vret dX7_nextToken_277 rfl ?_
          exact fin cur m5 _ (by omega) a1 a2 (fun q => by omega) a4 a5 a6 a7 (by omega)
        · skip
          refine J_iconst dX7_nextToken_269 ?_
          refine J_goto (tgt := 274) dX7_nextToken_270 rfl ?_
          refine M_put (ki := 14) dX7_nextToken_274 fl_X7_105 sh_79 rfl rfl rfl (fun r hr => by cases hr; rfl) ?_
          refine M_vret dX7_nextToken_277 rfl ?_
          exact fin cur m5 _ (by omega) a1 a2 (fun q => by omega) a4 a5 a6 a7 (by omega)
      · skip
        omega
    | succ c ih =>
      intro cur m5 e1 a1 a2 a4 a5 a6 a7
      have f11 := f0 m5 a7
      have g87 : m5 87 (m5 79 12) = t cur := by rw [a4]; exact f87 m5 a7 cur (by omega) (by omega)
      have hrc := hr cur (by omega) (by omega)
      refine J_al0 dX7_nextToken_165 ?_
      refine M_get (ki := 12) dX7_nextToken_166 fl_X7_90 sh_79 rfl rfl ?_
      refine J_al0 dX7_nextToken_169 ?_
      refine M_get (ki := 11) dX7_nextToken_170 fl_X7_77 sh_79 rfl rfl ?_
      refine J_cge (tgt := 255) dX7_nextToken_173 rfl (by omega) (fun c_173 => ?_) (fun c_173 => ?_)
      · skip
        omega
      · skip
        refine J_al0 dX7_nextToken_176 ?_
        refine M_getR dX7_nextToken_177 fl_X7_31 sh_79 rfl ?_
        refine J_al0 dX7_nextToken_180 ?_
        refine M_get (ki := 12) dX7_nextToken_181 fl_X7_90 sh_79 rfl rfl ?_
        refine M_ald dX7_nextToken_184 sh_87 (by decide) (by omega) ?_
        rw [g87]
        refine J_i2l dX7_nextToken_185 (by omega) ?_
        refine J_ldc2 (n := 48) dX7_nextToken_186 col_X7_101 (by decide) ?_
        refine J_ldc2 (n := 57) dX7_nextToken_189 col_X7_103 (by decide) ?_
        refine M_csI3 dX7_nextToken_192 lk_X7_60 cw_X7_in (k_in (by omega) (by omega) (by omega)) (by decide) (Nat.le_of_ble_eq_true rfl) (fun v_192 mem_192 hq => ?_)
        obtain ⟨rfl, hq⟩ := hq; have hq := hq.symm; subst hq
        refine J_ifeq_b (tgt := 255) dX7_nextToken_195 rfl (fun c_195 => ?_) (fun c_195 => ?_)
        · skip
          refine J_al0 dX7_nextToken_255 ?_
          refine J_al0 dX7_nextToken_256 ?_
          refine M_get (ki := 12) dX7_nextToken_257 fl_X7_90 sh_79 rfl rfl ?_
          refine J_al0 dX7_nextToken_260 ?_
          refine M_get (ki := 13) dX7_nextToken_261 fl_X7_84 sh_79 rfl rfl ?_
          refine J_isub dX7_nextToken_264 ?_
          refine J_iconst dX7_nextToken_265 ?_
          refine J_cle (tgt := 273) dX7_nextToken_266 rfl (by omega) (fun c_266 => ?_) (fun c_266 => ?_)
          · skip
            refine J_iconst dX7_nextToken_273 ?_
            refine M_put (ki := 14) dX7_nextToken_274 fl_X7_105 sh_79 rfl rfl rfl (fun r hr => by cases hr; rfl) ?_
            refine M_vret dX7_nextToken_277 rfl ?_
            exact fin cur m5 _ (by omega) a1 a2 (fun q => c_195 q.2) a4 a5 a6 a7 (by omega)
          · skip
            refine J_iconst dX7_nextToken_269 ?_
            refine J_goto (tgt := 274) dX7_nextToken_270 rfl ?_
            refine M_put (ki := 14) dX7_nextToken_274 fl_X7_105 sh_79 rfl rfl rfl (fun r hr => by cases hr; rfl) ?_
            refine M_vret dX7_nextToken_277 rfl ?_
            exact fin cur m5 _ (by omega) a1 a2 (fun q => c_195 q.2) a4 a5 a6 a7 (by omega)
        · skip
          refine J_al0 dX7_nextToken_198 ?_
          refine J_al0 dX7_nextToken_199 ?_
          refine M_get (ki := 12) dX7_nextToken_200 fl_X7_90 sh_79 rfl rfl ?_
          refine J_al0 dX7_nextToken_203 ?_
          refine M_get (ki := 13) dX7_nextToken_204 fl_X7_84 sh_79 rfl rfl ?_
          refine J_isub dX7_nextToken_207 ?_
          refine J_iconst dX7_nextToken_208 ?_
          refine J_cge (tgt := 235) dX7_nextToken_209 rfl (by omega) (fun c_209 => ?_) (fun c_209 => ?_)
          · skip
            refine J_al0 dX7_nextToken_235 ?_
            refine M_get (ki := 15) dX7_nextToken_236 fl_X7_94 sh_79 rfl rfl ?_
            refine M_put (ki := 15) dX7_nextToken_239 fl_X7_94 sh_79 rfl rfl rfl (fun r hr => by cases hr; rfl) ?_
            refine J_al0 dX7_nextToken_242 ?_
            refine J_dup dX7_nextToken_243 rfl ?_
            refine M_get (ki := 12) dX7_nextToken_244 fl_X7_90 sh_79 rfl rfl ?_
            refine J_iconst dX7_nextToken_247 ?_
            refine J_iadd dX7_nextToken_248 ?_
            refine M_put (ki := 12) dX7_nextToken_249 fl_X7_90 sh_79 rfl rfl rfl (fun r hr => by cases hr; rfl) ?_
            refine J_goto (tgt := 165) dX7_nextToken_252 rfl ?_
            have st : ∀ V : Int, ((cur = p + 1 ∧ V = 10 * m5 79 15 + t cur - 48) ∨ (p + 2 ≤ cur ∧ V = m5 79 15)) → JM mX7_nextToken 1 (QV (fun mem' => Tok mem' t n p ∧ FrN mem mem')) 165 [zr 79] [] (mset (mset m5 79 15 V) 79 12 (mset m5 79 15 V 79 12 + 1)) := fun V hV => by
              refine ih (cur + 1) _ (by omega) (by omega) (fun x x0 x1 => ?_) (by rw [mset_s, mset_i (by omega), a4]) (by rw [mset_i (by omega), mset_i (by omega)]; exact a5) ?_ ((a7.set (by omega)).set (by omega))
              · by_cases z : x = cur
                · subst z; exact c_195
                · exact a2 x x0 (by omega)
              · rw [mset_i (by omega), mset_s]
                refine Or.inr ⟨by omega, ?_⟩
                rcases hV with ⟨q, e⟩ | ⟨q, e⟩
                · subst q; omega
                · omega
            exact st _ (by omega)
          · skip
            refine J_bipush dX7_nextToken_212 rfl ?_
            refine J_al0 dX7_nextToken_214 ?_
            refine M_get (ki := 15) dX7_nextToken_215 fl_X7_94 sh_79 rfl rfl ?_
            refine J_imul dX7_nextToken_218 ?_
            refine J_al0 dX7_nextToken_219 ?_
            refine M_getR dX7_nextToken_220 fl_X7_31 sh_79 rfl ?_
            refine J_al0 dX7_nextToken_223 ?_
            refine M_get (ki := 12) dX7_nextToken_224 fl_X7_90 sh_79 rfl rfl ?_
            refine M_ald dX7_nextToken_227 sh_87 (by decide) (by omega) ?_
            rw [g87]
            refine J_iadd dX7_nextToken_228 ?_
            refine J_bipush dX7_nextToken_229 rfl ?_
            refine J_isub dX7_nextToken_231 ?_
            refine J_goto (tgt := 239) dX7_nextToken_232 rfl ?_
            refine M_put (ki := 15) dX7_nextToken_239 fl_X7_94 sh_79 rfl rfl rfl (fun r hr => by cases hr; rfl) ?_
            refine J_al0 dX7_nextToken_242 ?_
            refine J_dup dX7_nextToken_243 rfl ?_
            refine M_get (ki := 12) dX7_nextToken_244 fl_X7_90 sh_79 rfl rfl ?_
            refine J_iconst dX7_nextToken_247 ?_
            refine J_iadd dX7_nextToken_248 ?_
            refine M_put (ki := 12) dX7_nextToken_249 fl_X7_90 sh_79 rfl rfl rfl (fun r hr => by cases hr; rfl) ?_
            refine J_goto (tgt := 165) dX7_nextToken_252 rfl ?_
            have st : ∀ V : Int, ((cur = p + 1 ∧ V = 10 * m5 79 15 + t cur - 48) ∨ (p + 2 ≤ cur ∧ V = m5 79 15)) → JM mX7_nextToken 1 (QV (fun mem' => Tok mem' t n p ∧ FrN mem mem')) 165 [zr 79] [] (mset (mset m5 79 15 V) 79 12 (mset m5 79 15 V 79 12 + 1)) := fun V hV => by
              refine ih (cur + 1) _ (by omega) (by omega) (fun x x0 x1 => ?_) (by rw [mset_s, mset_i (by omega), a4]) (by rw [mset_i (by omega), mset_i (by omega)]; exact a5) ?_ ((a7.set (by omega)).set (by omega))
              · by_cases z : x = cur
                · subst z; exact c_195
                · exact a2 x x0 (by omega)
              · rw [mset_i (by omega), mset_s]
                refine Or.inr ⟨by omega, ?_⟩
                rcases hV with ⟨q, e⟩ | ⟨q, e⟩
                · subst q; omega
                · omega
            exact st _ (by omega)
  have four : ∀ (m4 : ZMem), m4 79 12 = (if p < n then p + 1 else p) → m4 79 13 = p → m4 79 14 = tk0 t n p → ((p = n ∧ m4 79 15 = -1000000) ∨ (p < n ∧ m4 79 15 = t p)) → FrN mem m4 → JM mX7_nextToken 1 (QV (fun mem' => Tok mem' t n p ∧ FrN mem mem')) 146 [zr 79] [] m4 := by
    intro m4 a1 a2 a3 a4 a5
    have hk := tk0_range t n p
    refine J_al0 dX7_nextToken_146 ?_
    refine M_get (ki := 14) dX7_nextToken_147 fl_X7_105 sh_79 rfl rfl ?_
    refine J_iconst dX7_nextToken_150 ?_
    refine J_cne (tgt := 277) dX7_nextToken_151 rfl (by omega) (fun c_151 => ?_) (fun c_151 => ?_)
    · skip
      refine M_vret dX7_nextToken_277 rfl ?_
      have ek : tkF t n p = tk0 t n p := by unfold tkF; rw [if_neg (by omega)]
      refine ⟨⟨a2, by rw [ek]; exact a3, fun q => ?_, fun q => by omega, by omega⟩, a5⟩
      have hpn : p < n := by
        rw [ek] at q
        have : ¬ p = n := fun z => by
          have : tk0 t n p = 1 := by unfold tk0; rw [if_pos z]
          omega
        omega
      rw [if_pos hpn] at a1
      exact ⟨by omega, a1⟩
    · skip
      refine J_al0 dX7_nextToken_154 ?_
      refine J_dup dX7_nextToken_155 rfl ?_
      refine M_get (ki := 15) dX7_nextToken_156 fl_X7_94 sh_79 rfl rfl ?_
      refine J_bipush dX7_nextToken_159 rfl ?_
      refine J_isub dX7_nextToken_161 ?_
      refine M_put (ki := 15) dX7_nextToken_162 fl_X7_94 sh_79 rfl rfl rfl (fun r hr => by cases hr; rfl) ?_
      have e3 : tk0 t n p = 3 := by omega
      have hd : p < n ∧ 48 ≤ t p ∧ t p ≤ 57 := by
        unfold tk0 at e3
        (repeat' split at e3) <;> omega
      rw [if_pos hd.1] at a1
      exact loop hd (n - (p + 1)).toNat (p + 1) _ (by omega) (by omega) (fun x x0 x1 => by rw [show x = p by omega]; exact hd.2) (by rw [mset_i (by omega)]; exact a1) (by rw [mset_i (by omega)]; exact a2) (Or.inl ⟨rfl, by rw [mset_s]; omega⟩) (a5.set (by omega))
  have three : ∀ (m3 : ZMem), m3 79 12 = p → m3 79 13 = p → m3 79 14 = tk0 t n p → ((p = n ∧ m3 79 15 = -1000000) ∨ (p < n ∧ m3 79 15 = t p)) → FrN mem m3 → JM mX7_nextToken 1 (QV (fun mem' => Tok mem' t n p ∧ FrN mem mem')) 121 [zr 79] [] m3 := by
    intro m3 a1 a2 a3 a4 a5
    have f11 := f0 m3 a5
    refine J_al0 dX7_nextToken_121 ?_
    refine J_dup dX7_nextToken_122 rfl ?_
    refine M_get (ki := 12) dX7_nextToken_123 fl_X7_90 sh_79 rfl rfl ?_
    refine J_al0 dX7_nextToken_126 ?_
    refine M_get (ki := 12) dX7_nextToken_127 fl_X7_90 sh_79 rfl rfl ?_
    refine J_al0 dX7_nextToken_130 ?_
    refine M_get (ki := 11) dX7_nextToken_131 fl_X7_77 sh_79 rfl rfl ?_
    refine J_cge (tgt := 141) dX7_nextToken_134 rfl (by omega) (fun c_134 => ?_) (fun c_134 => ?_)
    · skip
      refine J_iconst dX7_nextToken_141 ?_
      refine J_iadd dX7_nextToken_142 ?_
      refine M_put (ki := 12) dX7_nextToken_143 fl_X7_90 sh_79 rfl rfl rfl (fun r hr => by cases hr; rfl) ?_
      first
      | exact four _ (by rw [mset_s, if_pos (by omega)]; omega) (by rw [mset_i (by omega)]; exact a2) (by rw [mset_i (by omega)]; exact a3) (by rw [mset_i (by omega)]; exact a4) (a5.set (by omega))
      | exact four _ (by rw [mset_s, if_neg (by omega)]; omega) (by rw [mset_i (by omega)]; exact a2) (by rw [mset_i (by omega)]; exact a3) (by rw [mset_i (by omega)]; exact a4) (a5.set (by omega))
    · skip
      refine J_iconst dX7_nextToken_137 ?_
      refine J_goto (tgt := 142) dX7_nextToken_138 rfl ?_
      refine J_iadd dX7_nextToken_142 ?_
      refine M_put (ki := 12) dX7_nextToken_143 fl_X7_90 sh_79 rfl rfl rfl (fun r hr => by cases hr; rfl) ?_
      first
      | exact four _ (by rw [mset_s, if_pos (by omega)]; omega) (by rw [mset_i (by omega)]; exact a2) (by rw [mset_i (by omega)]; exact a3) (by rw [mset_i (by omega)]; exact a4) (a5.set (by omega))
      | exact four _ (by rw [mset_s, if_neg (by omega)]; omega) (by rw [mset_i (by omega)]; exact a2) (by rw [mset_i (by omega)]; exact a3) (by rw [mset_i (by omega)]; exact a4) (a5.set (by omega))
  have two : ∀ (m2 : ZMem), m2 79 12 = p → m2 79 13 = p → ((p = n ∧ m2 79 15 = -1000000) ∨ (p < n ∧ m2 79 15 = t p)) → FrN mem m2 → JM mX7_nextToken 1 (QV (fun mem' => Tok mem' t n p ∧ FrN mem mem')) 37 [zr 79] [] m2 := by
    intro m2 a1 a2 a4 a5
    have f11 := f0 m2 a5
    refine J_al0 dX7_nextToken_37 ?_
    refine J_al0 dX7_nextToken_38 ?_
    refine M_get (ki := 12) dX7_nextToken_39 fl_X7_90 sh_79 rfl rfl ?_
    refine J_al0 dX7_nextToken_42 ?_
    refine M_get (ki := 11) dX7_nextToken_43 fl_X7_77 sh_79 rfl rfl ?_
    refine J_cne (tgt := 53) dX7_nextToken_46 rfl (by omega) (fun c_46 => ?_) (fun c_46 => ?_)
    · skip
      refine J_al0 dX7_nextToken_53 ?_
      refine M_get (ki := 15) dX7_nextToken_54 fl_X7_94 sh_79 rfl rfl ?_
      refine J_i2l dX7_nextToken_57 (by omega) ?_
      refine J_ldc2 (n := 97) dX7_nextToken_58 col_X7_97 (by decide) ?_
      refine J_ldc2 (n := 122) dX7_nextToken_61 col_X7_99 (by decide) ?_
      refine M_csI3 dX7_nextToken_64 lk_X7_60 cw_X7_in (k_in (by omega) (by omega) (by omega)) (by decide) (Nat.le_of_ble_eq_true rfl) (fun v_64 mem_64 hq => ?_)
      obtain ⟨rfl, hq⟩ := hq; have hq := hq.symm; subst hq
      refine J_ifeq_b (tgt := 74) dX7_nextToken_67 rfl (fun c_67 => ?_) (fun c_67 => ?_)
      · skip
        refine J_al0 dX7_nextToken_74 ?_
        refine M_get (ki := 15) dX7_nextToken_75 fl_X7_94 sh_79 rfl rfl ?_
        refine J_i2l dX7_nextToken_78 (by omega) ?_
        refine J_ldc2 (n := 48) dX7_nextToken_79 col_X7_101 (by decide) ?_
        refine J_ldc2 (n := 57) dX7_nextToken_82 col_X7_103 (by decide) ?_
        refine M_csI3 dX7_nextToken_85 lk_X7_60 cw_X7_in (k_in (by omega) (by omega) (by omega)) (by decide) (Nat.le_of_ble_eq_true rfl) (fun v_85 mem_85 hq => ?_)
        obtain ⟨rfl, hq⟩ := hq; have hq := hq.symm; subst hq
        refine J_ifeq_b (tgt := 95) dX7_nextToken_88 rfl (fun c_88 => ?_) (fun c_88 => ?_)
        · skip
          refine J_al0 dX7_nextToken_95 ?_
          refine M_get (ki := 15) dX7_nextToken_96 fl_X7_94 sh_79 rfl rfl ?_
          refine J_bipush dX7_nextToken_99 rfl ?_
          refine J_ceq (tgt := 113) dX7_nextToken_101 rfl (by omega) (fun c_101 => ?_) (fun c_101 => ?_)
          · skip
            refine J_iconst dX7_nextToken_113 ?_
            refine J_goto (tgt := 118) dX7_nextToken_114 rfl ?_
            refine M_put (ki := 14) dX7_nextToken_118 fl_X7_105 sh_79 rfl rfl rfl (fun r hr => by cases hr; rfl) ?_
            refine three _ (by rw [mset_i (by omega)]; exact a1) (by rw [mset_i (by omega)]; exact a2) ?_ (by rw [mset_i (by omega)]; exact a4) (a5.set (by omega))
            rw [mset_s]
            unfold tk0
            (repeat' split) <;> omega
          · skip
            refine J_al0 dX7_nextToken_104 ?_
            refine M_get (ki := 15) dX7_nextToken_105 fl_X7_94 sh_79 rfl rfl ?_
            refine J_bipush dX7_nextToken_108 rfl ?_
            refine J_cne (tgt := 117) dX7_nextToken_110 rfl (by omega) (fun c_110 => ?_) (fun c_110 => ?_)
            · skip
              refine J_iconst dX7_nextToken_117 ?_
              refine M_put (ki := 14) dX7_nextToken_118 fl_X7_105 sh_79 rfl rfl rfl (fun r hr => by cases hr; rfl) ?_
              refine three _ (by rw [mset_i (by omega)]; exact a1) (by rw [mset_i (by omega)]; exact a2) ?_ (by rw [mset_i (by omega)]; exact a4) (a5.set (by omega))
              rw [mset_s]
              unfold tk0
              (repeat' split) <;> omega
            · skip
              refine J_iconst dX7_nextToken_113 ?_
              refine J_goto (tgt := 118) dX7_nextToken_114 rfl ?_
              refine M_put (ki := 14) dX7_nextToken_118 fl_X7_105 sh_79 rfl rfl rfl (fun r hr => by cases hr; rfl) ?_
              refine three _ (by rw [mset_i (by omega)]; exact a1) (by rw [mset_i (by omega)]; exact a2) ?_ (by rw [mset_i (by omega)]; exact a4) (a5.set (by omega))
              rw [mset_s]
              unfold tk0
              (repeat' split) <;> omega
        · skip
          refine J_iconst dX7_nextToken_91 ?_
          refine J_goto (tgt := 118) dX7_nextToken_92 rfl ?_
          refine M_put (ki := 14) dX7_nextToken_118 fl_X7_105 sh_79 rfl rfl rfl (fun r hr => by cases hr; rfl) ?_
          refine three _ (by rw [mset_i (by omega)]; exact a1) (by rw [mset_i (by omega)]; exact a2) ?_ (by rw [mset_i (by omega)]; exact a4) (a5.set (by omega))
          rw [mset_s]
          unfold tk0
          (repeat' split) <;> omega
      · skip
        refine J_iconst dX7_nextToken_70 ?_
        refine J_goto (tgt := 118) dX7_nextToken_71 rfl ?_
        refine M_put (ki := 14) dX7_nextToken_118 fl_X7_105 sh_79 rfl rfl rfl (fun r hr => by cases hr; rfl) ?_
        refine three _ (by rw [mset_i (by omega)]; exact a1) (by rw [mset_i (by omega)]; exact a2) ?_ (by rw [mset_i (by omega)]; exact a4) (a5.set (by omega))
        rw [mset_s]
        unfold tk0
        (repeat' split) <;> omega
    · skip
      refine J_iconst dX7_nextToken_49 ?_
      refine J_goto (tgt := 118) dX7_nextToken_50 rfl ?_
      refine M_put (ki := 14) dX7_nextToken_118 fl_X7_105 sh_79 rfl rfl rfl (fun r hr => by cases hr; rfl) ?_
      refine three _ (by rw [mset_i (by omega)]; exact a1) (by rw [mset_i (by omega)]; exact a2) ?_ (by rw [mset_i (by omega)]; exact a4) (a5.set (by omega))
      rw [mset_s]
      unfold tk0
      (repeat' split) <;> omega
  refine CM.of (by decide +kernel) ([zr 79]) (zok_all rfl) (Nat.le_of_ble_eq_true rfl) rfl ?_
  refine J_al0 dX7_nextToken_0 ?_
  refine J_al0 dX7_nextToken_1 ?_
  refine M_get (ki := 12) dX7_nextToken_2 fl_X7_90 sh_79 rfl rfl ?_
  refine M_put (ki := 13) dX7_nextToken_5 fl_X7_84 sh_79 rfl rfl rfl (fun r hr => by cases hr; rfl) ?_
  have F1 : FrN mem (mset mem 79 13 (mem 79 12)) := FrN.rf.set (by omega)
  have g12 : mset mem 79 13 (mem 79 12) 79 12 = p := by rw [mset_i (by omega)]; exact hc
  have g13 : mset mem 79 13 (mem 79 12) 79 13 = p := by rw [mset_s]; exact hc
  generalize mset mem 79 13 (mem 79 12) = m1 at *
  have f11 := f0 m1 F1
  refine J_al0 dX7_nextToken_8 ?_
  refine J_al0 dX7_nextToken_9 ?_
  refine M_get (ki := 12) dX7_nextToken_10 fl_X7_90 sh_79 rfl rfl ?_
  refine J_al0 dX7_nextToken_13 ?_
  refine M_get (ki := 11) dX7_nextToken_14 fl_X7_77 sh_79 rfl rfl ?_
  refine J_cge (tgt := 32) dX7_nextToken_17 rfl (by omega) (fun c_17 => ?_) (fun c_17 => ?_)
  · skip
    refine J_ldc (n := -1000000) dX7_nextToken_32 co_X7_93 (by decide) ?_
    refine M_put (ki := 15) dX7_nextToken_34 fl_X7_94 sh_79 rfl rfl rfl (fun r hr => by cases hr; rfl) ?_
    first
    | exact two _ (by rw [mset_i (by omega)]; exact g12) (by rw [mset_i (by omega)]; exact g13) (Or.inr ⟨by omega, by rw [mset_s]; exact f87 m1 F1 p (by omega) (by omega)⟩) (F1.set (by omega))
    | exact two _ (by rw [mset_i (by omega)]; exact g12) (by rw [mset_i (by omega)]; exact g13) (Or.inl ⟨by omega, by rw [mset_s]⟩) (F1.set (by omega))
  · skip
    refine J_al0 dX7_nextToken_20 ?_
    refine M_getR dX7_nextToken_21 fl_X7_31 sh_79 rfl ?_
    refine J_al0 dX7_nextToken_24 ?_
    refine M_get (ki := 12) dX7_nextToken_25 fl_X7_90 sh_79 rfl rfl ?_
    rw [g12]
    refine M_ald dX7_nextToken_28 sh_87 (by decide) (by omega) ?_
    refine J_goto (tgt := 34) dX7_nextToken_29 rfl ?_
    refine M_put (ki := 15) dX7_nextToken_34 fl_X7_94 sh_79 rfl rfl rfl (fun r hr => by cases hr; rfl) ?_
    first
    | exact two _ (by rw [mset_i (by omega)]; exact g12) (by rw [mset_i (by omega)]; exact g13) (Or.inr ⟨by omega, by rw [mset_s]; exact f87 m1 F1 p (by omega) (by omega)⟩) (F1.set (by omega))
    | exact two _ (by rw [mset_i (by omega)]; exact g12) (by rw [mset_i (by omega)]; exact g13) (Or.inl ⟨by omega, by rw [mset_s]⟩) (F1.set (by omega))
