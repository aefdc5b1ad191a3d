/-! IN HOW MANY CASES -/
def bcn (a : Nat) : Nat := a % 2 + a / 2 % 2 + a / 4 % 2 + a / 8 % 2 + a / 16 % 2 + a / 32 % 2 + a / 64 % 2
def blNn (p d : Nat) : Nat → Nat
  | 0 => 0
  | k + 1 => if Nat.land k d = k then blNn p d k + p ^ (bcn k) * (10 - p) ^ (bcn d - bcn k) else blNn p d k
theorem bl_all : ∀ d : Fin 128, ∀ p : Fin 11, blNn p.val d.val 128 = 10 ^ (bcn d.val) := by decide +kernel
theorem lnd_all : ∀ k : Fin 128, ∀ d : Fin 128, (zand ((k.val : Nat) : Int) (zxor ((d.val : Nat) : Int) (-1)) = 0 ↔ Nat.land k.val d.val = k.val) := by decide +kernel
def blI (p d : Int) : Nat → Int
  | 0 => 0
  | k + 1 => if zand k (zxor d (-1)) = 0 then blI p d k + wyI p d k else blI p d k
theorem bcI_n (k : Nat) : bcI (k : Int) = (bcn k : Int) := by unfold bcI bcn; omega
theorem pw_n (a b : Nat) : pw (a : Int) (b : Int) = ((a ^ b : Nat) : Int) := by
  unfold pw
  rw [Int.toNat_natCast]
  exact (Int.natCast_pow a b).symm
theorem wyI_n {p d k : Nat} (hp : p ≤ 10) (h : bcn k ≤ bcn d) : wyI (p : Int) (d : Int) (k : Int) = ((p ^ (bcn k) * (10 - p) ^ (bcn d - bcn k) : Nat) : Int) := by
  unfold wyI
  rw [bcI_n, bcI_n, pw_n, show (10 : Int) - (p : Int) = ((10 - p : Nat) : Int) by omega, show (bcn d : Int) - (bcn k : Int) = ((bcn d - bcn k : Nat) : Int) by omega, pw_n]
  exact (Int.natCast_mul _ _).symm
theorem blI_n {p d : Nat} (hp : p ≤ 10) (hd : d < 128) : ∀ k : Nat, k ≤ 128 → blI (p : Int) (d : Int) k = (blNn p d k : Int)
  | 0, _ => rfl
  | k + 1, hk => by
    have ih := blI_n hp hd k (by omega)
    have hl := lnd_all ⟨k, by omega⟩ ⟨d, hd⟩
    simp only at hl
    unfold blI blNn
    by_cases c : zand (k : Int) (zxor (d : Int) (-1)) = 0
    · have hs := sub_bc (a := (k : Int)) (b := (d : Int)) (by omega) (by omega) c
      rw [bcI_n, bcI_n] at hs
      rw [if_pos c, if_pos (hl.mp c), ih, wyI_n hp (by omega), Int.natCast_add]
    · rw [if_neg c, if_neg (fun q => c (hl.mpr q)), ih]
theorem blI_10 {p d : Int} (hp : 0 ≤ p ∧ p ≤ 10) (hd : 0 ≤ d ∧ d < 128) : blI p d 128 = pw 10 (bcI d) := by
  obtain ⟨x, rfl⟩ := Int.eq_ofNat_of_zero_le hp.1
  obtain ⟨y, rfl⟩ := Int.eq_ofNat_of_zero_le hd.1
  have h := bl_all ⟨y, by omega⟩ ⟨x, by omega⟩
  simp only at h
  have e := pw_n 10 (bcn y)
  rw [blI_n (by omega) (by omega) 128 (Nat.le_refl _), h, bcI_n]
  exact e.symm
theorem blI_rg {p d : Int} (hp : 0 ≤ p ∧ p ≤ 10) (hd : 0 ≤ d ∧ d < 128) : ∀ k : Nat, k ≤ 128 → 0 ≤ blI p d k ∧ blI p d k ≤ k * 100000000000000
  | 0, _ => ⟨Int.le_refl 0, by show (0 : Int) ≤ ((0 : Nat) : Int) * 100000000000000; omega⟩
  | k + 1, hk => by
    have ih := blI_rg hp hd k (by omega)
    unfold blI
    by_cases c : zand (k : Int) (zxor d (-1)) = 0
    · rw [if_pos c]
      have := wyI_rg (f := (k : Int)) hp (sub_bc (by omega) hd c)
      omega
    · rw [if_neg c]; omega
/-- a case's part, man by man -/
def faI (p d f : Int) : Nat → Int
  | 0 => 1
  | k + 1 => faI p d f k * (if zand (zshr d k) 1 = 0 then 1 else if zand (zshr f k) 1 = 1 then p else 10 - p)
def cAn (d f : Int) : Nat → Nat
  | 0 => 0
  | k + 1 => cAn d f k + (if zand (zshr d k) 1 = 0 then 0 else if zand (zshr f k) 1 = 1 then 1 else 0)
def cBn (d f : Int) : Nat → Nat
  | 0 => 0
  | k + 1 => cBn d f k + (if zand (zshr d k) 1 = 0 then 0 else if zand (zshr f k) 1 = 1 then 0 else 1)
theorem faI_eq (p d f : Int) : ∀ k : Nat, faI p d f k = p ^ cAn d f k * (10 - p) ^ cBn d f k
  | 0 => by show (1 : Int) = p ^ 0 * (10 - p) ^ 0; rw [Int.pow_zero, Int.pow_zero, Int.one_mul]
  | k + 1 => by
    have ih := faI_eq p d f k
    unfold faI cAn cBn
    rw [ih]
    by_cases c : zand (zshr d k) 1 = 0
    · rw [if_pos c, if_pos c, if_pos c, Int.mul_one, Nat.add_zero, Nat.add_zero]
    · rw [if_neg c, if_neg c, if_neg c]
      by_cases c2 : zand (zshr f k) 1 = 1
      · rw [if_pos c2, if_pos c2, if_pos c2, Int.pow_succ, Nat.add_zero, Int.mul_assoc, Int.mul_comm ((10 - p) ^ _) p, ← Int.mul_assoc]
      · rw [if_neg c2, if_neg c2, if_neg c2, Int.pow_succ, Nat.add_zero, Int.mul_assoc]
theorem cn_all : ∀ d : Fin 128, ∀ f : Fin 128, zand ((f.val : Nat) : Int) (zxor ((d.val : Nat) : Int) (-1)) = 0 → cAn ((d.val : Nat) : Int) ((f.val : Nat) : Int) 7 = (bcI ((f.val : Nat) : Int)).toNat ∧ cBn ((d.val : Nat) : Int) ((f.val : Nat) : Int) 7 = (bcI ((d.val : Nat) : Int) - bcI ((f.val : Nat) : Int)).toNat := by decide +kernel
theorem faI_7 {p d f : Int} (hd : 0 ≤ d ∧ d < 128) (hf : 0 ≤ f ∧ f < 128) (h : zand f (zxor d (-1)) = 0) : faI p d f 7 = wyI p d f := by
  have := cn_all ⟨d.toNat, by omega⟩ ⟨f.toNat, by omega⟩
  simp only at this
  rw [show ((d.toNat : Nat) : Int) = d by omega, show ((f.toNat : Nat) : Int) = f by omega] at this
  obtain ⟨e1, e2⟩ := this h
  rw [faI_eq, e1, e2]
  rfl
theorem fg_all : ∀ f : Fin 128, ∀ m : Fin 7, (zand (zshr ((f.val : Nat) : Int) ((m.val : Nat) : Int)) 1 = 0 ↔ zand ((f.val : Nat) : Int) (zshl 1 ((m.val : Nat) : Int)) = 0) := by decide +kernel
theorem fg_eq {f : Int} (hf : 0 ≤ f ∧ f < 128) : ∀ m : Int, 0 ≤ m → m < 7 → (zand (zshr f m) 1 = 0 ↔ Fg f m) := fun m m0 m1 => by
  have := fg_all ⟨f.toNat, by omega⟩ ⟨m.toNat, by omega⟩
  simp only at this
  rw [show ((f.toNat : Nat) : Int) = f by omega, show ((m.toNat : Nat) : Int) = m by omega] at this
  exact this
theorem m_late {mem : ZMem} {S : ZS} (hS : MS mem S) (hI : SInv S) {m p w : Int} (hmr : In32 m) (hp : In32 p) (hw : In32 w) : CL mX7_late 5 [zr 79, zi m, zi p, zi w] mem (QM mem (vLate S m p w, S)) := by
  have hb := hI.bi
  have b1 := hb.1
  have hl := hb.len
  have hr := hI.hr
  have b4 := hb.2.2.2.1
  have h0 := hS.thr
  have hF : FrM mem (mset mem 79 0 0) := FrM.rf.set (by omega)
  generalize hm : mset mem 79 0 0 = m0 at *
  have hen := h0.men
  have hX0 := mbch h0
  have bad : (noM S m ∨ p < 0 ∨ 10 < p ∨ w < 0 ∨ 1 < w) → QM mem (vLate S m p w, S) (-1000001) m0 := fun q => ⟨by unfold vLate; rw [if_pos q], h0, hF⟩
  have hd := dueB_rg hb S.b.2.length (Nat.le_refl _)
  have hbd := bcI_range (dueB S.b.1 S.b.2 S.b.2.length)
  have p1 := pw10 hbd
  have p2 := pw_rg (a := 10) (by omega) hbd
  -- Euclid
  have eu : ¬ (noM S m ∨ p < 0 ∨ 10 < p ∨ w < 0 ∨ 1 < w) → ∀ (d A B : Int) (m2 : ZMem), FrX m0 m2 → A = caN S.b m p (dueB S.b.1 S.b.2 S.b.2.length) 128 → B = pw 10 (bcI (dueB S.b.1 S.b.2 S.b.2.length)) → (0 ≤ A ∧ A < 4000000000000000000) → ∀ (c x y : Nat) (z13 z14 : ZV), y < c → (x : Int) < 4000000000000000000 → (y : Int) < 4000000000000000000 → Nat.gcd x y = Nat.gcd A.toNat B.toNat → JM mX7_late 5 (QL (QM mem (vLate S m p w, S))) 270 [zr 79, zi m, zi p, zi w, zi d, zl A, zu, zl B, zu, zl x, zu, zl y, zu, z13, z14] [] m2 := by
    intro hz d A B m2 hF2 eA eB hA c
    have hg : 0 < Nat.gcd A.toNat B.toNat := Nat.gcd_pos_of_pos_right _ (by omega)
    induction c with
    | zero => intro x y z13 z14 h; omega
    | succ c ih =>
      intro x y z13 z14 hc hx hy hgc
      have em : (x : Int) % (y : Int) = ((x % y : Nat) : Int) := rfl
      have gs : Nat.gcd y (x % y) = Nat.gcd x y := by rw [Nat.gcd_comm y, ← Nat.gcd_rec, Nat.gcd_comm]
      refine J_ll11 dX7_late_270 ?_
      refine J_lconst0 dX7_late_272 ?_
      refine J_leq (tgt := 295) dX7_late_273 dX7_late_274 rfl (by omega) (fun c_273 => ?_) (fun c_273 => ?_)
      · skip
        have hy0 : y = 0 := by omega
        subst hy0
        rw [Nat.gcd_zero_right] at hgc
        refine J_il3 dX7_late_295 ?_
        refine J_ifne (tgt := 304) dX7_late_296 rfl (by omega) (fun c_296 => ?_) (fun c_296 => ?_)
        · skip
          refine J_ll7 dX7_late_304 ?_
          refine J_ll9 dX7_late_306 ?_
          refine J_ldiv dX7_late_308 (by omega) ?_
          refine M_lret dX7_late_309 rfl ?_
          first
          | exact ⟨by unfold vLate; rw [if_neg hz, if_pos (by omega), ← eA, ← eB, ← hgc], h0.x hF2, hF.tr hF2.m⟩
          | exact ⟨by unfold vLate; rw [if_neg hz, if_neg (by omega), ← eA, ← eB, ← hgc], h0.x hF2, hF.tr hF2.m⟩
        · skip
          refine J_ll5 dX7_late_299 ?_
          refine J_goto (tgt := 306) dX7_late_301 rfl ?_
          refine J_ll9 dX7_late_306 ?_
          refine J_ldiv dX7_late_308 (by omega) ?_
          refine M_lret dX7_late_309 rfl ?_
          first
          | exact ⟨by unfold vLate; rw [if_neg hz, if_pos (by omega), ← eA, ← eB, ← hgc], h0.x hF2, hF.tr hF2.m⟩
          | exact ⟨by unfold vLate; rw [if_neg hz, if_neg (by omega), ← eA, ← eB, ← hgc], h0.x hF2, hF.tr hF2.m⟩
      · skip
        refine J_ll9 dX7_late_277 ?_
        refine J_ll11 dX7_late_279 ?_
        refine J_lrem dX7_late_281 (by omega) ?_
        rw [em]
        refine J_ls13 dX7_late_282 (by decide) rfl ?_
        refine J_ll11 dX7_late_284 ?_
        refine J_ls9 dX7_late_286 (by decide) rfl ?_
        refine J_ll13 dX7_late_288 ?_
        refine J_ls11 dX7_late_290 (by decide) rfl ?_
        refine J_goto (tgt := 270) dX7_late_292 rfl ?_
        have hlt := Nat.mod_lt x (show 0 < y by omega)
        exact ih y (x % y) _ _ (by omega) (by omega) (by omega) (gs.trans hgc)
  have main : ¬ (noM S m ∨ p < 0 ∨ 10 < p ∨ w < 0 ∨ 1 < w) → ∀ (d : Int), d = dueB S.b.1 S.b.2 S.b.2.length → ∀ (c kn : Nat) (A B k : Int) (z10 z11 z12 : ZV) (m2 : ZMem), k = kn → (c : Int) + k = 128 → A = caN S.b m p d kn → B = blI p d kn → FrX m0 m2 → JM mX7_late 5 (QL (QM mem (vLate S m p w, S))) 123 [zr 79, zi m, zi p, zi w, zi d, zl A, zu, zl B, zu, zi k, z10, z11, z12, zu, zu] [] m2 := by
    intro hz d ed c
    rw [← ed] at hd
    induction c with
    | zero =>
      intro kn A B k z10 z11 z12 m2 e0 a1 a2 a3 a4
      have ek : kn = 128 := by omega
      subst ek
      have hca := caN_rg (b := S.b) (m := m) (p := p) (by omega) hd 128 (Nat.le_refl _)
      have hB := a3.trans (blI_10 (by omega) hd)
      rw [ed] at hB
      obtain ⟨x, ex⟩ := Int.eq_ofNat_of_zero_le (a := A) (by omega)
      obtain ⟨y, ey⟩ := Int.eq_ofNat_of_zero_le (a := B) (by omega)
      refine J_il9 dX7_late_123 ?_
      refine J_sipush dX7_late_125 rfl ?_
      refine J_cge (tgt := 262) dX7_late_128 rfl (by omega) (fun c_128 => ?_) (fun c_128 => ?_)
      · skip
        refine J_ll5 dX7_late_262 ?_
        refine J_ls9 dX7_late_264 (by decide) rfl ?_
        refine J_ll7 dX7_late_266 ?_
        refine J_ls11 dX7_late_268 (by decide) rfl ?_
        have hh := eu hz d A B m2 a4 (by rw [a2, ed]) hB (by omega) (y + 1) x y zu zu (by omega) (by omega) (by omega) (by rw [ex, ey]; rfl)
        rw [← ex, ← ey] at hh
        exact hh
      · skip
        omega
    | succ c ih =>
      intro kn A B k z10 z11 z12 m2 e0 a1 a2 a3 a4
      obtain ⟨i1, i2, i3, i4, -⟩ := hourR_inv (Fg k) (b := S.b) hb
      have f3 := i2.1 3 (by omega) (by omega)
      have wb := (hb.2.2.2.2.1 m (by omega) (by omega)).2.2.2.1
      have wt := (i1.2.2.2.2.1 m (by omega) (by omega)).2.2.2.1
      have ec : caN S.b m p d (kn + 1) = cif (zand k (zxor d (-1)) = 0 ∧ wm S.b.1 m < wm (hourR (Fg k) S.b).1.1 m) (A + wyI p d k) A := by rw [e0, a2]; rfl
      have eb : blI p d (kn + 1) = if zand k (zxor d (-1)) = 0 then B + wyI p d k else B := by rw [e0, a3]; rfl
      have inner : zand k (zxor d (-1)) = 0 → ∀ (c2 jn : Nat) (y j : Int), j = jn → (c2 : Int) + j = 7 → y = faI p d k jn → JM mX7_late 5 (QL (QM mem (vLate S m p w, S))) 147 [zr 79, zi m, zi p, zi w, zi d, zl A, zu, zl B, zu, zi k, zl y, zu, zi j, zu, zu] [] m2 := by
        intro hs c2
        induction c2 with
        | zero =>
          intro jn y j f0 g1 g2
          have ej : jn = 7 := by omega
          subst ej
          rw [faI_7 hd (by omega) hs] at g2
          refine J_il12 dX7_late_147 ?_
          refine J_bipush dX7_late_149 rfl ?_
          refine J_cge (tgt := 201) dX7_late_151 rfl (by omega) (fun c_151 => ?_) (fun c_151 => ?_)
          · skip
            refine J_al0 dX7_late_201 ?_
            refine M_cvV0 dX7_late_202 lk_X7_212 cw_X7_layThen sh_79 rfl rfl k_layThen (by decide) (Nat.le_of_ble_eq_true rfl) (fun mem_202 hq => ?_)
            obtain ⟨l1, l2⟩ := hq
            have hM0 : MX (m2 83) S.b.1 S.b.2 := by rw [a4 83 (by omega) (by omega) (by omega)]; exact hX0
            have hX : MX (mem_202 85) S.b.1 S.b.2 := hM0.ext (by omega) (by omega) l1
            have x1 : FrX m0 mem_202 := fun q q1 q2 q3 => by rw [l2 q q1]; exact a4 q q1 q2 q3
            refine J_al0 dX7_late_205 ?_
            refine J_al0 dX7_late_206 ?_
            refine M_getR dX7_late_207 fl_X7_25 sh_79 rfl ?_
            refine J_il9 dX7_late_210 ?_
            refine M_cvI2 dX7_late_212 lk_X7_180 cw_X7_hour sh_79 rfl rfl (k_mhour isW85 hX hb (by omega) (Fg k) (fg_eq (by omega))) (by decide) (Nat.le_of_ble_eq_true rfl) (fun v_212 mem_212 hq => ?_)
            obtain ⟨rfl, hM2, hF2⟩ := hq
            have x2 := x1.tr hF2.x
            have w1 : mem_212 85 (15 + 5 * m + 3) = wm (hourR (Fg k) S.b).1.1 m := (hM2.2.2 m (by omega) (by omega)).2.2.2.1
            have w2 : mem_212 83 (15 + 5 * m + 3) = wm S.b.1 m := by rw [x2 83 (by omega) (by omega) (by omega)]; exact (hX0.2.2 m (by omega) (by omega)).2.2.2.1
            refine J_is12 dX7_late_215 (by decide) rfl ?_
            refine J_ll7 dX7_late_217 ?_
            refine J_ll10 dX7_late_219 ?_
            refine J_ladd dX7_late_221 ?_
            refine J_ls7 dX7_late_222 (by decide) rfl ?_
            refine J_ll5 dX7_late_224 ?_
            refine J_al0 dX7_late_226 ?_
            refine M_getR dX7_late_227 fl_X7_25 sh_79 rfl ?_
            refine J_il1 dX7_late_230 ?_
            refine J_iconst dX7_late_231 ?_
            refine M_csI3 dX7_late_232 lk_X7_163 cw_X7_of (k_of isW85 (by omega) (by omega)) (by decide) (Nat.le_of_ble_eq_true rfl) (fun v_232 mem_232 hq => ?_)
            obtain ⟨e, hq⟩ := hq; rw [w1] at e; subst e; have hq := hq.symm; subst hq
            refine J_al0 dX7_late_235 ?_
            refine M_getR dX7_late_236 fl_X7_19 sh_79 rfl ?_
            refine J_il1 dX7_late_239 ?_
            refine J_iconst dX7_late_240 ?_
            refine M_csI3 dX7_late_241 lk_X7_163 cw_X7_of (k_of isW83 (by omega) (by omega)) (by decide) (Nat.le_of_ble_eq_true rfl) (fun v_241 mem_241 hq => ?_)
            obtain ⟨e, hq⟩ := hq; rw [w2] at e; subst e; have hq := hq.symm; subst hq
            refine J_cle (tgt := 252) dX7_late_244 rfl (by omega) (fun c_244 => ?_) (fun c_244 => ?_)
            · skip
              refine J_lconst0 dX7_late_252 ?_
              refine J_ladd dX7_late_253 ?_
              refine J_ls5 dX7_late_254 (by decide) rfl ?_
              refine J_inc9 dX7_late_256 (by decide) rfl ?_
              refine J_goto (tgt := 123) dX7_late_259 rfl ?_
              first
              | exact ih (kn + 1) _ _ _ _ _ _ _ (by omega) (by omega) (by rw [ec, cif_t ⟨hs, by omega⟩, g2]) (by rw [eb, if_pos hs, g2]) x2
              | exact ih (kn + 1) _ _ _ _ _ _ _ (by omega) (by omega) (by rw [ec, cif_f (fun q => by omega), Int.add_zero]) (by rw [eb, if_pos hs, g2]) x2
            · skip
              refine J_ll10 dX7_late_247 ?_
              refine J_goto (tgt := 253) dX7_late_249 rfl ?_
              refine J_ladd dX7_late_253 ?_
              refine J_ls5 dX7_late_254 (by decide) rfl ?_
              refine J_inc9 dX7_late_256 (by decide) rfl ?_
              refine J_goto (tgt := 123) dX7_late_259 rfl ?_
              first
              | exact ih (kn + 1) _ _ _ _ _ _ _ (by omega) (by omega) (by rw [ec, cif_t ⟨hs, by omega⟩, g2]) (by rw [eb, if_pos hs, g2]) x2
              | exact ih (kn + 1) _ _ _ _ _ _ _ (by omega) (by omega) (by rw [ec, cif_f (fun q => by omega), Int.add_zero]) (by rw [eb, if_pos hs, g2]) x2
          · skip
            omega
        | succ c2 ih2 =>
          intro jn y j f0 g1 g2
          have ef : faI p d k (jn + 1) = y * (if zand (zshr d j) 1 = 0 then 1 else if zand (zshr k j) 1 = 1 then p else 10 - p) := by rw [f0, g2]; rfl
          refine J_il12 dX7_late_147 ?_
          refine J_bipush dX7_late_149 rfl ?_
          refine J_cge (tgt := 201) dX7_late_151 rfl (by omega) (fun c_151 => ?_) (fun c_151 => ?_)
          · skip
            omega
          · skip
            refine J_ll10 dX7_late_154 ?_
            refine J_il4 dX7_late_156 ?_
            refine J_il12 dX7_late_158 ?_
            refine J_ishr dX7_late_160 ?_
            refine J_iconst dX7_late_161 ?_
            refine J_iand dX7_late_162 ?_
            refine J_ifne (tgt := 170) dX7_late_163 rfl (by exact zand_r _ _) (fun c_163 => ?_) (fun c_163 => ?_)
            · skip
              refine J_il9 dX7_late_170 ?_
              refine J_il12 dX7_late_172 ?_
              refine J_ishr dX7_late_174 ?_
              refine J_iconst dX7_late_175 ?_
              refine J_iand dX7_late_176 ?_
              refine J_iconst dX7_late_177 ?_
              refine J_cne (tgt := 186) dX7_late_178 rfl (by exact ⟨zand_r _ _, by omega⟩) (fun c_178 => ?_) (fun c_178 => ?_)
              · skip
                refine J_ldc2 (n := 10) dX7_late_186 col_X7_226 (by decide) ?_
                refine J_il2 dX7_late_189 ?_
                refine J_i2l dX7_late_190 (by omega) ?_
                refine J_lsub dX7_late_191 ?_
                refine J_lmul dX7_late_192 ?_
                refine J_ls10 dX7_late_193 (by decide) rfl ?_
                refine J_inc12 dX7_late_195 (by decide) rfl ?_
                refine J_goto (tgt := 147) dX7_late_198 rfl ?_
                refine ih2 (jn + 1) _ _ (by omega) (by omega) ?_
                rw [ef]
                first
                | rw [if_pos c_163]
                | rw [if_neg c_163, if_pos c_178]
                | rw [if_neg c_163, if_neg c_178]
              · skip
                refine J_il2 dX7_late_181 ?_
                refine J_i2l dX7_late_182 (by omega) ?_
                refine J_goto (tgt := 192) dX7_late_183 rfl ?_
                refine J_lmul dX7_late_192 ?_
                refine J_ls10 dX7_late_193 (by decide) rfl ?_
                refine J_inc12 dX7_late_195 (by decide) rfl ?_
                refine J_goto (tgt := 147) dX7_late_198 rfl ?_
                refine ih2 (jn + 1) _ _ (by omega) (by omega) ?_
                rw [ef]
                first
                | rw [if_pos c_163]
                | rw [if_neg c_163, if_pos c_178]
                | rw [if_neg c_163, if_neg c_178]
            · skip
              refine J_lconst1 dX7_late_166 ?_
              refine J_goto (tgt := 192) dX7_late_167 rfl ?_
              refine J_lmul dX7_late_192 ?_
              refine J_ls10 dX7_late_193 (by decide) rfl ?_
              refine J_inc12 dX7_late_195 (by decide) rfl ?_
              refine J_goto (tgt := 147) dX7_late_198 rfl ?_
              refine ih2 (jn + 1) _ _ (by omega) (by omega) ?_
              rw [ef]
              first
              | rw [if_pos c_163]
              | rw [if_neg c_163, if_pos c_178]
              | rw [if_neg c_163, if_neg c_178]
      refine J_il9 dX7_late_123 ?_
      refine J_sipush dX7_late_125 rfl ?_
      refine J_cge (tgt := 262) dX7_late_128 rfl (by omega) (fun c_128 => ?_) (fun c_128 => ?_)
      · skip
        omega
      · skip
        refine J_il9 dX7_late_131 ?_
        refine J_il4 dX7_late_133 ?_
        refine J_iconst dX7_late_135 ?_
        refine J_ixor dX7_late_136 ?_
        refine J_iand dX7_late_137 ?_
        refine J_ifne (tgt := 256) dX7_late_138 rfl (by exact zand_r _ _) (fun c_138 => ?_) (fun c_138 => ?_)
        · skip
          refine J_inc9 dX7_late_256 (by decide) rfl ?_
          refine J_goto (tgt := 123) dX7_late_259 rfl ?_
          exact ih (kn + 1) _ _ _ _ _ _ _ (by omega) (by omega) (by rw [ec, cif_f (fun q => c_138 q.1)]) (by rw [eb, if_neg c_138]) a4
        · skip
          refine J_lconst1 dX7_late_141 ?_
          refine J_ls10 dX7_late_142 (by decide) rfl ?_
          refine J_iconst dX7_late_144 ?_
          refine J_is12 dX7_late_145 (by decide) rfl ?_
          exact inner c_138 7 0 1 0 rfl (by omega) rfl
  have due : ¬ (noM S m ∨ p < 0 ∨ 10 < p ∨ w < 0 ∨ 1 < w) → ∀ (c kn : Nat) (s k : Int), k = kn → (c : Int) + k = S.b.2.length → s = dueB S.b.1 S.b.2 kn → JM mX7_late 5 (QL (QM mem (vLate S m p w, S))) 45 [zr 79, zi m, zi p, zi w, zi s, zi k, zu, zu, zu, zu, zu, zu, zu, zu, zu] [] m0 := by
    intro hz c
    have c7 : m0 83 7 = (S.b.2.length : Int) := hX0.1.2.2.2.2.2
    have c4 : m0 83 4 = S.b.1 4 := hX0.1.2.2.2.1
    induction c with
    | zero =>
      intro kn s k e0 a1 a2
      refine J_il5 dX7_late_45 ?_
      refine J_al0 dX7_late_47 ?_
      refine M_getR dX7_late_48 fl_X7_19 sh_79 rfl ?_
      refine J_bipush dX7_late_51 rfl ?_
      refine M_ald dX7_late_53 sh_83 (by decide) (by omega) ?_
      refine J_cge (tgt := 114) dX7_late_54 rfl (by omega) (fun c_54 => ?_) (fun c_54 => ?_)
      · skip
        refine J_lconst0 dX7_late_114 ?_
        refine J_ls5 dX7_late_115 (by decide) rfl ?_
        refine J_lconst0 dX7_late_117 ?_
        refine J_ls7 dX7_late_118 (by decide) rfl ?_
        refine J_iconst dX7_late_120 ?_
        refine J_is9 dX7_late_121 (by decide) rfl ?_
        exact main hz s (by rw [a2, show kn = S.b.2.length by omega]) 128 0 0 0 0 _ _ _ m0 rfl (by omega) rfl rfl FrX.rf
      · skip
        omega
    | succ c ih =>
      intro kn s k e0 a1 a2
      have hO : m0 83 (8 + k) = lget S.b.2 k := hX0.2.1 k (by omega) (by omega)
      have hmr2 := hb.2.2.1 _ (lget_mem (L := S.b.2) (p := k) (by omega) (by omega))
      have hdn := (hX0.2.2 (lget S.b.2 k) (by omega) (by omega)).2.1
      have hdr := (hb.2.2.2.2.1 (lget S.b.2 k) (by omega) (by omega)).2.1
      have nx : dueB S.b.1 S.b.2 (kn + 1) = zor s (cif (dn S.b.1 (lget S.b.2 k) = S.b.1 4 % 24) (zshl 1 (lget S.b.2 k)) 0) := by rw [e0, a2]; rfl
      refine J_il5 dX7_late_45 ?_
      refine J_al0 dX7_late_47 ?_
      refine M_getR dX7_late_48 fl_X7_19 sh_79 rfl ?_
      refine J_bipush dX7_late_51 rfl ?_
      refine M_ald dX7_late_53 sh_83 (by decide) (by omega) ?_
      refine J_cge (tgt := 114) dX7_late_54 rfl (by omega) (fun c_54 => ?_) (fun c_54 => ?_)
      · skip
        omega
      · skip
        refine J_il4 dX7_late_57 ?_
        refine J_al0 dX7_late_59 ?_
        refine M_getR dX7_late_60 fl_X7_19 sh_79 rfl ?_
        refine J_al0 dX7_late_63 ?_
        refine M_getR dX7_late_64 fl_X7_19 sh_79 rfl ?_
        refine J_bipush dX7_late_67 rfl ?_
        refine J_il5 dX7_late_69 ?_
        refine J_iadd dX7_late_71 ?_
        refine M_ald dX7_late_72 sh_83 (by decide) (by omega) ?_
        rw [hO]
        refine J_iconst dX7_late_73 ?_
        refine M_csI3 dX7_late_74 lk_X7_163 cw_X7_of (k_of isW83 (by omega) (by omega)) (by decide) (Nat.le_of_ble_eq_true rfl) (fun v_74 mem_74 hq => ?_)
        obtain ⟨e, hq⟩ := hq; rw [hdn] at e; subst e; have hq := hq.symm; subst hq
        refine J_al0 dX7_late_77 ?_
        refine M_getR dX7_late_78 fl_X7_19 sh_79 rfl ?_
        refine J_iconst dX7_late_81 ?_
        refine M_ald dX7_late_82 sh_83 (by decide) (by omega) ?_
        rw [c4]
        refine J_bipush dX7_late_83 rfl ?_
        refine J_irem dX7_late_85 (by omega) ?_
        refine J_cne (tgt := 104) dX7_late_86 rfl (by omega) (fun c_86 => ?_) (fun c_86 => ?_)
        · skip
          refine J_iconst dX7_late_104 ?_
          refine J_ior dX7_late_105 ?_
          refine J_is4 dX7_late_106 (by decide) rfl ?_
          refine J_inc5 dX7_late_108 (by decide) rfl ?_
          refine J_goto (tgt := 45) dX7_late_111 rfl ?_
          refine ih (kn + 1) _ _ (by omega) (by omega) ?_
          rw [nx]
          first | rw [cif_t c_86] | rw [cif_f c_86]
        · skip
          refine J_iconst dX7_late_89 ?_
          refine J_al0 dX7_late_90 ?_
          refine M_getR dX7_late_91 fl_X7_19 sh_79 rfl ?_
          refine J_bipush dX7_late_94 rfl ?_
          refine J_il5 dX7_late_96 ?_
          refine J_iadd dX7_late_98 ?_
          refine M_ald dX7_late_99 sh_83 (by decide) (by omega) ?_
          rw [hO]
          refine J_ishl dX7_late_100 ?_
          refine J_goto (tgt := 105) dX7_late_101 rfl ?_
          refine J_ior dX7_late_105 ?_
          refine J_is4 dX7_late_106 (by decide) rfl ?_
          refine J_inc5 dX7_late_108 (by decide) rfl ?_
          refine J_goto (tgt := 45) dX7_late_111 rfl ?_
          refine ih (kn + 1) _ _ (by omega) (by omega) ?_
          rw [nx]
          first | rw [cif_t c_86] | rw [cif_f c_86]
  refine CM.of (by decide +kernel) ([zr 79, zi m, zi p, zi w, zu, zu, zu, zu, zu, zu, zu, zu, zu, zu, zu]) (zok_all rfl) (Nat.le_of_ble_eq_true rfl) rfl ?_
  refine J_al0 dX7_late_0 ?_
  refine J_iconst dX7_late_1 ?_
  refine M_put (ki := 0) dX7_late_2 fl_X7_50 sh_79 rfl rfl rfl (fun r hr => by cases hr; rfl) ?_
  rw [hm]
  refine J_al0 dX7_late_5 ?_
  refine J_il1 dX7_late_6 ?_
  refine M_cvI1 dX7_late_7 lk_X7_199 cw_X7_isMan sh_79 rfl rfl (k_isMan hmr (by omega)) (by decide) (Nat.le_of_ble_eq_true rfl) (fun v_7 mem_7 hq => ?_)
  obtain ⟨rfl, hq⟩ := hq; have hq := hq.symm; subst hq
  refine J_ifeq_b (tgt := 35) dX7_late_10 rfl (fun c_10 => ?_) (fun c_10 => ?_)
  · skip
    refine J_ldc2 (n := -1000001) dX7_late_35 col_X7_228 (by decide) ?_
    refine M_lret dX7_late_38 rfl ?_
    exact bad (by omega)
  · skip
    refine J_il2 dX7_late_13 ?_
    refine J_i2l dX7_late_14 (by omega) ?_
    refine J_lconst0 dX7_late_15 ?_
    refine J_ldc2 (n := 10) dX7_late_16 col_X7_226 (by decide) ?_
    refine M_csI3 dX7_late_19 lk_X7_60 cw_X7_in (k_in (by omega) (by omega) (by omega)) (by decide) (Nat.le_of_ble_eq_true rfl) (fun v_19 mem_19 hq => ?_)
    obtain ⟨rfl, hq⟩ := hq; have hq := hq.symm; subst hq
    refine J_ifeq_b (tgt := 35) dX7_late_22 rfl (fun c_22 => ?_) (fun c_22 => ?_)
    · skip
      refine J_ldc2 (n := -1000001) dX7_late_35 col_X7_228 (by decide) ?_
      refine M_lret dX7_late_38 rfl ?_
      exact bad (by omega)
    · skip
      refine J_il3 dX7_late_25 ?_
      refine J_i2l dX7_late_26 (by omega) ?_
      refine J_lconst0 dX7_late_27 ?_
      refine J_lconst1 dX7_late_28 ?_
      refine M_csI3 dX7_late_29 lk_X7_60 cw_X7_in (k_in (by omega) (by omega) (by omega)) (by decide) (Nat.le_of_ble_eq_true rfl) (fun v_29 mem_29 hq => ?_)
      obtain ⟨rfl, hq⟩ := hq; have hq := hq.symm; subst hq
      refine J_ifne_b (tgt := 39) dX7_late_32 rfl (fun c_32 => ?_) (fun c_32 => ?_)
      · skip
        refine J_iconst dX7_late_39 ?_
        refine J_is4 dX7_late_40 (by decide) rfl ?_
        refine J_iconst dX7_late_42 ?_
        refine J_is5 dX7_late_43 (by decide) rfl ?_
        exact due (by omega) S.b.2.length 0 0 0 rfl (by omega) rfl
      · skip
        refine J_ldc2 (n := -1000001) dX7_late_35 col_X7_228 (by decide) ?_
        refine M_lret dX7_late_38 rfl ?_
        exact bad (by omega)
