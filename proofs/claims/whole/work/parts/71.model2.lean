def FrR (q : Nat) (mem mem' : ZMem) : Prop := (∀ x : Nat, x ≠ q → mem' x = mem x) ∧ mem' q 6 = mem q 6 ∧ mem' q 0 = mem q 0
theorem FrR.rf {q : Nat} {mem : ZMem} : FrR q mem mem := ⟨fun _ _ => rfl, rfl, rfl⟩
theorem FrR.tr {q : Nat} {a b c : ZMem} (h : FrR q a b) (g : FrR q b c) : FrR q a c := ⟨fun x hx => (g.1 x hx).trans (h.1 x hx), g.2.1.trans h.2.1, g.2.2.trans h.2.2⟩
/-- a man's five numbers, four as before and 'gone' anew; the low ones as before -/
theorem MX.gone {f g r : Int → Int} {L L' : List Int} {m v : Int} (h : MX f r L) (m0 : 0 ≤ m) (hlo : ∀ x, 0 ≤ x → x < 7 → g x = f x) (h7 : g 7 = (L'.length : Int)) (hO : ∀ p : Int, 0 ≤ p → p < L'.length → g (8 + p) = lget L' p) (hv : g (15 + 5 * m + 4) = v) (hM : ∀ x, 15 ≤ x → x ≠ 15 + 5 * m + 4 → g x = f x) : MX g (zup r (15 + 5 * m + 4) v) L' := by
  obtain ⟨⟨c1, c2, c3, c4, c5, c7⟩, cO, cM⟩ := h
  have e : ∀ k, k < 15 → zup r (15 + 5 * m + 4) v k = r k := fun k hk => zup_n (by omega)
  refine ⟨?_, hO, fun x x0 x1 => ?_⟩
  · rw [e 1 (by omega), e 2 (by omega), e 3 (by omega), e 4 (by omega), e 5 (by omega), hlo 1 (by omega) (by omega), hlo 2 (by omega) (by omega), hlo 3 (by omega) (by omega), hlo 4 (by omega) (by omega), hlo 5 (by omega) (by omega)]
    exact ⟨c1, c2, c3, c4, c5, h7⟩
  · rw [e 3 (by omega)] at x1
    obtain ⟨d1, d2, d3, d4, d5⟩ := cM x x0 x1
    rw [kd_up, dn_up, lg_up, wm_up, hM (15 + 5 * x) (by omega) (by omega), hM (15 + 5 * x + 1) (by omega) (by omega), hM (15 + 5 * x + 2) (by omega) (by omega), hM (15 + 5 * x + 3) (by omega) (by omega)]
    refine ⟨d1, d2, d3, d4, ?_⟩
    by_cases q : x = m
    · subst q; rw [gn_up_s]; exact hv
    · rw [gn_up_n q, hM _ (by omega) (by omega)]; exact d5
theorem k_sitDown {mem : ZMem} {q : Nat} (hQ : isW q) {r : Int → Int} {L : List Int} (hM : MX (mem q) r L) {m p : Int} (hm : 0 ≤ m ∧ m < 7) (hp : 0 ≤ p ∧ p ≤ L.length) (hl : (L.length : Int) < 7) : CV mX7_sitDown 0 [zr q, zi m, zi p] mem (fun mem' => MX (mem' q) (zup r (15 + 5 * m + 4) 0) (ins L p m) ∧ FrR q mem mem') := by
  have c7 : mem q 7 = (L.length : Int) := hM.1.2.2.2.2.2
  have loop : ∀ (c : Nat) (k : Int) (m2 : ZMem), k - p = c → k ≤ L.length → (∀ x, 8 + k < x → x ≤ 8 + L.length → m2 q x = mem q (x - 1)) → (∀ x, ¬ (8 + k < x ∧ x ≤ 8 + L.length) → m2 q x = mem q x) → (∀ x, x ≠ q → m2 x = mem x) → JM mX7_sitDown 0 (QV (fun mem' => MX (mem' q) (zup r (15 + 5 * m + 4) 0) (ins L p m) ∧ FrR q mem mem')) 5 [zr q, zi m, zi p, zi k] [] m2 := by
    intro c
    induction c with
    | zero =>
      intro k m2 e0 e1 a1 a2 a3
      refine J_il3 dX7_sitDown_5 ?_
      refine J_il2 dX7_sitDown_6 ?_
      refine J_cle (tgt := 30) dX7_sitDown_7 rfl (by omega) (fun c_7 => ?_) (fun c_7 => ?_)
      · skip
        refine J_al0 dX7_sitDown_30 ?_
        refine J_bipush dX7_sitDown_31 rfl ?_
        refine J_il2 dX7_sitDown_33 ?_
        refine J_iadd dX7_sitDown_34 ?_
        refine J_il1 dX7_sitDown_35 ?_
        refine M_ast dX7_sitDown_36 (isW_sh hQ) (by decide) (by omega) ?_
        refine J_al0 dX7_sitDown_37 ?_
        refine J_bipush dX7_sitDown_38 rfl ?_
        refine J_dup2 dX7_sitDown_40 rfl rfl ?_
        refine M_ald dX7_sitDown_41 (isW_sh hQ) (by decide) (by omega) ?_
        refine J_iconst dX7_sitDown_42 ?_
        refine J_iadd dX7_sitDown_43 ?_
        refine M_ast dX7_sitDown_44 (isW_sh hQ) (by decide) (by omega) ?_
        refine J_al0 dX7_sitDown_45 ?_
        refine J_bipush dX7_sitDown_46 rfl ?_
        refine J_iconst dX7_sitDown_48 ?_
        refine J_il1 dX7_sitDown_49 ?_
        refine J_imul dX7_sitDown_50 ?_
        refine J_iadd dX7_sitDown_51 ?_
        refine J_iconst dX7_sitDown_52 ?_
        refine J_iadd dX7_sitDown_53 ?_
        refine J_iconst dX7_sitDown_54 ?_
        refine M_ast dX7_sitDown_55 (isW_sh hQ) (by decide) (by omega) ?_
        refine M_vret dX7_sitDown_56 rfl ?_
        have il := ins_len (L := L) (p := p) (m := m) hp.1 hp.2
        refine ⟨MX.gone hM hm.1 (fun x x0 x1 => ?_) ?_ (fun y y0 y1 => ?_) (mset_s _ _ _ _) (fun x x0 x1 => ?_), fun x hx => ?_, ?_, ?_⟩
        · rw [mset_i (by omega), mset_i (by omega), mset_i (by omega)]; exact a2 x (by omega)
        · rw [mset_i (by omega), mset_s, mset_i (by omega), a2 7 (by omega)]; omega
        · rw [mset_i (by omega), mset_i (by omega)]
          by_cases z : y = p
          · subst z; rw [mset_s, lget_ins_e hp.1 hp.2]
          · rw [mset_i (by omega)]
            by_cases z2 : y < p
            · rw [a2 _ (by omega), lget_ins_l y0 hp.2 z2]; exact hM.2.1 y y0 (by omega)
            · rw [a1 _ (by omega) (by omega), lget_ins_r hp.1 hp.2 (by omega), show 8 + y - 1 = 8 + (y - 1) by omega]; exact hM.2.1 (y - 1) (by omega) (by omega)
        · rw [mset_i x1, mset_i (by omega), mset_i (by omega)]; exact a2 x (by omega)
        · rw [mset_n hx, mset_n hx, mset_n hx]; exact a3 x hx
        · rw [mset_i (by omega), mset_i (by omega), mset_i (by omega)]; exact a2 6 (by omega)
        · rw [mset_i (by omega), mset_i (by omega), mset_i (by omega)]; exact a2 0 (by omega)
      · skip
        omega
    | succ c ih =>
      intro k m2 e0 e1 a1 a2 a3
      refine J_il3 dX7_sitDown_5 ?_
      refine J_il2 dX7_sitDown_6 ?_
      refine J_cle (tgt := 30) dX7_sitDown_7 rfl (by omega) (fun c_7 => ?_) (fun c_7 => ?_)
      · skip
        omega
      · skip
        refine J_al0 dX7_sitDown_10 ?_
        refine J_bipush dX7_sitDown_11 rfl ?_
        refine J_il3 dX7_sitDown_13 ?_
        refine J_iadd dX7_sitDown_14 ?_
        refine J_al0 dX7_sitDown_15 ?_
        refine J_bipush dX7_sitDown_16 rfl ?_
        refine J_il3 dX7_sitDown_18 ?_
        refine J_iadd dX7_sitDown_19 ?_
        refine J_iconst dX7_sitDown_20 ?_
        refine J_isub dX7_sitDown_21 ?_
        refine M_ald dX7_sitDown_22 (isW_sh hQ) (by decide) (by omega) ?_
        refine M_ast dX7_sitDown_23 (isW_sh hQ) (by decide) (by omega) ?_
        refine J_inc3 dX7_sitDown_24 (by decide) rfl ?_
        refine J_goto (tgt := 5) dX7_sitDown_27 rfl ?_
        refine ih (k + -1) _ (by omega) (by omega) (fun x x0 x1 => ?_) (fun x hx => ?_) (fun x hx => by rw [mset_n hx]; exact a3 x hx)
        · by_cases z : x = 8 + k
          · subst z; rw [mset_s, a2 _ (by omega)]
          · rw [mset_i z]; exact a1 x (by omega) x1
        · rw [mset_i (by omega)]; exact a2 x (by omega)
  refine CM.of (by decide +kernel) ([zr q, zi m, zi p, zu]) (zok_all rfl) (Nat.le_of_ble_eq_true rfl) rfl ?_
  refine J_al0 dX7_sitDown_0 ?_
  refine J_bipush dX7_sitDown_1 rfl ?_
  refine M_ald dX7_sitDown_3 (isW_sh hQ) (by decide) (by omega) ?_
  rw [c7]
  refine J_is3 dX7_sitDown_4 (by decide) rfl ?_
  exact loop (L.length - p.toNat) L.length mem (by omega) (by omega) (fun x x0 x1 => by omega) (fun x _ => rfl) (fun x _ => rfl)
theorem k_getUp {mem : ZMem} {q : Nat} (hQ : isW q) {r : Int → Int} {L : List Int} (hM : MX (mem q) r L) (hI : BInv r L) {m g : Int} (hm : 0 ≤ m ∧ m < 7) : CV mX7_getUp 1 [zr q, zi m, zi g] mem (fun mem' => MX (mem' q) (goneR (r, L) m g).1 (goneR (r, L) m g).2 ∧ FrR q mem mem') := by
  have c7 : mem q 7 = (L.length : Int) := hM.1.2.2.2.2.2
  have hp := plc_range L m
  have hl := hI.len
  have h3 := hI.1
  have hpN : (plc L m < 0 ∧ pN (plc L m) = -1000000) ∨ (0 ≤ plc L m ∧ pN (plc L m) = plc L m) := by unfold pN; split <;> omega
  have loop : 0 ≤ plc L m → ∀ (c : Nat) (k : Int) (m2 : ZMem), L.length - 1 - k = c → plc L m ≤ k → (∀ x, 8 + plc L m ≤ x → x < 8 + k → m2 q x = mem q (x + 1)) → (∀ x, ¬ (8 + plc L m ≤ x ∧ x < 8 + k) → m2 q x = mem q x) → (∀ x, x ≠ q → m2 x = mem x) → JM mX7_getUp 1 (QV (fun mem' => MX (mem' q) (goneR (r, L) m g).1 (goneR (r, L) m g).2 ∧ FrR q mem mem')) 15 [zr q, zi m, zi g, zi (plc L m), zi k] [] m2 := by
    intro hpl c
    induction c with
    | zero =>
      intro k m2 e0 e1 a1 a2 a3
      have d7 : m2 q 7 = (L.length : Int) := by rw [a2 7 (by omega)]; exact c7
      refine J_il4 dX7_getUp_15 ?_
      refine J_al0 dX7_getUp_17 ?_
      refine J_bipush dX7_getUp_18 rfl ?_
      refine M_ald dX7_getUp_20 (isW_sh hQ) (by decide) (by omega) ?_
      refine J_iconst dX7_getUp_21 ?_
      refine J_isub dX7_getUp_22 ?_
      refine J_cge (tgt := 48) dX7_getUp_23 rfl (by omega) (fun c_23 => ?_) (fun c_23 => ?_)
      · skip
        refine J_al0 dX7_getUp_48 ?_
        refine J_bipush dX7_getUp_49 rfl ?_
        refine J_dup2 dX7_getUp_51 rfl rfl ?_
        refine M_ald dX7_getUp_52 (isW_sh hQ) (by decide) (by omega) ?_
        refine J_iconst dX7_getUp_53 ?_
        refine J_isub dX7_getUp_54 ?_
        refine M_ast dX7_getUp_55 (isW_sh hQ) (by decide) (by omega) ?_
        refine J_al0 dX7_getUp_56 ?_
        refine J_bipush dX7_getUp_57 rfl ?_
        refine J_iconst dX7_getUp_59 ?_
        refine J_il1 dX7_getUp_60 ?_
        refine J_imul dX7_getUp_61 ?_
        refine J_iadd dX7_getUp_62 ?_
        refine J_iconst dX7_getUp_63 ?_
        refine J_iadd dX7_getUp_64 ?_
        refine J_il2 dX7_getUp_65 ?_
        refine M_ast dX7_getUp_66 (isW_sh hQ) (by decide) (by omega) ?_
        refine M_vret dX7_getUp_67 rfl ?_
        have il := era_len (L := L) (p := plc L m) hpl hp.2
        have er : remL L m = era L (plc L m) := by unfold remL; rw [if_pos hpl]
        show MX _ (zup r (15 + 5 * m + 4) g) (remL L m) ∧ _
        rw [er]
        refine ⟨MX.gone hM hm.1 (fun x x0 x1 => ?_) ?_ (fun y y0 y1 => ?_) (mset_s _ _ _ _) (fun x x0 x1 => ?_), fun x hx => ?_, ?_, ?_⟩
        · rw [mset_i (by omega), mset_i (by omega)]; exact a2 x (by omega)
        · rw [mset_i (by omega), mset_s]; omega
        · rw [mset_i (by omega), mset_i (by omega)]
          by_cases z2 : y < plc L m
          · rw [a2 _ (by omega), lget_era_l y0 (by omega) z2]; exact hM.2.1 y y0 (by omega)
          · rw [a1 _ (by omega) (by omega), lget_era_r hpl (by omega) (by omega), show 8 + y + 1 = 8 + (y + 1) by omega]; exact hM.2.1 (y + 1) (by omega) (by omega)
        · rw [mset_i x1, mset_i (by omega)]; exact a2 x (by omega)
        · rw [mset_n hx, mset_n hx]; exact a3 x hx
        · rw [mset_i (by omega), mset_i (by omega)]; exact a2 6 (by omega)
        · rw [mset_i (by omega), mset_i (by omega)]; exact a2 0 (by omega)
      · skip
        omega
    | succ c ih =>
      intro k m2 e0 e1 a1 a2 a3
      have d7 : m2 q 7 = (L.length : Int) := by rw [a2 7 (by omega)]; exact c7
      refine J_il4 dX7_getUp_15 ?_
      refine J_al0 dX7_getUp_17 ?_
      refine J_bipush dX7_getUp_18 rfl ?_
      refine M_ald dX7_getUp_20 (isW_sh hQ) (by decide) (by omega) ?_
      refine J_iconst dX7_getUp_21 ?_
      refine J_isub dX7_getUp_22 ?_
      refine J_cge (tgt := 48) dX7_getUp_23 rfl (by omega) (fun c_23 => ?_) (fun c_23 => ?_)
      · skip
        omega
      · skip
        refine J_al0 dX7_getUp_26 ?_
        refine J_bipush dX7_getUp_27 rfl ?_
        refine J_il4 dX7_getUp_29 ?_
        refine J_iadd dX7_getUp_31 ?_
        refine J_al0 dX7_getUp_32 ?_
        refine J_bipush dX7_getUp_33 rfl ?_
        refine J_il4 dX7_getUp_35 ?_
        refine J_iadd dX7_getUp_37 ?_
        refine J_iconst dX7_getUp_38 ?_
        refine J_iadd dX7_getUp_39 ?_
        refine M_ald dX7_getUp_40 (isW_sh hQ) (by decide) (by omega) ?_
        refine M_ast dX7_getUp_41 (isW_sh hQ) (by decide) (by omega) ?_
        refine J_inc4 dX7_getUp_42 (by decide) rfl ?_
        refine J_goto (tgt := 15) dX7_getUp_45 rfl ?_
        refine ih (k + 1) _ (by omega) (by omega) (fun x x0 x1 => ?_) (fun x hx => ?_) (fun x hx => by rw [mset_n hx]; exact a3 x hx)
        · by_cases z : x = 8 + k
          · subst z; rw [mset_s, a2 _ (by omega)]
          · rw [mset_i z]; exact a1 x x0 (by omega)
        · rw [mset_i (by omega)]; exact a2 x (by omega)
  refine CM.of (by decide +kernel) ([zr q, zi m, zi g, zu, zu]) (zok_all rfl) (Nat.le_of_ble_eq_true rfl) rfl ?_
  refine J_al0 dX7_getUp_0 ?_
  refine J_il1 dX7_getUp_1 ?_
  refine M_csI2 dX7_getUp_2 lk_X7_156 cw_X7_placeOf (k_mplaceOf hQ hM hI (by omega)) (by decide) (Nat.le_of_ble_eq_true rfl) (fun v_2 mem_2 hq => ?_)
  obtain ⟨rfl, hq⟩ := hq; have hq := hq.symm; subst hq
  refine J_is3 dX7_getUp_5 (by decide) rfl ?_
  refine J_il3 dX7_getUp_6 ?_
  refine J_ldc (n := -1000000) dX7_getUp_7 co_X7_93 (by decide) ?_
  refine J_ceq (tgt := 56) dX7_getUp_9 rfl (by omega) (fun c_9 => ?_) (fun c_9 => ?_)
  · skip
    refine J_al0 dX7_getUp_56 ?_
    refine J_bipush dX7_getUp_57 rfl ?_
    refine J_iconst dX7_getUp_59 ?_
    refine J_il1 dX7_getUp_60 ?_
    refine J_imul dX7_getUp_61 ?_
    refine J_iadd dX7_getUp_62 ?_
    refine J_iconst dX7_getUp_63 ?_
    refine J_iadd dX7_getUp_64 ?_
    refine J_il2 dX7_getUp_65 ?_
    refine M_ast dX7_getUp_66 (isW_sh hQ) (by decide) (by omega) ?_
    refine M_vret dX7_getUp_67 rfl ?_
    have er : remL L m = L := by unfold remL; rw [if_neg (by omega)]
    show MX _ (zup r (15 + 5 * m + 4) g) (remL L m) ∧ _
    rw [er]
    exact ⟨MX.gone hM hm.1 (fun x x0 x1 => mset_i (by omega)) (by rw [mset_i (by omega)]; exact c7) (fun y y0 y1 => by rw [mset_i (by omega)]; exact hM.2.1 y y0 y1) (mset_s _ _ _ _) (fun x x0 x1 => mset_i x1), fun x hx => mset_n hx, mset_i (by omega), mset_i (by omega)⟩
  · skip
    have ep : pN (plc L m) = plc L m := by omega
    rw [ep]
    refine J_il3 dX7_getUp_12 ?_
    refine J_is4 dX7_getUp_13 (by decide) rfl ?_
    exact loop (by omega) (L.length - 1 - plc L m).toNat (plc L m) mem (by omega) (by omega) (fun x x0 x1 => by omega) (fun x _ => rfl) (fun x _ => rfl)
theorem MX.snuf {f r : Int → Int} {L : List Int} {v : Int} : MX f (zup r 6 v) L ↔ MX f r L := by
  unfold MX
  have e : ∀ k, k ≠ 6 → zup r 6 v k = r k := fun k hk => zup_n hk
  have e1 : ∀ m, 0 ≤ m → kd (zup r 6 v) m = kd r m ∧ dn (zup r 6 v) m = dn r m ∧ lg (zup r 6 v) m = lg r m ∧ wm (zup r 6 v) m = wm r m ∧ gn (zup r 6 v) m = gn r m := fun m hm => ⟨zup_n (by omega), zup_n (by omega), zup_n (by omega), zup_n (by omega), zup_n (by omega)⟩
  rw [e 1 (by omega), e 2 (by omega), e 3 (by omega), e 4 (by omega), e 5 (by omega)]
  constructor
  · rintro ⟨a, b, c⟩
    refine ⟨a, b, fun m m0 m1 => ?_⟩
    have := c m m0 m1
    obtain ⟨x1, x2, x3, x4, x5⟩ := e1 m m0
    rwa [x1, x2, x3, x4, x5] at this
  · rintro ⟨a, b, c⟩
    refine ⟨a, b, fun m m0 m1 => ?_⟩
    obtain ⟨x1, x2, x3, x4, x5⟩ := e1 m m0
    rw [x1, x2, x3, x4, x5]
    exact c m m0 m1
theorem k_change {mem : ZMem} {q : Nat} (hQ : isW q) {r : Int → Int} {L : List Int} (hM : MX (mem q) r L) (hI : BInv r L) {m : Int} (hm : 0 ≤ m ∧ m < 7) (hpl : 0 < plc L m) : CV mX7_change 1 [zr q, zi m] mem (fun mem' => MX (mem' q) (snf (r, L) m).1 (snf (r, L) m).2 ∧ FrR q mem mem') := by
  have hp := plc_range L m
  have hl := hI.len
  have h3 := hI.1
  have ep : pN (plc L m) = plc L m := by unfold pN; rw [if_neg (by omega)]
  refine CM.of (by decide +kernel) ([zr q, zi m, zu]) (zok_all rfl) (Nat.le_of_ble_eq_true rfl) rfl ?_
  refine J_al0 dX7_change_0 ?_
  refine J_il1 dX7_change_1 ?_
  refine M_csI2 dX7_change_2 lk_X7_156 cw_X7_placeOf (k_mplaceOf hQ hM hI (by omega)) (by decide) (Nat.le_of_ble_eq_true rfl) (fun v_2 mem_2 hq => ?_)
  obtain ⟨rfl, hq⟩ := hq; have hq := hq.symm; subst hq
  rw [ep]
  refine J_is2 dX7_change_5 (by decide) rfl ?_
  refine J_al0 dX7_change_6 ?_
  refine J_bipush dX7_change_7 rfl ?_
  refine J_il2 dX7_change_9 ?_
  refine J_iadd dX7_change_10 ?_
  refine J_al0 dX7_change_11 ?_
  refine J_bipush dX7_change_12 rfl ?_
  refine J_il2 dX7_change_14 ?_
  refine J_iadd dX7_change_15 ?_
  refine J_iconst dX7_change_16 ?_
  refine J_isub dX7_change_17 ?_
  refine M_ald dX7_change_18 (isW_sh hQ) (by decide) (by omega) ?_
  refine M_ast dX7_change_19 (isW_sh hQ) (by decide) (by omega) ?_
  refine J_al0 dX7_change_20 ?_
  refine J_bipush dX7_change_21 rfl ?_
  refine J_il2 dX7_change_23 ?_
  refine J_iadd dX7_change_24 ?_
  refine J_iconst dX7_change_25 ?_
  refine J_isub dX7_change_26 ?_
  refine J_il1 dX7_change_27 ?_
  refine M_ast dX7_change_28 (isW_sh hQ) (by decide) (by omega) ?_
  refine M_vret dX7_change_29 rfl ?_
  have es : snf (r, L) m = (zup r 6 (r 6 + 1), swp L (plc L m)) := by unfold snf; rw [if_pos hpl]
  rw [es]
  refine ⟨MX.snuf.mpr ⟨?_, fun y y0 y1 => ?_, fun x x0 x1 => ?_⟩, fun x hx => by rw [mset_n hx, mset_n hx], by rw [mset_i (by omega), mset_i (by omega)], by rw [mset_i (by omega), mset_i (by omega)]⟩
  · rw [swp_len]
    rw [mset_i (by omega), mset_i (by omega), mset_i (by omega), mset_i (by omega), mset_i (by omega), mset_i (by omega), mset_i (by omega), mset_i (by omega), mset_i (by omega), mset_i (by omega), mset_i (by omega), mset_i (by omega)]
    exact hM.1
  · have y1' : y < L.length := by rw [swp_len] at y1; exact y1
    show _ = lget (swp L (plc L m)) y
    rw [lget_swp hpl hp.2 y0]
    split
    · rename_i z
      subst z
      rw [show 8 + (plc L m - 1) = 8 + plc L m - 1 by omega, mset_s]
      exact (plc_at (by omega)).symm
    · split
      · rename_i z1 z
        subst z
        rw [mset_i (by omega), mset_s, show 8 + plc L m - 1 = 8 + (plc L m - 1) by omega]
        exact hM.2.1 _ (by omega) (by omega)
      · rename_i z1 z2
        rw [mset_i (by omega), mset_i (by omega)]
        exact hM.2.1 y y0 y1'
  · have := hM.2.2 x x0 x1
    rw [mset_i (by omega), mset_i (by omega), mset_i (by omega), mset_i (by omega), mset_i (by omega), mset_i (by omega), mset_i (by omega), mset_i (by omega), mset_i (by omega), mset_i (by omega)]
    exact this
