/-! SETS AS BITS -/
def bt (a i : Int) : Int := a / 2 ^ i.toNat % 2
theorem bt_all : ∀ a : Fin 128, ∀ b : Fin 7, ∀ i : Fin 7, bt (zor ((a.val : Nat) : Int) (zshl 1 ((b.val : Nat) : Int))) ((i.val : Nat) : Int) = if i.val = b.val then 1 else bt ((a.val : Nat) : Int) ((i.val : Nat) : Int) := by decide +kernel
theorem bt_or {a b i : Int} (ha : 0 ≤ a ∧ a < 128) (hb : 0 ≤ b ∧ b < 7) (hi : 0 ≤ i ∧ i < 7) : bt (zor a (zshl 1 b)) i = if i = b then 1 else bt a i := by
  have := bt_all ⟨a.toNat, by omega⟩ ⟨b.toNat, by omega⟩ ⟨i.toNat, by omega⟩
  simp only at this
  rw [show ((a.toNat : Nat) : Int) = a by omega, show ((b.toNat : Nat) : Int) = b by omega, show ((i.toNat : Nat) : Int) = i by omega] at this
  rw [this]
  by_cases e : i = b
  · rw [if_pos e, if_pos (by omega)]
  · rw [if_neg e, if_neg (by omega)]
theorem bt_ext {a b : Int} (ha : 0 ≤ a ∧ a < 128) (hb : 0 ≤ b ∧ b < 128) (h : ∀ i : Int, 0 ≤ i → i < 7 → bt a i = bt b i) : a = b := by
  have h0 : a / 1 % 2 = b / 1 % 2 := h 0 (by omega) (by omega)
  have h1 : a / 2 % 2 = b / 2 % 2 := h 1 (by omega) (by omega)
  have h2 : a / 4 % 2 = b / 4 % 2 := h 2 (by omega) (by omega)
  have h3 : a / 8 % 2 = b / 8 % 2 := h 3 (by omega) (by omega)
  have h4 : a / 16 % 2 = b / 16 % 2 := h 4 (by omega) (by omega)
  have h5 : a / 32 % 2 = b / 32 % 2 := h 5 (by omega) (by omega)
  have h6 : a / 64 % 2 = b / 64 % 2 := h 6 (by omega) (by omega)
  omega
/-- a set, told one after another -/
noncomputable def foB (P : Int → Prop) (f : Int → Int) : Nat → Int
  | 0 => 0
  | k + 1 => zor (foB P f k) (cif (P k) (zshl 1 (f k)) 0)
theorem foB_spec {P : Int → Prop} {f : Int → Int} : ∀ k : Nat, (∀ p : Nat, p < k → 0 ≤ f p ∧ f p < 7) → (0 ≤ foB P f k ∧ foB P f k < 128) ∧ ∀ i : Int, 0 ≤ i → i < 7 → bt (foB P f k) i = bi (∃ p : Nat, p < k ∧ P p ∧ f p = i)
  | 0, _ => ⟨⟨Int.le_refl 0, by show (0 : Int) < 128; omega⟩, fun i i0 i1 => by
      rw [bi_f (fun ⟨p, hp, _⟩ => by omega)]
      show (0 : Int) / _ % 2 = 0
      rw [Int.zero_ediv]; rfl⟩
  | k + 1, hf => by
    obtain ⟨ih1, ih2⟩ := foB_spec (P := P) (f := f) k (fun p hp => hf p (by omega))
    have hk := hf k (by omega)
    show (0 ≤ zor (foB P f k) (cif (P k) (zshl 1 (f k)) 0) ∧ zor (foB P f k) (cif (P k) (zshl 1 (f k)) 0) < 128) ∧ ∀ i : Int, 0 ≤ i → i < 7 → bt (zor (foB P f k) (cif (P k) (zshl 1 (f k)) 0)) i = _
    by_cases c : P k
    · rw [cif_t c]
      refine ⟨zor_rg ih1 hk, fun i i0 i1 => ?_⟩
      rw [bt_or ih1 hk ⟨i0, i1⟩, ih2 i i0 i1]
      by_cases e : i = f k
      · rw [if_pos e, bi_t ⟨k, by omega, c, e.symm⟩]
      · rw [if_neg e]
        refine bi_congr ⟨fun ⟨p, h1, h2, h3⟩ => ⟨p, by omega, h2, h3⟩, fun ⟨p, h1, h2, h3⟩ => ⟨p, ?_, h2, h3⟩⟩
        by_cases z : p = k
        · subst z; exact absurd h3.symm e
        · omega
    · rw [cif_f c, zor_0 ih1]
      refine ⟨ih1, fun i i0 i1 => ?_⟩
      rw [ih2 i i0 i1]
      refine bi_congr ⟨fun ⟨p, h1, h2, h3⟩ => ⟨p, by omega, h2, h3⟩, fun ⟨p, h1, h2, h3⟩ => ⟨p, ?_, h2, h3⟩⟩
      by_cases z : p = k
      · subst z; exact absurd h2 c
      · omega
theorem sunB_fo (r : Int → Int) (L : List Int) : ∀ k : Nat, sunB r L k = foB (snyR r L.length) (lget L) k
  | 0 => rfl
  | k + 1 => by
    show zor (sunB r L k) _ = zor (foB _ _ k) _
    rw [sunB_fo r L k]
theorem sunB_men {r : Int → Int} {L : List Int} (hI : BInv r L) : foB (fun m => 0 ≤ plc L m ∧ snyR r L.length (plc L m)) (fun m => m) (r 3).toNat = sunB r L L.length := by
  have b1 := hI.1
  rw [sunB_fo]
  obtain ⟨x1, x2⟩ := foB_spec (P := fun m => 0 ≤ plc L m ∧ snyR r L.length (plc L m)) (f := fun m => m) (r 3).toNat (fun p hp => by omega)
  obtain ⟨y1, y2⟩ := foB_spec (P := snyR r L.length) (f := lget L) L.length (fun p hp => by
    have := hI.2.2.1 _ (lget_mem (L := L) (p := (p : Int)) (by omega) (by omega))
    omega)
  refine bt_ext x1 y1 (fun i i0 i1 => ?_)
  rw [x2 i i0 i1, y2 i i0 i1]
  refine bi_congr ⟨fun ⟨p, h1, h2, h3⟩ => ?_, fun ⟨p, h1, h2, h3⟩ => ?_⟩
  · have hp := plc_range L p
    refine ⟨(plc L p).toNat, by omega, ?_, ?_⟩
    · rw [show (((plc L p).toNat : Nat) : Int) = plc L p by omega]; exact h2.2
    · rw [show (((plc L p).toNat : Nat) : Int) = plc L p by omega, plc_at h2.1]; exact h3
  · have hm := hI.2.2.1 _ (lget_mem (L := L) (p := (p : Int)) (by omega) (by omega))
    have hp := plc_nodup hI.2.1 (p := (p : Int)) (by omega) (by omega)
    rw [h3] at hm hp
    refine ⟨i.toNat, by omega, ?_, ?_⟩
    · show 0 ≤ plc L ((i.toNat : Nat) : Int) ∧ snyR r L.length (plc L ((i.toNat : Nat) : Int))
      rw [show ((i.toNat : Nat) : Int) = i by omega, hp]
      exact ⟨by omega, h2⟩
    · show ((i.toNat : Nat) : Int) = i
      omega
theorem MX.upd {f r : Int → Int} {L : List Int} {x v : Int} (h : MX f r L) (hl : (L.length : Int) ≤ 7) (hx : x ≠ 3 ∧ x ≠ 7 ∧ (x < 8 ∨ 15 ≤ x)) : MX (zup f x v) (zup r x v) L := by
  obtain ⟨⟨c1, c2, c3, c4, c5, c7⟩, cO, cM⟩ := h
  have e : ∀ y : Int, f y = r y → zup f x v y = zup r x v y := fun y hy => by
    by_cases z : y = x
    · subst z; rw [zup_s, zup_s]
    · rw [zup_n z, zup_n z]; exact hy
  refine ⟨⟨e 1 c1, e 2 c2, e 3 c3, e 4 c4, e 5 c5, by rw [zup_n (by omega)]; exact c7⟩, fun p p0 p1 => by rw [zup_n (by omega)]; exact cO p p0 p1, fun m m0 m1 => ?_⟩
  rw [zup_n (by omega)] at m1
  obtain ⟨d1, d2, d3, d4, d5⟩ := cM m m0 m1
  exact ⟨e _ d1, e _ d2, e _ d3, e _ d4, e _ d5⟩
theorem m_june {mem : ZMem} {S : ZS} (hS : MS mem S) (hI : SInv S) {o : Int} (ho : In32 o) : CI mX7_june 3 [zr 79, zi o] mem (QM mem (sJune S o)) := by
  have hb := hI.bi
  have b1 := hb.1
  have hl := hb.len
  have hr := hI.hr
  have h5 := hb.2.2.2.2.2.2.2
  have h0 := hS.thr
  have htt := h0.th
  have hF : FrM mem (mset mem 79 0 0) := FrM.rf.set (by omega)
  generalize hm : mset mem 79 0 0 = m0 at *
  have hX := mbch h0
  have x5 : m0 83 5 = S.b.1 5 := hX.1.2.2.2.2.1
  have loop : ¬ S.b.1 3 = 0 → (o = 0 ∨ o = 1) → ¬ S.b.1 5 = o → ∀ (m2 : ZMem), MX (m2 83) (juR S.b o).1 S.b.2 → MS m2 (S.uB (juR S.b o) (kp S.b S.U)) → FrM mem m2 → ∀ (c kn : Nat) (s k : Int), k = kn → (c : Int) + k = S.b.1 3 → s = foB (fun m => 0 ≤ plc S.b.2 m ∧ snyR (juR S.b o).1 S.b.2.length (plc S.b.2 m)) (fun m => m) kn → JM mX7_june 3 (QI (QM mem (sJune S o))) 56 [zr 79, zi o, zi s, zi k] [] m2 := by
    intro z0 z1 z2 m2 hM2 hS2 hF2 c
    have hJ := juR_inv (b := S.b) hb z1
    have j3 : (juR S.b o).1 3 = S.b.1 3 := rfl
    have j4 : (juR S.b o).1 4 = S.b.1 4 := rfl
    have d3 : m2 83 3 = S.b.1 3 := hM2.1.2.2.1.trans j3
    induction c with
    | zero =>
      intro kn s k e0 a1 a2
      refine J_il3 dX7_june_56 ?_
      refine J_al0 dX7_june_57 ?_
      refine M_getR dX7_june_58 fl_X7_19 sh_79 rfl ?_
      refine J_iconst dX7_june_61 ?_
      refine M_ald dX7_june_62 sh_83 (by decide) (by omega) ?_
      refine J_cge (tgt := 93) dX7_june_63 rfl (by omega) (fun c_63 => ?_) (fun c_63 => ?_)
      · skip
        refine J_il2 dX7_june_93 ?_
        refine M_iret dX7_june_94 rfl ?_
        unfold sJune; rw [if_neg z0, if_neg (by omega), if_neg z2]
        refine ⟨?_, hS2, hF2⟩
        have := sunB_men hJ
        rw [j3, show (S.b.1 3).toNat = kn by omega] at this
        exact a2.trans this
      · skip
        omega
    | succ c ih =>
      intro kn s k e0 a1 a2
      refine J_il3 dX7_june_56 ?_
      refine J_al0 dX7_june_57 ?_
      refine M_getR dX7_june_58 fl_X7_19 sh_79 rfl ?_
      refine J_iconst dX7_june_61 ?_
      refine M_ald dX7_june_62 sh_83 (by decide) (by omega) ?_
      refine J_cge (tgt := 93) dX7_june_63 rfl (by omega) (fun c_63 => ?_) (fun c_63 => ?_)
      · skip
        omega
      · skip
        refine J_il2 dX7_june_66 ?_
        refine J_al0 dX7_june_67 ?_
        refine M_getR dX7_june_68 fl_X7_19 sh_79 rfl ?_
        refine J_il3 dX7_june_71 ?_
        refine M_csI2 dX7_june_72 lk_X7_167 cw_X7_hasSun (k_mhasSun isW83 hM2 hJ (by omega) (by omega)) (by decide) (Nat.le_of_ble_eq_true rfl) (fun v_72 mem_72 hq => ?_)
        obtain ⟨rfl, hq⟩ := hq; have hq := hq.symm; subst hq
        refine J_ifeq_b (tgt := 84) dX7_june_75 rfl (fun c_75 => ?_) (fun c_75 => ?_)
        · skip
          refine J_iconst dX7_june_84 ?_
          refine J_ior dX7_june_85 ?_
          refine J_is2 dX7_june_86 (by decide) rfl ?_
          refine J_inc3 dX7_june_87 (by decide) rfl ?_
          refine J_goto (tgt := 56) dX7_june_90 rfl ?_
          refine ih (kn + 1) _ _ (by omega) (by omega) ?_
          show _ = zor (foB _ _ kn) (cif (0 ≤ plc S.b.2 (kn : Int) ∧ snyR (juR S.b o).1 S.b.2.length (plc S.b.2 (kn : Int))) (zshl 1 (kn : Int)) 0)
          rw [← e0, a2]
          first | rw [cif_t c_75] | rw [cif_f c_75]
        · skip
          refine J_iconst dX7_june_78 ?_
          refine J_il3 dX7_june_79 ?_
          refine J_ishl dX7_june_80 ?_
          refine J_goto (tgt := 85) dX7_june_81 rfl ?_
          refine J_ior dX7_june_85 ?_
          refine J_is2 dX7_june_86 (by decide) rfl ?_
          refine J_inc3 dX7_june_87 (by decide) rfl ?_
          refine J_goto (tgt := 56) dX7_june_90 rfl ?_
          refine ih (kn + 1) _ _ (by omega) (by omega) ?_
          show _ = zor (foB _ _ kn) (cif (0 ≤ plc S.b.2 (kn : Int) ∧ snyR (juR S.b o).1 S.b.2.length (plc S.b.2 (kn : Int))) (zshl 1 (kn : Int)) 0)
          rw [← e0, a2]
          first | rw [cif_t c_75] | rw [cif_f c_75]
  refine CM.of (by decide +kernel) ([zr 79, zi o, zu, zu]) (zok_all rfl) (Nat.le_of_ble_eq_true rfl) rfl ?_
  refine J_al0 dX7_june_0 ?_
  refine J_iconst dX7_june_1 ?_
  refine M_put (ki := 0) dX7_june_2 fl_X7_50 sh_79 rfl rfl rfl (fun r hr => by cases hr; rfl) ?_
  rw [hm]
  refine J_al0 dX7_june_5 ?_
  refine M_cvI0 dX7_june_6 lk_X7_186 cw_X7_isThere sh_79 rfl rfl (k_isThere htt.1) (by decide) (Nat.le_of_ble_eq_true rfl) (fun v_6 mem_6 hq => ?_)
  obtain ⟨rfl, hq⟩ := hq; have hq := hq.symm; subst hq
  refine J_ifne_b (tgt := 15) dX7_june_9 rfl (fun c_9 => ?_) (fun c_9 => ?_)
  · skip
    refine J_il1 dX7_june_15 ?_
    refine J_i2l dX7_june_16 (by omega) ?_
    refine J_lconst0 dX7_june_17 ?_
    refine J_lconst1 dX7_june_18 ?_
    refine M_csI3 dX7_june_19 lk_X7_60 cw_X7_in (k_in (by omega) (by omega) (by omega)) (by decide) (Nat.le_of_ble_eq_true rfl) (fun v_19 mem_19 hq => ?_)
    obtain ⟨rfl, hq⟩ := hq; have hq := hq.symm; subst hq
    refine J_ifne_b (tgt := 28) dX7_june_22 rfl (fun c_22 => ?_) (fun c_22 => ?_)
    · skip
      refine J_al0 dX7_june_28 ?_
      refine M_getR dX7_june_29 fl_X7_19 sh_79 rfl ?_
      refine J_iconst dX7_june_32 ?_
      refine M_ald dX7_june_33 sh_83 (by decide) (by omega) ?_
      refine J_il1 dX7_june_34 ?_
      refine J_cne (tgt := 41) dX7_june_35 rfl (by omega) (fun c_35 => ?_) (fun c_35 => ?_)
      · skip
        refine J_al0 dX7_june_41 ?_
        refine M_cvV0 dX7_june_42 lk_X7_192 cw_X7_keep sh_79 rfl rfl (k_mkeep h0.2.2.2.1 hI.2.2.1.1 h0.2.2.1 hb hI.ub) (by decide) (Nat.le_of_ble_eq_true rfl) (fun mem_42 hq => ?_)
        obtain ⟨g1, g2, g3⟩ := hq
        have hX2 : MX (mem_42 83) S.b.1 S.b.2 := by rw [g3 83 (by omega) (by omega)]; exact hX
        have hX3 : MX (mset mem_42 83 5 o 83) (juR S.b o).1 S.b.2 := by
          rw [mset_q]
          exact hX2.upd (by omega) (by omega)
        have hS3 : MS (mset mem_42 83 5 o) (S.uB (juR S.b o) (kp S.b S.U)) := by
          refine h0.bn ⟨hX3, ?_, ?_⟩ (g1.ext (by rw [mset_n (by omega)]) (mset_n (by omega))) (fun x hx => by rw [mset_n (by omega)]; exact g2 x (by omega)) (fun q q1 q2 q3 q4 q5 q6 q7 q8 => by rw [mset_n q3]; exact g3 q (by omega) q6)
          · rw [mset_i (by omega), g3 83 (by omega) (by omega), h0.2.2.1.2.1]; show _ = zup S.b.1 5 o 6; rw [zup_n (by omega)]
          · rw [mset_i (by omega), g3 83 (by omega) (by omega), h0.2.2.1.2.2]; show _ = bi (¬ zup S.b.1 5 o 3 = 0); rw [zup_n (by omega)]
        have hF3 : FrM mem (mset mem_42 83 5 o) := fun q hq => by rw [mset_n (by omega), g3 q (by omega) (by omega)]; exact hF q hq
        refine J_al0 dX7_june_45 ?_
        refine M_getR dX7_june_46 fl_X7_19 sh_79 rfl ?_
        refine J_iconst dX7_june_49 ?_
        refine J_il1 dX7_june_50 ?_
        refine M_ast dX7_june_51 sh_83 (by decide) (by omega) ?_
        refine J_iconst dX7_june_52 ?_
        refine J_is2 dX7_june_53 (by decide) rfl ?_
        refine J_iconst dX7_june_54 ?_
        refine J_is3 dX7_june_55 (by decide) rfl ?_
        exact loop (by omega) (by omega) (by omega) _ hX3 hS3 hF3 (S.b.1 3).toNat 0 0 0 rfl (by omega) rfl
      · skip
        refine J_ldc (n := -1000002) dX7_june_38 co_X7_189 (by decide) ?_
        refine M_iret dX7_june_40 rfl ?_
        unfold sJune; rw [if_neg (by omega), if_neg (by omega), if_pos (by omega)]; exact ⟨rfl, h0, hF⟩
    · skip
      refine J_ldc (n := -1000001) dX7_june_25 co_X7_70 (by decide) ?_
      refine M_iret dX7_june_27 rfl ?_
      unfold sJune; rw [if_neg (by omega), if_pos (by omega)]; exact ⟨rfl, h0, hF⟩
  · skip
    refine J_ldc (n := -1000002) dX7_june_12 co_X7_189 (by decide) ?_
    refine M_iret dX7_june_14 rfl ?_
    unfold sJune; rw [if_pos (by omega)]; exact ⟨rfl, h0, hF⟩
theorem elN_rg {r1 r2 : Int → Int} : ∀ k : Nat, k ≤ 7 → 0 ≤ elN r1 r2 k ∧ elN r1 r2 k < 128
  | 0, _ => ⟨Int.le_refl 0, by show (0 : Int) < 128; omega⟩
  | k + 1, hk => by
    have ih := elN_rg (r1 := r1) (r2 := r2) k (by omega)
    unfold elN
    split
    · exact zor_rg ih (by omega)
    · exact ih
theorem m_elm {mem : ZMem} {S : ZS} (hS : MS mem S) (hI : SInv S) {n : Int} (hn : In32 n) : CI mX7_elm 6 [zr 79, zi n] mem (QM mem (vElm S n, S)) := by
  have hb := hI.bi
  have b1 := hb.1
  have hl := hb.len
  have hr := hI.hr
  have h0 := hS.thr
  have htt := h0.th
  have hF : FrM mem (mset mem 79 0 0) := FrM.rf.set (by omega)
  generalize hm : mset mem 79 0 0 = m0 at *
  have hen := h0.men
  obtain ⟨i1, i2, i3, i4⟩ := hrs_inv (b := S.b) hb n.toNat
  have e3 := i2.1 3 (by omega) (by omega)
  have hw := wdR_inv hb hI.wd
  have w4 : (wdR S.b).1 4 = S.b.1 4 := rfl
  have w3 : (wdR S.b).1 3 = S.b.1 3 := rfl
  obtain ⟨j1, j2, j3, j4⟩ := hrs_inv (b := wdR S.b) hw n.toNat
  have f3 := j2.1 3 (by omega) (by omega)
  have two : ¬ S.b.1 3 = 0 → (1 ≤ n ∧ n ≤ 60) → ∀ (m2 : ZMem), MX (m2 85) (hrs n.toNat (wdR S.b)).1.1 (hrs n.toNat (wdR S.b)).1.2 → (∀ x : Int, 0 ≤ x → x < S.b.1 3 → m2 89 x = wm (hrs n.toNat S.b).1.1 x) → FrX m0 m2 → ∀ (c kn : Nat) (v s k : Int), k = kn → (c : Int) + k = S.b.1 3 → s = elN (hrs n.toNat S.b).1.1 (hrs n.toNat (wdR S.b)).1.1 kn → JM mX7_elm 6 (QI (QM mem (vElm S n, S))) 106 [zr 79, zi n, zi v, zi s, zi k] [] m2 := by
    intro z0 z1 m2 hM2 h89 hF2 c
    have d3 : m2 83 3 = S.b.1 3 := by rw [hF2 83 (by omega) (by omega) (by omega)]; exact hen
    induction c with
    | zero =>
      intro kn v s k e0 a1 a2
      refine J_il4 dX7_elm_106 ?_
      refine J_al0 dX7_elm_108 ?_
      refine M_getR dX7_elm_109 fl_X7_19 sh_79 rfl ?_
      refine J_iconst dX7_elm_112 ?_
      refine M_ald dX7_elm_113 sh_83 (by decide) (by omega) ?_
      refine J_cge (tgt := 154) dX7_elm_114 rfl (by omega) (fun c_114 => ?_) (fun c_114 => ?_)
      · skip
        refine J_il3 dX7_elm_154 ?_
        refine M_iret dX7_elm_155 rfl ?_
        exact ⟨by unfold vElm; rw [if_neg z0, if_neg (by omega), a2, show kn = (S.b.1 3).toNat by omega], h0.x hF2, hF.tr hF2.m⟩
      · skip
        omega
    | succ c ih =>
      intro kn v s k e0 a1 a2
      have w1 := (hM2.2.2 k (by omega) (by omega)).2.2.2.1
      have w2 := h89 k (by omega) (by omega)
      have r1 := (j1.2.2.2.2.1 k (by omega) (by omega)).2.2.2.1
      have r2 := (i1.2.2.2.2.1 k (by omega) (by omega)).2.2.2.1
      have rg := elN_rg (r1 := (hrs n.toNat S.b).1.1) (r2 := (hrs n.toNat (wdR S.b)).1.1) kn (by omega)
      refine J_il4 dX7_elm_106 ?_
      refine J_al0 dX7_elm_108 ?_
      refine M_getR dX7_elm_109 fl_X7_19 sh_79 rfl ?_
      refine J_iconst dX7_elm_112 ?_
      refine M_ald dX7_elm_113 sh_83 (by decide) (by omega) ?_
      refine J_cge (tgt := 154) dX7_elm_114 rfl (by omega) (fun c_114 => ?_) (fun c_114 => ?_)
      · skip
        omega
      · skip
        refine J_il3 dX7_elm_117 ?_
        refine J_al0 dX7_elm_118 ?_
        refine M_getR dX7_elm_119 fl_X7_25 sh_79 rfl ?_
        refine J_il4 dX7_elm_122 ?_
        refine J_iconst dX7_elm_124 ?_
        refine M_csI3 dX7_elm_125 lk_X7_163 cw_X7_of (k_of isW85 (by omega) (by omega)) (by decide) (Nat.le_of_ble_eq_true rfl) (fun v_125 mem_125 hq => ?_)
        obtain ⟨e, hq⟩ := hq; rw [w1] at e; subst e; have hq := hq.symm; subst hq
        refine J_al0 dX7_elm_128 ?_
        refine M_getR dX7_elm_129 fl_X7_37 sh_79 rfl ?_
        refine J_il4 dX7_elm_132 ?_
        refine M_ald dX7_elm_134 sh_89 (by decide) (by omega) ?_
        rw [w2]
        refine J_cge (tgt := 145) dX7_elm_135 rfl (by omega) (fun c_135 => ?_) (fun c_135 => ?_)
        · skip
          refine J_iconst dX7_elm_145 ?_
          refine J_ior dX7_elm_146 ?_
          refine J_is3 dX7_elm_147 (by decide) rfl ?_
          refine J_inc4 dX7_elm_148 (by decide) rfl ?_
          refine J_goto (tgt := 106) dX7_elm_151 rfl ?_
          refine ih (kn + 1) _ _ _ (by omega) (by omega) ?_
          unfold elN
          rw [← e0, a2]
          first | rw [if_pos (by omega)] | rw [if_neg (by omega), zor_0 rg]
        · skip
          refine J_iconst dX7_elm_138 ?_
          refine J_il4 dX7_elm_139 ?_
          refine J_ishl dX7_elm_141 ?_
          refine J_goto (tgt := 146) dX7_elm_142 rfl ?_
          refine J_ior dX7_elm_146 ?_
          refine J_is3 dX7_elm_147 (by decide) rfl ?_
          refine J_inc4 dX7_elm_148 (by decide) rfl ?_
          refine J_goto (tgt := 106) dX7_elm_151 rfl ?_
          refine ih (kn + 1) _ _ _ (by omega) (by omega) ?_
          unfold elN
          rw [← e0, a2]
          first | rw [if_pos (by omega)] | rw [if_neg (by omega), zor_0 rg]
  have one : ¬ S.b.1 3 = 0 → (1 ≤ n ∧ n ≤ 60) → ∀ (c : Nat) (m2 : ZMem) (v k : Int) (z : ZV), MX (m2 85) (hrs n.toNat S.b).1.1 (hrs n.toNat S.b).1.2 → 0 ≤ k → (c : Int) + k = S.b.1 3 → (∀ x : Int, 0 ≤ x → x < k → m2 89 x = wm (hrs n.toNat S.b).1.1 x) → FrX m0 m2 → JM mX7_elm 6 (QI (QM mem (vElm S n, S))) 46 [zr 79, zi n, zi v, zi k, z] [] m2 := by
    intro z0 z1 c
    induction c with
    | zero =>
      intro m2 v k z hM2 k0 a1 a2 hF2
      have d3 : m2 83 3 = S.b.1 3 := by rw [hF2 83 (by omega) (by omega) (by omega)]; exact hen
      have hM0 : MX (m2 83) S.b.1 S.b.2 := by rw [hF2 83 (by omega) (by omega) (by omega)]; exact mbch h0
      refine J_il3 dX7_elm_46 ?_
      refine J_al0 dX7_elm_47 ?_
      refine M_getR dX7_elm_48 fl_X7_19 sh_79 rfl ?_
      refine J_iconst dX7_elm_51 ?_
      refine M_ald dX7_elm_52 sh_83 (by decide) (by omega) ?_
      refine J_cge (tgt := 77) dX7_elm_53 rfl (by omega) (fun c_53 => ?_) (fun c_53 => ?_)
      · skip
        refine J_al0 dX7_elm_77 ?_
        refine M_cvV0 dX7_elm_78 lk_X7_212 cw_X7_layThen sh_79 rfl rfl k_layThen (by decide) (Nat.le_of_ble_eq_true rfl) (fun mem_78 hq => ?_)
        obtain ⟨g1, g2⟩ := hq
        have hX : MX (mem_78 85) S.b.1 S.b.2 := hM0.ext (by omega) (by omega) g1
        have x2 : mem_78 85 2 = S.b.1 2 := hX.1.2.1
        have hX3 : MX (mset mem_78 85 2 (S.b.1 2 - 1) 85) (wdR S.b).1 (wdR S.b).2 := by
          rw [mset_q]
          exact hX.upd (by omega) (by omega)
        have x1 : FrX m0 (mset mem_78 85 2 (S.b.1 2 - 1)) := fun q q1 q2 q3 => by rw [mset_n q1, g2 q q1]; exact hF2 q q1 q2 q3
        refine J_al0 dX7_elm_81 ?_
        refine M_getR dX7_elm_82 fl_X7_25 sh_79 rfl ?_
        refine J_iconst dX7_elm_85 ?_
        refine J_dup2 dX7_elm_86 rfl rfl ?_
        refine M_ald dX7_elm_87 sh_85 (by decide) (by omega) ?_
        rw [x2]
        refine J_iconst dX7_elm_88 ?_
        refine J_isub dX7_elm_89 ?_
        refine M_ast dX7_elm_90 sh_85 (by decide) (by omega) ?_
        refine J_al0 dX7_elm_91 ?_
        refine J_al0 dX7_elm_92 ?_
        refine M_getR dX7_elm_93 fl_X7_25 sh_79 rfl ?_
        refine J_il1 dX7_elm_96 ?_
        refine M_cvI2 dX7_elm_97 lk_X7_183 cw_X7_hoursOf sh_79 rfl rfl (k_hoursOf isW85 hX3 hw (by omega) (by omega)) (by decide) (Nat.le_of_ble_eq_true rfl) (fun v_97 mem_97 hq => ?_)
        obtain ⟨rfl, hM4, hF4⟩ := hq
        refine J_is2 dX7_elm_100 (by decide) rfl ?_
        refine J_iconst dX7_elm_101 ?_
        refine J_is3 dX7_elm_102 (by decide) rfl ?_
        refine J_iconst dX7_elm_103 ?_
        refine J_is4 dX7_elm_104 (by decide) rfl ?_
        exact two z0 z1 _ hM4 (fun x x0 x1 => by rw [hF4.1 89 (by omega) (by omega), mset_n (by omega), g2 89 (by omega)]; exact a2 x x0 (by omega)) (x1.tr hF4.x) (S.b.1 3).toNat 0 _ 0 0 rfl (by omega) rfl
      · skip
        omega
    | succ c ih =>
      intro m2 v k z hM2 k0 a1 a2 hF2
      have d3 : m2 83 3 = S.b.1 3 := by rw [hF2 83 (by omega) (by omega) (by omega)]; exact hen
      have w1 := (hM2.2.2 k (by omega) (by omega)).2.2.2.1
      refine J_il3 dX7_elm_46 ?_
      refine J_al0 dX7_elm_47 ?_
      refine M_getR dX7_elm_48 fl_X7_19 sh_79 rfl ?_
      refine J_iconst dX7_elm_51 ?_
      refine M_ald dX7_elm_52 sh_83 (by decide) (by omega) ?_
      refine J_cge (tgt := 77) dX7_elm_53 rfl (by omega) (fun c_53 => ?_) (fun c_53 => ?_)
      · skip
        omega
      · skip
        refine J_al0 dX7_elm_56 ?_
        refine M_getR dX7_elm_57 fl_X7_37 sh_79 rfl ?_
        refine J_il3 dX7_elm_60 ?_
        refine J_al0 dX7_elm_61 ?_
        refine M_getR dX7_elm_62 fl_X7_25 sh_79 rfl ?_
        refine J_il3 dX7_elm_65 ?_
        refine J_iconst dX7_elm_66 ?_
        refine M_csI3 dX7_elm_67 lk_X7_163 cw_X7_of (k_of isW85 (by omega) (by omega)) (by decide) (Nat.le_of_ble_eq_true rfl) (fun v_67 mem_67 hq => ?_)
        obtain ⟨e, hq⟩ := hq; rw [w1] at e; subst e; have hq := hq.symm; subst hq
        refine M_ast dX7_elm_70 sh_89 (by decide) (by omega) ?_
        refine J_inc3 dX7_elm_71 (by decide) rfl ?_
        refine J_goto (tgt := 46) dX7_elm_74 rfl ?_
        refine ih _ _ _ _ (by rw [mset_n (by omega)]; exact hM2) (by omega) (by omega) (fun x x0 x1 => ?_) (fun q q1 q2 q3 => by rw [mset_n q3]; exact hF2 q q1 q2 q3)
        by_cases e : x = k
        · subst e; rw [mset_s]
        · rw [mset_i e]; exact a2 x x0 (by omega)
  refine CM.of (by decide +kernel) ([zr 79, zi n, zu, zu, zu]) (zok_all rfl) (Nat.le_of_ble_eq_true rfl) rfl ?_
  refine J_al0 dX7_elm_0 ?_
  refine J_iconst dX7_elm_1 ?_
  refine M_put (ki := 0) dX7_elm_2 fl_X7_50 sh_79 rfl rfl rfl (fun r hr => by cases hr; rfl) ?_
  rw [hm]
  refine J_al0 dX7_elm_5 ?_
  refine M_cvI0 dX7_elm_6 lk_X7_186 cw_X7_isThere sh_79 rfl rfl (k_isThere htt.1) (by decide) (Nat.le_of_ble_eq_true rfl) (fun v_6 mem_6 hq => ?_)
  obtain ⟨rfl, hq⟩ := hq; have hq := hq.symm; subst hq
  refine J_ifne_b (tgt := 15) dX7_elm_9 rfl (fun c_9 => ?_) (fun c_9 => ?_)
  · skip
    refine J_il1 dX7_elm_15 ?_
    refine J_i2l dX7_elm_16 (by omega) ?_
    refine J_lconst1 dX7_elm_17 ?_
    refine J_ldc2 (n := 60) dX7_elm_18 col_X7_210 (by decide) ?_
    refine M_csI3 dX7_elm_21 lk_X7_60 cw_X7_in (k_in (by omega) (by omega) (by omega)) (by decide) (Nat.le_of_ble_eq_true rfl) (fun v_21 mem_21 hq => ?_)
    obtain ⟨rfl, hq⟩ := hq; have hq := hq.symm; subst hq
    refine J_ifne_b (tgt := 30) dX7_elm_24 rfl (fun c_24 => ?_) (fun c_24 => ?_)
    · skip
      refine J_al0 dX7_elm_30 ?_
      refine M_cvV0 dX7_elm_31 lk_X7_212 cw_X7_layThen sh_79 rfl rfl k_layThen (by decide) (Nat.le_of_ble_eq_true rfl) (fun mem_31 hq => ?_)
      obtain ⟨g1, g2⟩ := hq
      have hX : MX (mem_31 85) S.b.1 S.b.2 := (mbch h0).ext (by omega) (by omega) g1
      have x1 : FrX m0 mem_31 := fun q q1 _ _ => g2 q q1
      refine J_al0 dX7_elm_34 ?_
      refine J_al0 dX7_elm_35 ?_
      refine M_getR dX7_elm_36 fl_X7_25 sh_79 rfl ?_
      refine J_il1 dX7_elm_39 ?_
      refine M_cvI2 dX7_elm_40 lk_X7_183 cw_X7_hoursOf sh_79 rfl rfl (k_hoursOf isW85 hX hb (by omega) (by omega)) (by decide) (Nat.le_of_ble_eq_true rfl) (fun v_40 mem_40 hq => ?_)
      obtain ⟨rfl, hM2, hF2⟩ := hq
      refine J_is2 dX7_elm_43 (by decide) rfl ?_
      refine J_iconst dX7_elm_44 ?_
      refine J_is3 dX7_elm_45 (by decide) rfl ?_
      exact one (by omega) (by omega) (S.b.1 3).toNat _ _ 0 _ hM2 (by omega) (by omega) (fun x x0 x1 => by omega) (x1.tr hF2.x)
    · skip
      refine J_ldc (n := -1000001) dX7_elm_27 co_X7_70 (by decide) ?_
      refine M_iret dX7_elm_29 rfl ?_
      exact ⟨by unfold vElm; rw [if_neg (by omega), if_pos (by omega)], h0, hF⟩
  · skip
    refine J_ldc (n := -1000002) dX7_elm_12 co_X7_189 (by decide) ?_
    refine M_iret dX7_elm_14 rfl ?_
    exact ⟨by unfold vElm; rw [if_pos (by omega)], h0, hF⟩
theorem m_drawn {mem : ZMem} {S : ZS} (hS : MS mem S) (hI : SInv S) {n seed w : Int} (hn : In32 n) (hsd : In32 seed) (hw : In32 w) : CI mX7_drawn 5 [zr 79, zi n, zi seed, zi w] mem (QM mem (vDrawn S n seed w, S)) := by
  have hb := hI.bi
  have b1 := hb.1
  have hl := hb.len
  have hr := hI.hr
  have h0 := hS.thr
  have htt := h0.th
  have hF : FrM mem (mset mem 79 0 0) := FrM.rf.set (by omega)
  generalize hm : mset mem 79 0 0 = m0 at *
  have bad : ¬ S.b.1 3 = 0 → (n < 0 ∨ 60 < n ∨ seed < 1 ∨ 999999 < seed ∨ w < 0 ∨ 1 < w) → QM mem (vDrawn S n seed w, S) (-1000001) m0 := fun q0 q => ⟨by unfold vDrawn; rw [if_neg q0, if_pos q], h0, hF⟩
  have fin : ¬ S.b.1 3 = 0 → ¬ (n < 0 ∨ 60 < n ∨ seed < 1 ∨ 999999 < seed ∨ w < 0 ∨ 1 < w) → ∀ (m2 : ZMem), MX (m2 85) (drN S.b seed n.toNat).1 (drN S.b seed n.toNat).2 → FrX m0 m2 → ∀ (of : Int), of = (drN S.b seed n.toNat).1 6 - S.b.1 6 → ∀ (c kn : Nat) (x s k : Int) (y z : ZV), k = kn → (c : Int) + k = S.b.1 3 → s = warS (drN S.b seed n.toNat).1 kn → JM mX7_drawn 5 (QI (QM mem (vDrawn S n seed w, S))) 144 [zr 79, zi n, zi seed, zi w, zl x, y, zi of, zi s, zi k, z] [] m2 := by
    intro z0 z1 m2 hM2 hF2 of hof c
    obtain ⟨i1, i2, i3⟩ := drN_inv (b := S.b) hb seed n.toNat
    have d3 : m2 85 3 = S.b.1 3 := hM2.1.2.2.1.trans i3
    induction c with
    | zero =>
      intro kn x s k y z e0 a1 a2
      refine J_il8 dX7_drawn_144 ?_
      refine J_al0 dX7_drawn_146 ?_
      refine M_getR dX7_drawn_147 fl_X7_25 sh_79 rfl ?_
      refine J_iconst dX7_drawn_150 ?_
      refine M_ald dX7_drawn_151 sh_85 (by decide) (by omega) ?_
      refine J_cge (tgt := 176) dX7_drawn_152 rfl (by omega) (fun c_152 => ?_) (fun c_152 => ?_)
      · skip
        refine J_il3 dX7_drawn_176 ?_
        refine J_ifne (tgt := 185) dX7_drawn_177 rfl (by omega) (fun c_177 => ?_) (fun c_177 => ?_)
        · skip
          refine J_il7 dX7_drawn_185 ?_
          refine M_iret dX7_drawn_187 rfl ?_
          first
          | exact ⟨by unfold vDrawn; rw [if_neg z0, if_neg z1, if_pos (by omega)]; exact hof, h0.x hF2, hF.tr hF2.m⟩
          | exact ⟨by unfold vDrawn; rw [if_neg z0, if_neg z1, if_neg (by omega), a2, show kn = (S.b.1 3).toNat by omega], h0.x hF2, hF.tr hF2.m⟩
        · skip
          refine J_il6 dX7_drawn_180 ?_
          refine J_goto (tgt := 187) dX7_drawn_182 rfl ?_
          refine M_iret dX7_drawn_187 rfl ?_
          first
          | exact ⟨by unfold vDrawn; rw [if_neg z0, if_neg z1, if_pos (by omega)]; exact hof, h0.x hF2, hF.tr hF2.m⟩
          | exact ⟨by unfold vDrawn; rw [if_neg z0, if_neg z1, if_neg (by omega), a2, show kn = (S.b.1 3).toNat by omega], h0.x hF2, hF.tr hF2.m⟩
      · skip
        omega
    | succ c ih =>
      intro kn x s k y z e0 a1 a2
      have w1 := (hM2.2.2 k (by omega) (by omega)).2.2.2.1
      refine J_il8 dX7_drawn_144 ?_
      refine J_al0 dX7_drawn_146 ?_
      refine M_getR dX7_drawn_147 fl_X7_25 sh_79 rfl ?_
      refine J_iconst dX7_drawn_150 ?_
      refine M_ald dX7_drawn_151 sh_85 (by decide) (by omega) ?_
      refine J_cge (tgt := 176) dX7_drawn_152 rfl (by omega) (fun c_152 => ?_) (fun c_152 => ?_)
      · skip
        omega
      · skip
        refine J_il7 dX7_drawn_155 ?_
        refine J_al0 dX7_drawn_157 ?_
        refine M_getR dX7_drawn_158 fl_X7_25 sh_79 rfl ?_
        refine J_il8 dX7_drawn_161 ?_
        refine J_iconst dX7_drawn_163 ?_
        refine M_csI3 dX7_drawn_164 lk_X7_163 cw_X7_of (k_of isW85 (by omega) (by omega)) (by decide) (Nat.le_of_ble_eq_true rfl) (fun v_164 mem_164 hq => ?_)
        obtain ⟨e, hq⟩ := hq; rw [w1] at e; subst e; have hq := hq.symm; subst hq
        refine J_iadd dX7_drawn_167 ?_
        refine J_is7 dX7_drawn_168 (by decide) rfl ?_
        refine J_inc8 dX7_drawn_170 (by decide) rfl ?_
        refine J_goto (tgt := 144) dX7_drawn_173 rfl ?_
        refine ih (kn + 1) _ _ _ _ _ (by omega) (by omega) ?_
        show _ = warS _ kn + wm _ (kn : Int)
        rw [← e0, a2]
  have loop : ¬ S.b.1 3 = 0 → ¬ (n < 0 ∨ 60 < n ∨ seed < 1 ∨ 999999 < seed ∨ w < 0 ∨ 1 < w) → ∀ (c kn : Nat) (x of k : Int) (y z8 z9 : ZV) (m2 : ZMem), k = kn → (c : Int) + k = n → x = drX seed kn → of = (drN S.b seed kn).1 6 - S.b.1 6 → MX (m2 85) (drN S.b seed kn).1 (drN S.b seed kn).2 → FrX m0 m2 → JM mX7_drawn 5 (QI (QM mem (vDrawn S n seed w, S))) 66 [zr 79, zi n, zi seed, zi w, zl x, y, zi of, zi k, z8, z9] [] m2 := by
    intro z0 z1 c
    induction c with
    | zero =>
      intro kn x of k y z8 z9 m2 e0 a1 a2 a3 a4 a5
      refine J_il7 dX7_drawn_66 ?_
      refine J_il1 dX7_drawn_68 ?_
      refine J_cge (tgt := 138) dX7_drawn_69 rfl (by omega) (fun c_69 => ?_) (fun c_69 => ?_)
      · skip
        refine J_iconst dX7_drawn_138 ?_
        refine J_is7 dX7_drawn_139 (by decide) rfl ?_
        refine J_iconst dX7_drawn_141 ?_
        refine J_is8 dX7_drawn_142 (by decide) rfl ?_
        have e : kn = n.toNat := by omega
        subst e
        exact fin z0 z1 m2 a4 a5 of a3 (S.b.1 3).toNat 0 x 0 0 _ _ rfl (by omega) rfl
      · skip
        omega
    | succ c ih =>
      intro kn x of k y z8 z9 m2 e0 a1 a2 a3 a4 a5
      obtain ⟨i1, i2, i3⟩ := drN_inv (b := S.b) hb seed kn
      have x0 := drX_range (seed := seed) (by omega) kn
      have x1 := drX_range (seed := seed) (by omega) (kn + 1)
      have ex : x * 16807 % 2147483647 = drX seed (kn + 1) := by rw [a2]; rfl
      have em : m2 85 3 = S.b.1 3 := a4.1.2.2.1.trans i3
      have y0 := Int.emod_nonneg (drX seed (kn + 1)) z0
      have y1 := Int.emod_lt_of_pos (drX seed (kn + 1)) (show 0 < S.b.1 3 by omega)
      have hp := plc_range (drN S.b seed kn).2 (drX seed (kn + 1) % S.b.1 3)
      have hl2 := i1.len
      have s1 := snf_inv i1 (drX seed (kn + 1) % S.b.1 3)
      have s4 := snf_lo (b := drN S.b seed kn) (drX seed (kn + 1) % S.b.1 3) (x := 4) (by omega)
      have nx : drN S.b seed (kn + 1) = (hourR TT (snf (drN S.b seed kn) (drX seed (kn + 1) % S.b.1 3))).1 := rfl
      have k6 : (drN S.b seed (kn + 1)).1 6 = (snf (drN S.b seed kn) (drX seed (kn + 1) % S.b.1 3)).1 6 := by rw [nx]; exact (hourR_inv TT s1).2.1.1 6 (by omega) (by omega)
      have hpN : (plc (drN S.b seed kn).2 (drX seed (kn + 1) % S.b.1 3) < 0 ∧ pN (plc (drN S.b seed kn).2 (drX seed (kn + 1) % S.b.1 3)) = -1000000) ∨ (0 ≤ plc (drN S.b seed kn).2 (drX seed (kn + 1) % S.b.1 3) ∧ pN (plc (drN S.b seed kn).2 (drX seed (kn + 1) % S.b.1 3)) = plc (drN S.b seed kn).2 (drX seed (kn + 1) % S.b.1 3)) := by unfold pN; split <;> omega
      refine J_il7 dX7_drawn_66 ?_
      refine J_il1 dX7_drawn_68 ?_
      refine J_cge (tgt := 138) dX7_drawn_69 rfl (by omega) (fun c_69 => ?_) (fun c_69 => ?_)
      · skip
        omega
      · skip
        refine J_ll4 dX7_drawn_72 ?_
        refine J_ldc2 (n := 16807) dX7_drawn_74 col_X7_232 (by decide) ?_
        refine J_lmul dX7_drawn_77 ?_
        refine J_ldc2 (n := 2147483647) dX7_drawn_78 col_X7_234 (by decide) ?_
        refine J_lrem dX7_drawn_81 (by omega) ?_
        rw [ex]
        refine J_ls4 dX7_drawn_82 (by decide) rfl ?_
        refine J_ll4 dX7_drawn_84 ?_
        refine J_al0 dX7_drawn_86 ?_
        refine M_getR dX7_drawn_87 fl_X7_25 sh_79 rfl ?_
        refine J_iconst dX7_drawn_90 ?_
        refine M_ald dX7_drawn_91 sh_85 (by decide) (by omega) ?_
        rw [em]
        refine J_i2l dX7_drawn_92 (by omega) ?_
        refine J_lrem dX7_drawn_93 (by omega) ?_
        refine J_l2i dX7_drawn_94 ?_
        refine J_is8 dX7_drawn_95 (by decide) rfl ?_
        refine J_al0 dX7_drawn_97 ?_
        refine M_getR dX7_drawn_98 fl_X7_25 sh_79 rfl ?_
        refine J_il8 dX7_drawn_101 ?_
        refine M_csI2 dX7_drawn_103 lk_X7_156 cw_X7_placeOf (k_mplaceOf isW85 a4 i1 (by omega)) (by decide) (Nat.le_of_ble_eq_true rfl) (fun v_103 mem_103 hq => ?_)
        obtain ⟨rfl, hq⟩ := hq; have hq := hq.symm; subst hq
        refine J_ifle (tgt := 121) dX7_drawn_106 rfl (by omega) (fun c_106 => ?_) (fun c_106 => ?_)
        · skip
          first
          | have hM3 : MX (mem_115 85) (snf (drN S.b seed kn) (drX seed (kn + 1) % S.b.1 3)).1 (snf (drN S.b seed kn) (drX seed (kn + 1) % S.b.1 3)).2 := hM2
            have T2 := a5.tr hF2.x
            have o6 : of + 1 = (drN S.b seed (kn + 1)).1 6 - S.b.1 6 := by
              rw [k6]
              unfold snf
              rw [if_pos (by omega)]
              show _ = zup (drN S.b seed kn).1 6 ((drN S.b seed kn).1 6 + 1) 6 - _
              rw [zup_s]; omega
          | have hM3 : MX (m2 85) (snf (drN S.b seed kn) (drX seed (kn + 1) % S.b.1 3)).1 (snf (drN S.b seed kn) (drX seed (kn + 1) % S.b.1 3)).2 := by
              rw [snf_no (by omega)]; exact a4
            have T2 := a5
            have o6 : of = (drN S.b seed (kn + 1)).1 6 - S.b.1 6 := by
              rw [k6, snf_no (by omega)]; exact a3
          refine J_al0 dX7_drawn_121 ?_
          refine J_al0 dX7_drawn_122 ?_
          refine M_getR dX7_drawn_123 fl_X7_25 sh_79 rfl ?_
          refine J_iconst dX7_drawn_126 ?_
          refine M_cvI2 dX7_drawn_127 lk_X7_180 cw_X7_hour sh_79 rfl rfl (k_mhour isW85 hM3 s1 (by omega) (fun _ => True) mgt0) (by decide) (Nat.le_of_ble_eq_true rfl) (fun v_127 mem_127 hq => ?_)
          obtain ⟨rfl, hM4, hF4⟩ := hq
          refine J_is9 dX7_drawn_130 (by decide) rfl ?_
          refine J_inc7 dX7_drawn_132 (by decide) rfl ?_
          refine J_goto (tgt := 66) dX7_drawn_135 rfl ?_
          exact ih (kn + 1) _ _ _ _ _ _ _ (by omega) (by omega) rfl o6 hM4 (T2.tr hF4.x)
        · skip
          refine J_al0 dX7_drawn_109 ?_
          refine M_getR dX7_drawn_110 fl_X7_25 sh_79 rfl ?_
          refine J_il8 dX7_drawn_113 ?_
          refine M_csV2 dX7_drawn_115 lk_X7_202 cw_X7_change (k_change isW85 a4 i1 (by omega) (by omega)) (by decide) (Nat.le_of_ble_eq_true rfl) (fun mem_115 hq => ?_)
          obtain ⟨hM2, hF2⟩ := hq
          refine J_inc6 dX7_drawn_118 (by decide) rfl ?_
          first
          | have hM3 : MX (mem_115 85) (snf (drN S.b seed kn) (drX seed (kn + 1) % S.b.1 3)).1 (snf (drN S.b seed kn) (drX seed (kn + 1) % S.b.1 3)).2 := hM2
            have T2 := a5.tr hF2.x
            have o6 : of + 1 = (drN S.b seed (kn + 1)).1 6 - S.b.1 6 := by
              rw [k6]
              unfold snf
              rw [if_pos (by omega)]
              show _ = zup (drN S.b seed kn).1 6 ((drN S.b seed kn).1 6 + 1) 6 - _
              rw [zup_s]; omega
          | have hM3 : MX (m2 85) (snf (drN S.b seed kn) (drX seed (kn + 1) % S.b.1 3)).1 (snf (drN S.b seed kn) (drX seed (kn + 1) % S.b.1 3)).2 := by
              rw [snf_no (by omega)]; exact a4
            have T2 := a5
            have o6 : of = (drN S.b seed (kn + 1)).1 6 - S.b.1 6 := by
              rw [k6, snf_no (by omega)]; exact a3
          refine J_al0 dX7_drawn_121 ?_
          refine J_al0 dX7_drawn_122 ?_
          refine M_getR dX7_drawn_123 fl_X7_25 sh_79 rfl ?_
          refine J_iconst dX7_drawn_126 ?_
          refine M_cvI2 dX7_drawn_127 lk_X7_180 cw_X7_hour sh_79 rfl rfl (k_mhour isW85 hM3 s1 (by omega) (fun _ => True) mgt0) (by decide) (Nat.le_of_ble_eq_true rfl) (fun v_127 mem_127 hq => ?_)
          obtain ⟨rfl, hM4, hF4⟩ := hq
          refine J_is9 dX7_drawn_130 (by decide) rfl ?_
          refine J_inc7 dX7_drawn_132 (by decide) rfl ?_
          refine J_goto (tgt := 66) dX7_drawn_135 rfl ?_
          exact ih (kn + 1) _ _ _ _ _ _ _ (by omega) (by omega) rfl o6 hM4 (T2.tr hF4.x)
  refine CM.of (by decide +kernel) ([zr 79, zi n, zi seed, zi w, zu, zu, zu, zu, zu, zu]) (zok_all rfl) (Nat.le_of_ble_eq_true rfl) rfl ?_
  refine J_al0 dX7_drawn_0 ?_
  refine J_iconst dX7_drawn_1 ?_
  refine M_put (ki := 0) dX7_drawn_2 fl_X7_50 sh_79 rfl rfl rfl (fun r hr => by cases hr; rfl) ?_
  rw [hm]
  refine J_al0 dX7_drawn_5 ?_
  refine M_cvI0 dX7_drawn_6 lk_X7_186 cw_X7_isThere sh_79 rfl rfl (k_isThere htt.1) (by decide) (Nat.le_of_ble_eq_true rfl) (fun v_6 mem_6 hq => ?_)
  obtain ⟨rfl, hq⟩ := hq; have hq := hq.symm; subst hq
  refine J_ifne_b (tgt := 15) dX7_drawn_9 rfl (fun c_9 => ?_) (fun c_9 => ?_)
  · skip
    refine J_il1 dX7_drawn_15 ?_
    refine J_i2l dX7_drawn_16 (by omega) ?_
    refine J_lconst0 dX7_drawn_17 ?_
    refine J_ldc2 (n := 60) dX7_drawn_18 col_X7_210 (by decide) ?_
    refine M_csI3 dX7_drawn_21 lk_X7_60 cw_X7_in (k_in (by omega) (by omega) (by omega)) (by decide) (Nat.le_of_ble_eq_true rfl) (fun v_21 mem_21 hq => ?_)
    obtain ⟨rfl, hq⟩ := hq; have hq := hq.symm; subst hq
    refine J_ifeq_b (tgt := 49) dX7_drawn_24 rfl (fun c_24 => ?_) (fun c_24 => ?_)
    · skip
      refine J_ldc (n := -1000001) dX7_drawn_49 co_X7_70 (by decide) ?_
      refine M_iret dX7_drawn_51 rfl ?_
      exact bad (by omega) (by omega)
    · skip
      refine J_il2 dX7_drawn_27 ?_
      refine J_i2l dX7_drawn_28 (by omega) ?_
      refine J_lconst1 dX7_drawn_29 ?_
      refine J_ldc2 (n := 999999) dX7_drawn_30 col_X7_230 (by decide) ?_
      refine M_csI3 dX7_drawn_33 lk_X7_60 cw_X7_in (k_in (by omega) (by omega) (by omega)) (by decide) (Nat.le_of_ble_eq_true rfl) (fun v_33 mem_33 hq => ?_)
      obtain ⟨rfl, hq⟩ := hq; have hq := hq.symm; subst hq
      refine J_ifeq_b (tgt := 49) dX7_drawn_36 rfl (fun c_36 => ?_) (fun c_36 => ?_)
      · skip
        refine J_ldc (n := -1000001) dX7_drawn_49 co_X7_70 (by decide) ?_
        refine M_iret dX7_drawn_51 rfl ?_
        exact bad (by omega) (by omega)
      · skip
        refine J_il3 dX7_drawn_39 ?_
        refine J_i2l dX7_drawn_40 (by omega) ?_
        refine J_lconst0 dX7_drawn_41 ?_
        refine J_lconst1 dX7_drawn_42 ?_
        refine M_csI3 dX7_drawn_43 lk_X7_60 cw_X7_in (k_in (by omega) (by omega) (by omega)) (by decide) (Nat.le_of_ble_eq_true rfl) (fun v_43 mem_43 hq => ?_)
        obtain ⟨rfl, hq⟩ := hq; have hq := hq.symm; subst hq
        refine J_ifne_b (tgt := 52) dX7_drawn_46 rfl (fun c_46 => ?_) (fun c_46 => ?_)
        · skip
          refine J_al0 dX7_drawn_52 ?_
          refine M_cvV0 dX7_drawn_53 lk_X7_212 cw_X7_layThen sh_79 rfl rfl k_layThen (by decide) (Nat.le_of_ble_eq_true rfl) (fun mem_53 hq => ?_)
          obtain ⟨g1, g2⟩ := hq
          refine J_il2 dX7_drawn_56 ?_
          refine J_i2l dX7_drawn_57 (by omega) ?_
          refine J_ls4 dX7_drawn_58 (by decide) rfl ?_
          refine J_iconst dX7_drawn_60 ?_
          refine J_is6 dX7_drawn_61 (by decide) rfl ?_
          refine J_iconst dX7_drawn_63 ?_
          refine J_is7 dX7_drawn_64 (by decide) rfl ?_
          exact loop (by omega) (by omega) n.toNat 0 seed 0 0 _ _ _ _ rfl (by omega) rfl (by show (0 : Int) = S.b.1 6 - S.b.1 6; omega) ((mbch h0).ext (by omega) (by omega) g1) (fun q q1 _ _ => g2 q q1)
        · skip
          refine J_ldc (n := -1000001) dX7_drawn_49 co_X7_70 (by decide) ?_
          refine M_iret dX7_drawn_51 rfl ?_
          exact bad (by omega) (by omega)
  · skip
    refine J_ldc (n := -1000002) dX7_drawn_12 co_X7_189 (by decide) ?_
    refine M_iret dX7_drawn_14 rfl ?_
    exact ⟨by unfold vDrawn; rw [if_pos (by omega)], h0, hF⟩
