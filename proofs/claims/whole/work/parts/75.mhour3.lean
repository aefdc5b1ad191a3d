theorem k_mhour {mem : ZMem} {q : Nat} (hQ : isW q) {b : BN} (hM : MX (mem q) b.1 b.2) (hI : BInv b.1 b.2) (hh : b.1 4 ≤ 2999) (F : Int → Prop) {fb : Int} (hF : ∀ m, 0 ≤ m → m < 7 → (zand (zshr fb m) 1 = 0 ↔ F m)) : CI mX7_hour 4 [zr 79, zr q, zi fb] mem (HrQ F b q mem) := by
  have hw := isW88 hQ
  have b3 := hI.1
  have b4 := hI.2.2.2.1
  have c4 : mem q 4 = b.1 4 := hM.1.2.2.2.1
  have loop : ∀ (c kn : Nat) (k : Int) (z5 z6 : ZV) (m2 : ZMem), k = kn → (c : Int) + k = b.1 3 → MX (m2 q) (bckN kn b).1 (bckN kn b).2 → FrH q mem m2 → JM mX7_hour 4 (QI (HrQ F b q mem)) 10 [zr 79, zr q, zi fb, zi (b.1 4 % 24), zi k, z5, z6] [] m2 := by
    intro c
    induction c with
    | zero =>
      intro kn k z5 z6 m2 e0 a1 a2 a3
      obtain ⟨I2, K2, h4, hwm⟩ := bckN_inv (b := b) hI kn (by omega)
      have d3 : m2 q 3 = b.1 3 := a2.1.2.2.1.trans (K2.1 3 (by omega) (by omega))
      have ek : kn = (b.1 3).toNat := by omega
      refine J_il4 dX7_hour_10 ?_
      refine J_al1 dX7_hour_12 ?_
      refine J_iconst dX7_hour_13 ?_
      refine M_ald dX7_hour_14 (isW_sh hQ) (by decide) (by omega) ?_
      refine J_cge (tgt := 76) dX7_hour_15 rfl (by omega) (fun c_15 => ?_) (fun c_15 => ?_)
      · skip
        refine J_iconst dX7_hour_76 ?_
        refine J_is4 dX7_hour_77 (by decide) rfl ?_
        refine J_iconst dX7_hour_79 ?_
        refine J_is5 dX7_hour_80 (by decide) rfl ?_
        exact hr_call (d := bckN kn b) hQ hI hh F hF (by rw [ek]) I2 h4 (bckN kn b).2.length 0 0 0 _ m2 rfl (by omega) rfl (fun x x0 x1 => by omega) a2 a3
      · skip
        omega
    | succ c ih =>
      intro kn k z5 z6 m2 e0 a1 a2 a3
      obtain ⟨I2, K2, h4, hwm⟩ := bckN_inv (b := b) hI kn (by omega)
      have e3 := K2.1 3 (by omega) (by omega)
      have d3 : m2 q 3 = b.1 3 := a2.1.2.2.1.trans e3
      have d4 : m2 q 4 = b.1 4 := a2.1.2.2.2.1.trans h4
      have nx : bckN (kn + 1) b = bck (bckN kn b) kn := rfl
      have ih' := ih (kn + 1) (k + 1)
      rw [nx, ← e0] at ih'
      generalize bckN kn b = d at *
      have d7 : m2 q 7 = (d.2.length : Int) := a2.1.2.2.2.2.2
      have hl2 := I2.len
      obtain ⟨f0, f1, f2, f3, f4⟩ := a2.2.2 k (by omega) (by omega)
      have hN := I2.2.2.2.2.1 k (by omega) (by omega)
      have f0' : m2 q (15 + 5 * k + 0) = kd d.1 k := by rw [Int.add_zero]; exact f0
      have no : ¬ (0 < gn d.1 k ∧ gn d.1 k ≤ d.1 4) → bck d k = d := fun g => by unfold bck; rw [if_neg g]
      have ya : (0 < gn d.1 k ∧ gn d.1 k ≤ d.1 4) → bck d k = (zup d.1 (15 + 5 * k + 4) 0, ins d.2 (if kd d.1 k = 3 then (d.2.length : Int) / 2 else (d.2.length : Int)) k) := fun g => by unfold bck; rw [if_pos g]
      have hi5 : In32 (gn d.1 k) := by omega
      refine J_il4 dX7_hour_10 ?_
      refine J_al1 dX7_hour_12 ?_
      refine J_iconst dX7_hour_13 ?_
      refine M_ald dX7_hour_14 (isW_sh hQ) (by decide) (by omega) ?_
      refine J_cge (tgt := 76) dX7_hour_15 rfl (by omega) (fun c_15 => ?_) (fun c_15 => ?_)
      · skip
        omega
      · skip
        refine J_al1 dX7_hour_18 ?_
        refine J_il4 dX7_hour_19 ?_
        refine J_iconst dX7_hour_21 ?_
        refine M_csI3 dX7_hour_22 lk_X7_163 cw_X7_of (k_of hQ (by omega) (by omega)) (by decide) (Nat.le_of_ble_eq_true rfl) (fun v_22 mem_22 hq => ?_)
        obtain ⟨e, hq⟩ := hq; rw [f4] at e; subst e; have hq := hq.symm; subst hq
        refine J_is5 dX7_hour_25 (by decide) rfl ?_
        refine J_il5 dX7_hour_27 ?_
        refine J_ifle (tgt := 70) dX7_hour_29 rfl (by omega) (fun c_29 => ?_) (fun c_29 => ?_)
        · skip
          refine J_inc4 dX7_hour_70 (by decide) rfl ?_
          refine J_goto (tgt := 10) dX7_hour_73 rfl ?_
          exact ih' _ _ _ (by omega) (by omega) (by rw [no (by omega)]; exact a2) a3
        · skip
          refine J_il5 dX7_hour_32 ?_
          refine J_al1 dX7_hour_34 ?_
          refine J_iconst dX7_hour_35 ?_
          refine M_ald dX7_hour_36 (isW_sh hQ) (by decide) (by omega) ?_
          refine J_cgt (tgt := 70) dX7_hour_37 rfl (by omega) (fun c_37 => ?_) (fun c_37 => ?_)
          · skip
            refine J_inc4 dX7_hour_70 (by decide) rfl ?_
            refine J_goto (tgt := 10) dX7_hour_73 rfl ?_
            exact ih' _ _ _ (by omega) (by omega) (by rw [no (by omega)]; exact a2) a3
          · skip
            have hlen := I2.len1 (m := k) (by omega) (by omega) (fun z => by have := hN.2.2.2.2.2.mpr z; omega)
            refine J_al1 dX7_hour_40 ?_
            refine J_il4 dX7_hour_41 ?_
            refine J_al1 dX7_hour_43 ?_
            refine J_il4 dX7_hour_44 ?_
            refine J_iconst dX7_hour_46 ?_
            refine M_csI3 dX7_hour_47 lk_X7_163 cw_X7_of (k_of hQ (by omega) (by omega)) (by decide) (Nat.le_of_ble_eq_true rfl) (fun v_47 mem_47 hq => ?_)
            obtain ⟨e, hq⟩ := hq; rw [f0'] at e; subst e; have hq := hq.symm; subst hq
            refine J_iconst dX7_hour_50 ?_
            refine J_cne (tgt := 63) dX7_hour_51 rfl (by omega) (fun c_51 => ?_) (fun c_51 => ?_)
            · skip
              refine J_al1 dX7_hour_63 ?_
              refine J_bipush dX7_hour_64 rfl ?_
              refine M_ald dX7_hour_66 (isW_sh hQ) (by decide) (by omega) ?_
              first | rw [d7] | skip
              refine M_csV3 dX7_hour_67 lk_X7_170 cw_X7_sitDown (k_sitDown hQ a2 (by omega) (by omega) (by omega)) (by decide) (Nat.le_of_ble_eq_true rfl) (fun mem_67 hq => ?_)
              obtain ⟨hM2, hF2⟩ := hq
              refine J_inc4 dX7_hour_70 (by decide) rfl ?_
              refine J_goto (tgt := 10) dX7_hour_73 rfl ?_
              first
              | exact ih' _ _ _ (by omega) (by omega) (by rw [ya (by omega), if_pos c_51]; exact hM2) (a3.tr hF2.h)
              | exact ih' _ _ _ (by omega) (by omega) (by rw [ya (by omega), if_neg c_51]; exact hM2) (a3.tr hF2.h)
            · skip
              refine J_al1 dX7_hour_54 ?_
              refine J_bipush dX7_hour_55 rfl ?_
              refine M_ald dX7_hour_57 (isW_sh hQ) (by decide) (by omega) ?_
              rw [d7]
              refine J_iconst dX7_hour_58 ?_
              refine J_idiv dX7_hour_59 (by omega) ?_
              refine J_goto (tgt := 67) dX7_hour_60 rfl ?_
              first | rw [d7] | skip
              refine M_csV3 dX7_hour_67 lk_X7_170 cw_X7_sitDown (k_sitDown hQ a2 (by omega) (by omega) (by omega)) (by decide) (Nat.le_of_ble_eq_true rfl) (fun mem_67 hq => ?_)
              obtain ⟨hM2, hF2⟩ := hq
              refine J_inc4 dX7_hour_70 (by decide) rfl ?_
              refine J_goto (tgt := 10) dX7_hour_73 rfl ?_
              first
              | exact ih' _ _ _ (by omega) (by omega) (by rw [ya (by omega), if_pos c_51]; exact hM2) (a3.tr hF2.h)
              | exact ih' _ _ _ (by omega) (by omega) (by rw [ya (by omega), if_neg c_51]; exact hM2) (a3.tr hF2.h)
  refine CM.of (by decide +kernel) ([zr 79, zr q, zi fb, zu, zu, zu, zu]) (zok_all rfl) (Nat.le_of_ble_eq_true rfl) rfl ?_
  refine J_al1 dX7_hour_0 ?_
  refine J_iconst dX7_hour_1 ?_
  refine M_ald dX7_hour_2 (isW_sh hQ) (by decide) (by omega) ?_
  rw [c4]
  refine J_bipush dX7_hour_3 rfl ?_
  refine J_irem dX7_hour_5 (by omega) ?_
  refine J_is3 dX7_hour_6 (by decide) rfl ?_
  refine J_iconst dX7_hour_7 ?_
  refine J_is4 dX7_hour_8 (by decide) rfl ?_
  exact loop (b.1 3).toNat 0 0 _ _ mem rfl (by omega) hM FrH.rf
theorem zshr_0 (m : Int) : zand (zshr 0 m) 1 = 0 := by
  unfold zshr
  rw [i32_0, Int32.zero_shiftRight]
  rfl
theorem mgt0 : ∀ m : Int, 0 ≤ m → m < 7 → (zand (zshr 0 m) 1 = 0 ↔ (fun _ : Int => True) m) := fun m _ _ => ⟨fun _ => trivial, fun _ => zshr_0 m⟩
theorem k_hoursOf {mem : ZMem} {q : Nat} (hQ : isW q) {b : BN} (hM : MX (mem q) b.1 b.2) (hI : BInv b.1 b.2) {n : Int} (hn : 0 ≤ n ∧ n ≤ 100) (hh : b.1 4 + n ≤ 2999) : CI mX7_hoursOf 5 [zr 79, zr q, zi n] mem (fun v mem' => v = (hrs n.toNat b).2 ∧ MX (mem' q) (hrs n.toNat b).1.1 (hrs n.toNat b).1.2 ∧ FrH q mem mem') := by
  have loop : ∀ (c kn : Nat) (k w : Int) (m2 : ZMem), k = kn → (c : Int) + k = n → w = (hrs kn b).2 → MX (m2 q) (hrs kn b).1.1 (hrs kn b).1.2 → FrH q mem m2 → JM mX7_hoursOf 5 (QI (fun v mem' => v = (hrs n.toNat b).2 ∧ MX (mem' q) (hrs n.toNat b).1.1 (hrs n.toNat b).1.2 ∧ FrH q mem mem')) 5 [zr 79, zr q, zi n, zi w, zi k] [] m2 := by
    intro c
    induction c with
    | zero =>
      intro kn k w m2 e0 a1 a2 a3 a4
      refine J_il4 dX7_hoursOf_5 ?_
      refine J_il2 dX7_hoursOf_7 ?_
      refine J_cge (tgt := 26) dX7_hoursOf_8 rfl (by omega) (fun c_8 => ?_) (fun c_8 => ?_)
      · skip
        refine J_il3 dX7_hoursOf_26 ?_
        refine M_iret dX7_hoursOf_27 rfl ?_
        have e : kn = n.toNat := by omega
        subst e
        exact ⟨a2, a3, a4⟩
      · skip
        omega
    | succ c ih =>
      intro kn k w m2 e0 a1 a2 a3 a4
      obtain ⟨i1, i2, i3, i4⟩ := hrs_inv (b := b) hI kn
      refine J_il4 dX7_hoursOf_5 ?_
      refine J_il2 dX7_hoursOf_7 ?_
      refine J_cge (tgt := 26) dX7_hoursOf_8 rfl (by omega) (fun c_8 => ?_) (fun c_8 => ?_)
      · skip
        omega
      · skip
        refine J_il3 dX7_hoursOf_11 ?_
        refine J_al0 dX7_hoursOf_12 ?_
        refine J_al1 dX7_hoursOf_13 ?_
        refine J_iconst dX7_hoursOf_14 ?_
        refine M_cvI2 dX7_hoursOf_15 lk_X7_180 cw_X7_hour sh_79 rfl rfl (k_mhour hQ a3 i1 (by omega) (fun _ => True) mgt0) (by decide) (Nat.le_of_ble_eq_true rfl) (fun v_15 mem_15 hq => ?_)
        obtain ⟨rfl, hM2, hF2⟩ := hq
        refine J_iadd dX7_hoursOf_18 ?_
        refine J_is3 dX7_hoursOf_19 (by decide) rfl ?_
        refine J_inc4 dX7_hoursOf_20 (by decide) rfl ?_
        refine J_goto (tgt := 5) dX7_hoursOf_23 rfl ?_
        exact ih (kn + 1) _ _ _ (by omega) (by omega) (by rw [a2]; rfl) hM2 (a4.tr hF2)
  refine CM.of (by decide +kernel) ([zr 79, zr q, zi n, zu, zu]) (zok_all rfl) (Nat.le_of_ble_eq_true rfl) rfl ?_
  refine J_iconst dX7_hoursOf_0 ?_
  refine J_is3 dX7_hoursOf_1 (by decide) rfl ?_
  refine J_iconst dX7_hoursOf_2 ?_
  refine J_is4 dX7_hoursOf_3 (by decide) rfl ?_
  exact loop n.toNat 0 0 0 mem rfl (by omega) rfl hM FrH.rf
theorem k_layThen {mem : ZMem} : CV mX7_layThen 0 [zr 79] mem (fun mem' => (∀ x : Int, 0 ≤ x → x < 50 → mem' 85 x = mem 83 x) ∧ ∀ q : Nat, q ≠ 85 → mem' q = mem q) := by
  have loop : ∀ (c : Nat) (k : Int) (m2 : ZMem), (c : Int) + k = 50 → 0 ≤ k → (∀ x : Int, 0 ≤ x → x < k → m2 85 x = mem 83 x) → (∀ q : Nat, q ≠ 85 → m2 q = mem q) → JM mX7_layThen 0 (QV (fun mem' => (∀ x : Int, 0 ≤ x → x < 50 → mem' 85 x = mem 83 x) ∧ ∀ q : Nat, q ≠ 85 → mem' q = mem q)) 2 [zr 79, zi k] [] m2 := by
    intro c
    induction c with
    | zero =>
      intro k m2 e0 k0 a1 a2
      refine J_il1 dX7_layThen_2 ?_
      refine J_bipush dX7_layThen_3 rfl ?_
      refine J_cge (tgt := 26) dX7_layThen_5 rfl (by omega) (fun c_5 => ?_) (fun c_5 => ?_)
      · skip
        refine M_vret dX7_layThen_26 rfl ?_
        exact ⟨fun x x0 x1 => a1 x x0 (by omega), a2⟩
      · skip
        omega
    | succ c ih =>
      intro k m2 e0 k0 a1 a2
      refine J_il1 dX7_layThen_2 ?_
      refine J_bipush dX7_layThen_3 rfl ?_
      refine J_cge (tgt := 26) dX7_layThen_5 rfl (by omega) (fun c_5 => ?_) (fun c_5 => ?_)
      · skip
        omega
      · skip
        refine J_al0 dX7_layThen_8 ?_
        refine M_getR dX7_layThen_9 fl_X7_25 sh_79 rfl ?_
        refine J_il1 dX7_layThen_12 ?_
        refine J_al0 dX7_layThen_13 ?_
        refine M_getR dX7_layThen_14 fl_X7_19 sh_79 rfl ?_
        refine J_il1 dX7_layThen_17 ?_
        refine M_ald dX7_layThen_18 sh_83 (by decide) (by omega) ?_
        refine M_ast dX7_layThen_19 sh_85 (by decide) (by omega) ?_
        refine J_inc1 dX7_layThen_20 (by decide) rfl ?_
        refine J_goto (tgt := 2) dX7_layThen_23 rfl ?_
        refine ih _ _ (by omega) (by omega) (fun x x0 x1 => ?_) (fun q hq => by rw [mset_n hq]; exact a2 q hq)
        by_cases e : x = k
        · subst e; rw [mset_s, a2 83 (by omega)]
        · rw [mset_i e]; exact a1 x x0 (by omega)
  refine CM.of (by decide +kernel) ([zr 79, zu]) (zok_all rfl) (Nat.le_of_ble_eq_true rfl) rfl ?_
  refine J_iconst dX7_layThen_0 ?_
  refine J_is1 dX7_layThen_1 (by decide) rfl ?_
  exact loop 50 0 mem (by omega) (by omega) (fun x x0 x1 => by omega) (fun _ _ => rfl)
theorem MX.ext {f g r : Int → Int} {L : List Int} (h : MX f r L) (hl : (L.length : Int) ≤ 7) (h3 : r 3 ≤ 7) (e : ∀ x : Int, 0 ≤ x → x < 50 → g x = f x) : MX g r L := by
  obtain ⟨⟨c1, c2, c3, c4, c5, c7⟩, cO, cM⟩ := h
  refine ⟨?_, fun p p0 p1 => ?_, fun x x0 x1 => ?_⟩
  · rw [e 1 (by omega) (by omega), e 2 (by omega) (by omega), e 3 (by omega) (by omega), e 4 (by omega) (by omega), e 5 (by omega) (by omega), e 7 (by omega) (by omega)]
    exact ⟨c1, c2, c3, c4, c5, c7⟩
  · rw [e _ (by omega) (by omega)]; exact cO p p0 p1
  · rw [e _ (by omega) (by omega), e _ (by omega) (by omega), e _ (by omega) (by omega), e _ (by omega) (by omega), e _ (by omega) (by omega)]
    exact cM x x0 x1
theorem MB.ext {f g r : Int → Int} {L : List Int} (h : MB f r L) (hl : (L.length : Int) ≤ 7) (h3 : r 3 ≤ 7) (e : ∀ x : Int, 0 ≤ x → x < 50 → g x = f x) : MB g r L := ⟨h.1.ext hl h3 e, by rw [e 6 (by omega) (by omega)]; exact h.2.1, by rw [e 0 (by omega) (by omega)]; exact h.2.2⟩
theorem k_sitting {mem : ZMem} {q : Nat} (hQ : isW q) {r : Int → Int} {L : List Int} (hM : MX (mem q) r L) (hl : (L.length : Int) ≤ 7) : CI mX7_sitting 0 [zr q] mem (fun v mem' => v = sitB L L.length ∧ mem' = mem) := by
  have c7 : mem q 7 = (L.length : Int) := hM.1.2.2.2.2.2
  have loop : ∀ (c kn : Nat) (s k : Int), k = kn → (c : Int) + k = L.length → s = sitB L kn → JM mX7_sitting 0 (QI (fun v mem' => v = sitB L L.length ∧ mem' = mem)) 4 [zr q, zi s, zi k] [] mem := by
    intro c
    induction c with
    | zero =>
      intro kn s k e0 a1 a2
      refine J_il2 dX7_sitting_4 ?_
      refine J_al0 dX7_sitting_5 ?_
      refine J_bipush dX7_sitting_6 rfl ?_
      refine M_ald dX7_sitting_8 (isW_sh hQ) (by decide) (by omega) ?_
      refine J_cge (tgt := 29) dX7_sitting_9 rfl (by omega) (fun c_9 => ?_) (fun c_9 => ?_)
      · skip
        refine J_il1 dX7_sitting_29 ?_
        refine M_iret dX7_sitting_30 rfl ?_
        exact ⟨by rw [a2, show kn = L.length by omega], rfl⟩
      · skip
        omega
    | succ c ih =>
      intro kn s k e0 a1 a2
      have hO : mem q (8 + k) = lget L kn := by rw [← e0]; exact hM.2.1 k (by omega) (by omega)
      refine J_il2 dX7_sitting_4 ?_
      refine J_al0 dX7_sitting_5 ?_
      refine J_bipush dX7_sitting_6 rfl ?_
      refine M_ald dX7_sitting_8 (isW_sh hQ) (by decide) (by omega) ?_
      refine J_cge (tgt := 29) dX7_sitting_9 rfl (by omega) (fun c_9 => ?_) (fun c_9 => ?_)
      · skip
        omega
      · skip
        refine J_il1 dX7_sitting_12 ?_
        refine J_iconst dX7_sitting_13 ?_
        refine J_al0 dX7_sitting_14 ?_
        refine J_bipush dX7_sitting_15 rfl ?_
        refine J_il2 dX7_sitting_17 ?_
        refine J_iadd dX7_sitting_18 ?_
        refine M_ald dX7_sitting_19 (isW_sh hQ) (by decide) (by omega) ?_
        rw [hO]
        refine J_ishl dX7_sitting_20 ?_
        refine J_ior dX7_sitting_21 ?_
        refine J_is1 dX7_sitting_22 (by decide) rfl ?_
        refine J_inc2 dX7_sitting_23 (by decide) rfl ?_
        refine J_goto (tgt := 4) dX7_sitting_26 rfl ?_
        exact ih (kn + 1) _ _ (by omega) (by omega) (by rw [a2]; rfl)
  refine CM.of (by decide +kernel) ([zr q, zu, zu]) (zok_all rfl) (Nat.le_of_ble_eq_true rfl) rfl ?_
  refine J_iconst dX7_sitting_0 ?_
  refine J_is1 dX7_sitting_1 (by decide) rfl ?_
  refine J_iconst dX7_sitting_2 ?_
  refine J_is2 dX7_sitting_3 (by decide) rfl ?_
  exact loop L.length 0 0 0 rfl (by omega) rfl
