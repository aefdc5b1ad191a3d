/-! THE REFERENCE: its rows of 50 numbers -/
def MX (f r : Int → Int) (L : List Int) : Prop := (f 1 = r 1 ∧ f 2 = r 2 ∧ f 3 = r 3 ∧ f 4 = r 4 ∧ f 5 = r 5 ∧ f 7 = (L.length : Int)) ∧ (∀ p : Int, 0 ≤ p → p < L.length → f (8 + p) = lget L p) ∧ ∀ m : Int, 0 ≤ m → m < r 3 → f (15 + 5 * m) = kd r m ∧ f (15 + 5 * m + 1) = dn r m ∧ f (15 + 5 * m + 2) = lg r m ∧ f (15 + 5 * m + 3) = wm r m ∧ f (15 + 5 * m + 4) = gn r m
def MB (f r : Int → Int) (L : List Int) : Prop := MX f r L ∧ f 6 = r 6 ∧ f 0 = bi (¬ r 3 = 0)
theorem k_in {mem : ZMem} {v a b : Int} (hv : -9223372036854775808 ≤ v ∧ v < 9223372036854775808) (ha : -9223372036854775808 ≤ a ∧ a < 9223372036854775808) (hb : -9223372036854775808 ≤ b ∧ b < 9223372036854775808) : CI mX7_in 0 [zl v, zl a, zl b] mem (fun x mem' => x = bi (a ≤ v ∧ v ≤ b) ∧ mem' = mem) := by
  refine CM.of (by decide +kernel) ([zl v, zu, zl a, zu, zl b, zu]) (zok_all rfl) (Nat.le_of_ble_eq_true rfl) rfl ?_
  refine J_ll0 dX7_in_0 ?_
  refine J_ll2 dX7_in_1 ?_
  refine J_llt (tgt := 17) dX7_in_2 dX7_in_3 rfl (by omega) (fun c_2 => ?_) (fun c_2 => ?_)
  · skip
    refine J_iconst dX7_in_17 ?_
    refine M_zret dX7_in_18 rfl (by decide) ?_
    exact ⟨(bi_f (by omega)).symm, rfl⟩
  · skip
    refine J_ll0 dX7_in_6 ?_
    refine J_ll4 dX7_in_7 ?_
    refine J_lgt (tgt := 17) dX7_in_9 dX7_in_10 rfl (by omega) (fun c_9 => ?_) (fun c_9 => ?_)
    · skip
      refine J_iconst dX7_in_17 ?_
      refine M_zret dX7_in_18 rfl (by decide) ?_
      exact ⟨(bi_f (by omega)).symm, rfl⟩
    · skip
      refine J_iconst dX7_in_13 ?_
      refine J_goto (tgt := 18) dX7_in_14 rfl ?_
      refine M_zret dX7_in_18 rfl (by decide) ?_
      exact ⟨(bi_t (by omega)).symm, rfl⟩
theorem k_isRow {mem : ZMem} {v : Int} (hv : In32 v) : CI mX7_isRow 1 [zi v] mem (fun x mem' => x = bi (0 ≤ v ∧ v ≤ 7) ∧ mem' = mem) := by
  refine CM.of (by decide +kernel) ([zi v]) (zok_all rfl) (Nat.le_of_ble_eq_true rfl) rfl ?_
  refine J_il0 dX7_isRow_0 ?_
  refine J_i2l dX7_isRow_1 (by omega) ?_
  refine J_lconst0 dX7_isRow_2 ?_
  refine J_ldc2 (n := 7) dX7_isRow_3 col_X7_58 (by decide) ?_
  refine M_csI3 dX7_isRow_6 lk_X7_60 cw_X7_in (k_in (by omega) (by omega) (by omega)) (by decide) (Nat.le_of_ble_eq_true rfl) (fun v_6 mem_6 hq => ?_)
  obtain ⟨rfl, hq⟩ := hq; have hq := hq.symm; subst hq
  refine M_zret dX7_isRow_9 rfl (bi_01 _) ?_
  exact ⟨rfl, rfl⟩
theorem k_isMan {mem : ZMem} {v : Int} (hv : In32 v) (h3 : 0 ≤ mem 83 3 ∧ mem 83 3 ≤ 7) : CI mX7_isMan 1 [zr 79, zi v] mem (fun x mem' => x = bi (0 ≤ v ∧ v ≤ mem 83 3 - 1) ∧ mem' = mem) := by
  refine CM.of (by decide +kernel) ([zr 79, zi v]) (zok_all rfl) (Nat.le_of_ble_eq_true rfl) rfl ?_
  refine J_il1 dX7_isMan_0 ?_
  refine J_i2l dX7_isMan_1 (by omega) ?_
  refine J_lconst0 dX7_isMan_2 ?_
  refine J_al0 dX7_isMan_3 ?_
  refine M_getR dX7_isMan_4 fl_X7_19 sh_79 rfl ?_
  refine J_iconst dX7_isMan_7 ?_
  refine M_ald dX7_isMan_8 sh_83 (by decide) (by omega) ?_
  refine J_iconst dX7_isMan_9 ?_
  refine J_isub dX7_isMan_10 ?_
  refine J_i2l dX7_isMan_11 (by omega) ?_
  refine M_csI3 dX7_isMan_12 lk_X7_60 cw_X7_in (k_in (by omega) (by omega) (by omega)) (by decide) (Nat.le_of_ble_eq_true rfl) (fun v_12 mem_12 hq => ?_)
  obtain ⟨rfl, hq⟩ := hq; have hq := hq.symm; subst hq
  refine M_zret dX7_isMan_15 rfl (bi_01 _) ?_
  exact ⟨rfl, rfl⟩
theorem k_isThere {mem : ZMem} (h : mem 83 0 = 0 ∨ mem 83 0 = 1) : CI mX7_isThere 0 [zr 79] mem (fun x mem' => x = bi (mem 83 0 = 1) ∧ mem' = mem) := by
  refine CM.of (by decide +kernel) ([zr 79]) (zok_all rfl) (Nat.le_of_ble_eq_true rfl) rfl ?_
  refine J_al0 dX7_isThere_0 ?_
  refine M_getR dX7_isThere_1 fl_X7_19 sh_79 rfl ?_
  refine J_iconst dX7_isThere_4 ?_
  refine M_ald dX7_isThere_5 sh_83 (by decide) (by omega) ?_
  refine J_iconst dX7_isThere_6 ?_
  refine J_cne (tgt := 14) dX7_isThere_7 rfl (by omega) (fun c_7 => ?_) (fun c_7 => ?_)
  · skip
    refine J_iconst dX7_isThere_14 ?_
    refine M_zret dX7_isThere_15 rfl (by decide) ?_
    exact ⟨(bi_f (by omega)).symm, rfl⟩
  · skip
    refine J_iconst dX7_isThere_10 ?_
    refine J_goto (tgt := 15) dX7_isThere_11 rfl ?_
    refine M_zret dX7_isThere_15 rfl (by decide) ?_
    exact ⟨(bi_t (by omega)).symm, rfl⟩
theorem k_mfinding {mem : ZMem} {k : Int} : CI mX7_finding 0 [zr 79, zi k] mem (fun v mem' => v = -1000010 - k ∧ mem' = mset mem 79 1 k) := by
  refine CM.of (by decide +kernel) ([zr 79, zi k]) (zok_all rfl) (Nat.le_of_ble_eq_true rfl) rfl ?_
  refine J_al0 dX7_finding_0 ?_
  refine J_il1 dX7_finding_1 ?_
  refine M_put (ki := 1) dX7_finding_2 fl_X7_54 sh_79 rfl rfl rfl (fun r hr => by cases hr; rfl) ?_
  refine J_ldc (n := -1000010) dX7_finding_5 co_X7_57 (by decide) ?_
  refine J_il1 dX7_finding_7 ?_
  refine J_isub dX7_finding_8 ?_
  refine M_iret dX7_finding_9 rfl ?_
  exact ⟨rfl, rfl⟩
theorem k_of {mem : ZMem} {q : Nat} (hQ : isW q) {m w : Int} (hm : 0 ≤ m ∧ m < 7) (hw : 0 ≤ w ∧ w ≤ 4) : CI mX7_of 0 [zr q, zi m, zi w] mem (fun v mem' => v = mem q (15 + 5 * m + w) ∧ mem' = mem) := by
  refine CM.of (by decide +kernel) ([zr q, zi m, zi w]) (zok_all rfl) (Nat.le_of_ble_eq_true rfl) rfl ?_
  refine J_al0 dX7_of_0 ?_
  refine J_bipush dX7_of_1 rfl ?_
  refine J_iconst dX7_of_3 ?_
  refine J_il1 dX7_of_4 ?_
  refine J_imul dX7_of_5 ?_
  refine J_iadd dX7_of_6 ?_
  refine J_il2 dX7_of_7 ?_
  refine J_iadd dX7_of_8 ?_
  refine M_ald dX7_of_9 (isW_sh hQ) (by decide) (by omega) ?_
  refine M_iret dX7_of_10 rfl ?_
  exact ⟨rfl, rfl⟩
theorem k_sunOf {mem : ZMem} {q : Nat} (hQ : isW q) {r : Int → Int} {L : List Int} (hM : MX (mem q) r L) (hI : BLt r L) {h : Int} (hh : 0 ≤ h ∧ h ≤ 23) : CI mX7_sunOf 0 [zr q, zi h] mem (fun v mem' => v = sunR r h ∧ mem' = mem) := by
  obtain ⟨⟨c1, c2, c3, c4, c5, c7⟩, -, -⟩ := hM
  obtain ⟨i1, i2, i3, i4, i5, i6⟩ := hI
  have key : ∀ v : Int, ((r 1 < h ∧ 12 < h - r 1 ∧ ((0 < r 2 - (24 - (h - r 1)) ∧ v = r 2 - (24 - (h - r 1))) ∨ (¬ 0 < r 2 - (24 - (h - r 1)) ∧ v = 0))) ∨ (r 1 < h ∧ ¬ 12 < h - r 1 ∧ ((0 < r 2 - (h - r 1) ∧ v = r 2 - (h - r 1)) ∨ (¬ 0 < r 2 - (h - r 1) ∧ v = 0))) ∨ (¬ r 1 < h ∧ 12 < r 1 - h ∧ ((0 < r 2 - (24 - (r 1 - h)) ∧ v = r 2 - (24 - (r 1 - h))) ∨ (¬ 0 < r 2 - (24 - (r 1 - h)) ∧ v = 0))) ∨ (¬ r 1 < h ∧ ¬ 12 < r 1 - h ∧ ((0 < r 2 - (r 1 - h) ∧ v = r 2 - (r 1 - h)) ∨ (¬ 0 < r 2 - (r 1 - h) ∧ v = 0)))) → v = sunR r h := by
    intro v hv
    unfold sunR zpos
    repeat' split
    all_goals omega
  refine CM.of (by decide +kernel) ([zr q, zi h, zu]) (zok_all rfl) (Nat.le_of_ble_eq_true rfl) rfl ?_
  refine J_il1 dX7_sunOf_0 ?_
  refine J_al0 dX7_sunOf_1 ?_
  refine J_iconst dX7_sunOf_2 ?_
  refine M_ald dX7_sunOf_3 (isW_sh hQ) (by decide) (by omega) ?_
  refine J_cle (tgt := 15) dX7_sunOf_4 rfl (by omega) (fun c_4 => ?_) (fun c_4 => ?_)
  · skip
    refine J_al0 dX7_sunOf_15 ?_
    refine J_iconst dX7_sunOf_16 ?_
    refine M_ald dX7_sunOf_17 (isW_sh hQ) (by decide) (by omega) ?_
    refine J_il1 dX7_sunOf_18 ?_
    refine J_isub dX7_sunOf_19 ?_
    refine J_is2 dX7_sunOf_20 (by decide) rfl ?_
    refine J_il2 dX7_sunOf_21 ?_
    refine J_bipush dX7_sunOf_22 rfl ?_
    refine J_cle (tgt := 34) dX7_sunOf_24 rfl (by omega) (fun c_24 => ?_) (fun c_24 => ?_)
    · skip
      refine J_il2 dX7_sunOf_34 ?_
      refine J_is2 dX7_sunOf_35 (by decide) rfl ?_
      refine J_al0 dX7_sunOf_36 ?_
      refine J_iconst dX7_sunOf_37 ?_
      refine M_ald dX7_sunOf_38 (isW_sh hQ) (by decide) (by omega) ?_
      refine J_il2 dX7_sunOf_39 ?_
      refine J_cle (tgt := 51) dX7_sunOf_40 rfl (by omega) (fun c_40 => ?_) (fun c_40 => ?_)
      · skip
        refine J_iconst dX7_sunOf_51 ?_
        refine M_iret dX7_sunOf_52 rfl ?_
        exact ⟨key _ (by omega), rfl⟩
      · skip
        refine J_al0 dX7_sunOf_43 ?_
        refine J_iconst dX7_sunOf_44 ?_
        refine M_ald dX7_sunOf_45 (isW_sh hQ) (by decide) (by omega) ?_
        refine J_il2 dX7_sunOf_46 ?_
        refine J_isub dX7_sunOf_47 ?_
        refine J_goto (tgt := 52) dX7_sunOf_48 rfl ?_
        refine M_iret dX7_sunOf_52 rfl ?_
        exact ⟨key _ (by omega), rfl⟩
    · skip
      refine J_bipush dX7_sunOf_27 rfl ?_
      refine J_il2 dX7_sunOf_29 ?_
      refine J_isub dX7_sunOf_30 ?_
      refine J_goto (tgt := 35) dX7_sunOf_31 rfl ?_
      refine J_is2 dX7_sunOf_35 (by decide) rfl ?_
      refine J_al0 dX7_sunOf_36 ?_
      refine J_iconst dX7_sunOf_37 ?_
      refine M_ald dX7_sunOf_38 (isW_sh hQ) (by decide) (by omega) ?_
      refine J_il2 dX7_sunOf_39 ?_
      refine J_cle (tgt := 51) dX7_sunOf_40 rfl (by omega) (fun c_40 => ?_) (fun c_40 => ?_)
      · skip
        refine J_iconst dX7_sunOf_51 ?_
        refine M_iret dX7_sunOf_52 rfl ?_
        exact ⟨key _ (by omega), rfl⟩
      · skip
        refine J_al0 dX7_sunOf_43 ?_
        refine J_iconst dX7_sunOf_44 ?_
        refine M_ald dX7_sunOf_45 (isW_sh hQ) (by decide) (by omega) ?_
        refine J_il2 dX7_sunOf_46 ?_
        refine J_isub dX7_sunOf_47 ?_
        refine J_goto (tgt := 52) dX7_sunOf_48 rfl ?_
        refine M_iret dX7_sunOf_52 rfl ?_
        exact ⟨key _ (by omega), rfl⟩
  · skip
    refine J_il1 dX7_sunOf_7 ?_
    refine J_al0 dX7_sunOf_8 ?_
    refine J_iconst dX7_sunOf_9 ?_
    refine M_ald dX7_sunOf_10 (isW_sh hQ) (by decide) (by omega) ?_
    refine J_isub dX7_sunOf_11 ?_
    refine J_goto (tgt := 20) dX7_sunOf_12 rfl ?_
    refine J_is2 dX7_sunOf_20 (by decide) rfl ?_
    refine J_il2 dX7_sunOf_21 ?_
    refine J_bipush dX7_sunOf_22 rfl ?_
    refine J_cle (tgt := 34) dX7_sunOf_24 rfl (by omega) (fun c_24 => ?_) (fun c_24 => ?_)
    · skip
      refine J_il2 dX7_sunOf_34 ?_
      refine J_is2 dX7_sunOf_35 (by decide) rfl ?_
      refine J_al0 dX7_sunOf_36 ?_
      refine J_iconst dX7_sunOf_37 ?_
      refine M_ald dX7_sunOf_38 (isW_sh hQ) (by decide) (by omega) ?_
      refine J_il2 dX7_sunOf_39 ?_
      refine J_cle (tgt := 51) dX7_sunOf_40 rfl (by omega) (fun c_40 => ?_) (fun c_40 => ?_)
      · skip
        refine J_iconst dX7_sunOf_51 ?_
        refine M_iret dX7_sunOf_52 rfl ?_
        exact ⟨key _ (by omega), rfl⟩
      · skip
        refine J_al0 dX7_sunOf_43 ?_
        refine J_iconst dX7_sunOf_44 ?_
        refine M_ald dX7_sunOf_45 (isW_sh hQ) (by decide) (by omega) ?_
        refine J_il2 dX7_sunOf_46 ?_
        refine J_isub dX7_sunOf_47 ?_
        refine J_goto (tgt := 52) dX7_sunOf_48 rfl ?_
        refine M_iret dX7_sunOf_52 rfl ?_
        exact ⟨key _ (by omega), rfl⟩
    · skip
      refine J_bipush dX7_sunOf_27 rfl ?_
      refine J_il2 dX7_sunOf_29 ?_
      refine J_isub dX7_sunOf_30 ?_
      refine J_goto (tgt := 35) dX7_sunOf_31 rfl ?_
      refine J_is2 dX7_sunOf_35 (by decide) rfl ?_
      refine J_al0 dX7_sunOf_36 ?_
      refine J_iconst dX7_sunOf_37 ?_
      refine M_ald dX7_sunOf_38 (isW_sh hQ) (by decide) (by omega) ?_
      refine J_il2 dX7_sunOf_39 ?_
      refine J_cle (tgt := 51) dX7_sunOf_40 rfl (by omega) (fun c_40 => ?_) (fun c_40 => ?_)
      · skip
        refine J_iconst dX7_sunOf_51 ?_
        refine M_iret dX7_sunOf_52 rfl ?_
        exact ⟨key _ (by omega), rfl⟩
      · skip
        refine J_al0 dX7_sunOf_43 ?_
        refine J_iconst dX7_sunOf_44 ?_
        refine M_ald dX7_sunOf_45 (isW_sh hQ) (by decide) (by omega) ?_
        refine J_il2 dX7_sunOf_46 ?_
        refine J_isub dX7_sunOf_47 ?_
        refine J_goto (tgt := 52) dX7_sunOf_48 rfl ?_
        refine M_iret dX7_sunOf_52 rfl ?_
        exact ⟨key _ (by omega), rfl⟩
theorem k_isSunny {mem : ZMem} {q : Nat} (hQ : isW q) {r : Int → Int} {L : List Int} (hM : MX (mem q) r L) (hI : BLt r L) (hh : r 4 ≤ 3000) {p : Int} (hp : 0 ≤ p ∧ p < L.length) : CI mX7_isSunny 1 [zr q, zi p] mem (fun v mem' => v = bi (snyR r L.length p) ∧ mem' = mem) := by
  obtain ⟨⟨c1, c2, c3, c4, c5, c7⟩, -, -⟩ := id hM
  obtain ⟨i1, i2, i3, i4, i5, i6⟩ := id hI
  have hs := sunR_range (r := r) i5 i4 (h := r 4 % 24) (by omega)
  refine CM.of (by decide +kernel) ([zr q, zi p, zu]) (zok_all rfl) (Nat.le_of_ble_eq_true rfl) rfl ?_
  refine J_al0 dX7_isSunny_0 ?_
  refine J_al0 dX7_isSunny_1 ?_
  refine J_iconst dX7_isSunny_2 ?_
  refine M_ald dX7_isSunny_3 (isW_sh hQ) (by decide) (by omega) ?_
  rw [c4]
  refine J_bipush dX7_isSunny_4 rfl ?_
  refine J_irem dX7_isSunny_6 (by omega) ?_
  refine M_csI2 dX7_isSunny_7 lk_X7_152 cw_X7_sunOf (k_sunOf hQ hM hI (by omega)) (by decide) (Nat.le_of_ble_eq_true rfl) (fun v_7 mem_7 hq => ?_)
  obtain ⟨rfl, hq⟩ := hq; have hq := hq.symm; subst hq
  refine J_is2 dX7_isSunny_10 (by decide) rfl ?_
  refine J_il2 dX7_isSunny_11 ?_
  refine J_al0 dX7_isSunny_12 ?_
  refine J_bipush dX7_isSunny_13 rfl ?_
  refine M_ald dX7_isSunny_15 (isW_sh hQ) (by decide) (by omega) ?_
  refine J_cle (tgt := 26) dX7_isSunny_16 rfl (by omega) (fun c_16 => ?_) (fun c_16 => ?_)
  · skip
    refine J_il2 dX7_isSunny_26 ?_
    refine J_is2 dX7_isSunny_27 (by decide) rfl ?_
    refine J_al0 dX7_isSunny_28 ?_
    refine J_iconst dX7_isSunny_29 ?_
    refine M_ald dX7_isSunny_30 (isW_sh hQ) (by decide) (by omega) ?_
    refine J_iconst dX7_isSunny_31 ?_
    refine J_cne (tgt := 53) dX7_isSunny_32 rfl (by omega) (fun c_32 => ?_) (fun c_32 => ?_)
    · skip
      refine J_il1 dX7_isSunny_53 ?_
      refine J_il2 dX7_isSunny_54 ?_
      refine J_cge (tgt := 62) dX7_isSunny_55 rfl (by omega) (fun c_55 => ?_) (fun c_55 => ?_)
      · skip
        refine J_iconst dX7_isSunny_62 ?_
        refine M_zret dX7_isSunny_63 rfl (by decide) ?_
        first
        | exact ⟨(bi_t (by unfold snyR; omega)).symm, rfl⟩
        | exact ⟨(bi_f (by unfold snyR; omega)).symm, rfl⟩
      · skip
        refine J_iconst dX7_isSunny_58 ?_
        refine J_goto (tgt := 63) dX7_isSunny_59 rfl ?_
        refine M_zret dX7_isSunny_63 rfl (by decide) ?_
        first
        | exact ⟨(bi_t (by unfold snyR; omega)).symm, rfl⟩
        | exact ⟨(bi_f (by unfold snyR; omega)).symm, rfl⟩
    · skip
      refine J_il1 dX7_isSunny_35 ?_
      refine J_al0 dX7_isSunny_36 ?_
      refine J_bipush dX7_isSunny_37 rfl ?_
      refine M_ald dX7_isSunny_39 (isW_sh hQ) (by decide) (by omega) ?_
      refine J_il2 dX7_isSunny_40 ?_
      refine J_isub dX7_isSunny_41 ?_
      refine J_clt (tgt := 49) dX7_isSunny_42 rfl (by omega) (fun c_42 => ?_) (fun c_42 => ?_)
      · skip
        refine J_iconst dX7_isSunny_49 ?_
        refine J_goto (tgt := 63) dX7_isSunny_50 rfl ?_
        refine M_zret dX7_isSunny_63 rfl (by decide) ?_
        first
        | exact ⟨(bi_t (by unfold snyR; omega)).symm, rfl⟩
        | exact ⟨(bi_f (by unfold snyR; omega)).symm, rfl⟩
      · skip
        refine J_iconst dX7_isSunny_45 ?_
        refine J_goto (tgt := 63) dX7_isSunny_46 rfl ?_
        refine M_zret dX7_isSunny_63 rfl (by decide) ?_
        first
        | exact ⟨(bi_t (by unfold snyR; omega)).symm, rfl⟩
        | exact ⟨(bi_f (by unfold snyR; omega)).symm, rfl⟩
  · skip
    refine J_al0 dX7_isSunny_19 ?_
    refine J_bipush dX7_isSunny_20 rfl ?_
    refine M_ald dX7_isSunny_22 (isW_sh hQ) (by decide) (by omega) ?_
    refine J_goto (tgt := 27) dX7_isSunny_23 rfl ?_
    refine J_is2 dX7_isSunny_27 (by decide) rfl ?_
    refine J_al0 dX7_isSunny_28 ?_
    refine J_iconst dX7_isSunny_29 ?_
    refine M_ald dX7_isSunny_30 (isW_sh hQ) (by decide) (by omega) ?_
    refine J_iconst dX7_isSunny_31 ?_
    refine J_cne (tgt := 53) dX7_isSunny_32 rfl (by omega) (fun c_32 => ?_) (fun c_32 => ?_)
    · skip
      refine J_il1 dX7_isSunny_53 ?_
      refine J_il2 dX7_isSunny_54 ?_
      refine J_cge (tgt := 62) dX7_isSunny_55 rfl (by omega) (fun c_55 => ?_) (fun c_55 => ?_)
      · skip
        refine J_iconst dX7_isSunny_62 ?_
        refine M_zret dX7_isSunny_63 rfl (by decide) ?_
        first
        | exact ⟨(bi_t (by unfold snyR; omega)).symm, rfl⟩
        | exact ⟨(bi_f (by unfold snyR; omega)).symm, rfl⟩
      · skip
        refine J_iconst dX7_isSunny_58 ?_
        refine J_goto (tgt := 63) dX7_isSunny_59 rfl ?_
        refine M_zret dX7_isSunny_63 rfl (by decide) ?_
        first
        | exact ⟨(bi_t (by unfold snyR; omega)).symm, rfl⟩
        | exact ⟨(bi_f (by unfold snyR; omega)).symm, rfl⟩
    · skip
      refine J_il1 dX7_isSunny_35 ?_
      refine J_al0 dX7_isSunny_36 ?_
      refine J_bipush dX7_isSunny_37 rfl ?_
      refine M_ald dX7_isSunny_39 (isW_sh hQ) (by decide) (by omega) ?_
      refine J_il2 dX7_isSunny_40 ?_
      refine J_isub dX7_isSunny_41 ?_
      refine J_clt (tgt := 49) dX7_isSunny_42 rfl (by omega) (fun c_42 => ?_) (fun c_42 => ?_)
      · skip
        refine J_iconst dX7_isSunny_49 ?_
        refine J_goto (tgt := 63) dX7_isSunny_50 rfl ?_
        refine M_zret dX7_isSunny_63 rfl (by decide) ?_
        first
        | exact ⟨(bi_t (by unfold snyR; omega)).symm, rfl⟩
        | exact ⟨(bi_f (by unfold snyR; omega)).symm, rfl⟩
      · skip
        refine J_iconst dX7_isSunny_45 ?_
        refine J_goto (tgt := 63) dX7_isSunny_46 rfl ?_
        refine M_zret dX7_isSunny_63 rfl (by decide) ?_
        first
        | exact ⟨(bi_t (by unfold snyR; omega)).symm, rfl⟩
        | exact ⟨(bi_f (by unfold snyR; omega)).symm, rfl⟩
theorem k_mplaceOf {mem : ZMem} {q : Nat} (hQ : isW q) {r : Int → Int} {L : List Int} (hM : MX (mem q) r L) (hI : BInv r L) {m : Int} (hm : In32 m) : CI mX7_placeOf 0 [zr q, zi m] mem (fun v mem' => v = pN (plc L m) ∧ mem' = mem) := by
  obtain ⟨⟨c1, c2, c3, c4, c5, c7⟩, cO, -⟩ := id hM
  have hl := hI.len
  have h3 := hI.1
  have loop : ∀ (c : Nat) (at_ k : Int), (c : Int) + k = L.length → 0 ≤ k → ((at_ = -1000000 ∧ ∀ x, 0 ≤ x → x < k → lget L x ≠ m) ∨ (0 ≤ at_ ∧ at_ < k ∧ lget L at_ = m)) → JM mX7_placeOf 0 (QI (fun v mem' => v = pN (plc L m) ∧ mem' = mem)) 5 [zr q, zi m, zi at_, zi k] [] mem := by
    intro c
    induction c with
    | zero =>
      intro at_ k e0 k0 hat
      refine J_il3 dX7_placeOf_5 ?_
      refine J_al0 dX7_placeOf_6 ?_
      refine J_bipush dX7_placeOf_7 rfl ?_
      refine M_ald dX7_placeOf_9 (isW_sh hQ) (by decide) (by omega) ?_
      refine J_cge (tgt := 35) dX7_placeOf_10 rfl (by omega) (fun c_10 => ?_) (fun c_10 => ?_)
      · skip
        refine J_il2 dX7_placeOf_35 ?_
        refine M_iret dX7_placeOf_36 rfl ?_
        refine ⟨?_, rfl⟩
        rcases hat with ⟨h1, h2⟩ | ⟨h1, h2, h3⟩
        · rw [plc_none (fun x x0 x1 => h2 x x0 (by omega)), h1]; rfl
        · rw [← h3, plc_nodup hI.2.1 h1 (by omega)]
          unfold pN
          rw [if_neg (by omega)]
      · skip
        omega
    | succ c ih =>
      intro at_ k e0 k0 hat
      have hk := cO k k0 (by omega)
      have hkm := hI.2.2.1 _ (lget_mem (L := L) (p := k) k0 (by omega))
      refine J_il3 dX7_placeOf_5 ?_
      refine J_al0 dX7_placeOf_6 ?_
      refine J_bipush dX7_placeOf_7 rfl ?_
      refine M_ald dX7_placeOf_9 (isW_sh hQ) (by decide) (by omega) ?_
      refine J_cge (tgt := 35) dX7_placeOf_10 rfl (by omega) (fun c_10 => ?_) (fun c_10 => ?_)
      · skip
        omega
      · skip
        refine J_al0 dX7_placeOf_13 ?_
        refine J_bipush dX7_placeOf_14 rfl ?_
        refine J_il3 dX7_placeOf_16 ?_
        refine J_iadd dX7_placeOf_17 ?_
        refine M_ald dX7_placeOf_18 (isW_sh hQ) (by decide) (by omega) ?_
        rw [hk]
        refine J_il1 dX7_placeOf_19 ?_
        refine J_cne (tgt := 27) dX7_placeOf_20 rfl (by omega) (fun c_20 => ?_) (fun c_20 => ?_)
        · skip
          refine J_il2 dX7_placeOf_27 ?_
          refine J_is2 dX7_placeOf_28 (by decide) rfl ?_
          refine J_inc3 dX7_placeOf_29 (by decide) rfl ?_
          refine J_goto (tgt := 5) dX7_placeOf_32 rfl ?_
          refine ih _ (k + 1) (by omega) (by omega) ?_
          first
          | exact Or.inr ⟨k0, by omega, c_20⟩
          | rcases hat with ⟨h1, h2⟩ | ⟨h1, h2, h3⟩
            · refine Or.inl ⟨h1, fun x x0 x1 => ?_⟩
              by_cases e : x = k
              · subst e; exact c_20
              · exact h2 x x0 (by omega)
            · exact Or.inr ⟨h1, by omega, h3⟩
        · skip
          refine J_il3 dX7_placeOf_23 ?_
          refine J_goto (tgt := 28) dX7_placeOf_24 rfl ?_
          refine J_is2 dX7_placeOf_28 (by decide) rfl ?_
          refine J_inc3 dX7_placeOf_29 (by decide) rfl ?_
          refine J_goto (tgt := 5) dX7_placeOf_32 rfl ?_
          refine ih _ (k + 1) (by omega) (by omega) ?_
          first
          | exact Or.inr ⟨k0, by omega, c_20⟩
          | rcases hat with ⟨h1, h2⟩ | ⟨h1, h2, h3⟩
            · refine Or.inl ⟨h1, fun x x0 x1 => ?_⟩
              by_cases e : x = k
              · subst e; exact c_20
              · exact h2 x x0 (by omega)
            · exact Or.inr ⟨h1, by omega, h3⟩
  refine CM.of (by decide +kernel) ([zr q, zi m, zu, zu]) (zok_all rfl) (Nat.le_of_ble_eq_true rfl) rfl ?_
  refine J_ldc (n := -1000000) dX7_placeOf_0 co_X7_93 (by decide) ?_
  refine J_is2 dX7_placeOf_2 (by decide) rfl ?_
  refine J_iconst dX7_placeOf_3 ?_
  refine J_is3 dX7_placeOf_4 (by decide) rfl ?_
  exact loop L.length (-1000000) 0 (by omega) (by omega) (Or.inl ⟨rfl, fun x x0 x1 => absurd x1 (by omega)⟩)
theorem k_mhasSun {mem : ZMem} {q : Nat} (hQ : isW q) {r : Int → Int} {L : List Int} (hM : MX (mem q) r L) (hI : BInv r L) (hh : r 4 ≤ 3000) {m : Int} (hm : In32 m) : CI mX7_hasSun 2 [zr q, zi m] mem (fun v mem' => v = bi (0 ≤ plc L m ∧ snyR r L.length (plc L m)) ∧ mem' = mem) := by
  have hp := plc_range L m
  have hl := hI.len
  have h3 := hI.1
  have hpN : (plc L m < 0 ∧ pN (plc L m) = -1000000) ∨ (0 ≤ plc L m ∧ pN (plc L m) = plc L m) := by unfold pN; split <;> omega
  refine CM.of (by decide +kernel) ([zr q, zi m, zu]) (zok_all rfl) (Nat.le_of_ble_eq_true rfl) rfl ?_
  refine J_al0 dX7_hasSun_0 ?_
  refine J_il1 dX7_hasSun_1 ?_
  refine M_csI2 dX7_hasSun_2 lk_X7_156 cw_X7_placeOf (k_mplaceOf hQ hM hI hm) (by decide) (Nat.le_of_ble_eq_true rfl) (fun v_2 mem_2 hq => ?_)
  obtain ⟨rfl, hq⟩ := hq; have hq := hq.symm; subst hq
  refine J_is2 dX7_hasSun_5 (by decide) rfl ?_
  refine J_il2 dX7_hasSun_6 ?_
  refine J_ldc (n := -1000000) dX7_hasSun_7 co_X7_93 (by decide) ?_
  refine J_ceq (tgt := 24) dX7_hasSun_9 rfl (by omega) (fun c_9 => ?_) (fun c_9 => ?_)
  · skip
    refine J_iconst dX7_hasSun_24 ?_
    refine M_zret dX7_hasSun_25 rfl (by decide) ?_
    first
    | exact ⟨(bi_t ⟨by omega, c_17⟩).symm, rfl⟩
    | exact ⟨(bi_f (fun z => c_17 z.2)).symm, rfl⟩
    | exact ⟨(bi_f (fun z => by omega)).symm, rfl⟩
  · skip
    have ep : pN (plc L m) = plc L m := by omega
    rw [ep]
    refine J_al0 dX7_hasSun_12 ?_
    refine J_il2 dX7_hasSun_13 ?_
    refine M_csI2 dX7_hasSun_14 lk_X7_159 cw_X7_isSunny (k_isSunny hQ hM hI.lt hh (by omega)) (by decide) (Nat.le_of_ble_eq_true rfl) (fun v_14 mem_14 hq => ?_)
    obtain ⟨rfl, hq⟩ := hq; have hq := hq.symm; subst hq
    refine J_ifeq_b (tgt := 24) dX7_hasSun_17 rfl (fun c_17 => ?_) (fun c_17 => ?_)
    · skip
      refine J_iconst dX7_hasSun_24 ?_
      refine M_zret dX7_hasSun_25 rfl (by decide) ?_
      first
      | exact ⟨(bi_t ⟨by omega, c_17⟩).symm, rfl⟩
      | exact ⟨(bi_f (fun z => c_17 z.2)).symm, rfl⟩
      | exact ⟨(bi_f (fun z => by omega)).symm, rfl⟩
    · skip
      refine J_iconst dX7_hasSun_20 ?_
      refine J_goto (tgt := 25) dX7_hasSun_21 rfl ?_
      refine M_zret dX7_hasSun_25 rfl (by decide) ?_
      first
      | exact ⟨(bi_t ⟨by omega, c_17⟩).symm, rfl⟩
      | exact ⟨(bi_f (fun z => c_17 z.2)).symm, rfl⟩
      | exact ⟨(bi_f (fun z => by omega)).symm, rfl⟩
theorem k_goes {mem : ZMem} {q : Nat} (hQ : isW q) {r : Int → Int} {L : List Int} (hM : MX (mem q) r L) (hI : BInv r L) (hh : r 4 ≤ 3000) {m : Int} (hm : m ∈ L) : CI mX7_goes 3 [zr q, zi m] mem (fun v mem' => v = bi (goesR r L.length m (plc L m)) ∧ mem' = mem) := by
  have hmr := hI.2.2.1 m hm
  have h3 := hI.1
  have hk : mem q (15 + 5 * m + 0) = kd r m := by rw [Int.add_zero]; exact (hM.2.2 m (by omega) (by omega)).1
  have hkr := (hI.2.2.2.2.1 m (by omega) (by omega)).1
  have hp := plc_mem.mpr hm
  have ng : ¬ kd r m = 1 → ¬ kd r m = 3 → (kd r m = 2 → snyR r L.length (plc L m)) → (kd r m = 5 → ¬ snyR r L.length (plc L m)) → ¬ goesR r L.length m (plc L m) := by
    intro g1 g3 g2 g5 z
    unfold goesR at z
    rcases z with z | z | z | z
    · exact g1 z
    · exact g3 z
    · exact z.2 (g2 z.1)
    · exact g5 z.1 z.2
  refine CM.of (by decide +kernel) ([zr q, zi m, zu, zu]) (zok_all rfl) (Nat.le_of_ble_eq_true rfl) rfl ?_
  refine J_al0 dX7_goes_0 ?_
  refine J_il1 dX7_goes_1 ?_
  refine J_iconst dX7_goes_2 ?_
  refine M_csI3 dX7_goes_3 lk_X7_163 cw_X7_of (k_of hQ (by omega) (by omega)) (by decide) (Nat.le_of_ble_eq_true rfl) (fun v_3 mem_3 hq => ?_)
  obtain ⟨e, hq⟩ := hq; rw [hk] at e; subst e; have hq := hq.symm; subst hq
  refine J_is2 dX7_goes_6 (by decide) rfl ?_
  refine J_al0 dX7_goes_7 ?_
  refine J_il1 dX7_goes_8 ?_
  refine M_csI2 dX7_goes_9 lk_X7_167 cw_X7_hasSun (k_mhasSun hQ hM hI hh (by omega)) (by decide) (Nat.le_of_ble_eq_true rfl) (fun v_9 mem_9 hq => ?_)
  obtain ⟨rfl, hq⟩ := hq; have hq := hq.symm; subst hq
  refine J_is3 dX7_goes_12 (by decide) rfl ?_
  refine J_il2 dX7_goes_13 ?_
  refine J_iconst dX7_goes_14 ?_
  refine J_ceq (tgt := 41) dX7_goes_15 rfl (by omega) (fun c_15 => ?_) (fun c_15 => ?_)
  · skip
    refine J_iconst dX7_goes_41 ?_
    refine J_goto (tgt := 46) dX7_goes_42 rfl ?_
    refine M_zret dX7_goes_46 rfl (by decide) ?_
    first
    | exact ⟨(bi_t (by unfold goesR; omega)).symm, rfl⟩
    | exact ⟨(bi_f (by unfold goesR; omega)).symm, rfl⟩
    | exact ⟨(bi_t (Or.inr (Or.inr (Or.inl ⟨by omega, fun z => c_29 ⟨hp, z⟩⟩)))).symm, rfl⟩
    | exact ⟨(bi_t (Or.inr (Or.inr (Or.inr ⟨by omega, c_38.2⟩)))).symm, rfl⟩
    | exact ⟨(bi_f (ng c_15 c_20 (fun _ => c_29.2) (fun e => absurd e c_34))).symm, rfl⟩
    | exact ⟨(bi_f (ng c_15 c_20 (fun e => absurd e c_25) (fun _ z => c_38 ⟨hp, z⟩))).symm, rfl⟩
    | exact ⟨(bi_f (ng c_15 c_20 (fun e => absurd e c_25) (fun e => absurd e c_34))).symm, rfl⟩
  · skip
    refine J_il2 dX7_goes_18 ?_
    refine J_iconst dX7_goes_19 ?_
    refine J_ceq (tgt := 41) dX7_goes_20 rfl (by omega) (fun c_20 => ?_) (fun c_20 => ?_)
    · skip
      refine J_iconst dX7_goes_41 ?_
      refine J_goto (tgt := 46) dX7_goes_42 rfl ?_
      refine M_zret dX7_goes_46 rfl (by decide) ?_
      first
      | exact ⟨(bi_t (by unfold goesR; omega)).symm, rfl⟩
      | exact ⟨(bi_f (by unfold goesR; omega)).symm, rfl⟩
      | exact ⟨(bi_t (Or.inr (Or.inr (Or.inl ⟨by omega, fun z => c_29 ⟨hp, z⟩⟩)))).symm, rfl⟩
      | exact ⟨(bi_t (Or.inr (Or.inr (Or.inr ⟨by omega, c_38.2⟩)))).symm, rfl⟩
      | exact ⟨(bi_f (ng c_15 c_20 (fun _ => c_29.2) (fun e => absurd e c_34))).symm, rfl⟩
      | exact ⟨(bi_f (ng c_15 c_20 (fun e => absurd e c_25) (fun _ z => c_38 ⟨hp, z⟩))).symm, rfl⟩
      | exact ⟨(bi_f (ng c_15 c_20 (fun e => absurd e c_25) (fun e => absurd e c_34))).symm, rfl⟩
    · skip
      refine J_il2 dX7_goes_23 ?_
      refine J_iconst dX7_goes_24 ?_
      refine J_cne (tgt := 32) dX7_goes_25 rfl (by omega) (fun c_25 => ?_) (fun c_25 => ?_)
      · skip
        refine J_il2 dX7_goes_32 ?_
        refine J_iconst dX7_goes_33 ?_
        refine J_cne (tgt := 45) dX7_goes_34 rfl (by omega) (fun c_34 => ?_) (fun c_34 => ?_)
        · skip
          refine J_iconst dX7_goes_45 ?_
          refine M_zret dX7_goes_46 rfl (by decide) ?_
          first
          | exact ⟨(bi_t (by unfold goesR; omega)).symm, rfl⟩
          | exact ⟨(bi_f (by unfold goesR; omega)).symm, rfl⟩
          | exact ⟨(bi_t (Or.inr (Or.inr (Or.inl ⟨by omega, fun z => c_29 ⟨hp, z⟩⟩)))).symm, rfl⟩
          | exact ⟨(bi_t (Or.inr (Or.inr (Or.inr ⟨by omega, c_38.2⟩)))).symm, rfl⟩
          | exact ⟨(bi_f (ng c_15 c_20 (fun _ => c_29.2) (fun e => absurd e c_34))).symm, rfl⟩
          | exact ⟨(bi_f (ng c_15 c_20 (fun e => absurd e c_25) (fun _ z => c_38 ⟨hp, z⟩))).symm, rfl⟩
          | exact ⟨(bi_f (ng c_15 c_20 (fun e => absurd e c_25) (fun e => absurd e c_34))).symm, rfl⟩
        · skip
          refine J_il3 dX7_goes_37 ?_
          refine J_ifeq_b (tgt := 45) dX7_goes_38 rfl (fun c_38 => ?_) (fun c_38 => ?_)
          · skip
            refine J_iconst dX7_goes_45 ?_
            refine M_zret dX7_goes_46 rfl (by decide) ?_
            first
            | exact ⟨(bi_t (by unfold goesR; omega)).symm, rfl⟩
            | exact ⟨(bi_f (by unfold goesR; omega)).symm, rfl⟩
            | exact ⟨(bi_t (Or.inr (Or.inr (Or.inl ⟨by omega, fun z => c_29 ⟨hp, z⟩⟩)))).symm, rfl⟩
            | exact ⟨(bi_t (Or.inr (Or.inr (Or.inr ⟨by omega, c_38.2⟩)))).symm, rfl⟩
            | exact ⟨(bi_f (ng c_15 c_20 (fun _ => c_29.2) (fun e => absurd e c_34))).symm, rfl⟩
            | exact ⟨(bi_f (ng c_15 c_20 (fun e => absurd e c_25) (fun _ z => c_38 ⟨hp, z⟩))).symm, rfl⟩
            | exact ⟨(bi_f (ng c_15 c_20 (fun e => absurd e c_25) (fun e => absurd e c_34))).symm, rfl⟩
          · skip
            refine J_iconst dX7_goes_41 ?_
            refine J_goto (tgt := 46) dX7_goes_42 rfl ?_
            refine M_zret dX7_goes_46 rfl (by decide) ?_
            first
            | exact ⟨(bi_t (by unfold goesR; omega)).symm, rfl⟩
            | exact ⟨(bi_f (by unfold goesR; omega)).symm, rfl⟩
            | exact ⟨(bi_t (Or.inr (Or.inr (Or.inl ⟨by omega, fun z => c_29 ⟨hp, z⟩⟩)))).symm, rfl⟩
            | exact ⟨(bi_t (Or.inr (Or.inr (Or.inr ⟨by omega, c_38.2⟩)))).symm, rfl⟩
            | exact ⟨(bi_f (ng c_15 c_20 (fun _ => c_29.2) (fun e => absurd e c_34))).symm, rfl⟩
            | exact ⟨(bi_f (ng c_15 c_20 (fun e => absurd e c_25) (fun _ z => c_38 ⟨hp, z⟩))).symm, rfl⟩
            | exact ⟨(bi_f (ng c_15 c_20 (fun e => absurd e c_25) (fun e => absurd e c_34))).symm, rfl⟩
      · skip
        refine J_il3 dX7_goes_28 ?_
        refine J_ifeq_b (tgt := 41) dX7_goes_29 rfl (fun c_29 => ?_) (fun c_29 => ?_)
        · skip
          refine J_iconst dX7_goes_41 ?_
          refine J_goto (tgt := 46) dX7_goes_42 rfl ?_
          refine M_zret dX7_goes_46 rfl (by decide) ?_
          first
          | exact ⟨(bi_t (by unfold goesR; omega)).symm, rfl⟩
          | exact ⟨(bi_f (by unfold goesR; omega)).symm, rfl⟩
          | exact ⟨(bi_t (Or.inr (Or.inr (Or.inl ⟨by omega, fun z => c_29 ⟨hp, z⟩⟩)))).symm, rfl⟩
          | exact ⟨(bi_t (Or.inr (Or.inr (Or.inr ⟨by omega, c_38.2⟩)))).symm, rfl⟩
          | exact ⟨(bi_f (ng c_15 c_20 (fun _ => c_29.2) (fun e => absurd e c_34))).symm, rfl⟩
          | exact ⟨(bi_f (ng c_15 c_20 (fun e => absurd e c_25) (fun _ z => c_38 ⟨hp, z⟩))).symm, rfl⟩
          | exact ⟨(bi_f (ng c_15 c_20 (fun e => absurd e c_25) (fun e => absurd e c_34))).symm, rfl⟩
        · skip
          refine J_il2 dX7_goes_32 ?_
          refine J_iconst dX7_goes_33 ?_
          refine J_cne (tgt := 45) dX7_goes_34 rfl (by omega) (fun c_34 => ?_) (fun c_34 => ?_)
          · skip
            refine J_iconst dX7_goes_45 ?_
            refine M_zret dX7_goes_46 rfl (by decide) ?_
            first
            | exact ⟨(bi_t (by unfold goesR; omega)).symm, rfl⟩
            | exact ⟨(bi_f (by unfold goesR; omega)).symm, rfl⟩
            | exact ⟨(bi_t (Or.inr (Or.inr (Or.inl ⟨by omega, fun z => c_29 ⟨hp, z⟩⟩)))).symm, rfl⟩
            | exact ⟨(bi_t (Or.inr (Or.inr (Or.inr ⟨by omega, c_38.2⟩)))).symm, rfl⟩
            | exact ⟨(bi_f (ng c_15 c_20 (fun _ => c_29.2) (fun e => absurd e c_34))).symm, rfl⟩
            | exact ⟨(bi_f (ng c_15 c_20 (fun e => absurd e c_25) (fun _ z => c_38 ⟨hp, z⟩))).symm, rfl⟩
            | exact ⟨(bi_f (ng c_15 c_20 (fun e => absurd e c_25) (fun e => absurd e c_34))).symm, rfl⟩
          · skip
            refine J_il3 dX7_goes_37 ?_
            refine J_ifeq_b (tgt := 45) dX7_goes_38 rfl (fun c_38 => ?_) (fun c_38 => ?_)
            · skip
              refine J_iconst dX7_goes_45 ?_
              refine M_zret dX7_goes_46 rfl (by decide) ?_
              first
              | exact ⟨(bi_t (by unfold goesR; omega)).symm, rfl⟩
              | exact ⟨(bi_f (by unfold goesR; omega)).symm, rfl⟩
              | exact ⟨(bi_t (Or.inr (Or.inr (Or.inl ⟨by omega, fun z => c_29 ⟨hp, z⟩⟩)))).symm, rfl⟩
              | exact ⟨(bi_t (Or.inr (Or.inr (Or.inr ⟨by omega, c_38.2⟩)))).symm, rfl⟩
              | exact ⟨(bi_f (ng c_15 c_20 (fun _ => c_29.2) (fun e => absurd e c_34))).symm, rfl⟩
              | exact ⟨(bi_f (ng c_15 c_20 (fun e => absurd e c_25) (fun _ z => c_38 ⟨hp, z⟩))).symm, rfl⟩
              | exact ⟨(bi_f (ng c_15 c_20 (fun e => absurd e c_25) (fun e => absurd e c_34))).symm, rfl⟩
            · skip
              refine J_iconst dX7_goes_41 ?_
              refine J_goto (tgt := 46) dX7_goes_42 rfl ?_
              refine M_zret dX7_goes_46 rfl (by decide) ?_
              first
              | exact ⟨(bi_t (by unfold goesR; omega)).symm, rfl⟩
              | exact ⟨(bi_f (by unfold goesR; omega)).symm, rfl⟩
              | exact ⟨(bi_t (Or.inr (Or.inr (Or.inl ⟨by omega, fun z => c_29 ⟨hp, z⟩⟩)))).symm, rfl⟩
              | exact ⟨(bi_t (Or.inr (Or.inr (Or.inr ⟨by omega, c_38.2⟩)))).symm, rfl⟩
              | exact ⟨(bi_f (ng c_15 c_20 (fun _ => c_29.2) (fun e => absurd e c_34))).symm, rfl⟩
              | exact ⟨(bi_f (ng c_15 c_20 (fun e => absurd e c_25) (fun _ z => c_38 ⟨hp, z⟩))).symm, rfl⟩
              | exact ⟨(bi_f (ng c_15 c_20 (fun e => absurd e c_25) (fun e => absurd e c_34))).symm, rfl⟩
