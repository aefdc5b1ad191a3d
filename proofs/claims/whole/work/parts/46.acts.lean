def markV (r : Int → Int) (m : Int) : Int := if kd r m = 1 then m + dn r m else if kd r m = 2 then (m + dn r m) * 2 else if kd r m = 3 then (m + dn r m) - 1000 else if kd r m = 4 then m - (wm r m - 100) else m - ((wm r m - 100) * 2)
def sizeV (r : Int → Int) (m : Int) : Int := if kd r m = 1 then wm r m + (m + dn r m) else if kd r m = 2 then 0 - (wm r m + ((m + dn r m) * 2)) else if kd r m = 3 then wm r m + ((m + dn r m) - 1000) else if kd r m = 4 then wm r m - 100 else (wm r m - 100) * 2
def markT (k : Int) : List Int := if k = 1 then [21, 20] else if k = 2 then [24, 21, 20] else if k = 3 then [22, 21, 20] else if k = 4 then [23, 20, 13, 10] else [23, 20, 14, 13, 10]
def sizeT (k : Int) : List Int := if k = 1 then [11, 10, 21, 20] else if k = 2 then [12, 11, 10, 24, 21, 20] else if k = 3 then [11, 10, 22, 21, 20] else if k = 4 then [13, 10] else [14, 13, 10]
def askV (r : Int → Int) (m w : Int) : Int := if w = 0 then sizeV r m else markV r m
def askT (r : Int → Int) (m w : Int) : List Int := if w = 0 then sizeT (kd r m) else markT (kd r m)
theorem k_begin_of {mem : ZMem} {man w V : Int} {T : List Int} {d' : Nat} (hd : d' ≤ 7) (key : CI mX1_answer d' [zr 77, zr 16, zi man, zi w, zi 0] (mset mem 77 1 0) (fun v mem' => v = V ∧ AskP (mset mem 77 1 0) mem' 0 T)) : CI mX1_begin 8 [zr 77, zr 16, zi man, zi w] mem (fun v mem' => v = V ∧ AskP (mset mem 77 1 0) mem' 0 T) := by
  refine CM.of (by decide +kernel) ([zr 77, zr 16, zi man, zi w]) (zok_all rfl) (Nat.le_of_ble_eq_true rfl) rfl ?_
  refine J_al0 dX1_begin_0 ?_
  refine J_iconst dX1_begin_1 ?_
  refine M_put (ki := 1) dX1_begin_2 fl_X1_13 sh_77 rfl rfl rfl (fun r hr => by cases hr; rfl) ?_
  refine J_al0 dX1_begin_5 ?_
  refine J_al1 dX1_begin_6 ?_
  refine J_il2 dX1_begin_7 ?_
  refine J_il3 dX1_begin_8 ?_
  refine J_iconst dX1_begin_9 ?_
  refine M_cvI4 dX1_begin_10 lk_X1_17 cw_X1_answer sh_77 rfl rfl key (by omega) (Nat.le_of_ble_eq_true rfl) (fun v_10 mem_10 hq => ?_)
  have hA := hq
  refine M_iret dX1_begin_13 rfl ?_
  exact hA
theorem k_begin {mem : ZMem} {r : Int → Int} {L : List Int} (hC : CB mem 16 r L) (hI : BInv r L) {man w : Int} (hm0 : 0 ≤ man) (hm1 : man < r 3) (hw : w = 0 ∨ w = 1) : CI mX1_begin 8 [zr 77, zr 16, zi man, zi w] mem (fun v mem' => v = askV r man w ∧ AskP (mset mem 77 1 0) mem' 0 (askT r man w)) := by
  have i1 := hI.1
  have hk := (hI.2.2.2.2.1 man hm0 hm1).1
  have hk : kd r man = 1 ∨ kd r man = 2 ∨ kd r man = 3 ∨ kd r man = 4 ∨ kd r man = 5 := by omega
  have hC1 : CB (mset mem 77 1 0) 16 r L := hC.ext (fun q h1 h2 => mset_n (by omega))
  have hn1 : mset mem 77 1 0 77 1 = 0 := mset_s _ _ _ _
  unfold askV askT sizeV markV sizeT markT
  rcases hw with rfl | rfl
  · rcases hk with q | q | q | q | q <;> rw [q] <;> simp only [reduceIte, Int.reduceEq]
    · exact k_begin_of (by decide) (k_ansS1 (dp := 0) hC1 hm0 hm1 i1.2 (by omega) hn1 (by omega) q)
    · exact k_begin_of (by decide) (k_ansS2 (dp := 0) hC1 hm0 hm1 i1.2 (by omega) hn1 (by omega) q)
    · exact k_begin_of (by decide) (k_ansS3 (dp := 0) hC1 hm0 hm1 i1.2 (by omega) hn1 (by omega) q)
    · exact k_begin_of (by decide) (k_ansS4 (dp := 0) hC1 hm0 hm1 i1.2 (by omega) hn1 (by omega) q)
    · exact k_begin_of (by decide) (k_ansS5 (dp := 0) hC1 hm0 hm1 i1.2 (by omega) hn1 (by omega) q)
  · rcases hk with q | q | q | q | q <;> rw [q] <;> simp only [reduceIte, Int.reduceEq]
    · exact k_begin_of (by decide) (k_ansM1 (dp := 0) hC1 hm0 hm1 i1.2 (by omega) hn1 (by omega) q)
    · exact k_begin_of (by decide) (k_ansM2 (dp := 0) hC1 hm0 hm1 i1.2 (by omega) hn1 (by omega) q)
    · exact k_begin_of (by decide) (k_ansM3 (dp := 0) hC1 hm0 hm1 i1.2 (by omega) hn1 (by omega) q)
    · exact k_begin_of (by decide) (k_ansM4 (dp := 0) hC1 hm0 hm1 i1.2 (by omega) hn1 (by omega) q)
    · exact k_begin_of (by decide) (k_ansM5 (dp := 0) hC1 hm0 hm1 i1.2 (by omega) hn1 (by omega) q)
/-! ACTS THAT CAN BE UNDONE -/
/-- a page holds a bench -/
def PgC (mem : ZMem) (q : Nat) (b : BN) : Prop := (mem q 0 = b.1 4 ∧ mem q 1 = b.1 6 ∧ mem q 2 = b.1 5 ∧ mem q 3 = (b.2.length : Int)) ∧ (∀ p : Int, 0 ≤ p → p < b.2.length → mem q (4 + p) = lget b.2 p) ∧ (∀ m : Int, 0 ≤ m → m < b.1 3 → mem q (11 + m) = wm b.1 m ∧ mem q (18 + m) = bk (gn b.1 m))
/-- the place of the page that was kept i acts ago -/
def pgi (nx i : Int) : Nat := (25 + (nx + 23 - i) % 24).toNat
def lgb (U : List BN) (i : Int) : BN := U.getD i.toNat (fun _ => 0, [])
/-- what an act leaves as it was -/
def Stat (r r' : Int → Int) : Prop := r' 1 = r 1 ∧ r' 2 = r 2 ∧ r' 3 = r 3 ∧ (∀ m, 0 ≤ m → kd r' m = kd r m ∧ dn r' m = dn r m ∧ lg r' m = lg r m)
def AcC (mem : ZMem) (U : List BN) : Prop := mem 23 2 = (U.length : Int) ∧ U.length ≤ 24 ∧ (0 ≤ mem 23 1 ∧ mem 23 1 < 24) ∧ (∀ i : Int, 0 ≤ i → i < U.length → PgC mem (pgi (mem 23 1) i) (lgb U i))
theorem k_aclear {mem : ZMem} {U : List BN} (h : AcC mem U) : CV mX0_clear 0 [zr 23] mem (fun mem' => AcC mem' [] ∧ ∀ q, q ≠ 23 → mem' q = mem q) := by
  refine CM.of (by decide +kernel) ([zr 23]) (zok_all rfl) (Nat.le_of_ble_eq_true rfl) rfl ?_
  refine J_al0 dX0_clear_0 ?_
  refine J_iconst dX0_clear_1 ?_
  refine M_put (ki := 2) dX0_clear_2 fl_X0_20 sh_23 rfl rfl rfl (fun r hr => by cases hr; rfl) ?_
  refine M_vret dX0_clear_5 rfl ?_
  refine ⟨⟨mset_s _ _ _ _, by decide, by rw [mset_i (by omega)]; exact h.2.2.1, fun i i0 i1 => ?_⟩, fun q hq => mset_n hq⟩
  have i1 : i < 0 := i1
  omega
theorem k_keep {mem : ZMem} {U : List BN} {r : Int → Int} {L : List Int} (h : AcC mem U) (hC : CB mem 16 r L) (hl : (L.length : Int) ≤ 7) (h3 : r 3 ≤ 7) (h5 : r 5 = 0 ∨ r 5 = 1) : CV mX0_keep 1 [zr 23, zr 16] mem (fun mem' => AcC mem' (((r, L) :: U).take 24) ∧ ∀ q, q ≠ 23 → (q < 25 ∨ 48 < q) → mem' q = mem q) := by
  obtain ⟨u1, u2, u3, u4⟩ := h
  obtain ⟨⟨c0, c1, c2, c6, c7, c8, c9⟩, cO, cM⟩ := hC
  have hpg : 25 ≤ (25 + mem 23 1).toNat ∧ (25 + mem 23 1).toNat ≤ 48 := by omega
  generalize hP : (25 + mem 23 1).toNat = P at *
  have fin : ∀ (m1 : ZMem) (v : Int), (∀ q, q ≠ P → m1 q = mem q) → m1 P 0 = r 4 → m1 P 1 = r 6 → m1 P 2 = r 5 → m1 P 3 = (L.length : Int) → (∀ x, 0 ≤ x → x < 7 → m1 P (4 + x) = mem 20 x ∧ m1 P (11 + x) = mem 21 x ∧ m1 P (18 + x) = mem 22 x) → ((U.length : Int) + 1 ≤ 24 ∧ v = (U.length : Int) + 1 ∨ 24 < (U.length : Int) + 1 ∧ v = 24) → AcC (mset (mset m1 23 1 ((mem 23 1 + 1) % 24)) 23 2 v) (((r, L) :: U).take 24) ∧ ∀ q, q ≠ 23 → (q < 25 ∨ 48 < q) → (mset (mset m1 23 1 ((mem 23 1 + 1) % 24)) 23 2 v) q = mem q := by
    intro m1 v a0 a1 a2 a3 a4 a5 a6
    refine ⟨⟨?_, ?_, ?_, fun i i0 i1 => ?_⟩, fun q q1 q2 => by rw [mset_n q1, mset_n q1]; exact a0 q (by omega)⟩
    · rw [mset_s, List.length_take, List.length_cons]; omega
    · rw [List.length_take]; omega
    · rw [mset_i (by omega), mset_s]; omega
    · rw [mset_i (by omega), mset_s]
      rw [List.length_take, List.length_cons] at i1
      have hlg : lgb (((r, L) :: U).take 24) i = lgb ((r, L) :: U) i := by
        unfold lgb
        rw [List.getD_eq_getElem?_getD, List.getD_eq_getElem?_getD, List.getElem?_take_of_lt (by omega)]
      rw [hlg]
      by_cases e : i = 0
      · subst e
        have ep : pgi ((mem 23 1 + 1) % 24) 0 = P := by unfold pgi; omega
        rw [ep]
        show PgC _ P (r, L)
        unfold PgC
        rw [mset_n (show P ≠ 23 by omega), mset_n (show P ≠ 23 by omega)]
        refine ⟨⟨a1, a2, a3, a4⟩, fun p p0 p1 => ?_, fun m m0 m1' => ?_⟩
        · have p1 : p < L.length := p1
          rw [(a5 p p0 (by omega)).1]; exact cO p p0 p1
        · have m1' : m < r 3 := m1'
          rw [(a5 m m0 (by omega)).2.1, (a5 m m0 (by omega)).2.2]; exact ⟨(cM m m0 m1').2.2.2.1, (cM m m0 m1').2.2.2.2⟩
      · have ep : pgi ((mem 23 1 + 1) % 24) i = pgi (mem 23 1) (i - 1) := by unfold pgi; omega
        have el : lgb ((r, L) :: U) i = lgb U (i - 1) := by
          unfold lgb
          rw [show i.toNat = (i - 1).toNat + 1 by omega]
          rfl
        rw [ep, el]
        have hu := u4 (i - 1) (by omega) (by omega)
        have hne : pgi (mem 23 1) (i - 1) ≠ P := by unfold pgi; omega
        have hne2 : pgi (mem 23 1) (i - 1) ≠ 23 := by unfold pgi; omega
        unfold PgC at hu ⊢
        rw [mset_n hne2, mset_n hne2, a0 _ hne]
        exact hu
  have hPs : shl[P]? = some (.inr (0, 25, 0)) := hP ▸ pages_sh u3
  have k84 : ∀ (m1 : ZMem), (∀ q, q ≠ P → m1 q = mem q) → m1 P 0 = r 4 → m1 P 1 = r 6 → m1 P 2 = r 5 → m1 P 3 = (L.length : Int) → (∀ x, 0 ≤ x → x < 7 → m1 P (4 + x) = mem 20 x ∧ m1 P (11 + x) = mem 21 x ∧ m1 P (18 + x) = mem 22 x) → JM mX0_keep 1 (QV (fun mem' => AcC mem' (((r, L) :: U).take 24) ∧ ∀ q, q ≠ 23 → (q < 25 ∨ 48 < q) → mem' q = mem q)) 84 [zr 23, zr 16, zr P] [] m1 := by
    intro m1 a0 a1 a2 a3 a4 a5
    have e23 : m1 23 = mem 23 := a0 23 (by omega)
    refine J_al0 dX0_keep_84 ?_
    refine J_al0 dX0_keep_85 ?_
    refine M_get (ki := 1) dX0_keep_86 fl_X0_16 sh_23 rfl rfl ?_
    rw [e23]
    refine J_iconst dX0_keep_89 ?_
    refine J_iadd dX0_keep_90 ?_
    refine J_bipush dX0_keep_91 rfl ?_
    refine J_irem dX0_keep_93 (by omega) ?_
    refine M_put (ki := 1) dX0_keep_94 fl_X0_16 sh_23 rfl rfl rfl (fun r hr => by cases hr; rfl) ?_
    refine J_al0 dX0_keep_97 ?_
    refine J_al0 dX0_keep_98 ?_
    refine M_get (ki := 2) dX0_keep_99 fl_X0_20 sh_23 rfl rfl ?_
    rw [mset_i (show (2 : Int) ≠ 1 by omega), e23]
    refine J_iconst dX0_keep_102 ?_
    refine J_iadd dX0_keep_103 ?_
    refine J_bipush dX0_keep_104 rfl ?_
    refine M_csI2 dX0_keep_106 lk_X0_54 cw_J9_min_7cf53 (k_min (by omega) (by omega)) (by decide) (Nat.le_of_ble_eq_true rfl) (fun v_106 mem_106 hq => ?_)
    obtain ⟨hv, hq⟩ := hq; have hq := hq.symm; subst hq
    refine M_put (ki := 2) dX0_keep_109 fl_X0_20 sh_23 rfl rfl rfl (fun r hr => by cases hr; rfl) ?_
    refine M_vret dX0_keep_112 rfl ?_
    exact fin m1 _ a0 a1 a2 a3 a4 a5 (by omega)
  refine CM.of (by decide +kernel) ([zr 23, zr 16, zu]) (zok_all rfl) (Nat.le_of_ble_eq_true rfl) rfl ?_
  refine J_al0 dX0_keep_0 ?_
  refine M_getR dX0_keep_1 fl_X0_13 sh_23 rfl ?_
  refine J_al0 dX0_keep_4 ?_
  refine M_get (ki := 1) dX0_keep_5 fl_X0_16 sh_23 rfl rfl ?_
  refine M_aald dX0_keep_8 sh_24 (by decide) (by omega) ?_
  rw [hP]
  refine J_as2 dX0_keep_9 (by decide) rfl ?_
  refine J_al2 dX0_keep_10 ?_
  refine J_iconst dX0_keep_11 ?_
  refine J_al1 dX0_keep_12 ?_
  refine M_get (ki := 6) dX0_keep_13 fl_X0_23 sh_16 rfl rfl ?_
  refine M_ast dX0_keep_16 hPs (by decide) (by omega) ?_
  refine J_al2 dX0_keep_17 ?_
  refine J_iconst dX0_keep_18 ?_
  refine J_al1 dX0_keep_19 ?_
  refine M_get (ki := 7) dX0_keep_20 fl_X0_28 sh_16 rfl rfl ?_
  refine M_ast dX0_keep_23 hPs (by decide) (by omega) ?_
  refine J_al2 dX0_keep_24 ?_
  refine J_iconst dX0_keep_25 ?_
  refine J_al1 dX0_keep_26 ?_
  refine M_get (ki := 8) dX0_keep_27 fl_X0_31 sh_16 rfl rfl ?_
  refine J_ifeq (tgt := 37) dX0_keep_30 rfl (by rw [mset_n (by omega), mset_n (by omega)]; omega) (fun c_30 => ?_) (fun c_30 => ?_)
  · skip
    refine J_iconst dX0_keep_37 ?_
    refine M_ast dX0_keep_38 hPs (by decide) (by omega) ?_
    refine J_al2 dX0_keep_39 ?_
    refine J_iconst dX0_keep_40 ?_
    refine J_al1 dX0_keep_41 ?_
    refine M_get (ki := 9) dX0_keep_42 fl_X0_35 sh_16 rfl rfl ?_
    refine M_ast dX0_keep_45 hPs (by decide) (by omega) ?_
    refine J_al1 dX0_keep_46 ?_
    refine M_getR dX0_keep_47 fl_X0_38 sh_16 rfl ?_
    refine J_iconst dX0_keep_50 ?_
    refine J_al2 dX0_keep_51 ?_
    refine J_iconst dX0_keep_52 ?_
    refine J_bipush dX0_keep_53 rfl ?_
    refine M_copy dX0_keep_55 lk_X0_42 sh_20 hPs (by decide) (by decide) (by omega) (by decide) (Nat.le_of_ble_eq_true rfl) ?_
    refine J_al1 dX0_keep_58 ?_
    refine M_getR dX0_keep_59 fl_X0_48 sh_16 rfl ?_
    refine J_iconst dX0_keep_62 ?_
    refine J_al2 dX0_keep_63 ?_
    refine J_bipush dX0_keep_64 rfl ?_
    refine J_bipush dX0_keep_66 rfl ?_
    refine M_copy dX0_keep_68 lk_X0_42 sh_21 hPs (by decide) (by decide) (by omega) (by decide) (Nat.le_of_ble_eq_true rfl) ?_
    refine J_al1 dX0_keep_71 ?_
    refine M_getR dX0_keep_72 fl_X0_51 sh_16 rfl ?_
    refine J_iconst dX0_keep_75 ?_
    refine J_al2 dX0_keep_76 ?_
    refine J_bipush dX0_keep_77 rfl ?_
    refine J_bipush dX0_keep_79 rfl ?_
    refine M_copy dX0_keep_81 lk_X0_42 sh_22 hPs (by decide) (by decide) (by omega) (by decide) (Nat.le_of_ble_eq_true rfl) ?_
    rw [mset_n (show 16 ≠ P by omega), mset_n (show 16 ≠ P by omega)] at c_30
    refine k84 _ (fun q hq => ?_) ?_ ?_ ?_ ?_ (fun x x0 x1 => ⟨?_, ?_, ?_⟩)
    · rw [mrow_n hq, mrow_n hq, mrow_n hq, mset_n hq, mset_n hq, mset_n hq, mset_n hq]
    · simp only [mrow_s, mrow_n (show 22 ≠ P by omega), mrow_n (show 21 ≠ P by omega), mrow_n (show 20 ≠ P by omega), zcpy]
      rw [if_neg (by omega), if_neg (by omega), if_neg (by omega), mset_i (by omega), mset_i (by omega), mset_i (by omega), mset_s]; exact c6
    · simp only [mrow_s, zcpy]
      rw [if_neg (by omega), if_neg (by omega), if_neg (by omega), mset_i (by omega), mset_i (by omega), mset_s, mset_n (by omega)]; exact c7
    · simp only [mrow_s, zcpy]
      rw [if_neg (by omega), if_neg (by omega), if_neg (by omega), mset_i (by omega), mset_s]; omega
    · simp only [mrow_s, zcpy]
      rw [if_neg (by omega), if_neg (by omega), if_neg (by omega), mset_s, mset_n (by omega), mset_n (by omega), mset_n (by omega)]; exact c9
    · simp only [mrow_s, zcpy]
      rw [if_neg (by omega), if_neg (by omega), if_pos (by omega), mset_n (by omega), mset_n (by omega), mset_n (by omega), mset_n (by omega)]
      congr 1
      omega
    · simp only [mrow_s, zcpy]
      rw [if_neg (by omega), if_pos (by omega), mrow_n (by omega), mset_n (by omega), mset_n (by omega), mset_n (by omega), mset_n (by omega)]
      congr 1
      omega
    · simp only [mrow_s, zcpy]
      rw [if_pos (by omega), mrow_n (by omega), mrow_n (by omega), mset_n (by omega), mset_n (by omega), mset_n (by omega), mset_n (by omega)]
      congr 1
      omega
  · skip
    refine J_iconst dX0_keep_33 ?_
    refine J_goto (tgt := 38) dX0_keep_34 rfl ?_
    refine M_ast dX0_keep_38 hPs (by decide) (by omega) ?_
    refine J_al2 dX0_keep_39 ?_
    refine J_iconst dX0_keep_40 ?_
    refine J_al1 dX0_keep_41 ?_
    refine M_get (ki := 9) dX0_keep_42 fl_X0_35 sh_16 rfl rfl ?_
    refine M_ast dX0_keep_45 hPs (by decide) (by omega) ?_
    refine J_al1 dX0_keep_46 ?_
    refine M_getR dX0_keep_47 fl_X0_38 sh_16 rfl ?_
    refine J_iconst dX0_keep_50 ?_
    refine J_al2 dX0_keep_51 ?_
    refine J_iconst dX0_keep_52 ?_
    refine J_bipush dX0_keep_53 rfl ?_
    refine M_copy dX0_keep_55 lk_X0_42 sh_20 hPs (by decide) (by decide) (by omega) (by decide) (Nat.le_of_ble_eq_true rfl) ?_
    refine J_al1 dX0_keep_58 ?_
    refine M_getR dX0_keep_59 fl_X0_48 sh_16 rfl ?_
    refine J_iconst dX0_keep_62 ?_
    refine J_al2 dX0_keep_63 ?_
    refine J_bipush dX0_keep_64 rfl ?_
    refine J_bipush dX0_keep_66 rfl ?_
    refine M_copy dX0_keep_68 lk_X0_42 sh_21 hPs (by decide) (by decide) (by omega) (by decide) (Nat.le_of_ble_eq_true rfl) ?_
    refine J_al1 dX0_keep_71 ?_
    refine M_getR dX0_keep_72 fl_X0_51 sh_16 rfl ?_
    refine J_iconst dX0_keep_75 ?_
    refine J_al2 dX0_keep_76 ?_
    refine J_bipush dX0_keep_77 rfl ?_
    refine J_bipush dX0_keep_79 rfl ?_
    refine M_copy dX0_keep_81 lk_X0_42 sh_22 hPs (by decide) (by decide) (by omega) (by decide) (Nat.le_of_ble_eq_true rfl) ?_
    rw [mset_n (show 16 ≠ P by omega), mset_n (show 16 ≠ P by omega)] at c_30
    refine k84 _ (fun q hq => ?_) ?_ ?_ ?_ ?_ (fun x x0 x1 => ⟨?_, ?_, ?_⟩)
    · rw [mrow_n hq, mrow_n hq, mrow_n hq, mset_n hq, mset_n hq, mset_n hq, mset_n hq]
    · simp only [mrow_s, mrow_n (show 22 ≠ P by omega), mrow_n (show 21 ≠ P by omega), mrow_n (show 20 ≠ P by omega), zcpy]
      rw [if_neg (by omega), if_neg (by omega), if_neg (by omega), mset_i (by omega), mset_i (by omega), mset_i (by omega), mset_s]; exact c6
    · simp only [mrow_s, zcpy]
      rw [if_neg (by omega), if_neg (by omega), if_neg (by omega), mset_i (by omega), mset_i (by omega), mset_s, mset_n (by omega)]; exact c7
    · simp only [mrow_s, zcpy]
      rw [if_neg (by omega), if_neg (by omega), if_neg (by omega), mset_i (by omega), mset_s]; omega
    · simp only [mrow_s, zcpy]
      rw [if_neg (by omega), if_neg (by omega), if_neg (by omega), mset_s, mset_n (by omega), mset_n (by omega), mset_n (by omega)]; exact c9
    · simp only [mrow_s, zcpy]
      rw [if_neg (by omega), if_neg (by omega), if_pos (by omega), mset_n (by omega), mset_n (by omega), mset_n (by omega), mset_n (by omega)]
      congr 1
      omega
    · simp only [mrow_s, zcpy]
      rw [if_neg (by omega), if_pos (by omega), mrow_n (by omega), mset_n (by omega), mset_n (by omega), mset_n (by omega), mset_n (by omega)]
      congr 1
      omega
    · simp only [mrow_s, zcpy]
      rw [if_pos (by omega), mrow_n (by omega), mrow_n (by omega), mset_n (by omega), mset_n (by omega), mset_n (by omega), mset_n (by omega)]
      congr 1
      omega
