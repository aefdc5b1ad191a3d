def FrA (mem mem' : ZMem) : Prop := (∀ x : Int, x ≠ 24 → mem' 79 x = mem 79 x) ∧ ∀ q : Nat, q ≠ 79 → q ≠ 92 → mem' q = mem q
theorem FrA.rf {mem : ZMem} : FrA mem mem := ⟨fun _ _ => rfl, fun _ _ _ => rfl⟩
theorem FrA.tr {a b c : ZMem} (h : FrA a b) (g : FrA b c) : FrA a c := ⟨fun x hx => (g.1 x hx).trans (h.1 x hx), fun q q1 q2 => (g.2 q q1 q2).trans (h.2 q q1 q2)⟩
theorem k_began {mem : ZMem} {T : List Int} {b : Int} (hT : MTr mem T) (hl : T.length ≤ 15) : CV mX7_began 0 [zr 79, zi b] mem (fun mem' => MTr mem' (T ++ [b]) ∧ FrA mem mem') := by
  obtain ⟨t1, t2⟩ := hT
  refine CM.of (by decide +kernel) ([zr 79, zi b]) (zok_all rfl) (Nat.le_of_ble_eq_true rfl) rfl ?_
  refine J_al0 dX7_began_0 ?_
  refine M_get (ki := 24) dX7_began_1 fl_X7_241 sh_79 rfl rfl ?_
  refine J_bipush dX7_began_4 rfl ?_
  refine J_cge (tgt := 29) dX7_began_6 rfl (by omega) (fun c_6 => ?_) (fun c_6 => ?_)
  · skip
    omega
  · skip
    refine J_al0 dX7_began_9 ?_
    refine M_getR dX7_began_10 fl_X7_47 sh_79 rfl ?_
    refine J_al0 dX7_began_13 ?_
    refine M_get (ki := 24) dX7_began_14 fl_X7_241 sh_79 rfl rfl ?_
    refine J_il1 dX7_began_17 ?_
    refine M_ast dX7_began_18 sh_92 (by decide) (by omega) ?_
    refine J_al0 dX7_began_19 ?_
    refine J_dup dX7_began_20 rfl ?_
    refine M_get (ki := 24) dX7_began_21 fl_X7_241 sh_79 rfl rfl ?_
    refine J_iconst dX7_began_24 ?_
    refine J_iadd dX7_began_25 ?_
    refine M_put (ki := 24) dX7_began_26 fl_X7_241 sh_79 rfl rfl rfl (fun r hr => by cases hr; rfl) ?_
    refine M_vret dX7_began_29 rfl ?_
    refine ⟨⟨?_, fun i i0 i1 => ?_⟩, fun x hx => ?_, fun q q1 q2 => ?_⟩
    · rw [mset_s, mset_n (by omega), t1, List.length_append]
      show _ = ((T.length + 1 : Nat) : Int)
      omega
    · rw [List.length_append] at i1
      have i1 : i < ((T.length + 1 : Nat) : Int) := i1
      rw [mset_n (by omega)]
      by_cases e : i = (T.length : Int)
      · rw [lget_app_r (by omega), e, Int.sub_self, ← t1, mset_s]; rfl
      · rw [mset_i (by omega), lget_app_l i0 (by omega)]; exact t2 i i0 (by omega)
    · rw [mset_i hx, mset_n (by omega)]
    · rw [mset_n q1, mset_n q2]
theorem k_plainSize {mem : ZMem} {T : List Int} {m W : Int} (hm : 0 ≤ m ∧ m < 7) (hw : mem 83 (15 + 5 * m + 3) = W) (hT : MTr mem T) (hl : T.length ≤ 15) : CI mX7_plainSize 1 [zr 79, zi m] mem (fun v mem' => v = W ∧ MTr mem' (T ++ [10]) ∧ FrA mem mem') := by
  refine CM.of (by decide +kernel) ([zr 79, zi m]) (zok_all rfl) (Nat.le_of_ble_eq_true rfl) rfl ?_
  refine J_al0 dX7_plainSize_0 ?_
  refine J_bipush dX7_plainSize_1 rfl ?_
  refine M_cvV1 dX7_plainSize_3 lk_X7_244 cw_X7_began sh_79 rfl rfl (k_began hT hl) (by decide) (Nat.le_of_ble_eq_true rfl) (fun mem_3 hq => ?_)
  obtain ⟨t1, f1⟩ := hq
  have hw1 : mem_3 83 (15 + 5 * m + 3) = W := by rw [f1.2 83 (by omega) (by omega)]; exact hw
  refine J_al0 dX7_plainSize_6 ?_
  refine M_getR dX7_plainSize_7 fl_X7_19 sh_79 rfl ?_
  refine J_il1 dX7_plainSize_10 ?_
  refine J_iconst dX7_plainSize_11 ?_
  refine M_csI3 dX7_plainSize_12 lk_X7_163 cw_X7_of (k_of isW83 (by omega) (by omega)) (by decide) (Nat.le_of_ble_eq_true rfl) (fun v_12 mem_12 hq => ?_)
  obtain ⟨rfl, hq⟩ := hq; have hq := hq.symm; subst hq
  refine M_iret dX7_plainSize_15 rfl ?_
  exact ⟨hw1, t1, f1⟩
def bsT (k : Int) : List Int := if k = 5 then [14, 13, 10] else [13, 10]
def bsV (r : Int → Int) (m : Int) : Int := if kd r m = 5 then (wm r m - 100) * 2 else wm r m - 100
theorem k_boreSize {mem : ZMem} {r : Int → Int} {L : List Int} {T : List Int} {m : Int} (hM : MX (mem 83) r L) (hm : 0 ≤ m ∧ m < r 3 ∧ r 3 ≤ 7) (hkr : 1 ≤ kd r m ∧ kd r m ≤ 5) (hT : MTr mem T) (hl : T.length ≤ 12) : CI mX7_boreSize 2 [zr 79, zi m] mem (fun v mem' => v = bsV r m ∧ MTr mem' (T ++ bsT (kd r m)) ∧ FrA mem mem') := by
  obtain ⟨c1, c2, c3, c4, c5⟩ := hM.2.2 m (by omega) (by omega)
  have hk : mem 83 (15 + 5 * m + 0) = kd r m := by rw [Int.add_zero]; exact c1
  refine CM.of (by decide +kernel) ([zr 79, zi m, zu, zu]) (zok_all rfl) (Nat.le_of_ble_eq_true rfl) rfl ?_
  refine J_al0 dX7_boreSize_0 ?_
  refine M_getR dX7_boreSize_1 fl_X7_19 sh_79 rfl ?_
  refine J_il1 dX7_boreSize_4 ?_
  refine J_iconst dX7_boreSize_5 ?_
  refine M_csI3 dX7_boreSize_6 lk_X7_163 cw_X7_of (k_of isW83 (by omega) (by omega)) (by decide) (Nat.le_of_ble_eq_true rfl) (fun v_6 mem_6 hq => ?_)
  obtain ⟨e, hq⟩ := hq; rw [hk] at e; subst e; have hq := hq.symm; subst hq
  refine J_iconst dX7_boreSize_9 ?_
  refine J_cne (tgt := 17) dX7_boreSize_10 rfl (by omega) (fun c_10 => ?_) (fun c_10 => ?_)
  · skip
    refine J_iconst dX7_boreSize_17 ?_
    refine J_is2 dX7_boreSize_18 (by decide) rfl ?_
    refine J_il2 dX7_boreSize_19 ?_
    refine J_ifeq (tgt := 29) dX7_boreSize_20 rfl (by decide) (fun _ => ?_) (fun c => absurd c (by decide))
    first
    | have hh9 : ∃ T2 : List Int, T2 = T ++ [14] ∧ MTr mem_26 T2 ∧ T2.length ≤ 13 ∧ FrA mem mem_26 := ⟨_, rfl, t1, by rw [List.length_append]; show T.length + 1 ≤ 13; omega, f1⟩
      obtain ⟨T2, eT2, hT2, hl2, f2⟩ := hh9
    | have hh9 : ∃ T2 : List Int, T2 = T ∧ MTr mem T2 ∧ T2.length ≤ 13 ∧ FrA mem mem := ⟨T, rfl, hT, by omega, FrA.rf⟩
      obtain ⟨T2, eT2, hT2, hl2, f2⟩ := hh9
    refine J_al0 dX7_boreSize_29 ?_
    refine J_bipush dX7_boreSize_30 rfl ?_
    refine M_cvV1 dX7_boreSize_32 lk_X7_244 cw_X7_began sh_79 rfl rfl (k_began hT2 (by omega)) (by decide) (Nat.le_of_ble_eq_true rfl) (fun mem_32 hq => ?_)
    obtain ⟨t3, f3⟩ := hq
    have f23 := f2.tr f3
    refine J_al0 dX7_boreSize_35 ?_
    refine J_il1 dX7_boreSize_36 ?_
    refine M_cvI1 dX7_boreSize_37 lk_X7_247 cw_X7_plainSize sh_79 rfl rfl (k_plainSize (W := wm r m) (by omega) (by rw [f23.2 83 (by omega) (by omega)]; exact c4) t3 (by rw [List.length_append]; show T2.length + 1 ≤ 15; omega)) (by decide) (Nat.le_of_ble_eq_true rfl) (fun v_37 mem_37 hq => ?_)
    obtain ⟨rfl, t4, f4⟩ := hq
    refine J_bipush dX7_boreSize_40 rfl ?_
    refine J_isub dX7_boreSize_42 ?_
    refine J_is3 dX7_boreSize_43 (by decide) rfl ?_
    refine J_il2 dX7_boreSize_44 ?_
    refine J_ifeq (tgt := 54) dX7_boreSize_45 rfl (by decide) (fun _ => ?_) (fun c => absurd c (by decide))
    refine J_il3 dX7_boreSize_54 ?_
    refine M_iret dX7_boreSize_55 rfl ?_
    first
    | exact ⟨by unfold bsV; rw [if_pos (by omega)]; omega, by
        rw [eT2] at t4
        have e : T ++ [14] ++ [13] ++ [10] = T ++ bsT (kd r m) := by unfold bsT; rw [if_pos (by omega), List.append_assoc, List.append_assoc]; rfl
        rw [← e]; exact t4, f23.tr f4⟩
    | exact ⟨by unfold bsV; rw [if_neg (by omega)], by
        rw [eT2] at t4
        have e : T ++ [13] ++ [10] = T ++ bsT (kd r m) := by unfold bsT; rw [if_neg (by omega), List.append_assoc]; rfl
        rw [← e]; exact t4, f23.tr f4⟩
  · skip
    refine J_iconst dX7_boreSize_13 ?_
    refine J_goto (tgt := 18) dX7_boreSize_14 rfl ?_
    refine J_is2 dX7_boreSize_18 (by decide) rfl ?_
    refine J_il2 dX7_boreSize_19 ?_
    refine J_ifeq (tgt := 29) dX7_boreSize_20 rfl (by decide) (fun c => absurd c (by decide)) (fun _ => ?_)
    refine J_al0 dX7_boreSize_23 ?_
    refine J_bipush dX7_boreSize_24 rfl ?_
    refine M_cvV1 dX7_boreSize_26 lk_X7_244 cw_X7_began sh_79 rfl rfl (k_began hT (by omega)) (by decide) (Nat.le_of_ble_eq_true rfl) (fun mem_26 hq => ?_)
    obtain ⟨t1, f1⟩ := hq
    first
    | have hh9 : ∃ T2 : List Int, T2 = T ++ [14] ∧ MTr mem_26 T2 ∧ T2.length ≤ 13 ∧ FrA mem mem_26 := ⟨_, rfl, t1, by rw [List.length_append]; show T.length + 1 ≤ 13; omega, f1⟩
      obtain ⟨T2, eT2, hT2, hl2, f2⟩ := hh9
    | have hh9 : ∃ T2 : List Int, T2 = T ∧ MTr mem T2 ∧ T2.length ≤ 13 ∧ FrA mem mem := ⟨T, rfl, hT, by omega, FrA.rf⟩
      obtain ⟨T2, eT2, hT2, hl2, f2⟩ := hh9
    refine J_al0 dX7_boreSize_29 ?_
    refine J_bipush dX7_boreSize_30 rfl ?_
    refine M_cvV1 dX7_boreSize_32 lk_X7_244 cw_X7_began sh_79 rfl rfl (k_began hT2 (by omega)) (by decide) (Nat.le_of_ble_eq_true rfl) (fun mem_32 hq => ?_)
    obtain ⟨t3, f3⟩ := hq
    have f23 := f2.tr f3
    refine J_al0 dX7_boreSize_35 ?_
    refine J_il1 dX7_boreSize_36 ?_
    refine M_cvI1 dX7_boreSize_37 lk_X7_247 cw_X7_plainSize sh_79 rfl rfl (k_plainSize (W := wm r m) (by omega) (by rw [f23.2 83 (by omega) (by omega)]; exact c4) t3 (by rw [List.length_append]; show T2.length + 1 ≤ 15; omega)) (by decide) (Nat.le_of_ble_eq_true rfl) (fun v_37 mem_37 hq => ?_)
    obtain ⟨rfl, t4, f4⟩ := hq
    refine J_bipush dX7_boreSize_40 rfl ?_
    refine J_isub dX7_boreSize_42 ?_
    refine J_is3 dX7_boreSize_43 (by decide) rfl ?_
    refine J_il2 dX7_boreSize_44 ?_
    refine J_ifeq (tgt := 54) dX7_boreSize_45 rfl (by decide) (fun c => absurd c (by decide)) (fun _ => ?_)
    refine J_iconst dX7_boreSize_48 ?_
    refine J_il3 dX7_boreSize_49 ?_
    refine J_imul dX7_boreSize_50 ?_
    refine J_goto (tgt := 55) dX7_boreSize_51 rfl ?_
    refine M_iret dX7_boreSize_55 rfl ?_
    first
    | exact ⟨by unfold bsV; rw [if_pos (by omega)]; omega, by
        rw [eT2] at t4
        have e : T ++ [14] ++ [13] ++ [10] = T ++ bsT (kd r m) := by unfold bsT; rw [if_pos (by omega), List.append_assoc, List.append_assoc]; rfl
        rw [← e]; exact t4, f23.tr f4⟩
    | exact ⟨by unfold bsV; rw [if_neg (by omega)], by
        rw [eT2] at t4
        have e : T ++ [13] ++ [10] = T ++ bsT (kd r m) := by unfold bsT; rw [if_neg (by omega), List.append_assoc]; rfl
        rw [← e]; exact t4, f23.tr f4⟩
def mk0 (k : Int) : List Int := if k = 1 then [] else if k = 3 then [22] else [24]
theorem mk_lo {k : Int} (T : List Int) (h : 1 ≤ k ∧ k < 4) : T ++ mk0 k ++ [21] ++ [20] = T ++ markT k := by
  unfold mk0 markT
  have : k = 1 ∨ k = 2 ∨ k = 3 := by omega
  rcases this with rfl | rfl | rfl <;> simp
theorem mk_hi {k : Int} (T : List Int) (h : 4 ≤ k ∧ k ≤ 5) : T ++ [23] ++ [20] ++ bsT k = T ++ markT k := by
  unfold bsT markT
  have : k = 4 ∨ k = 5 := by omega
  rcases this with rfl | rfl <;> simp
theorem sz_lo {k : Int} (T : List Int) (h : 1 ≤ k ∧ k < 4) : T ++ (if k = 2 then [12] else []) ++ [11] ++ [10] ++ markT k = T ++ sizeT k := by
  unfold markT sizeT
  have : k = 1 ∨ k = 2 ∨ k = 3 := by omega
  rcases this with rfl | rfl | rfl <;> simp
theorem sz_hi {k : Int} (T : List Int) (h : 4 ≤ k ∧ k ≤ 5) : T ++ bsT k = T ++ sizeT k := by
  unfold bsT sizeT
  have : k = 4 ∨ k = 5 := by omega
  rcases this with rfl | rfl <;> simp
theorem len1 {T : List Int} {b : Int} {n : Nat} (h : T.length ≤ n) : (T ++ [b]).length ≤ n + 1 := by
  rw [List.length_append]; show T.length + 1 ≤ n + 1; omega
theorem k_markOf {mem : ZMem} {r : Int → Int} {L : List Int} {T : List Int} {m : Int} (hM : MX (mem 83) r L) (hm : 0 ≤ m ∧ m < r 3 ∧ r 3 ≤ 7) (hkr : 1 ≤ kd r m ∧ kd r m ≤ 5) (hT : MTr mem T) (hl : T.length ≤ 8) : CI mX7_markOf 3 [zr 79, zi m] mem (fun v mem' => v = markV r m ∧ MTr mem' (T ++ markT (kd r m)) ∧ FrA mem mem') := by
  obtain ⟨c1, c2, c3, c4, c5⟩ := hM.2.2 m (by omega) (by omega)
  have hk : mem 83 (15 + 5 * m + 0) = kd r m := by rw [Int.add_zero]; exact c1
  refine CM.of (by decide +kernel) ([zr 79, zi m, zu, zu]) (zok_all rfl) (Nat.le_of_ble_eq_true rfl) rfl ?_
  refine J_al0 dX7_markOf_0 ?_
  refine M_getR dX7_markOf_1 fl_X7_19 sh_79 rfl ?_
  refine J_il1 dX7_markOf_4 ?_
  refine J_iconst dX7_markOf_5 ?_
  refine M_csI3 dX7_markOf_6 lk_X7_163 cw_X7_of (k_of isW83 (by omega) (by omega)) (by decide) (Nat.le_of_ble_eq_true rfl) (fun v_6 mem_6 hq => ?_)
  obtain ⟨e, hq⟩ := hq; rw [hk] at e; subst e; have hq := hq.symm; subst hq
  refine J_is2 dX7_markOf_9 (by decide) rfl ?_
  refine J_il2 dX7_markOf_10 ?_
  refine J_iconst dX7_markOf_11 ?_
  refine J_clt (tgt := 35) dX7_markOf_12 rfl (by omega) (fun c_12 => ?_) (fun c_12 => ?_)
  · skip
    refine J_il2 dX7_markOf_35 ?_
    refine J_iconst dX7_markOf_36 ?_
    refine J_ceq (tgt := 56) dX7_markOf_37 rfl (by omega) (fun c_37 => ?_) (fun c_37 => ?_)
    · skip
      first
      | have hh9 : MTr mem_53 (T ++ mk0 (kd r m)) ∧ (T ++ mk0 (kd r m)).length ≤ 9 ∧ FrA mem mem_53 := by
          have e : mk0 (kd r m) = [22] := by unfold mk0; rw [if_neg (by omega), if_pos (by omega)]
          rw [e]
          exact ⟨t1, len1 hl, f1⟩
        obtain ⟨hT2, hl2, f2⟩ := hh9
      | have hh9 : MTr mem_53 (T ++ mk0 (kd r m)) ∧ (T ++ mk0 (kd r m)).length ≤ 9 ∧ FrA mem mem_53 := by
          have e : mk0 (kd r m) = [24] := by unfold mk0; rw [if_neg (by omega), if_neg (by omega)]
          rw [e]
          exact ⟨t1, len1 hl, f1⟩
        obtain ⟨hT2, hl2, f2⟩ := hh9
      | have hh9 : MTr mem (T ++ mk0 (kd r m)) ∧ (T ++ mk0 (kd r m)).length ≤ 9 ∧ FrA mem mem := by
          have e : mk0 (kd r m) = [] := by unfold mk0; rw [if_pos (by omega)]
          rw [e, List.append_nil]
          exact ⟨hT, by omega, FrA.rf⟩
        obtain ⟨hT2, hl2, f2⟩ := hh9
      refine J_al0 dX7_markOf_56 ?_
      refine J_bipush dX7_markOf_57 rfl ?_
      refine M_cvV1 dX7_markOf_59 lk_X7_244 cw_X7_began sh_79 rfl rfl (k_began hT2 (by omega)) (by decide) (Nat.le_of_ble_eq_true rfl) (fun mem_59 hq => ?_)
      obtain ⟨t3, f3⟩ := hq
      refine J_al0 dX7_markOf_62 ?_
      refine J_bipush dX7_markOf_63 rfl ?_
      refine M_cvV1 dX7_markOf_65 lk_X7_244 cw_X7_began sh_79 rfl rfl (k_began t3 (Nat.le_trans (len1 hl2) (by omega))) (by decide) (Nat.le_of_ble_eq_true rfl) (fun mem_65 hq => ?_)
      obtain ⟨t4, f4⟩ := hq
      rw [mk_lo T (by omega)] at t4
      have f5 := f2.tr (f3.tr f4)
      have hd : mem_65 83 (15 + 5 * m + 1) = dn r m := by rw [f5.2 83 (by omega) (by omega)]; exact c2
      refine J_il1 dX7_markOf_68 ?_
      refine J_al0 dX7_markOf_69 ?_
      refine M_getR dX7_markOf_70 fl_X7_19 sh_79 rfl ?_
      refine J_il1 dX7_markOf_73 ?_
      refine J_iconst dX7_markOf_74 ?_
      refine M_csI3 dX7_markOf_75 lk_X7_163 cw_X7_of (k_of isW83 (by omega) (by omega)) (by decide) (Nat.le_of_ble_eq_true rfl) (fun v_75 mem_75 hq => ?_)
      obtain ⟨e, hq⟩ := hq; rw [hd] at e; subst e; have hq := hq.symm; subst hq
      refine J_iadd dX7_markOf_78 ?_
      refine J_is3 dX7_markOf_79 (by decide) rfl ?_
      refine J_il2 dX7_markOf_80 ?_
      refine J_iconst dX7_markOf_81 ?_
      refine J_cne (tgt := 89) dX7_markOf_82 rfl (by omega) (fun c_82 => ?_) (fun c_82 => ?_)
      · skip
        refine J_il2 dX7_markOf_89 ?_
        refine J_iconst dX7_markOf_90 ?_
        refine J_cne (tgt := 102) dX7_markOf_91 rfl (by omega) (fun c_91 => ?_) (fun c_91 => ?_)
        · skip
          refine J_iconst dX7_markOf_102 ?_
          refine J_il3 dX7_markOf_103 ?_
          refine J_imul dX7_markOf_104 ?_
          refine M_iret dX7_markOf_105 rfl ?_
          refine ⟨?_, t4, f5⟩
          unfold markV
          first
          | (exfalso; omega)
          | (rw [if_pos (by omega)]; done)
          | (rw [if_neg (by omega), if_pos (by omega)]; omega)
          | (rw [if_neg (by omega), if_neg (by omega), if_pos (by omega)]; done)
        · skip
          refine J_il3 dX7_markOf_94 ?_
          refine J_sipush dX7_markOf_95 rfl ?_
          refine J_isub dX7_markOf_98 ?_
          refine J_goto (tgt := 105) dX7_markOf_99 rfl ?_
          refine M_iret dX7_markOf_105 rfl ?_
          refine ⟨?_, t4, f5⟩
          unfold markV
          first
          | (exfalso; omega)
          | (rw [if_pos (by omega)]; done)
          | (rw [if_neg (by omega), if_pos (by omega)]; omega)
          | (rw [if_neg (by omega), if_neg (by omega), if_pos (by omega)]; done)
      · skip
        refine J_il3 dX7_markOf_85 ?_
        refine J_goto (tgt := 105) dX7_markOf_86 rfl ?_
        refine M_iret dX7_markOf_105 rfl ?_
        refine ⟨?_, t4, f5⟩
        unfold markV
        first
        | (exfalso; omega)
        | (rw [if_pos (by omega)]; done)
        | (rw [if_neg (by omega), if_pos (by omega)]; omega)
        | (rw [if_neg (by omega), if_neg (by omega), if_pos (by omega)]; done)
    · skip
      refine J_al0 dX7_markOf_40 ?_
      refine J_il2 dX7_markOf_41 ?_
      refine J_iconst dX7_markOf_42 ?_
      refine J_cne (tgt := 51) dX7_markOf_43 rfl (by omega) (fun c_43 => ?_) (fun c_43 => ?_)
      · skip
        refine J_bipush dX7_markOf_51 rfl ?_
        refine M_cvV1 dX7_markOf_53 lk_X7_244 cw_X7_began sh_79 rfl rfl (k_began hT (by omega)) (by decide) (Nat.le_of_ble_eq_true rfl) (fun mem_53 hq => ?_)
        obtain ⟨t1, f1⟩ := hq
        first
        | have hh9 : MTr mem_53 (T ++ mk0 (kd r m)) ∧ (T ++ mk0 (kd r m)).length ≤ 9 ∧ FrA mem mem_53 := by
            have e : mk0 (kd r m) = [22] := by unfold mk0; rw [if_neg (by omega), if_pos (by omega)]
            rw [e]
            exact ⟨t1, len1 hl, f1⟩
          obtain ⟨hT2, hl2, f2⟩ := hh9
        | have hh9 : MTr mem_53 (T ++ mk0 (kd r m)) ∧ (T ++ mk0 (kd r m)).length ≤ 9 ∧ FrA mem mem_53 := by
            have e : mk0 (kd r m) = [24] := by unfold mk0; rw [if_neg (by omega), if_neg (by omega)]
            rw [e]
            exact ⟨t1, len1 hl, f1⟩
          obtain ⟨hT2, hl2, f2⟩ := hh9
        | have hh9 : MTr mem (T ++ mk0 (kd r m)) ∧ (T ++ mk0 (kd r m)).length ≤ 9 ∧ FrA mem mem := by
            have e : mk0 (kd r m) = [] := by unfold mk0; rw [if_pos (by omega)]
            rw [e, List.append_nil]
            exact ⟨hT, by omega, FrA.rf⟩
          obtain ⟨hT2, hl2, f2⟩ := hh9
        refine J_al0 dX7_markOf_56 ?_
        refine J_bipush dX7_markOf_57 rfl ?_
        refine M_cvV1 dX7_markOf_59 lk_X7_244 cw_X7_began sh_79 rfl rfl (k_began hT2 (by omega)) (by decide) (Nat.le_of_ble_eq_true rfl) (fun mem_59 hq => ?_)
        obtain ⟨t3, f3⟩ := hq
        refine J_al0 dX7_markOf_62 ?_
        refine J_bipush dX7_markOf_63 rfl ?_
        refine M_cvV1 dX7_markOf_65 lk_X7_244 cw_X7_began sh_79 rfl rfl (k_began t3 (Nat.le_trans (len1 hl2) (by omega))) (by decide) (Nat.le_of_ble_eq_true rfl) (fun mem_65 hq => ?_)
        obtain ⟨t4, f4⟩ := hq
        rw [mk_lo T (by omega)] at t4
        have f5 := f2.tr (f3.tr f4)
        have hd : mem_65 83 (15 + 5 * m + 1) = dn r m := by rw [f5.2 83 (by omega) (by omega)]; exact c2
        refine J_il1 dX7_markOf_68 ?_
        refine J_al0 dX7_markOf_69 ?_
        refine M_getR dX7_markOf_70 fl_X7_19 sh_79 rfl ?_
        refine J_il1 dX7_markOf_73 ?_
        refine J_iconst dX7_markOf_74 ?_
        refine M_csI3 dX7_markOf_75 lk_X7_163 cw_X7_of (k_of isW83 (by omega) (by omega)) (by decide) (Nat.le_of_ble_eq_true rfl) (fun v_75 mem_75 hq => ?_)
        obtain ⟨e, hq⟩ := hq; rw [hd] at e; subst e; have hq := hq.symm; subst hq
        refine J_iadd dX7_markOf_78 ?_
        refine J_is3 dX7_markOf_79 (by decide) rfl ?_
        refine J_il2 dX7_markOf_80 ?_
        refine J_iconst dX7_markOf_81 ?_
        refine J_cne (tgt := 89) dX7_markOf_82 rfl (by omega) (fun c_82 => ?_) (fun c_82 => ?_)
        · skip
          refine J_il2 dX7_markOf_89 ?_
          refine J_iconst dX7_markOf_90 ?_
          refine J_cne (tgt := 102) dX7_markOf_91 rfl (by omega) (fun c_91 => ?_) (fun c_91 => ?_)
          · skip
            refine J_iconst dX7_markOf_102 ?_
            refine J_il3 dX7_markOf_103 ?_
            refine J_imul dX7_markOf_104 ?_
            refine M_iret dX7_markOf_105 rfl ?_
            refine ⟨?_, t4, f5⟩
            unfold markV
            first
            | (exfalso; omega)
            | (rw [if_pos (by omega)]; done)
            | (rw [if_neg (by omega), if_pos (by omega)]; omega)
            | (rw [if_neg (by omega), if_neg (by omega), if_pos (by omega)]; done)
          · skip
            refine J_il3 dX7_markOf_94 ?_
            refine J_sipush dX7_markOf_95 rfl ?_
            refine J_isub dX7_markOf_98 ?_
            refine J_goto (tgt := 105) dX7_markOf_99 rfl ?_
            refine M_iret dX7_markOf_105 rfl ?_
            refine ⟨?_, t4, f5⟩
            unfold markV
            first
            | (exfalso; omega)
            | (rw [if_pos (by omega)]; done)
            | (rw [if_neg (by omega), if_pos (by omega)]; omega)
            | (rw [if_neg (by omega), if_neg (by omega), if_pos (by omega)]; done)
        · skip
          refine J_il3 dX7_markOf_85 ?_
          refine J_goto (tgt := 105) dX7_markOf_86 rfl ?_
          refine M_iret dX7_markOf_105 rfl ?_
          refine ⟨?_, t4, f5⟩
          unfold markV
          first
          | (exfalso; omega)
          | (rw [if_pos (by omega)]; done)
          | (rw [if_neg (by omega), if_pos (by omega)]; omega)
          | (rw [if_neg (by omega), if_neg (by omega), if_pos (by omega)]; done)
      · skip
        refine J_bipush dX7_markOf_46 rfl ?_
        refine J_goto (tgt := 53) dX7_markOf_48 rfl ?_
        refine M_cvV1 dX7_markOf_53 lk_X7_244 cw_X7_began sh_79 rfl rfl (k_began hT (by omega)) (by decide) (Nat.le_of_ble_eq_true rfl) (fun mem_53 hq => ?_)
        obtain ⟨t1, f1⟩ := hq
        first
        | have hh9 : MTr mem_53 (T ++ mk0 (kd r m)) ∧ (T ++ mk0 (kd r m)).length ≤ 9 ∧ FrA mem mem_53 := by
            have e : mk0 (kd r m) = [22] := by unfold mk0; rw [if_neg (by omega), if_pos (by omega)]
            rw [e]
            exact ⟨t1, len1 hl, f1⟩
          obtain ⟨hT2, hl2, f2⟩ := hh9
        | have hh9 : MTr mem_53 (T ++ mk0 (kd r m)) ∧ (T ++ mk0 (kd r m)).length ≤ 9 ∧ FrA mem mem_53 := by
            have e : mk0 (kd r m) = [24] := by unfold mk0; rw [if_neg (by omega), if_neg (by omega)]
            rw [e]
            exact ⟨t1, len1 hl, f1⟩
          obtain ⟨hT2, hl2, f2⟩ := hh9
        | have hh9 : MTr mem (T ++ mk0 (kd r m)) ∧ (T ++ mk0 (kd r m)).length ≤ 9 ∧ FrA mem mem := by
            have e : mk0 (kd r m) = [] := by unfold mk0; rw [if_pos (by omega)]
            rw [e, List.append_nil]
            exact ⟨hT, by omega, FrA.rf⟩
          obtain ⟨hT2, hl2, f2⟩ := hh9
        refine J_al0 dX7_markOf_56 ?_
        refine J_bipush dX7_markOf_57 rfl ?_
        refine M_cvV1 dX7_markOf_59 lk_X7_244 cw_X7_began sh_79 rfl rfl (k_began hT2 (by omega)) (by decide) (Nat.le_of_ble_eq_true rfl) (fun mem_59 hq => ?_)
        obtain ⟨t3, f3⟩ := hq
        refine J_al0 dX7_markOf_62 ?_
        refine J_bipush dX7_markOf_63 rfl ?_
        refine M_cvV1 dX7_markOf_65 lk_X7_244 cw_X7_began sh_79 rfl rfl (k_began t3 (Nat.le_trans (len1 hl2) (by omega))) (by decide) (Nat.le_of_ble_eq_true rfl) (fun mem_65 hq => ?_)
        obtain ⟨t4, f4⟩ := hq
        rw [mk_lo T (by omega)] at t4
        have f5 := f2.tr (f3.tr f4)
        have hd : mem_65 83 (15 + 5 * m + 1) = dn r m := by rw [f5.2 83 (by omega) (by omega)]; exact c2
        refine J_il1 dX7_markOf_68 ?_
        refine J_al0 dX7_markOf_69 ?_
        refine M_getR dX7_markOf_70 fl_X7_19 sh_79 rfl ?_
        refine J_il1 dX7_markOf_73 ?_
        refine J_iconst dX7_markOf_74 ?_
        refine M_csI3 dX7_markOf_75 lk_X7_163 cw_X7_of (k_of isW83 (by omega) (by omega)) (by decide) (Nat.le_of_ble_eq_true rfl) (fun v_75 mem_75 hq => ?_)
        obtain ⟨e, hq⟩ := hq; rw [hd] at e; subst e; have hq := hq.symm; subst hq
        refine J_iadd dX7_markOf_78 ?_
        refine J_is3 dX7_markOf_79 (by decide) rfl ?_
        refine J_il2 dX7_markOf_80 ?_
        refine J_iconst dX7_markOf_81 ?_
        refine J_cne (tgt := 89) dX7_markOf_82 rfl (by omega) (fun c_82 => ?_) (fun c_82 => ?_)
        · skip
          refine J_il2 dX7_markOf_89 ?_
          refine J_iconst dX7_markOf_90 ?_
          refine J_cne (tgt := 102) dX7_markOf_91 rfl (by omega) (fun c_91 => ?_) (fun c_91 => ?_)
          · skip
            refine J_iconst dX7_markOf_102 ?_
            refine J_il3 dX7_markOf_103 ?_
            refine J_imul dX7_markOf_104 ?_
            refine M_iret dX7_markOf_105 rfl ?_
            refine ⟨?_, t4, f5⟩
            unfold markV
            first
            | (exfalso; omega)
            | (rw [if_pos (by omega)]; done)
            | (rw [if_neg (by omega), if_pos (by omega)]; omega)
            | (rw [if_neg (by omega), if_neg (by omega), if_pos (by omega)]; done)
          · skip
            refine J_il3 dX7_markOf_94 ?_
            refine J_sipush dX7_markOf_95 rfl ?_
            refine J_isub dX7_markOf_98 ?_
            refine J_goto (tgt := 105) dX7_markOf_99 rfl ?_
            refine M_iret dX7_markOf_105 rfl ?_
            refine ⟨?_, t4, f5⟩
            unfold markV
            first
            | (exfalso; omega)
            | (rw [if_pos (by omega)]; done)
            | (rw [if_neg (by omega), if_pos (by omega)]; omega)
            | (rw [if_neg (by omega), if_neg (by omega), if_pos (by omega)]; done)
        · skip
          refine J_il3 dX7_markOf_85 ?_
          refine J_goto (tgt := 105) dX7_markOf_86 rfl ?_
          refine M_iret dX7_markOf_105 rfl ?_
          refine ⟨?_, t4, f5⟩
          unfold markV
          first
          | (exfalso; omega)
          | (rw [if_pos (by omega)]; done)
          | (rw [if_neg (by omega), if_pos (by omega)]; omega)
          | (rw [if_neg (by omega), if_neg (by omega), if_pos (by omega)]; done)
  · skip
    refine J_al0 dX7_markOf_15 ?_
    refine J_bipush dX7_markOf_16 rfl ?_
    refine M_cvV1 dX7_markOf_18 lk_X7_244 cw_X7_began sh_79 rfl rfl (k_began hT (by omega)) (by decide) (Nat.le_of_ble_eq_true rfl) (fun mem_18 hq => ?_)
    obtain ⟨t1, f1⟩ := hq
    refine J_al0 dX7_markOf_21 ?_
    refine J_bipush dX7_markOf_22 rfl ?_
    refine M_cvV1 dX7_markOf_24 lk_X7_244 cw_X7_began sh_79 rfl rfl (k_began t1 (Nat.le_trans (len1 hl) (by omega))) (by decide) (Nat.le_of_ble_eq_true rfl) (fun mem_24 hq => ?_)
    obtain ⟨t2, f2⟩ := hq
    have f12 := f1.tr f2
    refine J_il1 dX7_markOf_27 ?_
    refine J_al0 dX7_markOf_28 ?_
    refine J_il1 dX7_markOf_29 ?_
    refine M_cvI1 dX7_markOf_30 lk_X7_250 cw_X7_boreSize sh_79 rfl rfl (k_boreSize (r := r) (L := L) (by rw [f12.2 83 (by omega) (by omega)]; exact hM) hm hkr t2 (Nat.le_trans (len1 (len1 hl)) (by omega))) (by decide) (Nat.le_of_ble_eq_true rfl) (fun v_30 mem_30 hq => ?_)
    obtain ⟨rfl, t3, f3⟩ := hq
    refine J_isub dX7_markOf_33 ?_
    refine M_iret dX7_markOf_34 rfl ?_
    refine ⟨?_, by rw [← mk_hi T (by omega)]; exact t3, f12.tr f3⟩
    unfold markV bsV
    by_cases z : kd r m = 5
    · rw [if_pos z, if_neg (by omega), if_neg (by omega), if_neg (by omega), if_neg (by omega)]
    · rw [if_neg z, if_neg (by omega), if_neg (by omega), if_neg (by omega), if_pos (by omega)]
theorem k_sizeOf {mem : ZMem} {r : Int → Int} {L : List Int} {T : List Int} {m : Int} (hM : MX (mem 83) r L) (hm : 0 ≤ m ∧ m < r 3 ∧ r 3 ≤ 7) (hkr : 1 ≤ kd r m ∧ kd r m ≤ 5) (hT : MTr mem T) (hl : T.length ≤ 4) : CI mX7_sizeOf 4 [zr 79, zi m] mem (fun v mem' => v = sizeV r m ∧ MTr mem' (T ++ sizeT (kd r m)) ∧ FrA mem mem') := by
  obtain ⟨c1, c2, c3, c4, c5⟩ := hM.2.2 m (by omega) (by omega)
  have hk : mem 83 (15 + 5 * m + 0) = kd r m := by rw [Int.add_zero]; exact c1
  refine CM.of (by decide +kernel) ([zr 79, zi m, zu, zu]) (zok_all rfl) (Nat.le_of_ble_eq_true rfl) rfl ?_
  refine J_al0 dX7_sizeOf_0 ?_
  refine M_getR dX7_sizeOf_1 fl_X7_19 sh_79 rfl ?_
  refine J_il1 dX7_sizeOf_4 ?_
  refine J_iconst dX7_sizeOf_5 ?_
  refine M_csI3 dX7_sizeOf_6 lk_X7_163 cw_X7_of (k_of isW83 (by omega) (by omega)) (by decide) (Nat.le_of_ble_eq_true rfl) (fun v_6 mem_6 hq => ?_)
  obtain ⟨e, hq⟩ := hq; rw [hk] at e; subst e; have hq := hq.symm; subst hq
  refine J_is2 dX7_sizeOf_9 (by decide) rfl ?_
  refine J_il2 dX7_sizeOf_10 ?_
  refine J_iconst dX7_sizeOf_11 ?_
  refine J_clt (tgt := 21) dX7_sizeOf_12 rfl (by omega) (fun c_12 => ?_) (fun c_12 => ?_)
  · skip
    refine J_il2 dX7_sizeOf_21 ?_
    refine J_iconst dX7_sizeOf_22 ?_
    refine J_cne (tgt := 32) dX7_sizeOf_23 rfl (by omega) (fun c_23 => ?_) (fun c_23 => ?_)
    · skip
      first
      | have hh9 : MTr mem_29 (T ++ (if kd r m = 2 then [12] else [])) ∧ (T ++ (if kd r m = 2 then [12] else [])).length ≤ 5 ∧ FrA mem mem_29 := by
          rw [if_pos (by omega)]
          exact ⟨t1, len1 hl, f1⟩
        obtain ⟨hT2, hl2, f2⟩ := hh9
      | have hh9 : MTr mem (T ++ (if kd r m = 2 then [12] else [])) ∧ (T ++ (if kd r m = 2 then [12] else [])).length ≤ 5 ∧ FrA mem mem := by
          rw [if_neg (by omega), List.append_nil]
          exact ⟨hT, by omega, FrA.rf⟩
        obtain ⟨hT2, hl2, f2⟩ := hh9
      refine J_al0 dX7_sizeOf_32 ?_
      refine J_bipush dX7_sizeOf_33 rfl ?_
      refine M_cvV1 dX7_sizeOf_35 lk_X7_244 cw_X7_began sh_79 rfl rfl (k_began hT2 (by omega)) (by decide) (Nat.le_of_ble_eq_true rfl) (fun mem_35 hq => ?_)
      obtain ⟨t3, f3⟩ := hq
      have f23 := f2.tr f3
      refine J_al0 dX7_sizeOf_38 ?_
      refine J_il1 dX7_sizeOf_39 ?_
      refine M_cvI1 dX7_sizeOf_40 lk_X7_247 cw_X7_plainSize sh_79 rfl rfl (k_plainSize (W := wm r m) (by omega) (by rw [f23.2 83 (by omega) (by omega)]; exact c4) t3 (Nat.le_trans (len1 hl2) (by omega))) (by decide) (Nat.le_of_ble_eq_true rfl) (fun v_40 mem_40 hq => ?_)
      obtain ⟨rfl, t4, f4⟩ := hq
      have f24 := f23.tr f4
      refine J_is3 dX7_sizeOf_43 (by decide) rfl ?_
      refine J_il3 dX7_sizeOf_44 ?_
      refine J_al0 dX7_sizeOf_45 ?_
      refine J_il1 dX7_sizeOf_46 ?_
      refine M_cvI1 dX7_sizeOf_47 lk_X7_253 cw_X7_markOf sh_79 rfl rfl (k_markOf (r := r) (L := L) (by rw [f24.2 83 (by omega) (by omega)]; exact hM) hm hkr t4 (Nat.le_trans (len1 (len1 hl2)) (by omega))) (by decide) (Nat.le_of_ble_eq_true rfl) (fun v_47 mem_47 hq => ?_)
      obtain ⟨rfl, t5, f5⟩ := hq
      rw [sz_lo T (by omega)] at t5
      refine J_iadd dX7_sizeOf_50 ?_
      refine J_is3 dX7_sizeOf_51 (by decide) rfl ?_
      refine J_il2 dX7_sizeOf_52 ?_
      refine J_iconst dX7_sizeOf_53 ?_
      refine J_cne (tgt := 62) dX7_sizeOf_54 rfl (by omega) (fun c_54 => ?_) (fun c_54 => ?_)
      · skip
        refine J_il3 dX7_sizeOf_62 ?_
        refine M_iret dX7_sizeOf_63 rfl ?_
        refine ⟨?_, t5, f24.tr f5⟩
        unfold sizeV markV
        have hk3 : kd r m = 1 ∨ kd r m = 2 ∨ kd r m = 3 := by omega
        rcases hk3 with z | z | z
        · first | (exfalso; omega) | (rw [if_pos z, if_pos z]; done)
        · first | (exfalso; omega) | (rw [if_neg (by omega), if_pos z, if_neg (by omega), if_pos z]; omega)
        · first | (exfalso; omega) | (rw [if_neg (by omega), if_neg (by omega), if_pos z, if_neg (by omega), if_neg (by omega), if_pos z]; done)
      · skip
        refine J_il3 dX7_sizeOf_57 ?_
        refine J_ineg dX7_sizeOf_58 ?_
        refine J_goto (tgt := 63) dX7_sizeOf_59 rfl ?_
        refine M_iret dX7_sizeOf_63 rfl ?_
        refine ⟨?_, t5, f24.tr f5⟩
        unfold sizeV markV
        have hk3 : kd r m = 1 ∨ kd r m = 2 ∨ kd r m = 3 := by omega
        rcases hk3 with z | z | z
        · first | (exfalso; omega) | (rw [if_pos z, if_pos z]; done)
        · first | (exfalso; omega) | (rw [if_neg (by omega), if_pos z, if_neg (by omega), if_pos z]; omega)
        · first | (exfalso; omega) | (rw [if_neg (by omega), if_neg (by omega), if_pos z, if_neg (by omega), if_neg (by omega), if_pos z]; done)
    · skip
      refine J_al0 dX7_sizeOf_26 ?_
      refine J_bipush dX7_sizeOf_27 rfl ?_
      refine M_cvV1 dX7_sizeOf_29 lk_X7_244 cw_X7_began sh_79 rfl rfl (k_began hT (by omega)) (by decide) (Nat.le_of_ble_eq_true rfl) (fun mem_29 hq => ?_)
      obtain ⟨t1, f1⟩ := hq
      first
      | have hh9 : MTr mem_29 (T ++ (if kd r m = 2 then [12] else [])) ∧ (T ++ (if kd r m = 2 then [12] else [])).length ≤ 5 ∧ FrA mem mem_29 := by
          rw [if_pos (by omega)]
          exact ⟨t1, len1 hl, f1⟩
        obtain ⟨hT2, hl2, f2⟩ := hh9
      | have hh9 : MTr mem (T ++ (if kd r m = 2 then [12] else [])) ∧ (T ++ (if kd r m = 2 then [12] else [])).length ≤ 5 ∧ FrA mem mem := by
          rw [if_neg (by omega), List.append_nil]
          exact ⟨hT, by omega, FrA.rf⟩
        obtain ⟨hT2, hl2, f2⟩ := hh9
      refine J_al0 dX7_sizeOf_32 ?_
      refine J_bipush dX7_sizeOf_33 rfl ?_
      refine M_cvV1 dX7_sizeOf_35 lk_X7_244 cw_X7_began sh_79 rfl rfl (k_began hT2 (by omega)) (by decide) (Nat.le_of_ble_eq_true rfl) (fun mem_35 hq => ?_)
      obtain ⟨t3, f3⟩ := hq
      have f23 := f2.tr f3
      refine J_al0 dX7_sizeOf_38 ?_
      refine J_il1 dX7_sizeOf_39 ?_
      refine M_cvI1 dX7_sizeOf_40 lk_X7_247 cw_X7_plainSize sh_79 rfl rfl (k_plainSize (W := wm r m) (by omega) (by rw [f23.2 83 (by omega) (by omega)]; exact c4) t3 (Nat.le_trans (len1 hl2) (by omega))) (by decide) (Nat.le_of_ble_eq_true rfl) (fun v_40 mem_40 hq => ?_)
      obtain ⟨rfl, t4, f4⟩ := hq
      have f24 := f23.tr f4
      refine J_is3 dX7_sizeOf_43 (by decide) rfl ?_
      refine J_il3 dX7_sizeOf_44 ?_
      refine J_al0 dX7_sizeOf_45 ?_
      refine J_il1 dX7_sizeOf_46 ?_
      refine M_cvI1 dX7_sizeOf_47 lk_X7_253 cw_X7_markOf sh_79 rfl rfl (k_markOf (r := r) (L := L) (by rw [f24.2 83 (by omega) (by omega)]; exact hM) hm hkr t4 (Nat.le_trans (len1 (len1 hl2)) (by omega))) (by decide) (Nat.le_of_ble_eq_true rfl) (fun v_47 mem_47 hq => ?_)
      obtain ⟨rfl, t5, f5⟩ := hq
      rw [sz_lo T (by omega)] at t5
      refine J_iadd dX7_sizeOf_50 ?_
      refine J_is3 dX7_sizeOf_51 (by decide) rfl ?_
      refine J_il2 dX7_sizeOf_52 ?_
      refine J_iconst dX7_sizeOf_53 ?_
      refine J_cne (tgt := 62) dX7_sizeOf_54 rfl (by omega) (fun c_54 => ?_) (fun c_54 => ?_)
      · skip
        refine J_il3 dX7_sizeOf_62 ?_
        refine M_iret dX7_sizeOf_63 rfl ?_
        refine ⟨?_, t5, f24.tr f5⟩
        unfold sizeV markV
        have hk3 : kd r m = 1 ∨ kd r m = 2 ∨ kd r m = 3 := by omega
        rcases hk3 with z | z | z
        · first | (exfalso; omega) | (rw [if_pos z, if_pos z]; done)
        · first | (exfalso; omega) | (rw [if_neg (by omega), if_pos z, if_neg (by omega), if_pos z]; omega)
        · first | (exfalso; omega) | (rw [if_neg (by omega), if_neg (by omega), if_pos z, if_neg (by omega), if_neg (by omega), if_pos z]; done)
      · skip
        refine J_il3 dX7_sizeOf_57 ?_
        refine J_ineg dX7_sizeOf_58 ?_
        refine J_goto (tgt := 63) dX7_sizeOf_59 rfl ?_
        refine M_iret dX7_sizeOf_63 rfl ?_
        refine ⟨?_, t5, f24.tr f5⟩
        unfold sizeV markV
        have hk3 : kd r m = 1 ∨ kd r m = 2 ∨ kd r m = 3 := by omega
        rcases hk3 with z | z | z
        · first | (exfalso; omega) | (rw [if_pos z, if_pos z]; done)
        · first | (exfalso; omega) | (rw [if_neg (by omega), if_pos z, if_neg (by omega), if_pos z]; omega)
        · first | (exfalso; omega) | (rw [if_neg (by omega), if_neg (by omega), if_pos z, if_neg (by omega), if_neg (by omega), if_pos z]; done)
  · skip
    refine J_al0 dX7_sizeOf_15 ?_
    refine J_il1 dX7_sizeOf_16 ?_
    refine M_cvI1 dX7_sizeOf_17 lk_X7_250 cw_X7_boreSize sh_79 rfl rfl (k_boreSize hM hm hkr hT (by omega)) (by decide) (Nat.le_of_ble_eq_true rfl) (fun v_17 mem_17 hq => ?_)
    obtain ⟨rfl, t3, f3⟩ := hq
    refine M_iret dX7_sizeOf_20 rfl ?_
    refine ⟨?_, by rw [← sz_hi T (by omega)]; exact t3, f3⟩
    unfold sizeV bsV
    by_cases z : kd r m = 5
    · rw [if_pos z, if_neg (by omega), if_neg (by omega), if_neg (by omega), if_neg (by omega)]
    · rw [if_neg z, if_neg (by omega), if_neg (by omega), if_neg (by omega), if_pos (by omega)]
theorem MS.tra {mem mem' : ZMem} {S : ZS} {T : List Int} (h : MS mem S) (t : MTr mem' T) (f : FrA mem mem') : MS mem' (S.uTr T) := by
  obtain ⟨g1, g2, g3, g4, g5, g6, g7, g8, g9⟩ := h
  obtain ⟨f1, f2⟩ := f
  refine ⟨?_, ?_, ?_, ?_, ?_, ?_, t, ?_, ?_⟩
  · unfold MRw at g1 ⊢
    rw [f2 80 (by omega) (by omega), f2 81 (by omega) (by omega), f2 82 (by omega) (by omega)]
    exact g1
  · unfold MTp at g2 ⊢
    rw [f1 11 (by omega), f2 87 (by omega) (by omega)]
    exact g2
  · rw [f2 83 (by omega) (by omega)]; exact g3
  · exact g4.ext (f1 9 (by omega)) (f2 86 (by omega) (by omega))
  · unfold MIm at g5 ⊢
    rw [f2 90 (by omega) (by omega), f2 91 (by omega) (by omega)]
    exact g5
  · unfold MIm at g6 ⊢
    rw [f2 90 (by omega) (by omega), f2 91 (by omega) (by omega)]
    exact g6
  · rw [f1 18 (by omega)]; exact g8
  · rw [f1 1 (by omega)]; exact g9
theorem m_ask {mem : ZMem} {S : ZS} (hS : MS mem S) (hI : SInv S) {m w : Int} (hmr : In32 m) (hw : In32 w) : CI mX7_ask 5 [zr 79, zi m, zi w] mem (QM mem (sAsk S m w)) := by
  have hb := hI.bi
  have b1 := hb.1
  have h0 := hS.thr
  have hF : FrM mem (mset mem 79 0 0) := FrM.rf.set (by omega)
  generalize hm : mset mem 79 0 0 = m0 at *
  have hen := h0.men
  have bad : (noM S m ∨ w < 0 ∨ 1 < w) → QM mem (sAsk S m w) (-1000001) m0 := fun q => by unfold sAsk; rw [if_pos q]; exact ⟨rfl, h0, hF⟩
  have f1 : FrA m0 (mset m0 79 24 0) := ⟨fun x hx => mset_i hx, fun q q1 _ => mset_n q1⟩
  have hX : MX (mset m0 79 24 0 83) S.b.1 S.b.2 := by rw [mset_n (by omega)]; exact mbch h0
  have hT : MTr (mset m0 79 24 0) [] := ⟨mset_s _ _ _ _, fun i i0 i1 => absurd i1 (by show ¬ i < ((0 : Nat) : Int); omega)⟩
  refine CM.of (by decide +kernel) ([zr 79, zi m, zi w]) (zok_all rfl) (Nat.le_of_ble_eq_true rfl) rfl ?_
  refine J_al0 dX7_ask_0 ?_
  refine J_iconst dX7_ask_1 ?_
  refine M_put (ki := 0) dX7_ask_2 fl_X7_50 sh_79 rfl rfl rfl (fun r hr => by cases hr; rfl) ?_
  rw [hm]
  refine J_al0 dX7_ask_5 ?_
  refine J_il1 dX7_ask_6 ?_
  refine M_cvI1 dX7_ask_7 lk_X7_199 cw_X7_isMan sh_79 rfl rfl (k_isMan hmr (by omega)) (by decide) (Nat.le_of_ble_eq_true rfl) (fun v_7 mem_7 hq => ?_)
  obtain ⟨rfl, hq⟩ := hq; have hq := hq.symm; subst hq
  refine J_ifeq_b (tgt := 23) dX7_ask_10 rfl (fun c_10 => ?_) (fun c_10 => ?_)
  · skip
    refine J_ldc (n := -1000001) dX7_ask_23 co_X7_70 (by decide) ?_
    refine M_iret dX7_ask_25 rfl ?_
    exact bad (by omega)
  · skip
    refine J_il2 dX7_ask_13 ?_
    refine J_i2l dX7_ask_14 (by omega) ?_
    refine J_lconst0 dX7_ask_15 ?_
    refine J_lconst1 dX7_ask_16 ?_
    refine M_csI3 dX7_ask_17 lk_X7_60 cw_X7_in (k_in (by omega) (by omega) (by omega)) (by decide) (Nat.le_of_ble_eq_true rfl) (fun v_17 mem_17 hq => ?_)
    obtain ⟨rfl, hq⟩ := hq; have hq := hq.symm; subst hq
    refine J_ifne_b (tgt := 26) dX7_ask_20 rfl (fun c_20 => ?_) (fun c_20 => ?_)
    · skip
      have hkr := (hb.2.2.2.2.1 m (by omega) (by omega)).1
      refine J_al0 dX7_ask_26 ?_
      refine J_iconst dX7_ask_27 ?_
      refine M_put (ki := 24) dX7_ask_28 fl_X7_241 sh_79 rfl rfl rfl (fun r hr => by cases hr; rfl) ?_
      refine J_il2 dX7_ask_31 ?_
      refine J_ifne (tgt := 43) dX7_ask_32 rfl (by omega) (fun c_32 => ?_) (fun c_32 => ?_)
      · skip
        refine J_al0 dX7_ask_43 ?_
        refine J_il1 dX7_ask_44 ?_
        refine M_cvI1 dX7_ask_45 lk_X7_253 cw_X7_markOf sh_79 rfl rfl (k_markOf hX (by omega) hkr hT (by decide)) (by decide) (Nat.le_of_ble_eq_true rfl) (fun v_45 mem_45 hq => ?_)
        obtain ⟨rfl, t5, f5⟩ := hq
        refine M_iret dX7_ask_48 rfl ?_
        unfold sAsk; rw [if_neg (by omega)]
        refine ⟨?_, h0.tra ?_ (f1.tr f5), fun q hq => by rw [f5.2 q (by omega) (by omega), f1.2 q (by omega) (by omega)]; exact hF q hq⟩
        · show _ = askV S.b.1 m w
          unfold askV
          first | rw [if_pos (by omega)] | rw [if_neg (by omega)]
        · unfold askT
          first | (rw [if_pos (by omega)]; exact t5) | (rw [if_neg (by omega)]; exact t5)
      · skip
        refine J_al0 dX7_ask_35 ?_
        refine J_il1 dX7_ask_36 ?_
        refine M_cvI1 dX7_ask_37 lk_X7_256 cw_X7_sizeOf sh_79 rfl rfl (k_sizeOf hX (by omega) hkr hT (by decide)) (by decide) (Nat.le_of_ble_eq_true rfl) (fun v_37 mem_37 hq => ?_)
        obtain ⟨rfl, t5, f5⟩ := hq
        refine J_goto (tgt := 48) dX7_ask_40 rfl ?_
        refine M_iret dX7_ask_48 rfl ?_
        unfold sAsk; rw [if_neg (by omega)]
        refine ⟨?_, h0.tra ?_ (f1.tr f5), fun q hq => by rw [f5.2 q (by omega) (by omega), f1.2 q (by omega) (by omega)]; exact hF q hq⟩
        · show _ = askV S.b.1 m w
          unfold askV
          first | rw [if_pos (by omega)] | rw [if_neg (by omega)]
        · unfold askT
          first | (rw [if_pos (by omega)]; exact t5) | (rw [if_neg (by omega)]; exact t5)
    · skip
      refine J_ldc (n := -1000001) dX7_ask_23 co_X7_70 (by decide) ?_
      refine M_iret dX7_ask_25 rfl ?_
      exact bad (by omega)
