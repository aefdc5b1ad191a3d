/-! WHAT IS ASKED -/
def pN (p : Int) : Int := if p < 0 then -1000000 else p
noncomputable def vMan (S : ZS) (m w : Int) : Int := if noM S m then -1000001 else if w = 0 then pN (plc S.b.2 m) else if w = 1 then wm S.b.1 m else if w = 2 then (if 0 < gn S.b.1 m then gn S.b.1 m - S.b.1 4 else -1000000) else if w = 3 then bi (0 ≤ plc S.b.2 m ∧ snyR S.b.1 S.b.2.length (plc S.b.2 m)) else if w = 4 then dn S.b.1 m else if w = 5 then lg S.b.1 m else -1000001
def vPlace (S : ZS) (p : Int) : Int := if S.b.1 3 = 0 then -1000002 else if p < 0 ∨ 6 < p then -1000001 else if p < S.b.2.length then lget S.b.2 p else -1000000
def vSun (S : ZS) (h : Int) : Int := if S.b.1 3 = 0 then -1000002 else if h < 0 ∨ 23 < h then -1000001 else sunR S.b.1 h
noncomputable def vAhead (S : ZS) (m n w : Int) : Int := if noM S m ∨ n < 0 ∨ 60 < n ∨ w < 0 ∨ 1 < w then -1000001 else if w = 0 then pN (plc (hrs n.toNat S.b).1.2 m) else wm (hrs n.toNat S.b).1.1 m
def bstN (r : Int → Int) : Nat → Int
  | 0 => 0
  | k + 1 => if wm r (bstN r k) < wm r (k + 1) then k + 1 else bstN r k
theorem bstN_range (r : Int → Int) : ∀ k : Nat, 0 ≤ bstN r k ∧ bstN r k ≤ k
  | 0 => ⟨Int.le_refl 0, Int.le_refl 0⟩
  | k + 1 => by
    have := bstN_range r k
    unfold bstN
    split <;> omega
noncomputable def vMost (S : ZS) (n w : Int) : Int := if S.b.1 3 = 0 then -1000002 else if n < 0 ∨ 60 < n ∨ w < 0 ∨ 1 < w then -1000001 else if w = 0 then bstN (hrs n.toNat S.b).1.1 (S.b.1 3 - 1).toNat else wm (hrs n.toNat S.b).1.1 (bstN (hrs n.toNat S.b).1.1 (S.b.1 3 - 1).toNat)
noncomputable def vWager (S : ZS) (m o n : Int) : Int := if noM S m ∨ noM S o ∨ m = o ∨ n < 1 ∨ 60 < n then -1000001 else wm (hrs n.toNat S.b).1.1 m - wm (hrs n.toNat S.b).1.1 o + 1000
noncomputable def vCalls (S : ZS) (n : Int) : Int := if S.b.1 3 = 0 then -1000002 else if n < 1 ∨ 60 < n then -1000001 else (hrs n.toNat S.b).2
def vKind (S : ZS) (m : Int) : Int := if noM S m then -1000001 else kd S.b.1 m
noncomputable def sAs (S : ZS) (m k : Int) : Int × ZS := if noM S m ∨ k < 0 ∨ 5 < k then (-1000001, S) else cif (isof (kd S.b.1 m) k) (m, S.uSt 0) (-1000013, S.uSt 3)
def sAsk (S : ZS) (m w : Int) : Int × ZS := if noM S m ∨ w < 0 ∨ 1 < w then (-1000001, S) else (askV S.b.1 m w, S.uTr (askT S.b.1 m w))
def vTrace (S : ZS) (i : Int) : Int := if i < 0 ∨ (S.tr.length : Int) - 1 < i then -1000000 else lget S.tr i
noncomputable def vCount (S : ZS) (w : Int) : Int := if w = 0 then prs (fun x => bi (0 ≤ S.ln x)) 8 else if w = 1 then S.b.1 3 else if w = 2 then sitB S.b.2 S.b.2.length else if w = 3 then S.b.1 4 else if w = 4 then S.b.1 6 else if w = 5 then S.b.1 5 else if w = 6 then (S.U.length : Int) else if w = 7 then S.n else -1000001
def sImage (S : ZS) (k : Int) : Int × ZS := if k < 0 ∨ 1 < k then (-1000001, S) else if S.b.1 3 = 0 then (-1000002, S) else (1, if k = 0 then S.uIm S.b S.i1 else S.uIm S.i0 S.b)
def sRestore (S : ZS) (k : Int) : Int × ZS := if k < 0 ∨ 1 < k then (-1000001, S) else if (if k = 0 then S.i0 else S.i1).1 3 = 0 then (-1000002, S) else (1, S.uB (if k = 0 then S.i0 else S.i1) [])
theorem bch {mem : ZMem} {S : ZS} (h : CS mem S) : CB mem 16 S.b.1 S.b.2 := h.2.2.1
theorem k_placeOrNone {mem : ZMem} {j : Nat} {r : Int → Int} {L : List Int} (hj : isB j) (hC : CB mem j r L) (hI : BInv r L) {man : Int} (hm : In32 man) : CI mX6_placeOrNone 1 [zr j, zi man] mem (fun v mem' => v = pN (plc L man) ∧ mem' = mem) := by
  have hp := plc_range L man
  have hl := hI.len
  have h3 := hI.1
  refine CM.of (by decide +kernel) ([zr j, zi man, zu]) (zok_all rfl) (Nat.le_of_ble_eq_true rfl) rfl ?_
  refine J_al0 dX6_placeOrNone_0 ?_
  refine J_il1 dX6_placeOrNone_1 ?_
  refine M_cvI1 dX6_placeOrNone_2 lk_X6_162 cw_X2_placeOf (isB_sh hj) rfl rfl (k_placeOf hj hC hI hm) (by decide) (Nat.le_of_ble_eq_true rfl) (fun v_2 mem_2 hq => ?_)
  obtain ⟨rfl, hq⟩ := hq; have hq := hq.symm; subst hq
  refine J_is2 dX6_placeOrNone_5 (by decide) rfl ?_
  refine J_il2 dX6_placeOrNone_6 ?_
  refine J_ifge (tgt := 15) dX6_placeOrNone_7 rfl (by omega) (fun c_7 => ?_) (fun c_7 => ?_)
  · skip
    refine J_il2 dX6_placeOrNone_15 ?_
    refine M_iret dX6_placeOrNone_16 rfl ?_
    exact ⟨by unfold pN; first | rw [if_pos (by omega)] | rw [if_neg (by omega)], rfl⟩
  · skip
    refine J_ldc (n := -1000000) dX6_placeOrNone_10 co_X6_203 (by decide) ?_
    refine J_goto (tgt := 16) dX6_placeOrNone_12 rfl ?_
    refine M_iret dX6_placeOrNone_16 rfl ?_
    exact ⟨by unfold pN; first | rw [if_pos (by omega)] | rw [if_neg (by omega)], rfl⟩
theorem k_foretell {mem : ZMem} {j : Nat} {r : Int → Int} {L : List Int} (hj : isB j) (hj2 : j = 63 ∨ j = 70) (hC : CB mem 16 r L) (hI : BInv r L) {n : Int} (hn : 0 ≤ n ∧ n ≤ 60) (hh : r 4 ≤ 999) : CI mX6_foretell 7 [zr 0, zr j, zi n] mem (fun v mem' => v = (hrs n.toNat (r, L)).2 ∧ CB mem' j (hrs n.toNat (r, L)).1.1 (hrs n.toNat (r, L)).1.2 ∧ FrB j mem mem') := by
  have hl := hI.len
  have h3 := hI.1
  refine CM.of (by decide +kernel) ([zr 0, zr j, zi n]) (zok_all rfl) (Nat.le_of_ble_eq_true rfl) rfl ?_
  refine J_al1 dX6_foretell_0 ?_
  refine J_al0 dX6_foretell_1 ?_
  refine M_getR dX6_foretell_2 fl_X6_26 sh_0 rfl ?_
  refine M_cvV1 dX6_foretell_5 lk_X6_128 cw_X2_become (isB_sh hj) rfl rfl (k_become hj (Or.inl rfl) (by omega) hC (by omega) (by omega) hI.2.2.2.2.2.2.2) (by decide) (Nat.le_of_ble_eq_true rfl) (fun mem_5 hq => ?_)
  obtain ⟨hB, hF⟩ := hq
  refine J_al1 dX6_foretell_8 ?_
  refine J_il2 dX6_foretell_9 ?_
  refine M_cvI1 dX6_foretell_10 lk_X6_222 cw_X2_passHours (isB_sh hj) rfl rfl (k_passHours hj hB hI (by omega) (by omega)) (by decide) (Nat.le_of_ble_eq_true rfl) (fun v_10 mem_10 hq => ?_)
  obtain ⟨rfl, hB2, hF2⟩ := hq
  refine M_iret dX6_foretell_13 rfl ?_
  exact ⟨rfl, hB2, hF.tr hF2⟩
theorem c_man {mem : ZMem} {S : ZS} (hC : CS mem S) (hI : SInv S) {m w : Int} (hm : In32 m) (hw : In32 w) : CI mX6_man 4 [zr 0, zi m, zi w] mem (QS mem (vMan S m w, S)) := by
  have hb := hI.bi
  have hen := hC.men
  have b1 := hb.1
  have hr := hI.hr
  have hB := bch hC
  have h6 : mem 16 6 = S.b.1 4 := hB.1.2.2.2.1
  have go : ∀ v : Int, v = vMan S m w → QS mem (vMan S m w, S) v mem := fun v e => ⟨e, hC, FrC.rf⟩
  refine CM.of (by decide +kernel) ([zr 0, zi m, zi w]) (zok_all rfl) (Nat.le_of_ble_eq_true rfl) rfl ?_
  refine J_al0 dX6_man_0 ?_
  refine J_il1 dX6_man_1 ?_
  refine M_cvI1 dX6_man_2 lk_X6_159 cw_X6_noMan sh_0 rfl rfl (k_noMan hm (by omega)) (by decide) (Nat.le_of_ble_eq_true rfl) (fun v_2 mem_2 hq => ?_)
  obtain ⟨rfl, hq⟩ := hq; have hq := hq.symm; subst hq
  refine J_ifeq_b (tgt := 11) dX6_man_5 rfl (fun c_5 => ?_) (fun c_5 => ?_)
  · skip
    obtain ⟨k1, k2, k3, k5, k6⟩ := hB.2.2 m (by omega) (by omega)
    have hg := (hb.2.2.2.2.1 m (by omega) (by omega)).2.2.2.2.1
    refine J_il2 dX6_man_11 ?_
    by_cases c_12 : w < 0 ∨ 5 < w
    · skip
      refine J_tsOut (tgt := 142) dX6_man_12 c_12 (by omega) rfl ?_
      refine J_ldc (n := -1000001) dX6_man_142 co_X6_71 (by decide) ?_
      refine M_iret dX6_man_144 rfl ?_
      exact go _ (by unfold vMan; rw [if_neg (by omega), if_neg (by omega), if_neg (by omega), if_neg (by omega), if_neg (by omega), if_neg (by omega), if_neg (by omega)])
    have c_12 : w = 0 ∨ w = 1 ∨ w = 2 ∨ w = 3 ∨ w = 4 ∨ w = 5 := by omega
    rcases c_12 with e_12 | e_12 | e_12 | e_12 | e_12 | e_12
    · skip
      refine J_tsIn (off := 40) (tgt := 52) dX6_man_12 (by omega) (by omega) (by omega) (by rw [e_12]; rfl) rfl ?_
      refine J_al0 dX6_man_52 ?_
      refine M_getR dX6_man_53 fl_X6_26 sh_0 rfl ?_
      refine J_il1 dX6_man_56 ?_
      refine M_csI2 dX6_man_57 lk_X6_189 cw_X6_placeOrNone (k_placeOrNone (Or.inl rfl) hB hb hm) (by decide) (Nat.le_of_ble_eq_true rfl) (fun v_57 mem_57 hq => ?_)
      obtain ⟨rfl, hq⟩ := hq; have hq := hq.symm; subst hq
      refine M_iret dX6_man_60 rfl ?_
      exact go _ (by unfold vMan; rw [if_neg (by omega), if_pos (by omega)])
    · skip
      refine J_tsIn (off := 49) (tgt := 61) dX6_man_12 (by omega) (by omega) (by omega) (by rw [e_12]; rfl) rfl ?_
      refine J_al0 dX6_man_61 ?_
      refine M_getR dX6_man_62 fl_X6_26 sh_0 rfl ?_
      refine M_getR dX6_man_65 fl_X6_193 sh_16 rfl ?_
      refine J_il1 dX6_man_68 ?_
      refine M_ald dX6_man_69 sh_21 (by decide) (by omega) ?_
      refine M_iret dX6_man_70 rfl ?_
      exact go _ (by unfold vMan; rw [if_neg (by omega), if_neg (by omega), if_pos (by omega)]; exact k5)
    · skip
      refine J_tsIn (off := 59) (tgt := 71) dX6_man_12 (by omega) (by omega) (by omega) (by rw [e_12]; rfl) rfl ?_
      refine J_al0 dX6_man_71 ?_
      refine M_getR dX6_man_72 fl_X6_26 sh_0 rfl ?_
      refine J_il1 dX6_man_75 ?_
      refine M_cvI1 dX6_man_76 lk_X6_197 cw_X2_isAtDinner sh_16 rfl rfl (k_isAtDinner (Or.inl rfl) hB hb (by omega) (by omega) (by omega)) (by decide) (Nat.le_of_ble_eq_true rfl) (fun v_76 mem_76 hq => ?_)
      obtain ⟨rfl, hq⟩ := hq; have hq := hq.symm; subst hq
      refine J_ifeq_b (tgt := 102) dX6_man_79 rfl (fun c_79 => ?_) (fun c_79 => ?_)
      · skip
        refine J_ldc (n := -1000000) dX6_man_102 co_X6_203 (by decide) ?_
        refine M_iret dX6_man_104 rfl ?_
        first
        | exact go _ (by unfold vMan; rw [if_neg (by omega), if_neg (by omega), if_neg (by omega), if_pos (by omega), if_neg (by omega)])
        | exact go _ (by unfold vMan; rw [if_neg (by omega), if_neg (by omega), if_neg (by omega), if_pos (by omega), if_pos (by omega), h6]; rw [show mem 22 m = _ from k6, bk_pos (by omega)])
      · skip
        refine J_al0 dX6_man_82 ?_
        refine M_getR dX6_man_83 fl_X6_26 sh_0 rfl ?_
        refine M_getR dX6_man_86 fl_X6_200 sh_16 rfl ?_
        refine J_il1 dX6_man_89 ?_
        refine M_ald dX6_man_90 sh_22 (by decide) (by omega) ?_
        refine J_al0 dX6_man_91 ?_
        refine M_getR dX6_man_92 fl_X6_26 sh_0 rfl ?_
        refine M_get (ki := 6) dX6_man_95 fl_X6_146 sh_16 rfl rfl ?_
        refine J_isub dX6_man_98 ?_
        refine J_goto (tgt := 104) dX6_man_99 rfl ?_
        refine M_iret dX6_man_104 rfl ?_
        first
        | exact go _ (by unfold vMan; rw [if_neg (by omega), if_neg (by omega), if_neg (by omega), if_pos (by omega), if_neg (by omega)])
        | exact go _ (by unfold vMan; rw [if_neg (by omega), if_neg (by omega), if_neg (by omega), if_pos (by omega), if_pos (by omega), h6]; rw [show mem 22 m = _ from k6, bk_pos (by omega)])
    · skip
      refine J_tsIn (off := 93) (tgt := 105) dX6_man_12 (by omega) (by omega) (by omega) (by rw [e_12]; rfl) rfl ?_
      refine J_al0 dX6_man_105 ?_
      refine M_getR dX6_man_106 fl_X6_26 sh_0 rfl ?_
      refine J_il1 dX6_man_109 ?_
      refine M_cvI1 dX6_man_110 lk_X6_204 cw_X2_sitsInSun sh_16 rfl rfl (k_sitsInSun (Or.inl rfl) hB hb hm (by omega)) (by decide) (Nat.le_of_ble_eq_true rfl) (fun v_110 mem_110 hq => ?_)
      obtain ⟨rfl, hq⟩ := hq; have hq := hq.symm; subst hq
      refine J_ifeq_b (tgt := 120) dX6_man_113 rfl (fun c_113 => ?_) (fun c_113 => ?_)
      · skip
        refine J_iconst dX6_man_120 ?_
        refine M_iret dX6_man_121 rfl ?_
        exact go _ (by unfold vMan; rw [if_neg (by omega), if_neg (by omega), if_neg (by omega), if_neg (by omega), if_pos (by omega)]; first | exact (bi_t c_113).symm | exact (bi_f c_113).symm)
      · skip
        refine J_iconst dX6_man_116 ?_
        refine J_goto (tgt := 121) dX6_man_117 rfl ?_
        refine M_iret dX6_man_121 rfl ?_
        exact go _ (by unfold vMan; rw [if_neg (by omega), if_neg (by omega), if_neg (by omega), if_neg (by omega), if_pos (by omega)]; first | exact (bi_t c_113).symm | exact (bi_f c_113).symm)
    · skip
      refine J_tsIn (off := 110) (tgt := 122) dX6_man_12 (by omega) (by omega) (by omega) (by rw [e_12]; rfl) rfl ?_
      refine J_al0 dX6_man_122 ?_
      refine M_getR dX6_man_123 fl_X6_26 sh_0 rfl ?_
      refine M_getR dX6_man_126 fl_X6_207 sh_16 rfl ?_
      refine J_il1 dX6_man_129 ?_
      refine M_ald dX6_man_130 sh_18 (by decide) (by omega) ?_
      refine M_iret dX6_man_131 rfl ?_
      exact go _ (by unfold vMan; rw [if_neg (by omega), if_neg (by omega), if_neg (by omega), if_neg (by omega), if_neg (by omega), if_pos (by omega)]; exact k2)
    · skip
      refine J_tsIn (off := 120) (tgt := 132) dX6_man_12 (by omega) (by omega) (by omega) (by rw [e_12]; rfl) rfl ?_
      refine J_al0 dX6_man_132 ?_
      refine M_getR dX6_man_133 fl_X6_26 sh_0 rfl ?_
      refine M_getR dX6_man_136 fl_X6_210 sh_16 rfl ?_
      refine J_il1 dX6_man_139 ?_
      refine M_ald dX6_man_140 sh_19 (by decide) (by omega) ?_
      refine M_iret dX6_man_141 rfl ?_
      exact go _ (by unfold vMan; rw [if_neg (by omega), if_neg (by omega), if_neg (by omega), if_neg (by omega), if_neg (by omega), if_neg (by omega), if_pos (by omega)]; exact k3)
  · skip
    refine J_ldc (n := -1000001) dX6_man_8 co_X6_71 (by decide) ?_
    refine M_iret dX6_man_10 rfl ?_
    exact go _ (by unfold vMan; rw [if_pos (by omega)])
theorem c_place {mem : ZMem} {S : ZS} (hC : CS mem S) (hI : SInv S) {p : Int} (hp : In32 p) : CI mX6_place 2 [zr 0, zi p] mem (QS mem (vPlace S p, S)) := by
  have hb := hI.bi
  have hen := hC.men
  have b1 := hb.1
  have hl := hb.len
  have hB := bch hC
  have h9 : mem 16 9 = (S.b.2.length : Int) := hB.1.2.2.2.2.2.2
  have go : ∀ v : Int, v = vPlace S p → QS mem (vPlace S p, S) v mem := fun v e => ⟨e, hC, FrC.rf⟩
  refine CM.of (by decide +kernel) ([zr 0, zi p]) (zok_all rfl) (Nat.le_of_ble_eq_true rfl) rfl ?_
  refine J_al0 dX6_place_0 ?_
  refine M_cvI0 dX6_place_1 lk_X6_143 cw_X6_noBench sh_0 rfl rfl (k_noBench (by omega)) (by decide) (Nat.le_of_ble_eq_true rfl) (fun v_1 mem_1 hq => ?_)
  obtain ⟨rfl, hq⟩ := hq; have hq := hq.symm; subst hq
  refine J_ifeq_b (tgt := 10) dX6_place_4 rfl (fun c_4 => ?_) (fun c_4 => ?_)
  · skip
    refine J_il1 dX6_place_10 ?_
    refine J_iconst dX6_place_11 ?_
    refine J_bipush dX6_place_12 rfl ?_
    refine M_csI3 dX6_place_14 lk_X6_67 cw_X6_outside (k_outside hp (by omega) (by omega)) (by decide) (Nat.le_of_ble_eq_true rfl) (fun v_14 mem_14 hq => ?_)
    obtain ⟨rfl, hq⟩ := hq; have hq := hq.symm; subst hq
    refine J_ifeq_b (tgt := 23) dX6_place_17 rfl (fun c_17 => ?_) (fun c_17 => ?_)
    · skip
      refine J_il1 dX6_place_23 ?_
      refine J_al0 dX6_place_24 ?_
      refine M_getR dX6_place_25 fl_X6_26 sh_0 rfl ?_
      refine M_get (ki := 9) dX6_place_28 fl_X6_175 sh_16 rfl rfl ?_
      refine J_cge (tgt := 46) dX6_place_31 rfl (by omega) (fun c_31 => ?_) (fun c_31 => ?_)
      · skip
        refine J_ldc (n := -1000000) dX6_place_46 co_X6_203 (by decide) ?_
        refine M_iret dX6_place_48 rfl ?_
        first
        | exact go _ (by unfold vPlace; rw [if_neg (by omega), if_neg (by omega), if_neg (by omega)])
        | exact go _ (by unfold vPlace; rw [if_neg (by omega), if_neg (by omega), if_pos (by omega)]; exact hB.2.1 p (by omega) (by omega))
      · skip
        refine J_al0 dX6_place_34 ?_
        refine M_getR dX6_place_35 fl_X6_26 sh_0 rfl ?_
        refine M_getR dX6_place_38 fl_X6_213 sh_16 rfl ?_
        refine J_il1 dX6_place_41 ?_
        refine M_ald dX6_place_42 sh_20 (by decide) (by omega) ?_
        refine J_goto (tgt := 48) dX6_place_43 rfl ?_
        refine M_iret dX6_place_48 rfl ?_
        first
        | exact go _ (by unfold vPlace; rw [if_neg (by omega), if_neg (by omega), if_neg (by omega)])
        | exact go _ (by unfold vPlace; rw [if_neg (by omega), if_neg (by omega), if_pos (by omega)]; exact hB.2.1 p (by omega) (by omega))
    · skip
      refine J_ldc (n := -1000001) dX6_place_20 co_X6_71 (by decide) ?_
      refine M_iret dX6_place_22 rfl ?_
      exact go _ (by unfold vPlace; rw [if_neg (by omega), if_pos (by omega)])
  · skip
    refine J_ldc (n := -1000002) dX6_place_7 co_X6_139 (by decide) ?_
    refine M_iret dX6_place_9 rfl ?_
    exact go _ (by unfold vPlace; rw [if_pos (by omega)])
theorem c_sun {mem : ZMem} {S : ZS} (hC : CS mem S) (hI : SInv S) {h : Int} (hh : In32 h) : CI mX6_sun 2 [zr 0, zi h] mem (QS mem (vSun S h, S)) := by
  have hb := hI.bi
  have hen := hC.men
  have b1 := hb.1
  have hB := bch hC
  have go : ∀ v : Int, v = vSun S h → QS mem (vSun S h, S) v mem := fun v e => ⟨e, hC, FrC.rf⟩
  refine CM.of (by decide +kernel) ([zr 0, zi h]) (zok_all rfl) (Nat.le_of_ble_eq_true rfl) rfl ?_
  refine J_al0 dX6_sun_0 ?_
  refine M_cvI0 dX6_sun_1 lk_X6_143 cw_X6_noBench sh_0 rfl rfl (k_noBench (by omega)) (by decide) (Nat.le_of_ble_eq_true rfl) (fun v_1 mem_1 hq => ?_)
  obtain ⟨rfl, hq⟩ := hq; have hq := hq.symm; subst hq
  refine J_ifeq_b (tgt := 10) dX6_sun_4 rfl (fun c_4 => ?_) (fun c_4 => ?_)
  · skip
    refine J_il1 dX6_sun_10 ?_
    refine J_iconst dX6_sun_11 ?_
    refine J_bipush dX6_sun_12 rfl ?_
    refine M_csI3 dX6_sun_14 lk_X6_67 cw_X6_outside (k_outside hh (by omega) (by omega)) (by decide) (Nat.le_of_ble_eq_true rfl) (fun v_14 mem_14 hq => ?_)
    obtain ⟨rfl, hq⟩ := hq; have hq := hq.symm; subst hq
    refine J_ifeq_b (tgt := 25) dX6_sun_17 rfl (fun c_17 => ?_) (fun c_17 => ?_)
    · skip
      refine J_al0 dX6_sun_25 ?_
      refine M_getR dX6_sun_26 fl_X6_26 sh_0 rfl ?_
      refine J_il1 dX6_sun_29 ?_
      refine M_cvI1 dX6_sun_30 lk_X6_216 cw_X2_sunIn sh_16 rfl rfl (k_sunIn (Or.inl rfl) hB hb.lt (by omega)) (by decide) (Nat.le_of_ble_eq_true rfl) (fun v_30 mem_30 hq => ?_)
      obtain ⟨rfl, hq⟩ := hq; have hq := hq.symm; subst hq
      refine M_iret dX6_sun_33 rfl ?_
      first
      | exact go _ (by unfold vSun; rw [if_neg (by omega), if_pos (by omega)])
      | exact go _ (by unfold vSun; rw [if_neg (by omega), if_neg (by omega)])
    · skip
      refine J_ldc (n := -1000001) dX6_sun_20 co_X6_71 (by decide) ?_
      refine J_goto (tgt := 33) dX6_sun_22 rfl ?_
      refine M_iret dX6_sun_33 rfl ?_
      first
      | exact go _ (by unfold vSun; rw [if_neg (by omega), if_pos (by omega)])
      | exact go _ (by unfold vSun; rw [if_neg (by omega), if_neg (by omega)])
  · skip
    refine J_ldc (n := -1000002) dX6_sun_7 co_X6_139 (by decide) ?_
    refine M_iret dX6_sun_9 rfl ?_
    exact go _ (by unfold vSun; rw [if_pos (by omega)])
theorem c_kind {mem : ZMem} {S : ZS} (hC : CS mem S) (hI : SInv S) {m : Int} (hm : In32 m) : CI mX6_kind 2 [zr 0, zi m] mem (QS mem (vKind S m, S)) := by
  have b1 := hI.bi.1
  have hen := hC.men
  have hB := bch hC
  have go : ∀ v : Int, v = vKind S m → QS mem (vKind S m, S) v mem := fun v e => ⟨e, hC, FrC.rf⟩
  refine CM.of (by decide +kernel) ([zr 0, zi m]) (zok_all rfl) (Nat.le_of_ble_eq_true rfl) rfl ?_
  refine J_al0 dX6_kind_0 ?_
  refine J_il1 dX6_kind_1 ?_
  refine M_cvI1 dX6_kind_2 lk_X6_159 cw_X6_noMan sh_0 rfl rfl (k_noMan hm (by omega)) (by decide) (Nat.le_of_ble_eq_true rfl) (fun v_2 mem_2 hq => ?_)
  obtain ⟨rfl, hq⟩ := hq; have hq := hq.symm; subst hq
  refine J_ifeq_b (tgt := 13) dX6_kind_5 rfl (fun c_5 => ?_) (fun c_5 => ?_)
  · skip
    refine J_al0 dX6_kind_13 ?_
    refine M_getR dX6_kind_14 fl_X6_26 sh_0 rfl ?_
    refine M_getR dX6_kind_17 fl_X6_230 sh_16 rfl ?_
    refine J_il1 dX6_kind_20 ?_
    refine M_ald dX6_kind_21 sh_17 (by decide) (by omega) ?_
    refine M_iret dX6_kind_22 rfl ?_
    first
    | exact go _ (by unfold vKind; rw [if_pos (by omega)])
    | exact go _ (by unfold vKind; rw [if_neg (by omega)]; exact (hB.2.2 m (by omega) (by omega)).1)
  · skip
    refine J_ldc (n := -1000001) dX6_kind_8 co_X6_71 (by decide) ?_
    refine J_goto (tgt := 22) dX6_kind_10 rfl ?_
    refine M_iret dX6_kind_22 rfl ?_
    first
    | exact go _ (by unfold vKind; rw [if_pos (by omega)])
    | exact go _ (by unfold vKind; rw [if_neg (by omega)]; exact (hB.2.2 m (by omega) (by omega)).1)
theorem c_as {mem : ZMem} {S : ZS} (hC : CS mem S) (hI : SInv S) {m k : Int} (hm : In32 m) (hk : In32 k) : CI mX6_as 4 [zr 0, zi m, zi k] mem (QS mem (sAs S m k)) := by
  have hb := hI.bi
  have b1 := hb.1
  have hen := hC.men
  have hB := bch hC
  refine CM.of (by decide +kernel) ([zr 0, zi m, zi k]) (zok_all rfl) (Nat.le_of_ble_eq_true rfl) rfl ?_
  refine J_al0 dX6_as_0 ?_
  refine J_il1 dX6_as_1 ?_
  refine M_cvI1 dX6_as_2 lk_X6_159 cw_X6_noMan sh_0 rfl rfl (k_noMan hm (by omega)) (by decide) (Nat.le_of_ble_eq_true rfl) (fun v_2 mem_2 hq => ?_)
  obtain ⟨rfl, hq⟩ := hq; have hq := hq.symm; subst hq
  refine J_ifne_b (tgt := 17) dX6_as_5 rfl (fun c_5 => ?_) (fun c_5 => ?_)
  · skip
    refine J_ldc (n := -1000001) dX6_as_17 co_X6_71 (by decide) ?_
    refine M_iret dX6_as_19 rfl ?_
    unfold sAs; rw [if_pos (by omega)]; exact ⟨rfl, hC, FrC.rf⟩
  · skip
    refine J_il2 dX6_as_8 ?_
    refine J_iconst dX6_as_9 ?_
    refine J_iconst dX6_as_10 ?_
    refine M_csI3 dX6_as_11 lk_X6_67 cw_X6_outside (k_outside hk (by omega) (by omega)) (by decide) (Nat.le_of_ble_eq_true rfl) (fun v_11 mem_11 hq => ?_)
    obtain ⟨rfl, hq⟩ := hq; have hq := hq.symm; subst hq
    refine J_ifeq_b (tgt := 20) dX6_as_14 rfl (fun c_14 => ?_) (fun c_14 => ?_)
    · skip
      have hkm : mem 17 m = kd S.b.1 m := (hB.2.2 m (by omega) (by omega)).1
      have hkr := (hb.2.2.2.2.1 m (by omega) (by omega)).1
      refine J_al0 dX6_as_20 ?_
      refine M_getR dX6_as_21 fl_X6_26 sh_0 rfl ?_
      refine M_getR dX6_as_24 fl_X6_230 sh_16 rfl ?_
      refine J_il1 dX6_as_27 ?_
      refine M_ald dX6_as_28 sh_17 (by decide) (by omega) ?_
      rw [hkm]
      refine J_il2 dX6_as_29 ?_
      refine M_csI2 dX6_as_30 lk_X6_277 cw_X3_isOne (k_isOne hkr (by omega)) (by decide) (Nat.le_of_ble_eq_true rfl) (fun v_30 mem_30 hq => ?_)
      obtain ⟨rfl, hq⟩ := hq; have hq := hq.symm; subst hq
      refine J_ifeq_b (tgt := 44) dX6_as_33 rfl (fun c_33 => ?_) (fun c_33 => ?_)
      · skip
        refine J_al0 dX6_as_44 ?_
        refine J_iconst dX6_as_45 ?_
        refine M_cvI1 dX6_as_46 lk_X6_72 cw_X6_finding sh_0 rfl rfl k_finding (by decide) (Nat.le_of_ble_eq_true rfl) (fun v_46 mem_46 hq => ?_)
        obtain ⟨rfl, hq⟩ := hq; have hq := hq.symm; subst hq
        refine M_iret dX6_as_49 rfl ?_
        first
        | (unfold sAs; rw [if_neg (by omega), cif_t c_33]; exact ⟨e, hC.fnd 0, FrC.rf.set (by omega)⟩)
        | (unfold sAs; rw [if_neg (by omega), cif_f c_33]; exact ⟨rfl, hC.fnd 3, FrC.rf.set (by omega)⟩)
      · skip
        refine J_al0 dX6_as_36 ?_
        refine J_il1 dX6_as_37 ?_
        refine M_cvI1 dX6_as_38 lk_X6_80 cw_X6_noFinding sh_0 rfl rfl k_noFinding (by decide) (Nat.le_of_ble_eq_true rfl) (fun v_38 mem_38 hq => ?_)
        obtain ⟨e, hq⟩ := hq; have hq := hq.symm; subst hq
        refine J_goto (tgt := 49) dX6_as_41 rfl ?_
        refine M_iret dX6_as_49 rfl ?_
        first
        | (unfold sAs; rw [if_neg (by omega), cif_t c_33]; exact ⟨e, hC.fnd 0, FrC.rf.set (by omega)⟩)
        | (unfold sAs; rw [if_neg (by omega), cif_f c_33]; exact ⟨rfl, hC.fnd 3, FrC.rf.set (by omega)⟩)
    · skip
      refine J_ldc (n := -1000001) dX6_as_17 co_X6_71 (by decide) ?_
      refine M_iret dX6_as_19 rfl ?_
      unfold sAs; rw [if_pos (by omega)]; exact ⟨rfl, hC, FrC.rf⟩
theorem c_ask {mem : ZMem} {S : ZS} (hC : CS mem S) (hI : SInv S) {m w : Int} (hm : In32 m) (hw : In32 w) : CI mX6_ask 9 [zr 0, zi m, zi w] mem (QS mem (sAsk S m w)) := by
  have hb := hI.bi
  have b1 := hb.1
  have hen := hC.men
  have hB := bch hC
  refine CM.of (by decide +kernel) ([zr 0, zi m, zi w]) (zok_all rfl) (Nat.le_of_ble_eq_true rfl) rfl ?_
  refine J_al0 dX6_ask_0 ?_
  refine J_il1 dX6_ask_1 ?_
  refine M_cvI1 dX6_ask_2 lk_X6_159 cw_X6_noMan sh_0 rfl rfl (k_noMan hm (by omega)) (by decide) (Nat.le_of_ble_eq_true rfl) (fun v_2 mem_2 hq => ?_)
  obtain ⟨rfl, hq⟩ := hq; have hq := hq.symm; subst hq
  refine J_ifne_b (tgt := 17) dX6_ask_5 rfl (fun c_5 => ?_) (fun c_5 => ?_)
  · skip
    refine J_ldc (n := -1000001) dX6_ask_17 co_X6_71 (by decide) ?_
    refine M_iret dX6_ask_19 rfl ?_
    unfold sAsk; rw [if_pos (by omega)]; exact ⟨rfl, hC, FrC.rf⟩
  · skip
    refine J_il2 dX6_ask_8 ?_
    refine J_iconst dX6_ask_9 ?_
    refine J_iconst dX6_ask_10 ?_
    refine M_csI3 dX6_ask_11 lk_X6_67 cw_X6_outside (k_outside hw (by omega) (by omega)) (by decide) (Nat.le_of_ble_eq_true rfl) (fun v_11 mem_11 hq => ?_)
    obtain ⟨rfl, hq⟩ := hq; have hq := hq.symm; subst hq
    refine J_ifeq_b (tgt := 20) dX6_ask_14 rfl (fun c_14 => ?_) (fun c_14 => ?_)
    · skip
      refine J_al0 dX6_ask_20 ?_
      refine M_getR dX6_ask_21 fl_X6_52 sh_0 rfl ?_
      refine J_al0 dX6_ask_24 ?_
      refine M_getR dX6_ask_25 fl_X6_26 sh_0 rfl ?_
      refine J_il1 dX6_ask_28 ?_
      refine J_il2 dX6_ask_29 ?_
      refine M_cvI3 dX6_ask_30 lk_X6_281 cw_X1_begin sh_77 rfl rfl (k_begin hB hb (by omega) (by omega) (by omega)) (by decide) (Nat.le_of_ble_eq_true rfl) (fun v_30 mem_30 hq => ?_)
      obtain ⟨rfl, g1, g2, g3, g4⟩ := hq
      refine M_iret dX6_ask_33 rfl ?_
      unfold sAsk; rw [if_neg (by omega)]
      have e : ∀ q : Nat, q ≠ 77 → q ≠ 78 → mem_30 q = mem q := fun q q1 q2 => by rw [g4 q q1 q2, mset_n q1]
      obtain ⟨a, b, c, d, f, g, i, j, k⟩ := hC
      refine ⟨rfl, ⟨a.ext (fun q q0 q1 => e q (by omega) (by omega)), b.ext (by rw [e 14 (by omega) (by omega)]) (e 15 (by omega) (by omega)), c.ext (fun q q0 q1 => e q (by omega) (by omega)), d.ext (fun q q0 q1 => e q (by omega) (by omega)), f.ext (fun q q0 q1 => e q (by omega) (by omega)), g.ext (fun q q0 q1 => e q (by omega) (by omega)), ⟨by rw [g1]; exact Int.zero_add _, fun x x0 x1 => ?_⟩, by rw [e 0 (by omega) (by omega)]; exact j, by rw [e 0 (by omega) (by omega)]; exact k⟩, fun q hq => e q (by omega) (by omega)⟩
      have := g2 x x0 x1
      rwa [Int.zero_add] at this
    · skip
      refine J_ldc (n := -1000001) dX6_ask_17 co_X6_71 (by decide) ?_
      refine M_iret dX6_ask_19 rfl ?_
      unfold sAsk; rw [if_pos (by omega)]; exact ⟨rfl, hC, FrC.rf⟩
theorem c_trace {mem : ZMem} {S : ZS} (hC : CS mem S) (hI : SInv S) {i : Int} (hi : In32 i) : CI mX6_trace 1 [zr 0, zi i] mem (QS mem (vTrace S i, S)) := by
  obtain ⟨t1, t2⟩ := hC.2.2.2.2.2.2.1
  have hl := hI.2.2.2.2.2.1
  have go : ∀ v : Int, v = vTrace S i → QS mem (vTrace S i, S) v mem := fun v e => ⟨e, hC, FrC.rf⟩
  refine CM.of (by decide +kernel) ([zr 0, zi i]) (zok_all rfl) (Nat.le_of_ble_eq_true rfl) rfl ?_
  refine J_il1 dX6_trace_0 ?_
  refine J_iconst dX6_trace_1 ?_
  refine J_al0 dX6_trace_2 ?_
  refine M_getR dX6_trace_3 fl_X6_52 sh_0 rfl ?_
  refine M_get (ki := 1) dX6_trace_6 fl_X6_285 sh_77 rfl rfl ?_
  refine J_iconst dX6_trace_9 ?_
  refine J_isub dX6_trace_10 ?_
  refine M_csI3 dX6_trace_11 lk_X6_67 cw_X6_outside (k_outside hi (by omega) (by omega)) (by decide) (Nat.le_of_ble_eq_true rfl) (fun v_11 mem_11 hq => ?_)
  obtain ⟨rfl, hq⟩ := hq; have hq := hq.symm; subst hq
  refine J_ifeq_b (tgt := 22) dX6_trace_14 rfl (fun c_14 => ?_) (fun c_14 => ?_)
  · skip
    refine J_al0 dX6_trace_22 ?_
    refine M_getR dX6_trace_23 fl_X6_52 sh_0 rfl ?_
    refine M_getR dX6_trace_26 fl_X6_288 sh_77 rfl ?_
    refine J_il1 dX6_trace_29 ?_
    refine M_ald dX6_trace_30 sh_78 (by decide) (by omega) ?_
    refine M_iret dX6_trace_31 rfl ?_
    first
    | exact go _ (by unfold vTrace; rw [if_pos (by omega)])
    | exact go _ (by unfold vTrace; rw [if_neg (by omega)]; exact t2 i (by omega) (by omega))
  · skip
    refine J_ldc (n := -1000000) dX6_trace_17 co_X6_203 (by decide) ?_
    refine J_goto (tgt := 31) dX6_trace_19 rfl ?_
    refine M_iret dX6_trace_31 rfl ?_
    first
    | exact go _ (by unfold vTrace; rw [if_pos (by omega)])
    | exact go _ (by unfold vTrace; rw [if_neg (by omega)]; exact t2 i (by omega) (by omega))
theorem prs_congr {f g : Int → Int} : ∀ k : Nat, (∀ x : Int, 0 ≤ x → x < k → f x = g x) → prs f k = prs g k
  | 0, _ => rfl
  | k + 1, h => by
    unfold prs
    rw [prs_congr k (fun x x0 x1 => h x x0 (by omega)), h k (by omega) (by omega)]
theorem c_count {mem : ZMem} {S : ZS} (hC : CS mem S) (hI : SInv S) {w : Int} (hw : In32 w) : CI mX6_count 1 [zr 0, zi w] mem (QS mem (vCount S w, S)) := by
  have hb := hI.bi
  have b1 := hb.1
  have hl := hb.len
  have hB := bch hC
  have h5 := hb.2.2.2.2.2.2.2
  have h8 : mem 16 8 = S.b.1 5 := hB.1.2.2.2.2.2.1
  have hR : ∀ x : Int, 0 ≤ x → x < 8 → mem 2 x = bi (0 ≤ S.ln x) := fun x x0 x1 => (hC.1 x x0 x1).1
  have go : ∀ v : Int, v = vCount S w → QS mem (vCount S w, S) v mem := fun v e => ⟨e, hC, FrC.rf⟩
  refine CM.of (by decide +kernel) ([zr 0, zi w]) (zok_all rfl) (Nat.le_of_ble_eq_true rfl) rfl ?_
  refine J_il1 dX6_count_0 ?_
  by_cases c_1 : w < 0 ∨ 7 < w
  · skip
    refine J_tsOut (tgt := 120) dX6_count_1 c_1 (by omega) rfl ?_
    refine J_ldc (n := -1000001) dX6_count_120 co_X6_71 (by decide) ?_
    refine M_iret dX6_count_122 rfl ?_
    exact go _ (by unfold vCount; rw [if_neg (by omega), if_neg (by omega), if_neg (by omega), if_neg (by omega), if_neg (by omega), if_neg (by omega), if_neg (by omega), if_neg (by omega)])
  have c_1 : w = 0 ∨ w = 1 ∨ w = 2 ∨ w = 3 ∨ w = 4 ∨ w = 5 ∨ w = 6 ∨ w = 7 := by omega
  rcases c_1 with e_1 | e_1 | e_1 | e_1 | e_1 | e_1 | e_1 | e_1
  · skip
    refine J_tsIn (off := 47) (tgt := 48) dX6_count_1 (by omega) (by omega) (by omega) (by rw [e_1]; rfl) rfl ?_
    refine J_al0 dX6_count_48 ?_
    refine M_getR dX6_count_49 fl_X6_10 sh_0 rfl ?_
    refine M_cvI0 dX6_count_52 lk_X6_291 cw_X4_present sh_1 rfl rfl (k_present (fun x x0 x1 => by rw [hR x x0 x1]; exact bi_01 _)) (by decide) (Nat.le_of_ble_eq_true rfl) (fun v_52 mem_52 hq => ?_)
    obtain ⟨rfl, hq⟩ := hq; have hq := hq.symm; subst hq
    refine M_iret dX6_count_55 rfl ?_
    exact go _ (by unfold vCount; rw [if_pos (by omega)]; exact prs_congr 8 hR)
  · skip
    refine J_tsIn (off := 55) (tgt := 56) dX6_count_1 (by omega) (by omega) (by omega) (by rw [e_1]; rfl) rfl ?_
    refine J_al0 dX6_count_56 ?_
    refine M_getR dX6_count_57 fl_X6_26 sh_0 rfl ?_
    refine M_get (ki := 2) dX6_count_60 fl_X6_133 sh_16 rfl rfl ?_
    refine M_iret dX6_count_63 rfl ?_
    exact go _ (by unfold vCount; rw [if_neg (by omega), if_pos (by omega)]; exact hB.1.2.2.1)
  · skip
    refine J_tsIn (off := 63) (tgt := 64) dX6_count_1 (by omega) (by omega) (by omega) (by rw [e_1]; rfl) rfl ?_
    refine J_al0 dX6_count_64 ?_
    refine M_getR dX6_count_65 fl_X6_26 sh_0 rfl ?_
    refine M_cvI0 dX6_count_68 lk_X6_155 cw_X2_sittersAsBits sh_16 rfl rfl (k_sittersAsBits (Or.inl rfl) hB (by omega)) (by decide) (Nat.le_of_ble_eq_true rfl) (fun v_68 mem_68 hq => ?_)
    obtain ⟨rfl, hq⟩ := hq; have hq := hq.symm; subst hq
    refine M_iret dX6_count_71 rfl ?_
    exact go _ (by unfold vCount; rw [if_neg (by omega), if_neg (by omega), if_pos (by omega)])
  · skip
    refine J_tsIn (off := 71) (tgt := 72) dX6_count_1 (by omega) (by omega) (by omega) (by rw [e_1]; rfl) rfl ?_
    refine J_al0 dX6_count_72 ?_
    refine M_getR dX6_count_73 fl_X6_26 sh_0 rfl ?_
    refine M_get (ki := 6) dX6_count_76 fl_X6_146 sh_16 rfl rfl ?_
    refine M_iret dX6_count_79 rfl ?_
    exact go _ (by unfold vCount; rw [if_neg (by omega), if_neg (by omega), if_neg (by omega), if_pos (by omega)]; exact hB.1.2.2.2.1)
  · skip
    refine J_tsIn (off := 79) (tgt := 80) dX6_count_1 (by omega) (by omega) (by omega) (by rw [e_1]; rfl) rfl ?_
    refine J_al0 dX6_count_80 ?_
    refine M_getR dX6_count_81 fl_X6_26 sh_0 rfl ?_
    refine M_get (ki := 7) dX6_count_84 fl_X6_267 sh_16 rfl rfl ?_
    refine M_iret dX6_count_87 rfl ?_
    exact go _ (by unfold vCount; rw [if_neg (by omega), if_neg (by omega), if_neg (by omega), if_neg (by omega), if_pos (by omega)]; exact hB.1.2.2.2.2.1)
  · skip
    refine J_tsIn (off := 87) (tgt := 88) dX6_count_1 (by omega) (by omega) (by omega) (by rw [e_1]; rfl) rfl ?_
    refine J_al0 dX6_count_88 ?_
    refine M_getR dX6_count_89 fl_X6_26 sh_0 rfl ?_
    refine M_get (ki := 8) dX6_count_92 fl_X6_182 sh_16 rfl rfl ?_
    refine J_ifeq (tgt := 102) dX6_count_95 rfl (by omega) (fun c_95 => ?_) (fun c_95 => ?_)
    · skip
      refine J_iconst dX6_count_102 ?_
      refine M_iret dX6_count_103 rfl ?_
      exact go _ (by unfold vCount; rw [if_neg (by omega), if_neg (by omega), if_neg (by omega), if_neg (by omega), if_neg (by omega), if_pos (by omega)]; omega)
    · skip
      refine J_iconst dX6_count_98 ?_
      refine J_goto (tgt := 103) dX6_count_99 rfl ?_
      refine M_iret dX6_count_103 rfl ?_
      exact go _ (by unfold vCount; rw [if_neg (by omega), if_neg (by omega), if_neg (by omega), if_neg (by omega), if_neg (by omega), if_pos (by omega)]; omega)
  · skip
    refine J_tsIn (off := 103) (tgt := 104) dX6_count_1 (by omega) (by omega) (by omega) (by rw [e_1]; rfl) rfl ?_
    refine J_al0 dX6_count_104 ?_
    refine M_getR dX6_count_105 fl_X6_33 sh_0 rfl ?_
    refine M_get (ki := 2) dX6_count_108 fl_X6_136 sh_23 rfl rfl ?_
    refine M_iret dX6_count_111 rfl ?_
    exact go _ (by unfold vCount; rw [if_neg (by omega), if_neg (by omega), if_neg (by omega), if_neg (by omega), if_neg (by omega), if_neg (by omega), if_pos (by omega)]; exact hC.2.2.2.1.1)
  · skip
    refine J_tsIn (off := 111) (tgt := 112) dX6_count_1 (by omega) (by omega) (by omega) (by rw [e_1]; rfl) rfl ?_
    refine J_al0 dX6_count_112 ?_
    refine M_getR dX6_count_113 fl_X6_19 sh_0 rfl ?_
    refine M_get (ki := 1) dX6_count_116 fl_X6_294 sh_14 rfl rfl ?_
    refine M_iret dX6_count_119 rfl ?_
    exact go _ (by unfold vCount; rw [if_neg (by omega), if_neg (by omega), if_neg (by omega), if_neg (by omega), if_neg (by omega), if_neg (by omega), if_neg (by omega), if_pos (by omega)]; exact hC.2.1.1.1)
theorem c_status {mem : ZMem} {S : ZS} (hC : CS mem S) : CI mX6_status 0 [zr 0] mem (QS mem (S.st, S)) := by
  refine CM.of (by decide +kernel) ([zr 0]) (zok_all rfl) (Nat.le_of_ble_eq_true rfl) rfl ?_
  refine J_al0 dX6_status_0 ?_
  refine M_get (ki := 10) dX6_status_1 fl_X6_60 sh_0 rfl rfl ?_
  refine M_iret dX6_status_4 rfl ?_
  exact ⟨hC.2.2.2.2.2.2.2.2, hC, FrC.rf⟩
