theorem CS.rw {mem mem' : ZMem} {S : ZS} {ln mn : Int → Int} {it : Int → Int → Int} (h : CS mem S) (r : RwC mem' ln mn it) (e : ∀ q : Nat, q < 2 ∨ 13 < q → mem' q = mem q) : CS mem' (S.uRw ln mn it) := by
  obtain ⟨a, b, c, d, f, g, i, j, k⟩ := h
  exact ⟨r, b.ext (by rw [e 14 (by omega)]) (e 15 (by omega)), c.ext (fun q q0 q1 => e q (by omega)), d.ext (fun q q0 q1 => e q (by omega)), f.ext (fun q q0 q1 => e q (by omega)), g.ext (fun q q0 q1 => e q (by omega)), i.ext (fun q q0 q1 => e q (by omega)), by rw [e 0 (by omega)]; exact j, by rw [e 0 (by omega)]; exact k⟩
theorem CS.tp {mem mem' : ZMem} {S : ZS} {t : Int → Int} {n : Int} (h : CS mem S) (r : TpC mem' t n) (e : ∀ q : Nat, q ≠ 14 → q ≠ 15 → (q < 63 ∨ 76 < q) → mem' q = mem q) : CS mem' (S.uTp t n) := by
  obtain ⟨a, b, c, d, f, g, i, j, k⟩ := h
  exact ⟨a.ext (fun q q0 q1 => e q (by omega) (by omega) (by omega)), r, c.ext (fun q q0 q1 => e q (by omega) (by omega) (by omega)), d.ext (fun q q0 q1 => e q (by omega) (by omega) (by omega)), f.ext (fun q q0 q1 => e q (by omega) (by omega) (by omega)), g.ext (fun q q0 q1 => e q (by omega) (by omega) (by omega)), i.ext (fun q q0 q1 => e q (by omega) (by omega) (by omega)), by rw [e 0 (by omega) (by omega) (by omega)]; exact j, by rw [e 0 (by omega) (by omega) (by omega)]; exact k⟩
theorem CS.bn {mem mem' : ZMem} {S : ZS} {b : BN} {U : List BN} (h : CS mem S) (r : CB mem' 16 b.1 b.2) (u : AcC mem' U) (e : ∀ q : Nat, (q < 16 ∨ 48 < q) → (q < 63 ∨ 76 < q) → mem' q = mem q) : CS mem' (S.uB b U) := by
  obtain ⟨a, b, c, d, f, g, i, j, k⟩ := h
  exact ⟨a.ext (fun q q0 q1 => e q (by omega) (by omega)), b.ext (by rw [e 14 (by omega) (by omega)]) (e 15 (by omega) (by omega)), r, u, f.ext (fun q q0 q1 => e q (by omega) (by omega)), g.ext (fun q q0 q1 => e q (by omega) (by omega)), i.ext (fun q q0 q1 => e q (by omega) (by omega)), by rw [e 0 (by omega) (by omega)]; exact j, by rw [e 0 (by omega) (by omega)]; exact k⟩
theorem CS.ft {mem : ZMem} {S : ZS} (h : CS mem S) (k : Int) : CS (mset mem 0 9 k) (S.uFl k) := by
  obtain ⟨a, b, c, d, f, g, i, _, j⟩ := h
  have e : ∀ q : Nat, 1 ≤ q → mset mem 0 9 k q = mem q := fun q hq => mset_n (by omega)
  exact ⟨a.ext (fun q q0 q1 => e q (by omega)), b.ext (by rw [e 14 (by omega)]) (e 15 (by omega)), c.ext (fun q q0 q1 => e q (by omega)), d.ext (fun q q0 q1 => e q (by omega)), f.ext (fun q q0 q1 => e q (by omega)), g.ext (fun q q0 q1 => e q (by omega)), i.ext (fun q q0 q1 => e q (by omega)), mset_s _ _ _ _, by rw [mset_i (by omega)]; exact j⟩
/-! THE ROWS -/
def itU (it : Int → Int → Int) (w : Int) (f : Int → Int) : Int → Int → Int := fun q => if q = w then f else it q
theorem itU_s {it : Int → Int → Int} {w : Int} {f : Int → Int} : itU it w f w = f := if_pos rfl
theorem itU_n {it : Int → Int → Int} {w q : Int} {f : Int → Int} (h : q ≠ w) : itU it w f q = it q := if_neg h
def sRow (S : ZS) (w l n : Int) : Int × ZS := if w < 0 ∨ 7 < w ∨ l < 0 ∨ 2 < l ∨ 40 < n then (-1000001, S) else if n < 0 then (-1000014, S.uSt 4) else (n, (S.uRw (zup S.ln w l) (zup S.mn w n) (itU S.it w (fun _ => 0))).uSt 0)
def putV (l v : Int) : Int := if l = 0 then zb8 v else if l = 1 then zs16 v else v
def sSet (S : ZS) (w i v : Int) : Int × ZS := if w < 0 ∨ 7 < w then (-1000001, S) else if fndS S w i 1 ≠ 0 then (-1000010 - fndS S w i 1, S.uSt (fndS S w i 1)) else (putV (S.ln w) v, (S.uRw S.ln S.mn (itU S.it w (zup (S.it w) i (putV (S.ln w) v)))).uSt 0)
def sCopy (S : ZS) (a i b j n : Int) : Int × ZS := if a < 0 ∨ 7 < a ∨ b < 0 ∨ 7 < b then (-1000001, S) else if S.ln a < 0 ∨ S.ln b < 0 then (-1000011, S.uSt 1) else if S.ln a ≠ S.ln b then (-1000015, S.uSt 5) else if i < 0 ∨ j < 0 ∨ n < 0 ∨ S.mn a < i + n ∨ S.mn b < j + n then (-1000012, S.uSt 2) else (n, (S.uRw S.ln S.mn (itU S.it b (zcpy (S.it a) (S.it b) i j n))).uSt 0)
def sDrop (S : ZS) (w : Int) : Int × ZS := if w < 0 ∨ 7 < w then (-1000001, S) else if S.ln w < 0 then (-1000011, S.uSt 1) else (S.mn w, (S.uRw (zup S.ln w (-1)) S.mn S.it).uSt 0)
theorem FrC.of {a b : ZMem} (h : ∀ q : Nat, 79 ≤ q → b q = a q) : FrC a b := h
theorem c_row {mem : ZMem} {S : ZS} (hC : CS mem S) {w l n : Int} (hw : In32 w) (hl : In32 l) (hn : In32 n) : CI mX6_row 2 [zr 0, zi w, zi l, zi n] mem (QS mem (sRow S w l n)) := by
  have bad : (w < 0 ∨ 7 < w ∨ l < 0 ∨ 2 < l ∨ 40 < n) → QS mem (sRow S w l n) (-1000001) mem := fun q => by
    unfold sRow; rw [if_pos q]; exact ⟨rfl, hC, FrC.rf⟩
  refine CM.of (by decide +kernel) ([zr 0, zi w, zi l, zi n]) (zok_all rfl) (Nat.le_of_ble_eq_true rfl) rfl ?_
  refine J_il1 dX6_row_0 ?_
  refine M_csI1 dX6_row_1 lk_X6_63 cw_X6_noRow (k_noRow hw) (by decide) (Nat.le_of_ble_eq_true rfl) (fun v_1 mem_1 hq => ?_)
  obtain ⟨rfl, hq⟩ := hq; have hq := hq.symm; subst hq
  refine J_ifne_b (tgt := 22) dX6_row_4 rfl (fun c_4 => ?_) (fun c_4 => ?_)
  · skip
    refine J_ldc (n := -1000001) dX6_row_22 co_X6_71 (by decide) ?_
    refine M_iret dX6_row_24 rfl ?_
    exact bad (by omega)
  · skip
    refine J_il2 dX6_row_7 ?_
    refine J_iconst dX6_row_8 ?_
    refine J_iconst dX6_row_9 ?_
    refine M_csI3 dX6_row_10 lk_X6_67 cw_X6_outside (k_outside hl (by omega) (by omega)) (by decide) (Nat.le_of_ble_eq_true rfl) (fun v_10 mem_10 hq => ?_)
    obtain ⟨rfl, hq⟩ := hq; have hq := hq.symm; subst hq
    refine J_ifne_b (tgt := 22) dX6_row_13 rfl (fun c_13 => ?_) (fun c_13 => ?_)
    · skip
      refine J_ldc (n := -1000001) dX6_row_22 co_X6_71 (by decide) ?_
      refine M_iret dX6_row_24 rfl ?_
      exact bad (by omega)
    · skip
      refine J_il3 dX6_row_16 ?_
      refine J_bipush dX6_row_17 rfl ?_
      refine J_cle (tgt := 25) dX6_row_19 rfl (by omega) (fun c_19 => ?_) (fun c_19 => ?_)
      · skip
        refine J_il3 dX6_row_25 ?_
        refine J_ifge (tgt := 35) dX6_row_26 rfl (by omega) (fun c_26 => ?_) (fun c_26 => ?_)
        · skip
          refine J_al0 dX6_row_35 ?_
          refine M_getR dX6_row_36 fl_X6_10 sh_0 rfl ?_
          refine J_il1 dX6_row_39 ?_
          refine J_il2 dX6_row_40 ?_
          refine J_il3 dX6_row_41 ?_
          refine M_cvV3 dX6_row_42 lk_X6_76 cw_X4_make sh_1 rfl rfl (k_make (by omega)) (by decide) (Nat.le_of_ble_eq_true rfl) (fun mem_42 hq => ?_)
          obtain ⟨g2, g3, g4, g5, g6⟩ := hq
          refine J_al0 dX6_row_45 ?_
          refine J_il3 dX6_row_46 ?_
          refine M_cvI1 dX6_row_47 lk_X6_80 cw_X6_noFinding sh_0 rfl rfl k_noFinding (by decide) (Nat.le_of_ble_eq_true rfl) (fun v_47 mem_47 hq => ?_)
          obtain ⟨rfl, hq⟩ := hq; have hq := hq.symm; subst hq
          refine M_iret dX6_row_50 rfl ?_
          unfold sRow; rw [if_neg (by omega), if_neg (by omega)]
          refine ⟨rfl, CS.fnd (CS.rw hC ?_ (fun q hq => g6 q (by omega) (by omega) (by omega) (by omega))) 0, (FrC.of (fun q hq => g6 q (by omega) (by omega) (by omega) (by omega))).set (by omega)⟩
          intro x x0 x1
          obtain ⟨b1, b2, b3, b4⟩ := hC.1 x x0 x1
          rw [g2, g3, g4]
          by_cases e : x = w
          · subst e
            rw [zup_s, zup_s, zup_s, zup_s, zup_s, itU_s]
            exact ⟨(bi_t (by omega)).symm, fun _ => rfl, rfl, g5⟩
          · rw [zup_n e, zup_n e, zup_n e, zup_n e, zup_n e, itU_n e, g6 _ (by omega) (by omega) (by omega) (by omega)]
            exact ⟨b1, b2, b3, b4⟩
        · skip
          refine J_al0 dX6_row_29 ?_
          refine J_iconst dX6_row_30 ?_
          refine M_cvI1 dX6_row_31 lk_X6_72 cw_X6_finding sh_0 rfl rfl k_finding (by decide) (Nat.le_of_ble_eq_true rfl) (fun v_31 mem_31 hq => ?_)
          obtain ⟨rfl, hq⟩ := hq; have hq := hq.symm; subst hq
          refine M_iret dX6_row_34 rfl ?_
          unfold sRow; rw [if_neg (by omega), if_pos (by omega)]; exact ⟨rfl, hC.fnd 4, FrC.rf.set (by omega)⟩
      · skip
        refine J_ldc (n := -1000001) dX6_row_22 co_X6_71 (by decide) ?_
        refine M_iret dX6_row_24 rfl ?_
        exact bad (by omega)
theorem c_set {mem : ZMem} {S : ZS} (hC : CS mem S) (hI : SInv S) {w i v : Int} (hw : In32 w) (hi : In32 i) (hv : In32 v) : CI mX6_set 2 [zr 0, zi w, zi i, zi v] mem (QS mem (sSet S w i v)) := by
  refine CM.of (by decide +kernel) ([zr 0, zi w, zi i, zi v, zu]) (zok_all rfl) (Nat.le_of_ble_eq_true rfl) rfl ?_
  refine J_il1 dX6_set_0 ?_
  refine M_csI1 dX6_set_1 lk_X6_63 cw_X6_noRow (k_noRow hw) (by decide) (Nat.le_of_ble_eq_true rfl) (fun v_1 mem_1 hq => ?_)
  obtain ⟨rfl, hq⟩ := hq; have hq := hq.symm; subst hq
  refine J_ifeq_b (tgt := 10) dX6_set_4 rfl (fun c_4 => ?_) (fun c_4 => ?_)
  · skip
    refine J_al0 dX6_set_10 ?_
    refine J_il1 dX6_set_11 ?_
    refine J_il2 dX6_set_12 ?_
    refine J_iconst dX6_set_13 ?_
    refine M_cvI3 dX6_set_14 lk_X6_83 cw_X6_findingOf sh_0 rfl rfl (k_findingOf (n := 1) hC hI (by omega) hi (by omega)) (by decide) (Nat.le_of_ble_eq_true rfl) (fun v_14 mem_14 hq => ?_)
    obtain ⟨rfl, hq⟩ := hq; have hq := hq.symm; subst hq
    have hf : 0 ≤ fndS S w i 1 ∧ fndS S w i 1 ≤ 2 := by unfold fndS; (repeat' split) <;> omega
    refine J_is4 dX6_set_17 (by decide) rfl ?_
    refine J_il4 dX6_set_19 ?_
    refine J_ifeq (tgt := 33) dX6_set_21 rfl (by omega) (fun c_21 => ?_) (fun c_21 => ?_)
    · skip
      have hfn : fndS S w i 1 = 0 := by omega
      have hlw : ¬ S.ln w < 0 := fun q => by unfold fndS at hfn; rw [if_pos q] at hfn; omega
      have hiw : 0 ≤ i ∧ (0 : Int) ≤ 1 ∧ i ≤ S.mn w - 1 := Decidable.of_not_not (fun q => by unfold fndS at hfn; rw [if_neg hlw, if_neg q] at hfn; omega)
      obtain ⟨b1, b2, b3, b4⟩ := hC.1 w (by omega) (by omega)
      obtain ⟨s1, s2, s3⟩ := hI.1 w (by omega) (by omega)
      have b2' := b2 (by omega)
      refine J_al0 dX6_set_33 ?_
      refine J_al0 dX6_set_34 ?_
      refine M_getR dX6_set_35 fl_X6_10 sh_0 rfl ?_
      refine J_il1 dX6_set_38 ?_
      refine J_il2 dX6_set_39 ?_
      refine J_il3 dX6_set_40 ?_
      refine M_cvI3 dX6_set_41 lk_X6_87 cw_X4_put sh_1 rfl rfl (k_put (by omega) (by omega) (by omega)) (by decide) (Nat.le_of_ble_eq_true rfl) (fun v_41 mem_41 hq => ?_)
      obtain ⟨rfl, hq⟩ := hq; have hq := hq.symm; subst hq
      refine M_cvI1 dX6_set_44 lk_X6_80 cw_X6_noFinding sh_0 rfl rfl k_noFinding (by decide) (Nat.le_of_ble_eq_true rfl) (fun v_44 mem_44 hq => ?_)
      obtain ⟨rfl, hq⟩ := hq; have hq := hq.symm; subst hq
      refine M_iret dX6_set_47 rfl ?_
      first
      | (unfold sSet; rw [if_neg (by omega), if_pos (by omega)]; exact ⟨rfl, hC.fnd _, FrC.rf.set (by omega)⟩)
      | unfold sSet; rw [if_neg (by omega), if_neg (by omega), ← b2']
        refine ⟨rfl, CS.fnd (CS.rw (mem' := mset mem (6 + w).toNat i _) hC ?_ (fun q hq => mset_n (by omega))) 0, (FrC.rf.set (by omega)).set (by omega)⟩
        intro x x0 x1
        obtain ⟨d1, d2, d3, d4⟩ := hC.1 x x0 x1
        rw [mset_n (by omega), mset_n (by omega), mset_n (by omega)]
        refine ⟨d1, d2, d3, fun y y0 y1 => ?_⟩
        by_cases e : x = w
        · subst e
          rw [itU_s, mset_q]
          by_cases e2 : y = i
          · subst e2; rw [zup_s, zup_s]; rfl
          · rw [zup_n e2, zup_n e2]; exact d4 y y0 y1
        · rw [itU_n e, mset_n (by omega)]; exact d4 y y0 y1
    · skip
      refine J_al0 dX6_set_24 ?_
      refine J_il4 dX6_set_25 ?_
      refine M_cvI1 dX6_set_27 lk_X6_72 cw_X6_finding sh_0 rfl rfl k_finding (by decide) (Nat.le_of_ble_eq_true rfl) (fun v_27 mem_27 hq => ?_)
      obtain ⟨rfl, hq⟩ := hq; have hq := hq.symm; subst hq
      refine J_goto (tgt := 47) dX6_set_30 rfl ?_
      refine M_iret dX6_set_47 rfl ?_
      first
      | (unfold sSet; rw [if_neg (by omega), if_pos (by omega)]; exact ⟨rfl, hC.fnd _, FrC.rf.set (by omega)⟩)
      | unfold sSet; rw [if_neg (by omega), if_neg (by omega), ← b2']
        refine ⟨rfl, CS.fnd (CS.rw (mem' := mset mem (6 + w).toNat i _) hC ?_ (fun q hq => mset_n (by omega))) 0, (FrC.rf.set (by omega)).set (by omega)⟩
        intro x x0 x1
        obtain ⟨d1, d2, d3, d4⟩ := hC.1 x x0 x1
        rw [mset_n (by omega), mset_n (by omega), mset_n (by omega)]
        refine ⟨d1, d2, d3, fun y y0 y1 => ?_⟩
        by_cases e : x = w
        · subst e
          rw [itU_s, mset_q]
          by_cases e2 : y = i
          · subst e2; rw [zup_s, zup_s]; rfl
          · rw [zup_n e2, zup_n e2]; exact d4 y y0 y1
        · rw [itU_n e, mset_n (by omega)]; exact d4 y y0 y1
  · skip
    refine J_ldc (n := -1000001) dX6_set_7 co_X6_71 (by decide) ?_
    refine M_iret dX6_set_9 rfl ?_
    unfold sSet; rw [if_pos (by omega)]; exact ⟨rfl, hC, FrC.rf⟩
theorem c_drop {mem : ZMem} {S : ZS} (hC : CS mem S) {w : Int} (hw : In32 w) : CI mX6_drop 2 [zr 0, zi w] mem (QS mem (sDrop S w)) := by
  refine CM.of (by decide +kernel) ([zr 0, zi w]) (zok_all rfl) (Nat.le_of_ble_eq_true rfl) rfl ?_
  refine J_il1 dX6_drop_0 ?_
  refine M_csI1 dX6_drop_1 lk_X6_63 cw_X6_noRow (k_noRow hw) (by decide) (Nat.le_of_ble_eq_true rfl) (fun v_1 mem_1 hq => ?_)
  obtain ⟨rfl, hq⟩ := hq; have hq := hq.symm; subst hq
  refine J_ifeq_b (tgt := 10) dX6_drop_4 rfl (fun c_4 => ?_) (fun c_4 => ?_)
  · skip
    obtain ⟨b1, b2, b3, b4⟩ := hC.1 w (by omega) (by omega)
    have h01 := bi_01 (0 ≤ S.ln w)
    refine J_al0 dX6_drop_10 ?_
    refine M_getR dX6_drop_11 fl_X6_10 sh_0 rfl ?_
    refine J_il1 dX6_drop_14 ?_
    refine M_cvI1 dX6_drop_15 lk_X6_90 cw_X4_isMissing sh_1 rfl rfl (k_isMissing (by omega) (by omega)) (by decide) (Nat.le_of_ble_eq_true rfl) (fun v_15 mem_15 hq => ?_)
    obtain ⟨rfl, hq⟩ := hq; have hq := hq.symm; subst hq
    refine J_ifeq_b (tgt := 29) dX6_drop_18 rfl (fun c_18 => ?_) (fun c_18 => ?_)
    · skip
      refine J_al0 dX6_drop_29 ?_
      refine J_al0 dX6_drop_30 ?_
      refine M_getR dX6_drop_31 fl_X6_10 sh_0 rfl ?_
      refine J_il1 dX6_drop_34 ?_
      refine M_cvI1 dX6_drop_35 lk_X6_103 cw_X4_remove sh_1 rfl rfl (k_remove (by omega)) (by decide) (Nat.le_of_ble_eq_true rfl) (fun v_35 mem_35 hq => ?_)
      obtain ⟨rfl, hq⟩ := hq; have hq := hq.symm; subst hq
      refine M_cvI1 dX6_drop_38 lk_X6_80 cw_X6_noFinding sh_0 rfl rfl k_noFinding (by decide) (Nat.le_of_ble_eq_true rfl) (fun v_38 mem_38 hq => ?_)
      obtain ⟨rfl, hq⟩ := hq; have hq := hq.symm; subst hq
      refine M_iret dX6_drop_41 rfl ?_
      first
      | (unfold sDrop; rw [if_neg (by omega), if_pos (by rw [b1] at c_18; have := bi_eq.mp c_18; omega)]; exact ⟨rfl, hC.fnd _, FrC.rf.set (by omega)⟩)
      | unfold sDrop; rw [if_neg (by omega), if_neg (by rw [b1] at c_18; have := bi_ne.mp c_18; omega)]
        refine ⟨b3, CS.fnd (CS.rw (mem' := mset mem 2 w 0) hC ?_ (fun q hq => mset_n (by omega))) 0, (FrC.rf.set (by omega)).set (by omega)⟩
        intro x x0 x1
        obtain ⟨d1, d2, d3, d4⟩ := hC.1 x x0 x1
        rw [show mset mem 2 w 0 3 = mem 3 from mset_n (by omega), show mset mem 2 w 0 4 = mem 4 from mset_n (by omega), show mset mem 2 w 0 (6 + x).toNat = mem (6 + x).toNat from mset_n (by omega), mset_q]
        by_cases e : x = w
        · subst e
          rw [zup_s, zup_s]
          exact ⟨(bi_f (by omega)).symm, fun q => absurd q (by omega), d3, d4⟩
        · rw [zup_n e, zup_n e]; exact ⟨d1, d2, d3, d4⟩
    · skip
      refine J_al0 dX6_drop_21 ?_
      refine J_iconst dX6_drop_22 ?_
      refine M_cvI1 dX6_drop_23 lk_X6_72 cw_X6_finding sh_0 rfl rfl k_finding (by decide) (Nat.le_of_ble_eq_true rfl) (fun v_23 mem_23 hq => ?_)
      obtain ⟨rfl, hq⟩ := hq; have hq := hq.symm; subst hq
      refine J_goto (tgt := 41) dX6_drop_26 rfl ?_
      refine M_iret dX6_drop_41 rfl ?_
      first
      | (unfold sDrop; rw [if_neg (by omega), if_pos (by rw [b1] at c_18; have := bi_eq.mp c_18; omega)]; exact ⟨rfl, hC.fnd _, FrC.rf.set (by omega)⟩)
      | unfold sDrop; rw [if_neg (by omega), if_neg (by rw [b1] at c_18; have := bi_ne.mp c_18; omega)]
        refine ⟨b3, CS.fnd (CS.rw (mem' := mset mem 2 w 0) hC ?_ (fun q hq => mset_n (by omega))) 0, (FrC.rf.set (by omega)).set (by omega)⟩
        intro x x0 x1
        obtain ⟨d1, d2, d3, d4⟩ := hC.1 x x0 x1
        rw [show mset mem 2 w 0 3 = mem 3 from mset_n (by omega), show mset mem 2 w 0 4 = mem 4 from mset_n (by omega), show mset mem 2 w 0 (6 + x).toNat = mem (6 + x).toNat from mset_n (by omega), mset_q]
        by_cases e : x = w
        · subst e
          rw [zup_s, zup_s]
          exact ⟨(bi_f (by omega)).symm, fun q => absurd q (by omega), d3, d4⟩
        · rw [zup_n e, zup_n e]; exact ⟨d1, d2, d3, d4⟩
  · skip
    refine J_ldc (n := -1000001) dX6_drop_7 co_X6_71 (by decide) ?_
    refine M_iret dX6_drop_9 rfl ?_
    unfold sDrop; rw [if_pos (by omega)]; exact ⟨rfl, hC, FrC.rf⟩
theorem c_copy {mem : ZMem} {S : ZS} (hC : CS mem S) (hI : SInv S) {a i b j n : Int} (ha : In32 a) (hi : In32 i) (hb : In32 b) (hj : In32 j) (hn : In32 n) : CI mX6_copy 2 [zr 0, zi a, zi i, zi b, zi j, zi n] mem (QS mem (sCopy S a i b j n)) := by
  have bad : (a < 0 ∨ 7 < a ∨ b < 0 ∨ 7 < b) → QS mem (sCopy S a i b j n) (-1000001) mem := fun q => by
    unfold sCopy; rw [if_pos q]; exact ⟨rfl, hC, FrC.rf⟩
  refine CM.of (by decide +kernel) ([zr 0, zi a, zi i, zi b, zi j, zi n]) (zok_all rfl) (Nat.le_of_ble_eq_true rfl) rfl ?_
  refine J_il1 dX6_copy_0 ?_
  refine M_csI1 dX6_copy_1 lk_X6_63 cw_X6_noRow (k_noRow ha) (by decide) (Nat.le_of_ble_eq_true rfl) (fun v_1 mem_1 hq => ?_)
  obtain ⟨rfl, hq⟩ := hq; have hq := hq.symm; subst hq
  refine J_ifne_b (tgt := 14) dX6_copy_4 rfl (fun c_4 => ?_) (fun c_4 => ?_)
  · skip
    refine J_ldc (n := -1000001) dX6_copy_14 co_X6_71 (by decide) ?_
    refine M_iret dX6_copy_16 rfl ?_
    exact bad (by omega)
  · skip
    refine J_il3 dX6_copy_7 ?_
    refine M_csI1 dX6_copy_8 lk_X6_63 cw_X6_noRow (k_noRow hb) (by decide) (Nat.le_of_ble_eq_true rfl) (fun v_8 mem_8 hq => ?_)
    obtain ⟨rfl, hq⟩ := hq; have hq := hq.symm; subst hq
    refine J_ifeq_b (tgt := 17) dX6_copy_11 rfl (fun c_11 => ?_) (fun c_11 => ?_)
    · skip
      obtain ⟨a1, a2, a3, a4⟩ := hC.1 a (by omega) (by omega)
      obtain ⟨b1, b2, b3, b4⟩ := hC.1 b (by omega) (by omega)
      obtain ⟨p1, p2, p3⟩ := hI.1 a (by omega) (by omega)
      obtain ⟨q1, q2, q3⟩ := hI.1 b (by omega) (by omega)
      have h01 := bi_01 (0 ≤ S.ln a)
      have h02 := bi_01 (0 ≤ S.ln b)
      refine J_al0 dX6_copy_17 ?_
      refine M_getR dX6_copy_18 fl_X6_10 sh_0 rfl ?_
      refine J_il1 dX6_copy_21 ?_
      refine M_cvI1 dX6_copy_22 lk_X6_90 cw_X4_isMissing sh_1 rfl rfl (k_isMissing (by omega) (by omega)) (by decide) (Nat.le_of_ble_eq_true rfl) (fun v_22 mem_22 hq => ?_)
      obtain ⟨rfl, hq⟩ := hq; have hq := hq.symm; subst hq
      refine J_ifne_b (tgt := 39) dX6_copy_25 rfl (fun c_25 => ?_) (fun c_25 => ?_)
      · skip
        refine J_al0 dX6_copy_39 ?_
        refine J_iconst dX6_copy_40 ?_
        refine M_cvI1 dX6_copy_41 lk_X6_72 cw_X6_finding sh_0 rfl rfl k_finding (by decide) (Nat.le_of_ble_eq_true rfl) (fun v_41 mem_41 hq => ?_)
        obtain ⟨rfl, hq⟩ := hq; have hq := hq.symm; subst hq
        refine M_iret dX6_copy_44 rfl ?_
        unfold sCopy; rw [if_neg (by omega), if_pos (by first | (rw [a1] at c_25; have := bi_eq.mp c_25; omega) | (rw [b1] at c_36; have := bi_eq.mp c_36; omega))]; exact ⟨rfl, hC.fnd 1, FrC.rf.set (by omega)⟩
      · skip
        refine J_al0 dX6_copy_28 ?_
        refine M_getR dX6_copy_29 fl_X6_10 sh_0 rfl ?_
        refine J_il3 dX6_copy_32 ?_
        refine M_cvI1 dX6_copy_33 lk_X6_90 cw_X4_isMissing sh_1 rfl rfl (k_isMissing (by omega) (by omega)) (by decide) (Nat.le_of_ble_eq_true rfl) (fun v_33 mem_33 hq => ?_)
        obtain ⟨rfl, hq⟩ := hq; have hq := hq.symm; subst hq
        refine J_ifeq_b (tgt := 45) dX6_copy_36 rfl (fun c_36 => ?_) (fun c_36 => ?_)
        · skip
          rw [a1] at c_25
          rw [b1] at c_36
          have la := bi_ne.mp c_25
          have lb := bi_ne.mp c_36
          have a2' := a2 la
          have b2' := b2 lb
          refine J_al0 dX6_copy_45 ?_
          refine M_getR dX6_copy_46 fl_X6_10 sh_0 rfl ?_
          refine J_il1 dX6_copy_49 ?_
          refine M_cvI1 dX6_copy_50 lk_X6_93 cw_X4_laneOf sh_1 rfl rfl (k_laneOf (by omega)) (by decide) (Nat.le_of_ble_eq_true rfl) (fun v_50 mem_50 hq => ?_)
          obtain ⟨rfl, hq⟩ := hq; have hq := hq.symm; subst hq
          refine J_al0 dX6_copy_53 ?_
          refine M_getR dX6_copy_54 fl_X6_10 sh_0 rfl ?_
          refine J_il3 dX6_copy_57 ?_
          refine M_cvI1 dX6_copy_58 lk_X6_93 cw_X4_laneOf sh_1 rfl rfl (k_laneOf (by omega)) (by decide) (Nat.le_of_ble_eq_true rfl) (fun v_58 mem_58 hq => ?_)
          obtain ⟨rfl, hq⟩ := hq; have hq := hq.symm; subst hq
          refine J_ceq (tgt := 70) dX6_copy_61 rfl (by omega) (fun c_61 => ?_) (fun c_61 => ?_)
          · skip
            refine J_al0 dX6_copy_70 ?_
            refine M_getR dX6_copy_71 fl_X6_10 sh_0 rfl ?_
            refine J_il1 dX6_copy_74 ?_
            refine J_il2 dX6_copy_75 ?_
            refine J_il5 dX6_copy_76 ?_
            refine M_cvI3 dX6_copy_78 lk_X6_96 cw_X4_reaches sh_1 rfl rfl (k_reaches (by omega) hi hn (by omega)) (by decide) (Nat.le_of_ble_eq_true rfl) (fun v_78 mem_78 hq => ?_)
            obtain ⟨rfl, hq⟩ := hq; have hq := hq.symm; subst hq
            refine J_ifeq_b (tgt := 99) dX6_copy_81 rfl (fun c_81 => ?_) (fun c_81 => ?_)
            · skip
              refine J_al0 dX6_copy_99 ?_
              refine J_iconst dX6_copy_100 ?_
              refine M_cvI1 dX6_copy_101 lk_X6_72 cw_X6_finding sh_0 rfl rfl k_finding (by decide) (Nat.le_of_ble_eq_true rfl) (fun v_101 mem_101 hq => ?_)
              obtain ⟨rfl, hq⟩ := hq; have hq := hq.symm; subst hq
              refine M_iret dX6_copy_104 rfl ?_
              unfold sCopy; rw [if_neg (by omega), if_neg (by omega), if_neg (by omega), if_pos (by omega)]; exact ⟨rfl, hC.fnd 2, FrC.rf.set (by omega)⟩
            · skip
              refine J_al0 dX6_copy_84 ?_
              refine M_getR dX6_copy_85 fl_X6_10 sh_0 rfl ?_
              refine J_il3 dX6_copy_88 ?_
              refine J_il4 dX6_copy_89 ?_
              refine J_il5 dX6_copy_91 ?_
              refine M_cvI3 dX6_copy_93 lk_X6_96 cw_X4_reaches sh_1 rfl rfl (k_reaches (by omega) hj hn (by omega)) (by decide) (Nat.le_of_ble_eq_true rfl) (fun v_93 mem_93 hq => ?_)
              obtain ⟨rfl, hq⟩ := hq; have hq := hq.symm; subst hq
              refine J_ifne_b (tgt := 105) dX6_copy_96 rfl (fun c_96 => ?_) (fun c_96 => ?_)
              · skip
                refine J_al0 dX6_copy_105 ?_
                refine M_getR dX6_copy_106 fl_X6_10 sh_0 rfl ?_
                refine J_il1 dX6_copy_109 ?_
                refine J_il2 dX6_copy_110 ?_
                refine J_il3 dX6_copy_111 ?_
                refine J_il4 dX6_copy_112 ?_
                refine J_il5 dX6_copy_114 ?_
                refine M_cvV5 dX6_copy_116 lk_X6_99 cw_X4_move sh_1 rfl rfl (k_move (by omega) (by omega) (by omega)) (by decide) (Nat.le_of_ble_eq_true rfl) (fun mem_116 hq => ?_)
                subst hq
                refine J_al0 dX6_copy_119 ?_
                refine J_il5 dX6_copy_120 ?_
                refine M_cvI1 dX6_copy_122 lk_X6_80 cw_X6_noFinding sh_0 rfl rfl k_noFinding (by decide) (Nat.le_of_ble_eq_true rfl) (fun v_122 mem_122 hq => ?_)
                obtain ⟨rfl, hq⟩ := hq; have hq := hq.symm; subst hq
                refine M_iret dX6_copy_125 rfl ?_
                unfold sCopy; rw [if_neg (by omega), if_neg (by omega), if_neg (by omega), if_neg (by omega)]
                refine ⟨rfl, CS.fnd (CS.rw (mem' := mrow mem (6 + b).toNat _) hC ?_ (fun q hq => mrow_n (by omega))) 0, FrC.set (FrC.of (b := mrow mem (6 + b).toNat _) (fun q hq => mrow_n (by omega))) (by omega)⟩
                intro x x0 x1
                obtain ⟨d1, d2, d3, d4⟩ := hC.1 x x0 x1
                rw [mrow_n (by omega), mrow_n (by omega), mrow_n (by omega)]
                refine ⟨d1, d2, d3, fun y y0 y1 => ?_⟩
                by_cases e : x = b
                · subst e
                  rw [itU_s, mrow_s]
                  unfold zcpy
                  split
                  · exact a4 _ (by omega) (by omega)
                  · exact b4 _ y0 y1
                · rw [itU_n e, mrow_n (by omega)]; exact d4 y y0 y1
              · skip
                refine J_al0 dX6_copy_99 ?_
                refine J_iconst dX6_copy_100 ?_
                refine M_cvI1 dX6_copy_101 lk_X6_72 cw_X6_finding sh_0 rfl rfl k_finding (by decide) (Nat.le_of_ble_eq_true rfl) (fun v_101 mem_101 hq => ?_)
                obtain ⟨rfl, hq⟩ := hq; have hq := hq.symm; subst hq
                refine M_iret dX6_copy_104 rfl ?_
                unfold sCopy; rw [if_neg (by omega), if_neg (by omega), if_neg (by omega), if_pos (by omega)]; exact ⟨rfl, hC.fnd 2, FrC.rf.set (by omega)⟩
          · skip
            refine J_al0 dX6_copy_64 ?_
            refine J_iconst dX6_copy_65 ?_
            refine M_cvI1 dX6_copy_66 lk_X6_72 cw_X6_finding sh_0 rfl rfl k_finding (by decide) (Nat.le_of_ble_eq_true rfl) (fun v_66 mem_66 hq => ?_)
            obtain ⟨rfl, hq⟩ := hq; have hq := hq.symm; subst hq
            refine M_iret dX6_copy_69 rfl ?_
            unfold sCopy; rw [if_neg (by omega), if_neg (by omega), if_pos (by omega)]; exact ⟨rfl, hC.fnd 5, FrC.rf.set (by omega)⟩
        · skip
          refine J_al0 dX6_copy_39 ?_
          refine J_iconst dX6_copy_40 ?_
          refine M_cvI1 dX6_copy_41 lk_X6_72 cw_X6_finding sh_0 rfl rfl k_finding (by decide) (Nat.le_of_ble_eq_true rfl) (fun v_41 mem_41 hq => ?_)
          obtain ⟨rfl, hq⟩ := hq; have hq := hq.symm; subst hq
          refine M_iret dX6_copy_44 rfl ?_
          unfold sCopy; rw [if_neg (by omega), if_pos (by first | (rw [a1] at c_25; have := bi_eq.mp c_25; omega) | (rw [b1] at c_36; have := bi_eq.mp c_36; omega))]; exact ⟨rfl, hC.fnd 1, FrC.rf.set (by omega)⟩
    · skip
      refine J_ldc (n := -1000001) dX6_copy_14 co_X6_71 (by decide) ?_
      refine M_iret dX6_copy_16 rfl ?_
      exact bad (by omega)
