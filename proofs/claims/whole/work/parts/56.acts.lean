/-! WHAT IS TOLD, AND WHAT IS DONE -/
def sFeed (S : ZS) (c : Int) : Int × ZS := if c < 0 ∨ 255 < c then (-1000001, S) else if S.n = 100 then (-1000003, S) else (S.n + 1, S.uTp (zup S.t S.n c) (S.n + 1))
def sBench (S : ZS) : Int × ZS := if (pAll S.t S.n).1.2.1 = 0 then ((pAll S.t S.n).2.1 3, (S.uTp S.t 0).uB ((pAll S.t S.n).2.1, rng (pAll S.t S.n).2.2) []) else (-1000100 - (pAll S.t S.n).1.2.2, (S.uTp S.t 0).uFl (pAll S.t S.n).1.2.1)
def sUndo (S : ZS) : Int × ZS := if S.U.length = 0 then (-1000002, S) else ((S.U.tail.length : Int), S.uB (lgb S.U 0) S.U.tail)
def kp (b : BN) (U : List BN) : List BN := (b :: U).take 24
noncomputable def hkN : Nat → BN × List BN → BN × List BN
  | 0, s => s
  | k + 1, s => ((hourR (fun _ => True) (hkN k s).1).1, kp (hkN k s).1 (hkN k s).2)
noncomputable def sHours (S : ZS) (n : Int) : Int × ZS := if S.b.1 3 = 0 then (-1000002, S) else if n < 1 ∨ 24 < n then (-1000001, S) else if 999 < S.b.1 4 + n then (-1000003, S) else (sitB (hkN n.toNat (S.b, S.U)).1.2 (hkN n.toNat (S.b, S.U)).1.2.length, S.uB (hkN n.toNat (S.b, S.U)).1 (hkN n.toNat (S.b, S.U)).2)
abbrev noM (S : ZS) (m : Int) : Prop := m < 0 ∨ S.b.1 3 - 1 < m
def sSnuff (S : ZS) (m : Int) : Int × ZS := if noM S m then (-1000001, S) else if plc S.b.2 m ≤ 0 then (-1000002, S) else (plc (snf S.b m).2 m, S.uB (snf S.b m) (kp S.b S.U))
def sLeave (S : ZS) (m : Int) : Int × ZS := if noM S m then (-1000001, S) else if gn S.b.1 m < 0 then (-1000002, S) else (((goneR S.b m (-1)).2.length : Int), S.uB (goneR S.b m (-1)) (kp S.b S.U))
def cmR (b : BN) (m : Int) : BN := (zup b.1 (15 + 5 * m + 4) 0, ins b.2 b.2.length m)
def sCome (S : ZS) (m : Int) : Int × ZS := if noM S m then (-1000001, S) else if gn S.b.1 m < 0 then (plc (cmR S.b m).2 m, S.uB (cmR S.b m) (kp S.b S.U)) else (-1000002, S)
def juR (b : BN) (o : Int) : BN := (zup b.1 5 o, b.2)
noncomputable def sJune (S : ZS) (o : Int) : Int × ZS := if S.b.1 3 = 0 then (-1000002, S) else if o < 0 ∨ 1 < o then (-1000001, S) else if S.b.1 5 = o then (-1000002, S) else (sunB (juR S.b o).1 S.b.2 S.b.2.length, S.uB (juR S.b o) (kp S.b S.U))
theorem CS.men {mem : ZMem} {S : ZS} (h : CS mem S) : mem 16 2 = S.b.1 3 := h.2.2.1.1.2.2.1
theorem SInv.bi {S : ZS} (h : SInv S) : BInv S.b.1 S.b.2 := h.2.1.1
theorem SInv.hr {S : ZS} (h : SInv S) : S.b.1 4 ≤ 999 := h.2.1.2.1
theorem SInv.wd {S : ZS} (h : SInv S) : 0 ≤ S.b.1 2 := h.2.1.2.2
theorem cmR_inv {b : BN} (h : BInv b.1 b.2) {m : Int} (h0 : 0 ≤ m) (h1 : m < b.1 3) (hg : gn b.1 m < 0) : BInv (cmR b m).1 (cmR b m).2 := by
  refine h.sit h0 h1 (fun hm => ?_)
  have := (h.2.2.2.2.1 m h0 h1).2.2.2.2.2.mpr hm
  omega
theorem juR_inv {b : BN} (h : BInv b.1 b.2) {o : Int} (ho : o = 0 ∨ o = 1) : BInv (juR b o).1 (juR b o).2 := by
  obtain ⟨i1, i2, i3, i4, i5, i6, i7, i8⟩ := h
  have e : ∀ k, k ≠ 5 → zup b.1 5 o k = b.1 k := fun k hk => zup_n hk
  show BInv (zup b.1 5 o) b.2
  unfold BInv
  rw [e 1 (by omega), e 2 (by omega), e 3 (by omega), e 4 (by omega), zup_s]
  refine ⟨i1, i2, i3, i4, fun m m0 m1 => ?_, i6, i7, ho⟩
  have k1 : kd (zup b.1 5 o) m = kd b.1 m := zup_n (by omega)
  have k2 : dn (zup b.1 5 o) m = dn b.1 m := zup_n (by omega)
  have k3 : lg (zup b.1 5 o) m = lg b.1 m := zup_n (by omega)
  have k4 : gn (zup b.1 5 o) m = gn b.1 m := zup_n (by omega)
  have k5 : wm (zup b.1 5 o) m = wm b.1 m := zup_n (by omega)
  rw [k1, k2, k3, k4, k5]
  exact i5 m m0 m1
theorem CB.juned {mem : ZMem} {j : Nat} {r : Int → Int} {L : List Int} {o : Int} (h : CB mem j r L) : CB (mset mem j 8 o) j (zup r 5 o) L := by
  obtain ⟨⟨c0, c1, c2, c6, c7, c8, c9⟩, cO, cM⟩ := h
  have e : ∀ k, k ≠ 5 → zup r 5 o k = r k := fun k hk => zup_n hk
  refine ⟨?_, fun x x0 x1 => ?_, fun m m0 m1 => ?_⟩
  · rw [e 1 (by omega), e 2 (by omega), e 3 (by omega), e 4 (by omega), e 6 (by omega), zup_s, mset_s, mset_i (by omega), mset_i (by omega), mset_i (by omega), mset_i (by omega), mset_i (by omega), mset_i (by omega)]
    exact ⟨c0, c1, c2, c6, c7, rfl, c9⟩
  · rw [mset_n (by omega)]; exact cO x x0 x1
  · rw [e 3 (by omega)] at m1
    have k1 : kd (zup r 5 o) m = kd r m := zup_n (by omega)
    have k2 : dn (zup r 5 o) m = dn r m := zup_n (by omega)
    have k3 : lg (zup r 5 o) m = lg r m := zup_n (by omega)
    have k4 : gn (zup r 5 o) m = gn r m := zup_n (by omega)
    have k5 : wm (zup r 5 o) m = wm r m := zup_n (by omega)
    rw [k1, k2, k3, k4, k5, mset_n (by omega), mset_n (by omega), mset_n (by omega), mset_n (by omega), mset_n (by omega)]
    exact cM m m0 m1
theorem c_feed {mem : ZMem} {S : ZS} (hC : CS mem S) {c : Int} (hc : In32 c) : CI mX6_feed 1 [zr 0, zi c] mem (QS mem (sFeed S c)) := by
  obtain ⟨t1, t2⟩ := hC.2.1
  refine CM.of (by decide +kernel) ([zr 0, zi c]) (zok_all rfl) (Nat.le_of_ble_eq_true rfl) rfl ?_
  refine J_il1 dX6_feed_0 ?_
  refine J_iconst dX6_feed_1 ?_
  refine J_sipush dX6_feed_2 rfl ?_
  refine M_csI3 dX6_feed_5 lk_X6_67 cw_X6_outside (k_outside hc (by omega) (by omega)) (by decide) (Nat.le_of_ble_eq_true rfl) (fun v_5 mem_5 hq => ?_)
  obtain ⟨rfl, hq⟩ := hq; have hq := hq.symm; subst hq
  refine J_ifeq_b (tgt := 14) dX6_feed_8 rfl (fun c_8 => ?_) (fun c_8 => ?_)
  · skip
    refine J_al0 dX6_feed_14 ?_
    refine M_getR dX6_feed_15 fl_X6_19 sh_0 rfl ?_
    refine M_cvI0 dX6_feed_18 lk_X6_106 cw_X5_isFull sh_14 rfl rfl (k_isFull (by omega)) (by decide) (Nat.le_of_ble_eq_true rfl) (fun v_18 mem_18 hq => ?_)
    obtain ⟨rfl, hq⟩ := hq; have hq := hq.symm; subst hq
    refine J_ifeq_b (tgt := 29) dX6_feed_21 rfl (fun c_21 => ?_) (fun c_21 => ?_)
    · skip
      refine J_al0 dX6_feed_29 ?_
      refine M_getR dX6_feed_30 fl_X6_19 sh_0 rfl ?_
      refine J_il1 dX6_feed_33 ?_
      refine M_cvI1 dX6_feed_34 lk_X6_111 cw_X5_add sh_14 rfl rfl (k_tadd (by omega)) (by decide) (Nat.le_of_ble_eq_true rfl) (fun v_34 mem_34 hq => ?_)
      obtain ⟨rfl, hq⟩ := hq; have hq := hq.symm; subst hq
      refine M_iret dX6_feed_37 rfl ?_
      first
      | (unfold sFeed; rw [if_neg (by omega), if_pos (by omega)]; exact ⟨rfl, hC, FrC.rf⟩)
      | unfold sFeed; rw [if_neg (by omega), if_neg (by omega), t1.1]
        refine ⟨rfl, CS.tp (mem' := mset (mset mem 15 S.n c) 14 1 (S.n + 1)) hC ⟨⟨mset_s _ _ _ _, by omega, by omega⟩, fun p p0 p1 => ?_⟩ (fun q q1 q2 q3 => by rw [mset_n q1, mset_n q2]), (FrC.rf.set (by omega)).set (by omega)⟩
        rw [mset_n (by omega), mset_q]
        by_cases e : p = S.n
        · subst e; rw [zup_s, zup_s]; omega
        · rw [zup_n e, zup_n e]; exact t2 p p0 (by omega)
    · skip
      refine J_ldc (n := -1000003) dX6_feed_24 co_X6_110 (by decide) ?_
      refine J_goto (tgt := 37) dX6_feed_26 rfl ?_
      refine M_iret dX6_feed_37 rfl ?_
      first
      | (unfold sFeed; rw [if_neg (by omega), if_pos (by omega)]; exact ⟨rfl, hC, FrC.rf⟩)
      | unfold sFeed; rw [if_neg (by omega), if_neg (by omega), t1.1]
        refine ⟨rfl, CS.tp (mem' := mset (mset mem 15 S.n c) 14 1 (S.n + 1)) hC ⟨⟨mset_s _ _ _ _, by omega, by omega⟩, fun p p0 p1 => ?_⟩ (fun q q1 q2 q3 => by rw [mset_n q1, mset_n q2]), (FrC.rf.set (by omega)).set (by omega)⟩
        rw [mset_n (by omega), mset_q]
        by_cases e : p = S.n
        · subst e; rw [zup_s, zup_s]; omega
        · rw [zup_n e, zup_n e]; exact t2 p p0 (by omega)
  · skip
    refine J_ldc (n := -1000001) dX6_feed_11 co_X6_71 (by decide) ?_
    refine M_iret dX6_feed_13 rfl ?_
    unfold sFeed; rw [if_pos (by omega)]; exact ⟨rfl, hC, FrC.rf⟩
theorem c_bench {mem : ZMem} {S : ZS} (hC : CS mem S) : CI mX6_bench 6 [zr 0] mem (QS mem (sBench S)) := by
  refine CM.of (by decide +kernel) ([zr 0, zu]) (zok_all rfl) (Nat.le_of_ble_eq_true rfl) rfl ?_
  refine J_al0 dX6_bench_0 ?_
  refine M_getR dX6_bench_1 fl_X6_19 sh_0 rfl ?_
  refine J_al0 dX6_bench_4 ?_
  refine M_getR dX6_bench_5 fl_X6_43 sh_0 rfl ?_
  refine M_cvI1 dX6_bench_8 lk_X6_114 cw_X5_readInto sh_14 rfl rfl (k_readInto hC.2.1) (by decide) (Nat.le_of_ble_eq_true rfl) (fun v_8 mem_8 hq => ?_)
  obtain ⟨rfl, g1, g2, g3, g4⟩ := hq
  have C1 : CS mem_8 S := by
    have hT : CS mem_8 (S.uTp S.t S.n) := hC.tp g2 (fun q q1 q2 q3 => g4 q q1 (by omega))
    exact hT
  refine J_is1 dX6_bench_11 (by decide) rfl ?_
  refine J_al0 dX6_bench_12 ?_
  refine M_getR dX6_bench_13 fl_X6_19 sh_0 rfl ?_
  refine M_cvV0 dX6_bench_16 lk_X6_118 cw_X5_clear sh_14 rfl rfl k_tclear (by decide) (Nat.le_of_ble_eq_true rfl) (fun mem_16 hq => ?_)
  subst hq
  have C2 : CS (mset mem_8 14 1 0) (S.uTp S.t 0) := C1.tp ⟨⟨mset_s _ _ _ _, by omega, by omega⟩, fun p p0 p1 => by omega⟩ (fun q q1 q2 q3 => mset_n q1)
  have F2 : FrC mem (mset mem_8 14 1 0) := FrC.set (fun q hq => g4 q (by omega) (by omega)) (by omega)
  refine J_il1 dX6_bench_19 ?_
  refine J_ifne_b (tgt := 45) dX6_bench_20 rfl (fun c_20 => ?_) (fun c_20 => ?_)
  · skip
    obtain ⟨g5, g6⟩ := g3 c_20
    have I6 := g6.inv
    have hl := I6.len
    have C63 : CB (mset mem_8 14 1 0) 63 (pAll S.t S.n).2.1 (rng (pAll S.t S.n).2.2) := g5.ext (fun q q0 q1 => mset_n (by omega))
    refine J_al0 dX6_bench_45 ?_
    refine M_getR dX6_bench_46 fl_X6_26 sh_0 rfl ?_
    refine J_al0 dX6_bench_49 ?_
    refine M_getR dX6_bench_50 fl_X6_43 sh_0 rfl ?_
    refine M_cvV1 dX6_bench_53 lk_X6_128 cw_X2_become sh_16 rfl rfl (k_become (Or.inl rfl) (Or.inr (Or.inr (Or.inr (Or.inl rfl)))) (by decide) C63 (by have := I6.1; omega) (by have := I6.1; omega) I6.2.2.2.2.2.2.2) (by decide) (Nat.le_of_ble_eq_true rfl) (fun mem_53 hq => ?_)
    obtain ⟨hB, hF⟩ := hq
    refine J_al0 dX6_bench_56 ?_
    refine M_getR dX6_bench_57 fl_X6_33 sh_0 rfl ?_
    refine M_cvV0 dX6_bench_60 lk_X6_132 cw_X0_clear sh_23 rfl rfl (k_aclear (U := S.U) ((C2.2.2.2.1).ext (fun q q0 q1 => hF q (by omega)))) (by decide) (Nat.le_of_ble_eq_true rfl) (fun mem_60 hq => ?_)
    obtain ⟨hA, hG⟩ := hq
    refine J_al0 dX6_bench_63 ?_
    refine M_getR dX6_bench_64 fl_X6_26 sh_0 rfl ?_
    refine M_get (ki := 2) dX6_bench_67 fl_X6_133 sh_16 rfl rfl ?_
    refine M_iret dX6_bench_70 rfl ?_
    unfold sBench; rw [if_pos c_20]
    have hB' : CB mem_60 16 (pAll S.t S.n).2.1 (rng (pAll S.t S.n).2.2) := hB.ext (fun q q0 q1 => hG q (by omega))
    exact ⟨hB'.1.2.2.1, C2.bn hB' hA (fun q q1 q2 => by rw [hG q (by omega), hF q (by omega)]), fun q hq => by rw [hG q (by omega), hF q (by omega), F2 q hq]⟩
  · skip
    refine J_al0 dX6_bench_23 ?_
    refine J_al0 dX6_bench_24 ?_
    refine M_getR dX6_bench_25 fl_X6_19 sh_0 rfl ?_
    refine M_get (ki := 2) dX6_bench_28 fl_X6_121 sh_14 rfl rfl ?_
    refine M_put (ki := 9) dX6_bench_31 fl_X6_56 sh_0 rfl rfl rfl (fun r hr => by cases hr; rfl) ?_
    refine J_ldc (n := -1000100) dX6_bench_34 co_X6_124 (by decide) ?_
    refine J_al0 dX6_bench_36 ?_
    refine M_getR dX6_bench_37 fl_X6_19 sh_0 rfl ?_
    refine M_get (ki := 3) dX6_bench_40 fl_X6_125 sh_14 rfl rfl ?_
    refine J_isub dX6_bench_43 ?_
    refine M_iret dX6_bench_44 rfl ?_
    unfold sBench; rw [if_neg c_20]
    have e3 : mset (mset mem_8 14 1 0) 0 9 (mset mem_8 14 1 0 14 2) 14 3 = (pAll S.t S.n).1.2.2 := by rw [mset_n (by omega), mset_i (by omega)]; exact g1.2.2 c_20
    have e2 : mset mem_8 14 1 0 14 2 = (pAll S.t S.n).1.2.1 := by rw [mset_i (by omega)]; exact g1.2.1
    rw [e3, e2]
    exact ⟨rfl, C2.ft _, F2.set (by omega)⟩
theorem c_fault {mem : ZMem} {S : ZS} (hC : CS mem S) : CI mX6_fault 0 [zr 0] mem (QS mem (S.fl, S)) := by
  refine CM.of (by decide +kernel) ([zr 0]) (zok_all rfl) (Nat.le_of_ble_eq_true rfl) rfl ?_
  refine J_al0 dX6_fault_0 ?_
  refine M_get (ki := 9) dX6_fault_1 fl_X6_56 sh_0 rfl rfl ?_
  refine M_iret dX6_fault_4 rfl ?_
  exact ⟨hC.2.2.2.2.2.2.2.1, hC, FrC.rf⟩
theorem c_undo {mem : ZMem} {S : ZS} (hC : CS mem S) (hI : SInv S) : CI mX6_undo 2 [zr 0] mem (QS mem (sUndo S)) := by
  have hA := hC.2.2.2.1
  have a1 := hA.1
  have a2 := hA.2.1
  refine CM.of (by decide +kernel) ([zr 0]) (zok_all rfl) (Nat.le_of_ble_eq_true rfl) rfl ?_
  refine J_al0 dX6_undo_0 ?_
  refine M_getR dX6_undo_1 fl_X6_33 sh_0 rfl ?_
  refine M_get (ki := 2) dX6_undo_4 fl_X6_136 sh_23 rfl rfl ?_
  refine J_ifne (tgt := 13) dX6_undo_7 rfl (by omega) (fun c_7 => ?_) (fun c_7 => ?_)
  · skip
    have hU : S.U = lgb S.U 0 :: S.U.tail := by
      cases hz : S.U with
      | nil => rw [hz] at a1; exact absurd a1 c_7
      | cons u U => rfl
    have hm : lgb S.U 0 ∈ S.U := by rw [hU]; exact List.mem_cons_self
    obtain ⟨⟨o1, o2⟩, o3⟩ := hI.2.2.1.2 _ hm
    have hA' := hA
    rw [hU] at hA'
    have hl := o1.len
    have ho := o1.1
    have hb := hI.bi.1
    refine J_al0 dX6_undo_13 ?_
    refine M_getR dX6_undo_14 fl_X6_33 sh_0 rfl ?_
    refine J_al0 dX6_undo_17 ?_
    refine M_getR dX6_undo_18 fl_X6_26 sh_0 rfl ?_
    refine M_cvV1 dX6_undo_21 lk_X6_140 cw_X0_takeBack sh_23 rfl rfl (k_takeBack hA' hC.2.2.1 o3 (by omega) (by omega) o1.2.2.2.2.2.2.2) (by decide) (Nat.le_of_ble_eq_true rfl) (fun mem_21 hq => ?_)
    obtain ⟨g1, g2, g3⟩ := hq
    refine J_al0 dX6_undo_24 ?_
    refine M_getR dX6_undo_25 fl_X6_33 sh_0 rfl ?_
    refine M_get (ki := 2) dX6_undo_28 fl_X6_136 sh_23 rfl rfl ?_
    refine M_iret dX6_undo_31 rfl ?_
    unfold sUndo; rw [if_neg (by omega)]
    exact ⟨g1.1, hC.bn g2 g1 (fun q q1 q2 => g3 q (by omega) (by omega)), fun q hq => g3 q (by omega) (by omega)⟩
  · skip
    refine J_ldc (n := -1000002) dX6_undo_10 co_X6_139 (by decide) ?_
    refine M_iret dX6_undo_12 rfl ?_
    unfold sUndo; rw [if_pos (by omega)]; exact ⟨rfl, hC, FrC.rf⟩
