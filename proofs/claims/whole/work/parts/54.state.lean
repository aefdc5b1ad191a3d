section ZW
variable {mi : ZMI} {d mc ms sz0 : Nat} {scr : Option (Nat × (Int → Int))} {Q : Option ZV → List ZC → Prop} {pc : Nat} {zs st : List ZV} {h : List ZC} {cells slots : Nat}
theorem J_ldcw {idx : Nat} {n : Int} {v : Int32} (hd : decode mi.2.1 pc = .ok (.ldc_w idx, 3)) (hc : Cond.constant mi.1.cls idx v ∈ ztb) (hv : v = Int32.ofInt n) (k : J mi d mc ms sz0 scr Q (pc + 3) zs (zi n :: st) h cells slots) : J mi d mc ms sz0 scr Q pc zs st h cells slots := by
  intro E p l e s m args below meth c C hl H locs ls hP hS hL
  subst hv
  exact lv_ldcw C.1 C.2.1 C.2.2.2.1 (C.2.2.2.2.1 _ hc) hd (k E p l e s m args below meth c C hl H locs ls hP hS hL)
end ZW
/-! WHAT THE WHOLE IS IN: rows, tape, bench, what can be taken back, images, trace, latest fault, latest finding -/
def ZS : Type := ((Int → Int) × (Int → Int) × (Int → Int → Int)) × ((Int → Int) × Int) × (BN × List BN) × (BN × BN) × List Int × Int × Int
def mkS (ln mn : Int → Int) (it : Int → Int → Int) (t : Int → Int) (n : Int) (b : BN) (U : List BN) (i0 i1 : BN) (tr : List Int) (fl st : Int) : ZS := ((ln, mn, it), (t, n), (b, U), (i0, i1), tr, fl, st)
def ZS.ln (S : ZS) : Int → Int := S.1.1
def ZS.mn (S : ZS) : Int → Int := S.1.2.1
def ZS.it (S : ZS) : Int → Int → Int := S.1.2.2
def ZS.t (S : ZS) : Int → Int := S.2.1.1
def ZS.n (S : ZS) : Int := S.2.1.2
def ZS.b (S : ZS) : BN := S.2.2.1.1
def ZS.U (S : ZS) : List BN := S.2.2.1.2
def ZS.i0 (S : ZS) : BN := S.2.2.2.1.1
def ZS.i1 (S : ZS) : BN := S.2.2.2.1.2
def ZS.tr (S : ZS) : List Int := S.2.2.2.2.1
def ZS.fl (S : ZS) : Int := S.2.2.2.2.2.1
def ZS.st (S : ZS) : Int := S.2.2.2.2.2.2
def ZS.uSt (S : ZS) (k : Int) : ZS := mkS S.ln S.mn S.it S.t S.n S.b S.U S.i0 S.i1 S.tr S.fl k
def ZS.uFl (S : ZS) (k : Int) : ZS := mkS S.ln S.mn S.it S.t S.n S.b S.U S.i0 S.i1 S.tr k S.st
def ZS.uRw (S : ZS) (ln mn : Int → Int) (it : Int → Int → Int) : ZS := mkS ln mn it S.t S.n S.b S.U S.i0 S.i1 S.tr S.fl S.st
def ZS.uTp (S : ZS) (t : Int → Int) (n : Int) : ZS := mkS S.ln S.mn S.it t n S.b S.U S.i0 S.i1 S.tr S.fl S.st
def ZS.uB (S : ZS) (b : BN) (U : List BN) : ZS := mkS S.ln S.mn S.it S.t S.n b U S.i0 S.i1 S.tr S.fl S.st
def ZS.uIm (S : ZS) (i0 i1 : BN) : ZS := mkS S.ln S.mn S.it S.t S.n S.b S.U i0 i1 S.tr S.fl S.st
def ZS.uTr (S : ZS) (tr : List Int) : ZS := mkS S.ln S.mn S.it S.t S.n S.b S.U S.i0 S.i1 tr S.fl S.st
abbrev In32 (a : Int) : Prop := -2147483648 ≤ a ∧ a < 2147483648
/-- what the numbers keep to -/
def OkB (b : BN) : Prop := BInv b.1 b.2 ∧ b.1 4 ≤ 999 ∧ 0 ≤ b.1 2
def SInv (S : ZS) : Prop := (∀ w, 0 ≤ w → w < 8 → (-1 ≤ S.ln w ∧ S.ln w ≤ 2) ∧ (0 ≤ S.mn w ∧ S.mn w ≤ 40) ∧ ∀ i, 0 ≤ i → i < 40 → In32 (S.it w i)) ∧ OkB S.b ∧ (S.U.length ≤ 24 ∧ ∀ u ∈ S.U, OkB u ∧ Stat S.b.1 u.1) ∧ OkB S.i0 ∧ OkB S.i1 ∧ S.tr.length ≤ 16 ∧ (0 ≤ S.n ∧ S.n ≤ 100 ∧ ∀ p, 0 ≤ p → p < S.n → 0 ≤ S.t p ∧ S.t p ≤ 255)
/-- the class's rows -/
def RwC (mem : ZMem) (ln mn : Int → Int) (it : Int → Int → Int) : Prop := ∀ w, 0 ≤ w → w < 8 → mem 2 w = bi (0 ≤ ln w) ∧ (0 ≤ ln w → mem 3 w = ln w) ∧ mem 4 w = mn w ∧ ∀ i, 0 ≤ i → i < 40 → mem (6 + w).toNat i = it w i
def TrC (mem : ZMem) (T : List Int) : Prop := mem 77 1 = T.length ∧ ∀ i : Int, 0 ≤ i → i < T.length → mem 78 i = lget T i
def CS (mem : ZMem) (S : ZS) : Prop := RwC mem S.ln S.mn S.it ∧ TpC mem S.t S.n ∧ CB mem 16 S.b.1 S.b.2 ∧ AcC mem S.U ∧ CB mem 49 S.i0.1 S.i0.2 ∧ CB mem 56 S.i1.1 S.i1.2 ∧ TrC mem S.tr ∧ mem 0 9 = S.fl ∧ mem 0 10 = S.st
/-- all but the two trial benches is as it was -/
def FrT (mem mem' : ZMem) : Prop := ∀ q : Nat, q < 63 ∨ 76 < q → mem' q = mem q
/-- what lies outside the class is as it was -/
def FrC (mem mem' : ZMem) : Prop := ∀ q : Nat, 79 ≤ q → mem' q = mem q
theorem FrT.rf {mem : ZMem} : FrT mem mem := fun _ _ => rfl
theorem FrT.tr {a b c : ZMem} (h : FrT a b) (g : FrT b c) : FrT a c := fun q hq => (g q hq).trans (h q hq)
theorem FrC.rf {mem : ZMem} : FrC mem mem := fun _ _ => rfl
theorem FrC.tr {a b c : ZMem} (h : FrC a b) (g : FrC b c) : FrC a c := fun q hq => (g q hq).trans (h q hq)
theorem FrT.c {a b : ZMem} (h : FrT a b) : FrC a b := fun q hq => h q (by omega)
theorem FrB.c {j : Nat} {a b : ZMem} (h : FrB j a b) (hj : isB j) : FrC a b := fun q hq => h q (by unfold isB at hj; omega)
theorem FrB.t {j : Nat} {a b : ZMem} (h : FrB j a b) (hj : j = 63 ∨ j = 70) : FrT a b := fun q hq => h q (by omega)
theorem FrC.set {a b : ZMem} {q : Nat} {i v : Int} (h : FrC a b) (hq : q < 79) : FrC a (mset b q i v) := fun x hx => by rw [mset_n (by omega)]; exact h x hx
theorem RwC.ext {mem mem' : ZMem} {ln mn : Int → Int} {it : Int → Int → Int} (h : RwC mem ln mn it) (e : ∀ q : Nat, 2 ≤ q → q ≤ 13 → mem' q = mem q) : RwC mem' ln mn it := by
  intro w w0 w1
  obtain ⟨a, b, c, d⟩ := h w w0 w1
  rw [e 2 (by omega) (by omega), e 3 (by omega) (by omega), e 4 (by omega) (by omega), e (6 + w).toNat (by omega) (by omega)]
  exact ⟨a, b, c, d⟩
theorem TrC.ext {mem mem' : ZMem} {T : List Int} (h : TrC mem T) (e : ∀ q : Nat, 77 ≤ q → q ≤ 78 → mem' q = mem q) : TrC mem' T := by
  unfold TrC at h ⊢
  rw [e 77 (by omega) (by omega), e 78 (by omega) (by omega)]
  exact h
theorem PgC.ext {mem mem' : ZMem} {q : Nat} {b : BN} (h : PgC mem q b) (e : mem' q = mem q) : PgC mem' q b := by
  unfold PgC at h ⊢
  rw [e]
  exact h
theorem AcC.ext {mem mem' : ZMem} {U : List BN} (h : AcC mem U) (e : ∀ q : Nat, 23 ≤ q → q ≤ 48 → mem' q = mem q) : AcC mem' U := by
  obtain ⟨a, b, c, d⟩ := h
  unfold AcC
  rw [e 23 (by omega) (by omega)]
  refine ⟨a, b, c, fun i i0 i1 => (d i i0 i1).ext (e _ ?_ ?_)⟩ <;> · unfold pgi; omega
theorem CS.ext {mem mem' : ZMem} {S : ZS} (h : CS mem S) (e : FrT mem mem') : CS mem' S := by
  obtain ⟨a, b, c, d, f, g, i, j, k⟩ := h
  exact ⟨a.ext (fun q q0 q1 => e q (by omega)), b.ext (by rw [e 14 (by omega)]) (e 15 (by omega)), c.ext (fun q q0 q1 => e q (by omega)), d.ext (fun q q0 q1 => e q (by omega)), f.ext (fun q q0 q1 => e q (by omega)), g.ext (fun q q0 q1 => e q (by omega)), i.ext (fun q q0 q1 => e q (by omega)), by rw [e 0 (by omega)]; exact j, by rw [e 0 (by omega)]; exact k⟩
theorem CS.fnd {mem : ZMem} {S : ZS} (h : CS mem S) (k : Int) : CS (mset mem 0 10 k) (S.uSt k) := by
  obtain ⟨a, b, c, d, f, g, i, j, _⟩ := h
  have e : ∀ q : Nat, 1 ≤ q → mset mem 0 10 k q = mem q := fun q hq => mset_n (by omega)
  exact ⟨a.ext (fun q q0 q1 => e q (by omega)), b.ext (by rw [e 14 (by omega)]) (e 15 (by omega)), c.ext (fun q q0 q1 => e q (by omega)), d.ext (fun q q0 q1 => e q (by omega)), f.ext (fun q q0 q1 => e q (by omega)), g.ext (fun q q0 q1 => e q (by omega)), i.ext (fun q q0 q1 => e q (by omega)), by rw [mset_i (by omega)]; exact j, mset_s _ _ _ _⟩
/-- what a call of the class's keeps to -/
def QS (mem : ZMem) (R : Int × ZS) : Int → ZMem → Prop := fun v mem' => v = R.1 ∧ CS mem' R.2 ∧ FrC mem mem'
theorem k_finding {mem : ZMem} {k : Int} : CI mX6_finding 0 [zr 0, zi k] mem (fun v mem' => v = -1000010 - k ∧ mem' = mset mem 0 10 k) := by
  refine CM.of (by decide +kernel) ([zr 0, zi k]) (zok_all rfl) (Nat.le_of_ble_eq_true rfl) rfl ?_
  refine J_al0 dX6_finding_0 ?_
  refine J_il1 dX6_finding_1 ?_
  refine M_put (ki := 10) dX6_finding_2 fl_X6_60 sh_0 rfl rfl rfl (fun r hr => by cases hr; rfl) ?_
  refine J_ldcw (n := -1000010) dX6_finding_5 co_X6_297 (by decide) ?_
  refine J_il1 dX6_finding_8 ?_
  refine J_isub dX6_finding_9 ?_
  refine M_iret dX6_finding_10 rfl ?_
  exact ⟨rfl, rfl⟩
theorem k_noFinding {mem : ZMem} {k : Int} : CI mX6_noFinding 0 [zr 0, zi k] mem (fun v mem' => v = k ∧ mem' = mset mem 0 10 0) := by
  refine CM.of (by decide +kernel) ([zr 0, zi k]) (zok_all rfl) (Nat.le_of_ble_eq_true rfl) rfl ?_
  refine J_al0 dX6_noFinding_0 ?_
  refine J_iconst dX6_noFinding_1 ?_
  refine M_put (ki := 10) dX6_noFinding_2 fl_X6_60 sh_0 rfl rfl rfl (fun r hr => by cases hr; rfl) ?_
  refine J_il1 dX6_noFinding_5 ?_
  refine M_iret dX6_noFinding_6 rfl ?_
  exact ⟨rfl, rfl⟩
/-- what is found of a row -/
def fndS (S : ZS) (w i n : Int) : Int := if S.ln w < 0 then 1 else if 0 ≤ i ∧ 0 ≤ n ∧ i ≤ S.mn w - n then 0 else 2
theorem k_findingOf {mem : ZMem} {S : ZS} {w i n : Int} (hC : CS mem S) (hI : SInv S) (hw : 0 ≤ w ∧ w < 8) (hi : In32 i) (hn : In32 n) : CI mX6_findingOf 1 [zr 0, zi w, zi i, zi n] mem (fun v mem' => v = fndS S w i n ∧ mem' = mem) := by
  obtain ⟨r2, r3, r4, -⟩ := hC.1 w hw.1 hw.2
  obtain ⟨-, m4, -⟩ := hI.1 w hw.1 hw.2
  have h01 := bi_01 (0 ≤ S.ln w)
  refine CM.of (by decide +kernel) ([zr 0, zi w, zi i, zi n]) (zok_all rfl) (Nat.le_of_ble_eq_true rfl) rfl ?_
  refine J_al0 dX6_findingOf_0 ?_
  refine M_getR dX6_findingOf_1 fl_X6_10 sh_0 rfl ?_
  refine J_il1 dX6_findingOf_4 ?_
  refine M_cvI1 dX6_findingOf_5 lk_X6_90 cw_X4_isMissing sh_1 rfl rfl (k_isMissing hw (by omega)) (by decide) (Nat.le_of_ble_eq_true rfl) (fun v_5 mem_5 hq => ?_)
  obtain ⟨rfl, hq⟩ := hq; have hq := hq.symm; subst hq
  refine J_ifeq_b (tgt := 13) dX6_findingOf_8 rfl (fun c_8 => ?_) (fun c_8 => ?_)
  · skip
    have hl : 0 ≤ S.ln w := by
      rw [r2] at c_8
      have := bi_ne.mp c_8
      omega
    refine J_al0 dX6_findingOf_13 ?_
    refine M_getR dX6_findingOf_14 fl_X6_10 sh_0 rfl ?_
    refine J_il1 dX6_findingOf_17 ?_
    refine J_il2 dX6_findingOf_18 ?_
    refine J_il3 dX6_findingOf_19 ?_
    refine M_cvI3 dX6_findingOf_20 lk_X6_96 cw_X4_reaches sh_1 rfl rfl (k_reaches hw hi hn (by omega)) (by decide) (Nat.le_of_ble_eq_true rfl) (fun v_20 mem_20 hq => ?_)
    obtain ⟨rfl, hq⟩ := hq; have hq := hq.symm; subst hq
    refine J_ifeq_b (tgt := 30) dX6_findingOf_23 rfl (fun c_23 => ?_) (fun c_23 => ?_)
    · skip
      refine J_iconst dX6_findingOf_30 ?_
      refine M_iret dX6_findingOf_31 rfl ?_
      refine ⟨?_, rfl⟩
      unfold fndS
      rw [if_neg (by omega)]
      first | rw [if_pos (by omega)] | rw [if_neg (by omega)]
    · skip
      refine J_iconst dX6_findingOf_26 ?_
      refine J_goto (tgt := 31) dX6_findingOf_27 rfl ?_
      refine M_iret dX6_findingOf_31 rfl ?_
      refine ⟨?_, rfl⟩
      unfold fndS
      rw [if_neg (by omega)]
      first | rw [if_pos (by omega)] | rw [if_neg (by omega)]
  · skip
    refine J_iconst dX6_findingOf_11 ?_
    refine M_iret dX6_findingOf_12 rfl ?_
    refine ⟨?_, rfl⟩
    unfold fndS
    rw [if_pos]
    rw [r2] at c_8
    have := bi_eq.mp c_8
    omega
