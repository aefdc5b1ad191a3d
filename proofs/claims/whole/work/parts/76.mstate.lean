/-! THE REFERENCE IS IN A STATE -/
def MRw (mem : ZMem) (ln mn : Int → Int) (it : Int → Int → Int) : Prop := ∀ w : Int, 0 ≤ w → w < 8 → mem 80 w = ln w ∧ mem 81 w = mn w ∧ ∀ i : Int, 0 ≤ i → i < 40 → mem 82 (40 * w + i) = it w i
def MTp (mem : ZMem) (t : Int → Int) (n : Int) : Prop := mem 79 11 = n ∧ ∀ p : Int, 0 ≤ p → p < n → mem 87 p = t p
def MU (mem : ZMem) (U : List BN) : Prop := mem 79 9 = (U.length : Int) ∧ ∀ i : Int, 0 ≤ i → i < U.length → MB (fun x => mem 86 (50 * (U.length - 1 - i) + x)) (lgb U i).1 (lgb U i).2
def MIm (mem : ZMem) (k : Int) (b : BN) : Prop := mem 90 k = bi (¬ b.1 3 = 0) ∧ MB (fun x => mem 91 (50 * k + x)) b.1 b.2
def MTr (mem : ZMem) (T : List Int) : Prop := mem 79 24 = (T.length : Int) ∧ ∀ i : Int, 0 ≤ i → i < T.length → mem 92 i = lget T i
def MS (mem : ZMem) (S : ZS) : Prop := MRw mem S.ln S.mn S.it ∧ MTp mem S.t S.n ∧ MB (mem 83) S.b.1 S.b.2 ∧ MU mem S.U ∧ MIm mem 0 S.i0 ∧ MIm mem 1 S.i1 ∧ MTr mem S.tr ∧ mem 79 18 = S.fl ∧ mem 79 1 = S.st
/-- what lies ahead of the reference is as it was -/
def FrM (mem mem' : ZMem) : Prop := ∀ q : Nat, q < 79 → mem' q = mem q
theorem FrM.rf {mem : ZMem} : FrM mem mem := fun _ _ => rfl
theorem FrM.tr {a b c : ZMem} (h : FrM a b) (g : FrM b c) : FrM a c := fun q hq => (g q hq).trans (h q hq)
theorem FrM.set {a b : ZMem} {q : Nat} {i v : Int} (h : FrM a b) (hq : 79 ≤ q) : FrM a (mset b q i v) := fun x hx => by rw [mset_n (by omega)]; exact h x hx
def QM (mem : ZMem) (R : Int × ZS) : Int → ZMem → Prop := fun v mem' => v = R.1 ∧ MS mem' R.2 ∧ FrM mem mem'
/-- what does not bear on the state: cells 84, 85, 88, 89 and some numbers of 79 -/
theorem MS.ext {mem mem' : ZMem} {S : ZS} (h : MS mem S) (h79 : ∀ x : Int, x = 1 ∨ x = 9 ∨ x = 11 ∨ x = 18 ∨ x = 24 → mem' 79 x = mem 79 x) (e : ∀ q : Nat, 80 ≤ q → q ≤ 92 → q ≠ 84 → q ≠ 85 → q ≠ 88 → q ≠ 89 → mem' q = mem q) : MS mem' S := by
  unfold MS MRw MTp MU MIm MTr at h ⊢
  rw [h79 1 (by omega), h79 9 (by omega), h79 11 (by omega), h79 18 (by omega), h79 24 (by omega), e 80 (by omega) (by omega) (by omega) (by omega) (by omega) (by omega), e 81 (by omega) (by omega) (by omega) (by omega) (by omega) (by omega), e 82 (by omega) (by omega) (by omega) (by omega) (by omega) (by omega), e 83 (by omega) (by omega) (by omega) (by omega) (by omega) (by omega), e 86 (by omega) (by omega) (by omega) (by omega) (by omega) (by omega), e 87 (by omega) (by omega) (by omega) (by omega) (by omega) (by omega), e 90 (by omega) (by omega) (by omega) (by omega) (by omega) (by omega), e 91 (by omega) (by omega) (by omega) (by omega) (by omega) (by omega), e 92 (by omega) (by omega) (by omega) (by omega) (by omega) (by omega)]
  exact h
theorem MS.thr {mem : ZMem} {S : ZS} (h : MS mem S) : MS (mset mem 79 0 0) S := h.ext (fun x hx => mset_i (by omega)) (fun q _ _ _ _ _ _ => mset_n (by omega))
theorem MS.fnd {mem : ZMem} {S : ZS} (h : MS mem S) (k : Int) : MS (mset mem 79 1 k) (S.uSt k) := by
  have e : ∀ q : Nat, 80 ≤ q → mset mem 79 1 k q = mem q := fun q hq => mset_n (by omega)
  unfold MS MRw MTp MU MIm MTr at h ⊢
  rw [mset_s, mset_i (by omega), mset_i (by omega), mset_i (by omega), mset_i (by omega), e 80 (by omega), e 81 (by omega), e 82 (by omega), e 83 (by omega), e 86 (by omega), e 87 (by omega), e 90 (by omega), e 91 (by omega), e 92 (by omega)]
  exact ⟨h.1, h.2.1, h.2.2.1, h.2.2.2.1, h.2.2.2.2.1, h.2.2.2.2.2.1, h.2.2.2.2.2.2.1, h.2.2.2.2.2.2.2.1, rfl⟩
theorem mbch {mem : ZMem} {S : ZS} (h : MS mem S) : MX (mem 83) S.b.1 S.b.2 := h.2.2.1.1
theorem MS.men {mem : ZMem} {S : ZS} (h : MS mem S) : mem 83 3 = S.b.1 3 := h.2.2.1.1.1.2.2.1
theorem MS.there {mem : ZMem} {S : ZS} (h : MS mem S) : mem 83 0 = bi (¬ S.b.1 3 = 0) := h.2.2.1.2.2
theorem MS.th {mem : ZMem} {S : ZS} (h : MS mem S) : (mem 83 0 = 0 ∨ mem 83 0 = 1) ∧ (mem 83 0 = 1 ↔ ¬ S.b.1 3 = 0) := by
  have ht := h.there
  have h01 := bi_01 (¬ S.b.1 3 = 0)
  rw [ht]
  exact ⟨h01, fun z => bi_ne.mp (by omega), fun z => bi_t z⟩
theorem isW83 : isW 83 := Or.inl rfl
theorem isW85 : isW 85 := Or.inr (Or.inr rfl)
theorem m_fault {mem : ZMem} {S : ZS} (hS : MS mem S) : CI mX7_fault 0 [zr 79] mem (QM mem (S.fl, S)) := by
  refine CM.of (by decide +kernel) ([zr 79]) (zok_all rfl) (Nat.le_of_ble_eq_true rfl) rfl ?_
  refine J_al0 dX7_fault_0 ?_
  refine J_iconst dX7_fault_1 ?_
  refine M_put (ki := 0) dX7_fault_2 fl_X7_50 sh_79 rfl rfl rfl (fun r hr => by cases hr; rfl) ?_
  refine J_al0 dX7_fault_5 ?_
  refine M_get (ki := 18) dX7_fault_6 fl_X7_119 sh_79 rfl rfl ?_
  refine M_iret dX7_fault_9 rfl ?_
  exact ⟨by rw [mset_i (by omega)]; exact hS.2.2.2.2.2.2.2.1, hS.thr, FrM.rf.set (by omega)⟩
theorem m_status {mem : ZMem} {S : ZS} (hS : MS mem S) : CI mX7_status 0 [zr 79] mem (QM mem (S.st, S)) := by
  refine CM.of (by decide +kernel) ([zr 79]) (zok_all rfl) (Nat.le_of_ble_eq_true rfl) rfl ?_
  refine J_al0 dX7_status_0 ?_
  refine J_iconst dX7_status_1 ?_
  refine M_put (ki := 0) dX7_status_2 fl_X7_50 sh_79 rfl rfl rfl (fun r hr => by cases hr; rfl) ?_
  refine J_al0 dX7_status_5 ?_
  refine M_get (ki := 1) dX7_status_6 fl_X7_54 sh_79 rfl rfl ?_
  refine M_iret dX7_status_9 rfl ?_
  exact ⟨by rw [mset_i (by omega)]; exact hS.2.2.2.2.2.2.2.2, hS.thr, FrM.rf.set (by omega)⟩
theorem m_sun {mem : ZMem} {S : ZS} (hS : MS mem S) (hI : SInv S) {h : Int} (hh : In32 h) : CI mX7_sun 2 [zr 79, zi h] mem (QM mem (vSun S h, S)) := by
  have hb := hI.bi
  have h0 := hS.thr
  have htt := h0.th
  have hF : FrM mem (mset mem 79 0 0) := FrM.rf.set (by omega)
  generalize hm : mset mem 79 0 0 = m0 at *
  refine CM.of (by decide +kernel) ([zr 79, zi h]) (zok_all rfl) (Nat.le_of_ble_eq_true rfl) rfl ?_
  refine J_al0 dX7_sun_0 ?_
  refine J_iconst dX7_sun_1 ?_
  refine M_put (ki := 0) dX7_sun_2 fl_X7_50 sh_79 rfl rfl rfl (fun r hr => by cases hr; rfl) ?_
  rw [hm]
  refine J_al0 dX7_sun_5 ?_
  refine M_cvI0 dX7_sun_6 lk_X7_186 cw_X7_isThere sh_79 rfl rfl (k_isThere htt.1) (by decide) (Nat.le_of_ble_eq_true rfl) (fun v_6 mem_6 hq => ?_)
  obtain ⟨rfl, hq⟩ := hq; have hq := hq.symm; subst hq
  refine J_ifne_b (tgt := 15) dX7_sun_9 rfl (fun c_9 => ?_) (fun c_9 => ?_)
  · skip
    refine J_il1 dX7_sun_15 ?_
    refine J_i2l dX7_sun_16 (by omega) ?_
    refine J_lconst0 dX7_sun_17 ?_
    refine J_ldc2 (n := 23) dX7_sun_18 col_X7_208 (by decide) ?_
    refine M_csI3 dX7_sun_21 lk_X7_60 cw_X7_in (k_in (by omega) (by omega) (by omega)) (by decide) (Nat.le_of_ble_eq_true rfl) (fun v_21 mem_21 hq => ?_)
    obtain ⟨rfl, hq⟩ := hq; have hq := hq.symm; subst hq
    refine J_ifeq_b (tgt := 38) dX7_sun_24 rfl (fun c_24 => ?_) (fun c_24 => ?_)
    · skip
      refine J_ldc (n := -1000001) dX7_sun_38 co_X7_70 (by decide) ?_
      refine M_iret dX7_sun_40 rfl ?_
      first
      | exact ⟨by unfold vSun; rw [if_neg (by omega), if_neg (by omega)], h0, hF⟩
      | exact ⟨by unfold vSun; rw [if_neg (by omega), if_pos (by omega)], h0, hF⟩
    · skip
      refine J_al0 dX7_sun_27 ?_
      refine M_getR dX7_sun_28 fl_X7_19 sh_79 rfl ?_
      refine J_il1 dX7_sun_31 ?_
      refine M_csI2 dX7_sun_32 lk_X7_152 cw_X7_sunOf (k_sunOf isW83 (mbch h0) hb.lt (by omega)) (by decide) (Nat.le_of_ble_eq_true rfl) (fun v_32 mem_32 hq => ?_)
      obtain ⟨rfl, hq⟩ := hq; have hq := hq.symm; subst hq
      refine J_goto (tgt := 40) dX7_sun_35 rfl ?_
      refine M_iret dX7_sun_40 rfl ?_
      first
      | exact ⟨by unfold vSun; rw [if_neg (by omega), if_neg (by omega)], h0, hF⟩
      | exact ⟨by unfold vSun; rw [if_neg (by omega), if_pos (by omega)], h0, hF⟩
  · skip
    refine J_ldc (n := -1000002) dX7_sun_12 co_X7_189 (by decide) ?_
    refine M_iret dX7_sun_14 rfl ?_
    exact ⟨by unfold vSun; rw [if_pos (by omega)], h0, hF⟩
