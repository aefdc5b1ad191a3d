/-! WHAT IS FORETOLD, BY LOOPS -/
abbrev TT : Int → Prop := fun _ => True
abbrev Sny (b : BN) (m : Int) : Prop := 0 ≤ plc b.2 m ∧ snyR b.1 b.2.length (plc b.2 m)
noncomputable def fsN (b : BN) (m : Int) : Nat → Nat → Int
  | 0, _ => -1000000
  | c + 1, k => cif (Sny (hrs k b).1 m) (k : Int) (fsN b m c (k + 1))
noncomputable def vSunny (S : ZS) (m : Int) : Int := if noM S m then -1000001 else fsN S.b m 61 0
def snfN (b : BN) (m : Int) : Nat → BN
  | 0 => b
  | k + 1 => snf (snfN b m k) m
noncomputable def lsN (b : BN) (m n w : Int) : Nat → Nat → Int
  | 0, _ => -1000000
  | c + 1, k => cif (w ≤ wm (hrs n.toNat (snfN b m k)).1.1 m - wm b.1 m) (k : Int) (lsN b m n w c (k + 1))
noncomputable def vLeast (S : ZS) (m n w : Int) : Int := if noM S m ∨ n < 1 ∨ 60 < n ∨ w < 1 ∨ 60 < w then -1000001 else if plc S.b.2 m < 0 then -1000002 else lsN S.b m n w ((plc S.b.2 m).toNat + 1) 0
noncomputable def wcV (b : BN) (m n : Int) (k : Nat) : Int := wm (hrs (n.toNat - k) (cmR (hrs k b).1 m)).1.1 m - wm b.1 m
noncomputable def wcN (b : BN) (m n : Int) : Nat → Int × Int
  | 0 => (0, -1)
  | k + 1 => if (wcN b m n k).2 < wcV b m n k then ((k : Int), wcV b m n k) else wcN b m n k
noncomputable def vWhen (S : ZS) (m n w : Int) : Int := if noM S m ∨ n < 1 ∨ 40 < n ∨ w < 0 ∨ 1 < w then -1000001 else if gn S.b.1 m < 0 then (if w = 0 then (wcN S.b m n n.toNat).1 else (wcN S.b m n n.toNat).2) else -1000002
abbrev SitT (it : Int → Int → Int) (b : BN) (w i n : Int) : Prop := ∀ k : Nat, (k : Int) < n → ((hrs (k + 1) b).1.2.length : Int) = it w (i + k)
abbrev WhoT (it : Int → Int → Int) (b : BN) (m w i n : Int) : Prop := ∀ k : Nat, (k : Int) < n → plc (hrs (k + 1) b).1.2 m = it w (i + k)
def dnR (b : BN) (m : Int) : BN := (zup b.1 (15 + 5 * m + 1) ((dn b.1 m + 23) % 24), b.2)
def kdR (b : BN) (m k : Int) : BN := (zup b.1 (15 + 5 * m) k, b.2)
noncomputable def rgN (S : ZS) (w i n : Int) : Nat → Int
  | 0 => cif (SitT S.it S.b w i n) 128 0
  | k + 1 => cif (SitT S.it (dnR S.b k) w i n) (zor (rgN S w i n k) (zshl 1 k)) (rgN S w i n k)
noncomputable def sRang (S : ZS) (w i n : Int) : Int × ZS := if S.b.1 3 = 0 then (-1000002, S) else if w < 0 ∨ 7 < w ∨ n < 1 ∨ 12 < n then (-1000001, S) else if fndS S w i n ≠ 0 then (-1000010 - fndS S w i n, S.uSt (fndS S w i n)) else (rgN S w i n (S.b.1 3).toNat, S.uSt 0)
noncomputable def whN (S : ZS) (m w i n : Int) : Nat → Int
  | 0 => 0
  | k + 1 => cif (WhoT S.it (kdR S.b m (k + 1)) m w i n) (zor (whN S m w i n k) (zshl 1 (k + 1))) (whN S m w i n k)
noncomputable def sWho (S : ZS) (m w i n : Int) : Int × ZS := if noM S m ∨ w < 0 ∨ 7 < w ∨ n < 1 ∨ 12 < n then (-1000001, S) else if fndS S w i n ≠ 0 then (-1000010 - fndS S w i n, S.uSt (fndS S w i n)) else (whN S m w i n 5, S.uSt 0)
def wdR (b : BN) : BN := (zup b.1 2 (b.1 2 - 1), b.2)
def elN (r1 r2 : Int → Int) : Nat → Int
  | 0 => 0
  | k + 1 => if wm r2 k < wm r1 k then zor (elN r1 r2 k) (zshl 1 k) else elN r1 r2 k
noncomputable def vElm (S : ZS) (n : Int) : Int := if S.b.1 3 = 0 then -1000002 else if n < 1 ∨ 60 < n then -1000001 else elN (hrs n.toNat S.b).1.1 (hrs n.toNat (wdR S.b)).1.1 (S.b.1 3).toNat
def ltN (r : Int → Int) : Nat → Int
  | 0 => 0
  | k + 1 => if 0 < sunR r k then ltN r k + 1 else ltN r k
def vLasts (S : ZS) : Int := if S.b.1 3 = 0 then -1000002 else ltN S.b.1 24
def drX (seed : Int) : Nat → Int
  | 0 => seed
  | k + 1 => drX seed k * 16807 % 2147483647
noncomputable def drN (b : BN) (seed : Int) : Nat → BN
  | 0 => b
  | k + 1 => (hourR TT (snf (drN b seed k) (drX seed (k + 1) % b.1 3))).1
noncomputable def vDrawn (S : ZS) (n seed w : Int) : Int := if S.b.1 3 = 0 then -1000002 else if n < 0 ∨ 60 < n ∨ seed < 1 ∨ 999999 < seed ∨ w < 0 ∨ 1 < w then -1000001 else if w = 0 then (drN S.b seed n.toNat).1 6 - S.b.1 6 else warS (drN S.b seed n.toNat).1 (S.b.1 3).toNat
/-! one who is away for good stays away -/
theorem bck_away {b : BN} {m x : Int} (h : gn b.1 m < 0) : gn (bck b x).1 m = gn b.1 m := by
  unfold bck
  split
  · rename_i q
    exact gn_up_n (fun e => by subst e; omega)
  · rfl
theorem bckN_away {b : BN} {m : Int} (h : gn b.1 m < 0) : ∀ k : Nat, gn (bckN k b).1 m = gn b.1 m
  | 0 => rfl
  | k + 1 => by
    have := bckN_away h k
    show gn (bck (bckN k b) k).1 m = _
    rw [bck_away (by omega), this]
theorem callR_away (F : Int → Prop) {m : Int} : ∀ (rest : List Int) (r : Int → Int) (pre : List Int), m ∉ rest → gn (callR F r pre rest).1 m = gn r m
  | [], _, _, _ => rfl
  | x :: rest, r, pre, h => by
    have hx : m ≠ x := fun e => h (e ▸ List.mem_cons_self)
    have hr : m ∉ rest := fun e => h (List.mem_cons_of_mem _ e)
    by_cases c : dn r x = r 4 % 24 ∧ F x ∧ goesR r ((pre.length : Int) + 1 + rest.length) x pre.length
    · unfold callR
      rw [cif_t c]
      show gn (callR F (zup r (15 + 5 * x + 4) (r 4 + lg r x)) pre rest).1 m = gn r m
      rw [callR_away F rest _ pre hr, gn_up_n hx]
    · unfold callR
      rw [cif_f c, callR_away F rest _ _ hr]
theorem hourR_away (F : Int → Prop) {b : BN} (hI : BInv b.1 b.2) {m : Int} (h0 : 0 ≤ m) (h1 : m < b.1 3) (h : gn b.1 m < 0) : gn (hourR F b).1.1 m = gn b.1 m := by
  obtain ⟨i1, i2, i3, i4⟩ := bckN_inv (b := b) hI (b.1 3).toNat (by have := hI.1; omega)
  have hg := bckN_away h (b.1 3).toNat
  have e3 := i2.1 3 (by omega) (by omega)
  have hm : m ∉ (bckN (b.1 3).toNat b).2 := fun q => by
    have := (i1.2.2.2.2.1 m h0 (by omega)).2.2.2.2.2.mpr q
    omega
  have hc := callR_away F (bckN (b.1 3).toNat b).2 (bckN (b.1 3).toNat b).1 [] hm
  obtain ⟨c1, c2, c3, c4, c5, c6⟩ := callR_inv F (bckN (b.1 3).toNat b).2 (bckN (b.1 3).toNat b).1 [] i1
  obtain ⟨d1, d2, d3, d4, d5⟩ := wrmN_inv (r := (callR F (bckN (b.1 3).toNat b).1 [] (bckN (b.1 3).toNat b).2).1) c1.2.1 (fun m hm => (c1.2.2.1 m hm).1) _ (Nat.le_refl _)
  have e : ∀ (f : Int → Int) (v : Int), gn (zup f 4 v) m = gn f m := fun f v => zup_n (by omega)
  unfold hourR
  rw [e, d3 m, hc, hg]
theorem hrs_away {b : BN} (hI : BInv b.1 b.2) {m : Int} (h0 : 0 ≤ m) (h1 : m < b.1 3) (h : gn b.1 m < 0) : ∀ k : Nat, gn (hrs k b).1.1 m = gn b.1 m
  | 0 => rfl
  | k + 1 => by
    obtain ⟨i1, i2, i3, i4⟩ := hrs_inv hI k
    have := hrs_away hI h0 h1 h k
    show gn (hourR TT (hrs k b).1).1.1 m = _
    rw [hourR_away TT i1 h0 (by rw [i2.1 3 (by omega) (by omega)]; exact h1) (by omega), this]
theorem snfN_inv {b : BN} (hI : BInv b.1 b.2) (m : Int) : ∀ k : Nat, BInv (snfN b m k).1 (snfN b m k).2 ∧ (∀ x, x ≠ 6 → (snfN b m k).1 x = b.1 x)
  | 0 => ⟨hI, fun _ _ => rfl⟩
  | k + 1 => by
    obtain ⟨i1, i2⟩ := snfN_inv hI m k
    refine ⟨snf_inv i1 m, fun x hx => ?_⟩
    show (snf (snfN b m k) m).1 x = _
    rw [← i2 x hx]
    unfold snf
    split
    · exact zup_n hx
    · rfl
theorem c_sunny {mem : ZMem} {S : ZS} (hC : CS mem S) (hI : SInv S) {m : Int} (hm : In32 m) : CI mX6_sunny 8 [zr 0, zi m] mem (QS mem (vSunny S m, S)) := by
  have hb := hI.bi
  have b1 := hb.1
  have hl := hb.len
  have hr := hI.hr
  have hen := hC.men
  have hB := bch hC
  have loop : ¬ noM S m → ∀ (c kn : Nat) (k : Int) (m2 : ZMem), k = kn → (c : Int) + k = 61 → CB m2 63 (hrs kn S.b).1.1 (hrs kn S.b).1.2 → FrB 63 mem m2 → vSunny S m = fsN S.b m c kn → JM mX6_sunny 8 (QI (QS mem (vSunny S m, S))) 24 [zr 0, zi m, zi k] [] m2 := by
    intro hnm c
    induction c with
    | zero =>
      intro kn k m2 e0 a1 a2 a3 a4
      refine J_il2 dX6_sunny_24 ?_
      refine J_bipush dX6_sunny_25 rfl ?_
      refine J_cgt (tgt := 58) dX6_sunny_27 rfl (by omega) (fun c_27 => ?_) (fun c_27 => ?_)
      · skip
        refine J_ldc (n := -1000000) dX6_sunny_58 co_X6_203 (by decide) ?_
        refine M_iret dX6_sunny_60 rfl ?_
        exact ⟨a4.symm, hC.ext (a3.t (Or.inl rfl)), (a3.t (Or.inl rfl)).c⟩
      · skip
        omega
    | succ c ih =>
      intro kn k m2 e0 a1 a2 a3 a4
      obtain ⟨i1, i2, i3, i4⟩ := hrs_inv (b := S.b) hb kn
      refine J_il2 dX6_sunny_24 ?_
      refine J_bipush dX6_sunny_25 rfl ?_
      refine J_cgt (tgt := 58) dX6_sunny_27 rfl (by omega) (fun c_27 => ?_) (fun c_27 => ?_)
      · skip
        omega
      · skip
        refine J_al0 dX6_sunny_30 ?_
        refine M_getR dX6_sunny_31 fl_X6_43 sh_0 rfl ?_
        refine J_il1 dX6_sunny_34 ?_
        refine M_cvI1 dX6_sunny_35 lk_X6_204 cw_X2_sitsInSun sh_63 rfl rfl (k_sitsInSun (Or.inr (Or.inr (Or.inr (Or.inl rfl)))) a2 i1 hm (by omega)) (by decide) (Nat.le_of_ble_eq_true rfl) (fun v_35 mem_35 hq => ?_)
        obtain ⟨rfl, hq⟩ := hq; have hq := hq.symm; subst hq
        refine J_ifeq_b (tgt := 43) dX6_sunny_38 rfl (fun c_38 => ?_) (fun c_38 => ?_)
        · skip
          refine J_al0 dX6_sunny_43 ?_
          refine M_getR dX6_sunny_44 fl_X6_43 sh_0 rfl ?_
          refine J_iconst dX6_sunny_47 ?_
          refine M_cvI1 dX6_sunny_48 lk_X6_152 cw_X2_passHour sh_63 rfl rfl (k_passHour (Or.inr (Or.inr (Or.inr (Or.inl rfl)))) a2 i1 (by omega) (fun _ => True) fgt0) (by decide) (Nat.le_of_ble_eq_true rfl) (fun v_48 mem_48 hq => ?_)
          obtain ⟨rfl, hB2, hF2⟩ := hq
          refine J_pop dX6_sunny_51 rfl ?_
          refine J_inc2 dX6_sunny_52 (by decide) rfl ?_
          refine J_goto (tgt := 24) dX6_sunny_55 rfl ?_
          exact ih (kn + 1) _ _ (by omega) (by omega) hB2 (a3.tr hF2) (by rw [a4, fsN, cif_f c_38])
        · skip
          refine J_il2 dX6_sunny_41 ?_
          refine M_iret dX6_sunny_42 rfl ?_
          exact ⟨by rw [a4, fsN, cif_t c_38]; exact e0, hC.ext (a3.t (Or.inl rfl)), (a3.t (Or.inl rfl)).c⟩
  refine CM.of (by decide +kernel) ([zr 0, zi m, zu]) (zok_all rfl) (Nat.le_of_ble_eq_true rfl) rfl ?_
  refine J_al0 dX6_sunny_0 ?_
  refine J_il1 dX6_sunny_1 ?_
  refine M_cvI1 dX6_sunny_2 lk_X6_159 cw_X6_noMan sh_0 rfl rfl (k_noMan hm (by omega)) (by decide) (Nat.le_of_ble_eq_true rfl) (fun v_2 mem_2 hq => ?_)
  obtain ⟨rfl, hq⟩ := hq; have hq := hq.symm; subst hq
  refine J_ifeq_b (tgt := 11) dX6_sunny_5 rfl (fun c_5 => ?_) (fun c_5 => ?_)
  · skip
    refine J_al0 dX6_sunny_11 ?_
    refine M_getR dX6_sunny_12 fl_X6_43 sh_0 rfl ?_
    refine J_al0 dX6_sunny_15 ?_
    refine M_getR dX6_sunny_16 fl_X6_26 sh_0 rfl ?_
    refine M_cvV1 dX6_sunny_19 lk_X6_128 cw_X2_become sh_63 rfl rfl (k_become (Or.inr (Or.inr (Or.inr (Or.inl rfl)))) (Or.inl rfl) (by decide) hB (by omega) (by omega) hb.2.2.2.2.2.2.2) (by decide) (Nat.le_of_ble_eq_true rfl) (fun mem_19 hq => ?_)
    obtain ⟨hB2, hF⟩ := hq
    refine J_iconst dX6_sunny_22 ?_
    refine J_is2 dX6_sunny_23 (by decide) rfl ?_
    exact loop (by omega) 61 0 0 _ rfl (by omega) hB2 hF (by unfold vSunny; rw [if_neg (by omega)])
  · skip
    refine J_ldc (n := -1000001) dX6_sunny_8 co_X6_71 (by decide) ?_
    refine M_iret dX6_sunny_10 rfl ?_
    exact ⟨by unfold vSunny; rw [if_pos (by omega)], hC, FrC.rf⟩
theorem c_lasts {mem : ZMem} {S : ZS} (hC : CS mem S) (hI : SInv S) : CI mX6_lasts 2 [zr 0] mem (QS mem (vLasts S, S)) := by
  have hb := hI.bi
  have b1 := hb.1
  have hen := hC.men
  have hB := bch hC
  have loop : ¬ S.b.1 3 = 0 → ∀ (c kn : Nat) (s k : Int), k = kn → (c : Int) + k = 24 → s = ltN S.b.1 kn → JM mX6_lasts 2 (QI (QS mem (vLasts S, S))) 14 [zr 0, zi s, zi k] [] mem := by
    intro hz c
    induction c with
    | zero =>
      intro kn s k e0 a1 a2
      refine J_il2 dX6_lasts_14 ?_
      refine J_bipush dX6_lasts_15 rfl ?_
      refine J_cge (tgt := 40) dX6_lasts_17 rfl (by omega) (fun c_17 => ?_) (fun c_17 => ?_)
      · skip
        refine J_il1 dX6_lasts_40 ?_
        refine M_iret dX6_lasts_41 rfl ?_
        exact ⟨by unfold vLasts; rw [if_neg hz, a2, show kn = 24 by omega], hC, FrC.rf⟩
      · skip
        omega
    | succ c ih =>
      intro kn s k e0 a1 a2
      have hs := sunR_range (r := S.b.1) hb.2.2.2.2.2.2.1 hb.2.2.2.2.2.1 (h := k)
      refine J_il2 dX6_lasts_14 ?_
      refine J_bipush dX6_lasts_15 rfl ?_
      refine J_cge (tgt := 40) dX6_lasts_17 rfl (by omega) (fun c_17 => ?_) (fun c_17 => ?_)
      · skip
        omega
      · skip
        refine J_al0 dX6_lasts_20 ?_
        refine M_getR dX6_lasts_21 fl_X6_26 sh_0 rfl ?_
        refine J_il2 dX6_lasts_24 ?_
        refine M_cvI1 dX6_lasts_25 lk_X6_216 cw_X2_sunIn sh_16 rfl rfl (k_sunIn (Or.inl rfl) hB hb.lt (by omega)) (by decide) (Nat.le_of_ble_eq_true rfl) (fun v_25 mem_25 hq => ?_)
        obtain ⟨rfl, hq⟩ := hq; have hq := hq.symm; subst hq
        have hs' := hs (by omega)
        refine J_ifle (tgt := 34) dX6_lasts_28 rfl (by omega) (fun c_28 => ?_) (fun c_28 => ?_)
        · skip
          refine J_inc2 dX6_lasts_34 (by decide) rfl ?_
          refine J_goto (tgt := 14) dX6_lasts_37 rfl ?_
          refine ih (kn + 1) _ _ (by omega) (by omega) ?_
          unfold ltN
          rw [← e0, a2]
          first | rw [if_pos (by omega)] | rw [if_neg (by omega)]
        · skip
          refine J_inc1 dX6_lasts_31 (by decide) rfl ?_
          refine J_inc2 dX6_lasts_34 (by decide) rfl ?_
          refine J_goto (tgt := 14) dX6_lasts_37 rfl ?_
          refine ih (kn + 1) _ _ (by omega) (by omega) ?_
          unfold ltN
          rw [← e0, a2]
          first | rw [if_pos (by omega)] | rw [if_neg (by omega)]
  refine CM.of (by decide +kernel) ([zr 0, zu, zu]) (zok_all rfl) (Nat.le_of_ble_eq_true rfl) rfl ?_
  refine J_al0 dX6_lasts_0 ?_
  refine M_cvI0 dX6_lasts_1 lk_X6_143 cw_X6_noBench sh_0 rfl rfl (k_noBench (by omega)) (by decide) (Nat.le_of_ble_eq_true rfl) (fun v_1 mem_1 hq => ?_)
  obtain ⟨rfl, hq⟩ := hq; have hq := hq.symm; subst hq
  refine J_ifeq_b (tgt := 10) dX6_lasts_4 rfl (fun c_4 => ?_) (fun c_4 => ?_)
  · skip
    refine J_iconst dX6_lasts_10 ?_
    refine J_is1 dX6_lasts_11 (by decide) rfl ?_
    refine J_iconst dX6_lasts_12 ?_
    refine J_is2 dX6_lasts_13 (by decide) rfl ?_
    exact loop (by omega) 24 0 0 0 rfl (by omega) rfl
  · skip
    refine J_ldc (n := -1000002) dX6_lasts_7 co_X6_139 (by decide) ?_
    refine M_iret dX6_lasts_9 rfl ?_
    exact ⟨by unfold vLasts; rw [if_pos (by omega)], hC, FrC.rf⟩
