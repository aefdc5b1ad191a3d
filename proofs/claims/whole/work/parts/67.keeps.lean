/-! WHAT HOLDS OF THE NUMBERS GOES ON HOLDING -/
theorem SInv.uSt {S : ZS} (h : SInv S) (k : Int) : SInv (S.uSt k) := h
theorem SInv.uFl {S : ZS} (h : SInv S) (k : Int) : SInv (S.uFl k) := h
theorem SInv.uRw {S : ZS} (h : SInv S) {ln mn : Int → Int} {it : Int → Int → Int} (hr : ∀ w, 0 ≤ w → w < 8 → (-1 ≤ ln w ∧ ln w ≤ 2) ∧ (0 ≤ mn w ∧ mn w ≤ 40) ∧ ∀ i, 0 ≤ i → i < 40 → In32 (it w i)) : SInv (S.uRw ln mn it) := ⟨hr, h.2⟩
theorem SInv.uB {S : ZS} (h : SInv S) {b : BN} {U : List BN} (hb : OkB b) (hU : U.length ≤ 24 ∧ ∀ u ∈ U, OkB u ∧ Stat b.1 u.1) : SInv (S.uB b U) := ⟨h.1, hb, hU, h.2.2.2⟩
theorem SInv.uTp {S : ZS} (h : SInv S) {t : Int → Int} {n : Int} (ht : 0 ≤ n ∧ n ≤ 100 ∧ ∀ p, 0 ≤ p → p < n → 0 ≤ t p ∧ t p ≤ 255) : SInv (S.uTp t n) := ⟨h.1, h.2.1, h.2.2.1, h.2.2.2.1, h.2.2.2.2.1, h.2.2.2.2.2.1, ht⟩
theorem SInv.uTr {S : ZS} (h : SInv S) {T : List Int} (ht : T.length ≤ 16) : SInv (S.uTr T) := ⟨h.1, h.2.1, h.2.2.1, h.2.2.2.1, h.2.2.2.2.1, ht, h.2.2.2.2.2.2⟩
theorem SInv.uIm {S : ZS} (h : SInv S) {a b : BN} (ha : OkB a) (hb : OkB b) : SInv (S.uIm a b) := ⟨h.1, h.2.1, h.2.2.1, ha, hb, h.2.2.2.2.2⟩
theorem zb8_r (a : Int) : In32 (zb8 a) := by
  unfold zb8
  exact ⟨Int32.le_toInt _, Int32.toInt_lt _⟩
theorem zs16_r (a : Int) : In32 (zs16 a) := by
  unfold zs16
  exact ⟨Int32.le_toInt _, Int32.toInt_lt _⟩
theorem Stat.rf (r : Int → Int) : Stat r r := ⟨rfl, rfl, rfl, fun _ _ => ⟨rfl, rfl, rfl⟩⟩
theorem Stat.of {r r' : Int → Int} (h : Keep r r') : Stat r r' := ⟨h.1 1 (by omega) (by omega), h.1 2 (by omega) (by omega), h.1 3 (by omega) (by omega), h.2⟩
theorem Stat.tr {a b c : Int → Int} (h : Stat a b) (g : Stat b c) : Stat a c := ⟨g.1.trans h.1, g.2.1.trans h.2.1, g.2.2.1.trans h.2.2.1, fun m hm => ⟨(g.2.2.2 m hm).1.trans (h.2.2.2 m hm).1, (g.2.2.2 m hm).2.1.trans (h.2.2.2 m hm).2.1, (g.2.2.2 m hm).2.2.trans (h.2.2.2 m hm).2.2⟩⟩
theorem Stat.sy {a b : Int → Int} (h : Stat a b) : Stat b a := ⟨h.1.symm, h.2.1.symm, h.2.2.1.symm, fun m hm => ⟨(h.2.2.2 m hm).1.symm, (h.2.2.2 m hm).2.1.symm, (h.2.2.2 m hm).2.2.symm⟩⟩
theorem kp_ok {b b' : BN} {U : List BN} (hb : OkB b) (hU : U.length ≤ 24 ∧ ∀ u ∈ U, OkB u ∧ Stat b.1 u.1) (hs : Stat b'.1 b.1) : (kp b U).length ≤ 24 ∧ ∀ u ∈ kp b U, OkB u ∧ Stat b'.1 u.1 := by
  refine ⟨kp_len b U, fun u hu => ?_⟩
  rcases List.mem_cons.mp (List.mem_of_mem_take hu) with rfl | hu
  · exact ⟨hb, hs⟩
  · exact ⟨(hU.2 u hu).1, hs.tr (hU.2 u hu).2⟩
theorem i_row {S : ZS} (h : SInv S) {w l n : Int} : SInv (sRow S w l n).2 := by
  unfold sRow
  split
  · exact h
  · split
    · exact h.uSt 4
    · refine SInv.uSt (h.uRw (fun x x0 x1 => ?_)) 0
      obtain ⟨a, b, c⟩ := h.1 x x0 x1
      by_cases e : x = w
      · subst e
        rw [zup_s, zup_s, itU_s]
        exact ⟨by omega, by omega, fun i _ _ => ⟨by omega, by omega⟩⟩
      · rw [zup_n e, zup_n e, itU_n e]
        exact ⟨a, b, c⟩
theorem i_set {S : ZS} (h : SInv S) {w i v : Int} (hv : In32 v) : SInv (sSet S w i v).2 := by
  unfold sSet
  split
  · exact h
  · split
    · exact h.uSt _
    · refine SInv.uSt (h.uRw (fun x x0 x1 => ?_)) 0
      obtain ⟨a, b, c⟩ := h.1 x x0 x1
      refine ⟨a, b, fun y y0 y1 => ?_⟩
      by_cases e : x = w
      · subst e
        rw [itU_s]
        by_cases e2 : y = i
        · subst e2
          rw [zup_s]
          unfold putV
          split
          · exact zb8_r v
          · split
            · exact zs16_r v
            · exact hv
        · rw [zup_n e2]; exact c y y0 y1
      · rw [itU_n e]; exact c y y0 y1
theorem i_copy {S : ZS} (h : SInv S) {a i b j n : Int} : SInv (sCopy S a i b j n).2 := by
  unfold sCopy
  by_cases q1 : a < 0 ∨ 7 < a ∨ b < 0 ∨ 7 < b
  · rw [if_pos q1]; exact h
  · rw [if_neg q1]
    by_cases q2 : S.ln a < 0 ∨ S.ln b < 0
    · rw [if_pos q2]; exact h.uSt 1
    · rw [if_neg q2]
      by_cases q3 : S.ln a ≠ S.ln b
      · rw [if_pos q3]; exact h.uSt 5
      · rw [if_neg q3]
        by_cases q4 : i < 0 ∨ j < 0 ∨ n < 0 ∨ S.mn a < i + n ∨ S.mn b < j + n
        · rw [if_pos q4]; exact h.uSt 2
        · rw [if_neg q4]
          refine SInv.uSt (h.uRw (fun x x0 x1 => ?_)) 0
          obtain ⟨c1, c2, c3⟩ := h.1 x x0 x1
          obtain ⟨d1, d2, d3⟩ := h.1 a (by omega) (by omega)
          refine ⟨c1, c2, fun y y0 y1 => ?_⟩
          by_cases e : x = b
          · subst e
            rw [itU_s]
            unfold zcpy
            split
            · exact d3 _ (by omega) (by omega)
            · exact c3 y y0 y1
          · rw [itU_n e]; exact c3 y y0 y1
theorem i_drop {S : ZS} (h : SInv S) {w : Int} : SInv (sDrop S w).2 := by
  unfold sDrop
  split
  · exact h
  · split
    · exact h.uSt 1
    · refine SInv.uSt (h.uRw (fun x x0 x1 => ?_)) 0
      obtain ⟨a, b, c⟩ := h.1 x x0 x1
      by_cases e : x = w
      · subst e; rw [zup_s]; exact ⟨by omega, b, c⟩
      · rw [zup_n e]; exact ⟨a, b, c⟩
theorem i_feed {S : ZS} (h : SInv S) {c : Int} : SInv (sFeed S c).2 := by
  have ht := h.2.2.2.2.2.2
  unfold sFeed
  split
  · exact h
  · split
    · exact h
    · refine h.uTp ⟨by omega, by omega, fun p p0 p1 => ?_⟩
      by_cases e : p = S.n
      · subst e; rw [zup_s]; omega
      · rw [zup_n e]; exact ht.2.2 p p0 (by omega)
theorem Told.ok {r : Int → Int} {k : Nat} (h : Told r k) : OkB (r, rng k) := ⟨h.inv, by show r 4 ≤ 999; have := h.2.2.1; omega, h.2.2.2.2.2.2.1.1⟩
theorem pMen_told {t : Int → Int} {n : Int} : ∀ (f k : Nat) (s : PS) (r : Int → Int), (s.2.1 = 0 → Told r k) → (pMen t n f k s r).1.2.1 = 0 → Told (pMen t n f k s r).2.1 (pMen t n f k s r).2.2
  | 0, k, s, r, h, h0 => h h0
  | f + 1, k, s, r, h, h0 => by
    unfold pMen at h0 ⊢
    by_cases a : s.2.1 = 0 ∧ (k = 0 ∨ s.1 < n)
    · rw [if_pos a] at h0 ⊢
      by_cases c : (pMan t n k s).2.1 = 0
      · rw [if_pos c] at h0 ⊢
        obtain ⟨f1, f2, f3, f4, f5⟩ := pMan_f c
        exact pMen_told f (k + 1) _ _ (fun _ => (h a.1).add (by omega) f2 f4 f5) h0
      · rw [if_neg c] at h0
        exact absurd h0 c
    · rw [if_neg a] at h0 ⊢
      exact h h0
theorem pAll_told {t : Int → Int} {n : Int} (h : (pAll t n).1.2.1 = 0) : Told (pAll t n).2.1 (pAll t n).2.2 := pMen_told 8 0 _ _ (fun q => lawR_told q) h
theorem i_bench {S : ZS} (h : SInv S) : SInv (sBench S).2 := by
  unfold sBench
  have h2 : SInv (S.uTp S.t 0) := h.uTp ⟨by omega, by omega, fun p p0 p1 => by omega⟩
  split
  · rename_i q
    exact h2.uB (pAll_told q).ok ⟨by show 0 ≤ 24; omega, fun u hu => absurd hu List.not_mem_nil⟩
  · exact h2.uFl _
theorem i_undo {S : ZS} (h : SInv S) : SInv (sUndo S).2 := by
  unfold sUndo
  split
  · exact h
  · rename_i q
    have hU : S.U = lgb S.U 0 :: S.U.tail := by
      cases hz : S.U with
      | nil => rw [hz] at q; exact absurd rfl q
      | cons u U => rfl
    have hl := h.2.2.1.1
    have hm : lgb S.U 0 ∈ S.U := by rw [hU]; exact List.mem_cons_self
    obtain ⟨o1, o2⟩ := h.2.2.1.2 _ hm
    refine h.uB o1 ⟨by rw [List.length_tail]; omega, fun u hu => ?_⟩
    obtain ⟨p1, p2⟩ := h.2.2.1.2 u (List.mem_of_mem_tail hu)
    exact ⟨p1, o2.sy.tr p2⟩
theorem hkN_ok {b : BN} {U : List BN} (hb : OkB b) (hU : U.length ≤ 24 ∧ ∀ u ∈ U, OkB u ∧ Stat b.1 u.1) : ∀ k : Nat, b.1 4 + k ≤ 999 → OkB (hkN k (b, U)).1 ∧ ((hkN k (b, U)).2.length ≤ 24 ∧ ∀ u ∈ (hkN k (b, U)).2, OkB u ∧ Stat (hkN k (b, U)).1.1 u.1)
  | 0, _ => ⟨hb, hU⟩
  | k + 1, hk => by
    obtain ⟨a1, a2⟩ := hkN_ok hb hU k (by omega)
    have e4 : (hkN k (b, U)).1.1 4 = b.1 4 + k := by rw [hkN_inv hb.1 U k]; exact (hrs_inv hb.1 k).2.2.1
    obtain ⟨c1, c2, c3, -⟩ := hourR_inv TT a1.1
    have e2 := c2.1 2 (by omega) (by omega)
    refine ⟨⟨c1, ?_, ?_⟩, ?_⟩
    · show (hourR TT (hkN k (b, U)).1).1.1 4 ≤ 999
      omega
    · show 0 ≤ (hourR TT (hkN k (b, U)).1).1.1 2
      have := a1.2.2
      omega
    · exact kp_ok a1 a2 (Stat.of c2).sy
theorem i_hours {S : ZS} (h : SInv S) {n : Int} : SInv (sHours S n).2 := by
  unfold sHours
  split
  · exact h
  · split
    · exact h
    · split
      · exact h
      · obtain ⟨a, c⟩ := hkN_ok h.2.1 h.2.2.1 n.toNat (by omega)
        exact h.uB a c
theorem snf_ok {b : BN} (h : OkB b) (m : Int) : OkB (snf b m) ∧ Stat (snf b m).1 b.1 := by
  refine ⟨⟨snf_inv h.1 m, by rw [snf_lo m (by omega)]; exact h.2.1, by rw [snf_lo m (by omega)]; exact h.2.2⟩, (snf_lo m (by omega)).symm, (snf_lo m (by omega)).symm, (snf_lo m (by omega)).symm, fun x hx => ⟨?_, ?_, ?_⟩⟩
  · unfold kd; rw [snf_lo m (by omega)]
  · unfold dn; rw [snf_lo m (by omega)]
  · unfold lg; rw [snf_lo m (by omega)]
theorem i_snuff {S : ZS} (h : SInv S) {m : Int} : SInv (sSnuff S m).2 := by
  unfold sSnuff
  split
  · exact h
  · split
    · exact h
    · obtain ⟨a, c⟩ := snf_ok h.2.1 m
      exact h.uB a (kp_ok h.2.1 h.2.2.1 c)
theorem i_leave {S : ZS} (h : SInv S) {m : Int} : SInv (sLeave S m).2 := by
  unfold sLeave
  split
  · exact h
  · split
    · exact h
    · have hk : Keep S.b.1 (goneR S.b m (-1)).1 := Keep.gone (by omega)
      have e4 : (goneR S.b m (-1)).1 4 = S.b.1 4 := by show zup S.b.1 (15 + 5 * m + 4) (-1) 4 = _; rw [zup_n (by omega)]
      have h4 := h.bi.2.2.2.1
      refine h.uB ⟨goneR_inv h.bi (by omega) (by omega) (by omega), by rw [e4]; exact h.hr, by rw [hk.1 2 (by omega) (by omega)]; exact h.wd⟩ (kp_ok h.2.1 h.2.2.1 (Stat.of hk).sy)
theorem i_come {S : ZS} (h : SInv S) {m : Int} : SInv (sCome S m).2 := by
  unfold sCome
  split
  · exact h
  · split
    · have hk : Keep S.b.1 (cmR S.b m).1 := Keep.gone (by omega)
      have e4 : (cmR S.b m).1 4 = S.b.1 4 := by show zup S.b.1 (15 + 5 * m + 4) 0 4 = _; rw [zup_n (by omega)]
      refine h.uB ⟨cmR_inv h.bi (by omega) (by omega) (by assumption), by rw [e4]; exact h.hr, by rw [hk.1 2 (by omega) (by omega)]; exact h.wd⟩ (kp_ok h.2.1 h.2.2.1 (Stat.of hk).sy)
    · exact h
theorem i_june {S : ZS} (h : SInv S) {o : Int} : SInv (sJune S o).2 := by
  unfold sJune
  split
  · exact h
  · split
    · exact h
    · split
      · exact h
      · have e : ∀ k, k ≠ 5 → (juR S.b o).1 k = S.b.1 k := fun k hk => by show zup S.b.1 5 o k = _; rw [zup_n hk]
        refine h.uB ⟨juR_inv h.bi (by omega), by rw [e 4 (by omega)]; exact h.hr, by rw [e 2 (by omega)]; exact h.wd⟩ (kp_ok h.2.1 h.2.2.1 ⟨(e 1 (by omega)).symm, (e 2 (by omega)).symm, (e 3 (by omega)).symm, fun x hx => ⟨?_, ?_, ?_⟩⟩)
        · unfold kd; rw [e _ (by omega)]
        · unfold dn; rw [e _ (by omega)]
        · unfold lg; rw [e _ (by omega)]
theorem i_image {S : ZS} (h : SInv S) {k : Int} : SInv (sImage S k).2 := by
  unfold sImage
  split
  · exact h
  · split
    · exact h
    · show SInv (if k = 0 then S.uIm S.b S.i1 else S.uIm S.i0 S.b)
      split
      · exact h.uIm h.2.1 h.2.2.2.2.1
      · exact h.uIm h.2.2.2.1 h.2.1
theorem i_restore {S : ZS} (h : SInv S) {k : Int} : SInv (sRestore S k).2 := by
  have hn : ([] : List BN).length ≤ 24 ∧ ∀ u ∈ ([] : List BN), OkB u ∧ True := ⟨by show 0 ≤ 24; omega, fun u hu => absurd hu List.not_mem_nil⟩
  have go : ∀ b : BN, OkB b → SInv (if b.1 3 = 0 then ((-1000002 : Int), S) else (1, S.uB b [])).2 := fun b hb => by
    split
    · exact h
    · exact h.uB hb ⟨hn.1, fun u hu => absurd hu List.not_mem_nil⟩
  unfold sRestore
  by_cases q : k < 0 ∨ 1 < k
  · rw [if_pos q]; exact h
  · rw [if_neg q]
    by_cases e : k = 0
    · rw [if_pos e]; exact go _ h.2.2.2.1
    · rw [if_neg e]; exact go _ h.2.2.2.2.1
theorem i_as {S : ZS} (h : SInv S) {m k : Int} : SInv (sAs S m k).2 := by
  unfold sAs
  split
  · exact h
  · by_cases q : isof (kd S.b.1 m) k
    · rw [cif_t q]; exact h.uSt 0
    · rw [cif_f q]; exact h.uSt 3
theorem i_ask {S : ZS} (h : SInv S) {m w : Int} : SInv (sAsk S m w).2 := by
  unfold sAsk
  split
  · exact h
  · refine h.uTr ?_
    unfold askT sizeT markT
    repeat' split
    all_goals (simp only [List.length_cons, List.length_nil]; omega)
theorem i_rang {S : ZS} (h : SInv S) {w i n : Int} : SInv (sRang S w i n).2 := by
  unfold sRang
  repeat' split
  all_goals first | exact h | exact h.uSt _
theorem i_who {S : ZS} (h : SInv S) {m w i n : Int} : SInv (sWho S m w i n).2 := by
  unfold sWho
  repeat' split
  all_goals first | exact h | exact h.uSt _
