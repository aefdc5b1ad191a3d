theorem ZM.mono {mi : ZMI} {d mc ms : Nat} {za : List ZV} {h : List ZC} {Q Q' : Option ZV → List ZC → Prop} (hk : ZM mi d mc ms za h Q) (hq : ∀ r h', Q r h' → Q' r h') : ZM mi d mc ms za h Q' := by
  intro l E p e ha hc hk' s m args below hf happ hP hK
  obtain ⟨n, o, h1, h2, h3, h4, h5⟩ := hk l E p e ha hc hk' s m args below hf happ hP hK
  refine ⟨n, o, h1, h2, h3, ?_, h5⟩
  obtain ⟨⟨r, h', e1, e2, e3, e4⟩, e5⟩ := h4
  exact ⟨⟨r, h', e1, hq r h' e2, e3, e4⟩, e5⟩
/-- one sits down, in the cells -/
def RawIns (mem m4 : ZMem) (j : Nat) (p man n : Int) : Prop := m4 j 9 = mem j 9 + 1 ∧ (∀ i, i ≠ 9 → m4 j i = mem j i) ∧ m4 (j + 6) man = -1 ∧ (∀ x, x ≠ man → m4 (j + 6) x = mem (j + 6) x) ∧ (∀ x, 0 ≤ x → x < p → m4 (j + 4) x = mem (j + 4) x) ∧ m4 (j + 4) p = man ∧ (∀ x, p < x → x ≤ n → m4 (j + 4) x = mem (j + 4) (x - 1)) ∧ (∀ q, q ≠ j → q ≠ j + 4 → q ≠ j + 6 → m4 q = mem q)
theorem k_seatRaw {mem : ZMem} {j : Nat} (hj : isB j) {man p n : Int} (c9 : mem j 9 = n) (h0 : 0 ≤ p) (h1 : p ≤ n) (hl : n < 7) (hm0 : 0 ≤ man) (hm1 : man < 7) : CV mX2_seat 1 [zr j, zi man, zi p] mem (fun mem' => RawIns mem mem' j p man n) := by
  have fin : ∀ (m2 : ZMem), (∀ q, q ≠ j + 4 → m2 q = mem q) → (∀ x, x ≤ p → m2 (j + 4) x = mem (j + 4) x) → (∀ x, p < x → x ≤ n → m2 (j + 4) x = mem (j + 4) (x - 1)) → RawIns mem (mset (mset (mset m2 (j + 4) p man) (j + 6) man (-1)) j 9 (mset (mset m2 (j + 4) p man) (j + 6) man (-1) j 9 + 1)) j p man n := by
    intro m2 a3 a4 a5
    have e9 := congrFun (a3 j (by omega)) 9
    exact ⟨by rw [mset_s, mset_n (by omega), mset_n (by omega)]; omega, fun i hi => by rw [mset_i hi, mset_n (by omega), mset_n (by omega), a3 j (by omega)], by rw [mset_n (by omega), mset_s], fun x hx => by rw [mset_n (by omega), mset_i hx, mset_n (by omega), a3 _ (by omega)], fun x x0 x1 => by rw [mset_n (by omega), mset_n (by omega), mset_i (by omega), a4 x (by omega)], by rw [mset_n (by omega), mset_n (by omega), mset_s], fun x x0 x1 => by rw [mset_n (by omega), mset_n (by omega), mset_i (by omega), a5 x x0 x1], fun q q1 q2 q3 => by rw [mset_n q1, mset_n q3, mset_n q2, a3 q q2]⟩
  have loop : ∀ (c : Nat) (k : Int) (m2 : ZMem), p ≤ k → k ≤ n → k - p ≤ c → (∀ q, q ≠ j + 4 → m2 q = mem q) → (∀ x, x ≤ k → m2 (j + 4) x = mem (j + 4) x) → (∀ x, k < x → x ≤ n → m2 (j + 4) x = mem (j + 4) (x - 1)) → JM mX2_seat 1 (QV (fun mem' => RawIns mem mem' j p man n)) 27 [zr j, zi man, zi p, zi k] [] m2 := by
    intro c
    induction c with
    | zero =>
      intro k m2 a0 a1 a2 a3 a4 a5
      refine J_il3 dX2_seat_27 ?_
      refine J_il2 dX2_seat_28 ?_
      refine J_cle (tgt := 52) dX2_seat_29 rfl (by omega) (fun c_29 => ?_) (fun c_29 => ?_)
      · skip
        refine J_al0 dX2_seat_52 ?_
        refine M_getR dX2_seat_53 fl_X2_44 (isB_sh hj) rfl ?_
        refine J_il2 dX2_seat_56 ?_
        refine J_il1 dX2_seat_57 ?_
        refine M_ast dX2_seat_58 (isB_a4 hj) (by decide) (by omega) ?_
        refine J_al0 dX2_seat_59 ?_
        refine M_getR dX2_seat_60 fl_X2_50 (isB_sh hj) rfl ?_
        refine J_il1 dX2_seat_63 ?_
        refine J_iconst dX2_seat_64 ?_
        refine M_ast dX2_seat_65 (isB_a6 hj) (by decide) (by omega) ?_
        refine J_al0 dX2_seat_66 ?_
        refine J_dup dX2_seat_67 rfl ?_
        refine M_get (ki := 9) dX2_seat_68 fl_X2_41 (isB_sh hj) rfl rfl ?_
        refine J_iconst dX2_seat_71 ?_
        refine J_iadd dX2_seat_72 ?_
        refine M_put (ki := 9) dX2_seat_73 fl_X2_41 (isB_sh hj) rfl rfl rfl (fun r hr => by cases hr; rfl) ?_
        refine M_vret dX2_seat_76 rfl ?_
        have hk : k = p := by omega
        subst hk
        exact fin m2 a3 a4 a5
      · skip
        omega
    | succ c ih =>
      intro k m2 a0 a1 a2 a3 a4 a5
      refine J_il3 dX2_seat_27 ?_
      refine J_il2 dX2_seat_28 ?_
      refine J_cle (tgt := 52) dX2_seat_29 rfl (by omega) (fun c_29 => ?_) (fun c_29 => ?_)
      · skip
        refine J_al0 dX2_seat_52 ?_
        refine M_getR dX2_seat_53 fl_X2_44 (isB_sh hj) rfl ?_
        refine J_il2 dX2_seat_56 ?_
        refine J_il1 dX2_seat_57 ?_
        refine M_ast dX2_seat_58 (isB_a4 hj) (by decide) (by omega) ?_
        refine J_al0 dX2_seat_59 ?_
        refine M_getR dX2_seat_60 fl_X2_50 (isB_sh hj) rfl ?_
        refine J_il1 dX2_seat_63 ?_
        refine J_iconst dX2_seat_64 ?_
        refine M_ast dX2_seat_65 (isB_a6 hj) (by decide) (by omega) ?_
        refine J_al0 dX2_seat_66 ?_
        refine J_dup dX2_seat_67 rfl ?_
        refine M_get (ki := 9) dX2_seat_68 fl_X2_41 (isB_sh hj) rfl rfl ?_
        refine J_iconst dX2_seat_71 ?_
        refine J_iadd dX2_seat_72 ?_
        refine M_put (ki := 9) dX2_seat_73 fl_X2_41 (isB_sh hj) rfl rfl rfl (fun r hr => by cases hr; rfl) ?_
        refine M_vret dX2_seat_76 rfl ?_
        have hk : k = p := by omega
        subst hk
        exact fin m2 a3 a4 a5
      · skip
        refine J_al0 dX2_seat_32 ?_
        refine M_getR dX2_seat_33 fl_X2_44 (isB_sh hj) rfl ?_
        refine J_il3 dX2_seat_36 ?_
        refine J_al0 dX2_seat_37 ?_
        refine M_getR dX2_seat_38 fl_X2_44 (isB_sh hj) rfl ?_
        refine J_il3 dX2_seat_41 ?_
        refine J_iconst dX2_seat_42 ?_
        refine J_isub dX2_seat_43 ?_
        refine M_ald dX2_seat_44 (isB_a4 hj) (by decide) (by omega) ?_
        refine M_ast dX2_seat_45 (isB_a4 hj) (by decide) (by omega) ?_
        refine J_inc3 dX2_seat_46 (by decide) rfl ?_
        refine J_goto (tgt := 27) dX2_seat_49 rfl ?_
        exact ih (k + -1) _ (by omega) (by omega) (by omega) (fun q hq => by rw [mset_n hq, a3 q hq]) (fun x hx => by rw [mset_i (by omega), a4 x (by omega)]) (fun x x0 x1 => by
          by_cases e : x = k
          · subst e; rw [mset_s, a4 _ (by omega)]
          · rw [mset_i e, a5 x (by omega) x1])
  refine CM.of (by decide +kernel) ([zr j, zi man, zi p, zu]) (zok_all rfl) (Nat.le_of_ble_eq_true rfl) rfl ?_
  refine J_al0 dX2_seat_0 ?_
  refine M_get (ki := 9) dX2_seat_1 fl_X2_41 (isB_sh hj) rfl rfl ?_
  refine J_bipush dX2_seat_4 rfl ?_
  refine J_cge (tgt := 21) dX2_seat_6 rfl (by omega) (fun c_6 => ?_) (fun c_6 => ?_)
  · skip
    omega
  · skip
    refine J_il2 dX2_seat_9 ?_
    refine J_iconst dX2_seat_10 ?_
    refine J_al0 dX2_seat_11 ?_
    refine M_get (ki := 9) dX2_seat_12 fl_X2_41 (isB_sh hj) rfl rfl ?_
    refine M_cnI3 dX2_seat_15 lk_X2_110 cw_X6_outside (k_outside (by omega) (by omega) (by omega)) (by decide) (Nat.le_of_ble_eq_true rfl) (fun v_15 mem_15 hq => ?_)
    obtain ⟨rfl, hq⟩ := hq; have hq := hq.symm; subst hq
    refine J_ifeq_b (tgt := 22) dX2_seat_18 rfl (fun c_18 => ?_) (fun c_18 => ?_)
    · skip
      refine J_al0 dX2_seat_22 ?_
      refine M_get (ki := 9) dX2_seat_23 fl_X2_41 (isB_sh hj) rfl rfl ?_
      refine J_is3 dX2_seat_26 (by decide) rfl ?_
      rw [c9]
      exact loop n.toNat n mem (by omega) (by omega) (by omega) (fun _ _ => rfl) (fun _ _ => rfl) (fun x x0 x1 => by omega)
    · skip
      omega
/-- 0, 1, .. -/
def rng (k : Nat) : List Int := (List.range k).map (fun i : Nat => (i : Int))
theorem rng_len (k : Nat) : (rng k).length = k := by unfold rng; rw [List.length_map, List.length_range]
theorem lget_rng {k : Nat} {p : Int} (h0 : 0 ≤ p) (h1 : p < k) : lget (rng k) p = p := by
  unfold lget rng
  rw [List.getD_eq_getElem?_getD, List.getElem?_map, List.getElem?_range (by omega)]
  show ((p.toNat : Nat) : Int) = p
  omega
theorem mem_rng {k : Nat} {x : Int} : x ∈ rng k ↔ 0 ≤ x ∧ x < k := by
  unfold rng
  rw [List.mem_map]
  constructor
  · rintro ⟨i, hi, rfl⟩
    have := List.mem_range.mp hi
    omega
  · rintro ⟨h0, h1⟩
    exact ⟨x.toNat, List.mem_range.mpr (by omega), by omega⟩
theorem nodup_rng (k : Nat) : (rng k).Nodup := by
  apply nodup_of
  intro p q p0 pq q1
  rw [rng_len] at q1
  rw [lget_rng p0 (by omega), lget_rng (by omega) q1]
  omega
/-- a man more is told -/
def addR (r : Int → Int) (k kind d l : Int) : Int → Int := zup (zup (zup (zup (zup (zup r (15 + 5 * k) kind) (15 + 5 * k + 1) d) (15 + 5 * k + 2) l) (15 + 5 * k + 3) 0) (15 + 5 * k + 4) 0) 3 (k + 1)
theorem addR_lo {r : Int → Int} {k kind d l x : Int} (hk : 0 ≤ k) (h : x < 15) (h3 : x ≠ 3) : addR r k kind d l x = r x := by
  unfold addR
  rw [zup_n h3, zup_n (by omega), zup_n (by omega), zup_n (by omega), zup_n (by omega), zup_n (by omega)]
theorem addR_3 {r : Int → Int} {k kind d l : Int} : addR r k kind d l 3 = k + 1 := by unfold addR; rw [zup_s]
theorem addR_new {r : Int → Int} {k kind d l : Int} (hk : 0 ≤ k) : kd (addR r k kind d l) k = kind ∧ dn (addR r k kind d l) k = d ∧ lg (addR r k kind d l) k = l ∧ wm (addR r k kind d l) k = 0 ∧ gn (addR r k kind d l) k = 0 := by
  unfold kd dn lg wm gn addR
  refine ⟨?_, ?_, ?_, ?_, ?_⟩
  · rw [zup_n (by omega), zup_n (by omega), zup_n (by omega), zup_n (by omega), zup_n (by omega), zup_s]
  · rw [zup_n (by omega), zup_n (by omega), zup_n (by omega), zup_n (by omega), zup_s]
  · rw [zup_n (by omega), zup_n (by omega), zup_n (by omega), zup_s]
  · rw [zup_n (by omega), zup_n (by omega), zup_s]
  · rw [zup_n (by omega), zup_s]
theorem addR_old {r : Int → Int} {k kind d l m : Int} (hk : 0 ≤ k) (hm : 0 ≤ m) (h : m ≠ k) : kd (addR r k kind d l) m = kd r m ∧ dn (addR r k kind d l) m = dn r m ∧ lg (addR r k kind d l) m = lg r m ∧ wm (addR r k kind d l) m = wm r m ∧ gn (addR r k kind d l) m = gn r m := by
  unfold kd dn lg wm gn addR
  refine ⟨?_, ?_, ?_, ?_, ?_⟩ <;> rw [zup_n (by omega), zup_n (by omega), zup_n (by omega), zup_n (by omega), zup_n (by omega), zup_n (by omega)]
theorem k_addMan {mem : ZMem} {j k : Nat} {r : Int → Int} (hj : isB j) (hC : CB mem j r (rng k)) (h3 : r 3 = k) (hk : k < 7) {kind d l : Int} : CV mX2_addMan 2 [zr j, zi kind, zi d, zi l] mem (fun mem' => CB mem' j (addR r k kind d l) (rng (k + 1)) ∧ FrB j mem mem') := by
  obtain ⟨⟨c0, c1, c2, c6, c7, c8, c9⟩, cO, cM⟩ := hC
  rw [rng_len] at c9 cO
  rw [h3] at c2
  refine CM.of (by decide +kernel) ([zr j, zi kind, zi d, zi l]) (zok_all rfl) (Nat.le_of_ble_eq_true rfl) rfl ?_
  refine J_al0 dX2_addMan_0 ?_
  refine M_get (ki := 2) dX2_addMan_1 fl_X2_18 (isB_sh hj) rfl rfl ?_
  refine J_bipush dX2_addMan_4 rfl ?_
  refine J_clt (tgt := 10) dX2_addMan_6 rfl (by omega) (fun c_6 => ?_) (fun c_6 => ?_)
  · skip
    refine J_al0 dX2_addMan_10 ?_
    refine M_getR dX2_addMan_11 fl_X2_21 (isB_sh hj) rfl ?_
    refine J_al0 dX2_addMan_14 ?_
    refine M_get (ki := 2) dX2_addMan_15 fl_X2_18 (isB_sh hj) rfl rfl ?_
    rw [c2]
    refine J_il1 dX2_addMan_18 ?_
    refine M_ast dX2_addMan_19 (isB_a1 hj) (by decide) (by omega) ?_
    refine J_al0 dX2_addMan_20 ?_
    refine M_getR dX2_addMan_21 fl_X2_25 (isB_sh hj) rfl ?_
    refine J_al0 dX2_addMan_24 ?_
    refine M_get (ki := 2) dX2_addMan_25 fl_X2_18 (isB_sh hj) rfl rfl ?_
    rw [mset_n (show j ≠ j + 1 by omega), c2]
    refine J_il2 dX2_addMan_28 ?_
    refine M_ast dX2_addMan_29 (isB_a2 hj) (by decide) (by omega) ?_
    refine J_al0 dX2_addMan_30 ?_
    refine M_getR dX2_addMan_31 fl_X2_28 (isB_sh hj) rfl ?_
    refine J_al0 dX2_addMan_34 ?_
    refine M_get (ki := 2) dX2_addMan_35 fl_X2_18 (isB_sh hj) rfl rfl ?_
    rw [mset_n (show j ≠ j + 2 by omega), mset_n (show j ≠ j + 1 by omega), c2]
    refine J_il3 dX2_addMan_38 ?_
    refine M_ast dX2_addMan_39 (isB_a3 hj) (by decide) (by omega) ?_
    refine J_al0 dX2_addMan_40 ?_
    refine M_getR dX2_addMan_41 fl_X2_47 (isB_sh hj) rfl ?_
    refine J_al0 dX2_addMan_44 ?_
    refine M_get (ki := 2) dX2_addMan_45 fl_X2_18 (isB_sh hj) rfl rfl ?_
    rw [mset_n (show j ≠ j + 3 by omega), mset_n (show j ≠ j + 2 by omega), mset_n (show j ≠ j + 1 by omega), c2]
    refine J_iconst dX2_addMan_48 ?_
    refine M_ast dX2_addMan_49 (isB_a5 hj) (by decide) (by omega) ?_
    refine J_al0 dX2_addMan_50 ?_
    refine J_dup dX2_addMan_51 rfl ?_
    refine M_get (ki := 2) dX2_addMan_52 fl_X2_18 (isB_sh hj) rfl rfl ?_
    rw [mset_n (show j ≠ j + 5 by omega), mset_n (show j ≠ j + 3 by omega), mset_n (show j ≠ j + 2 by omega), mset_n (show j ≠ j + 1 by omega), c2]
    refine J_iconst dX2_addMan_55 ?_
    refine J_iadd dX2_addMan_56 ?_
    refine M_put (ki := 2) dX2_addMan_57 fl_X2_18 (isB_sh hj) rfl rfl rfl (fun r hr => by cases hr; rfl) ?_
    refine J_al0 dX2_addMan_60 ?_
    refine J_al0 dX2_addMan_61 ?_
    refine M_get (ki := 2) dX2_addMan_62 fl_X2_18 (isB_sh hj) rfl rfl ?_
    rw [mset_s]
    refine J_iconst dX2_addMan_65 ?_
    refine J_isub dX2_addMan_66 ?_
    refine J_al0 dX2_addMan_67 ?_
    refine M_get (ki := 9) dX2_addMan_68 fl_X2_41 (isB_sh hj) rfl rfl ?_
    rw [show (k : Int) + 1 - 1 = k by omega, mset_i (show (9 : Int) ≠ 2 by omega), mset_n (show j ≠ j + 5 by omega), mset_n (show j ≠ j + 3 by omega), mset_n (show j ≠ j + 2 by omega), mset_n (show j ≠ j + 1 by omega), c9]
    refine M_cvV2 dX2_addMan_71 lk_X2_53 cw_X2_seat (isB_sh hj) rfl rfl (k_seatRaw (n := (k : Int)) hj (by rw [mset_i (by omega), mset_n (by omega), mset_n (by omega), mset_n (by omega), mset_n (by omega), c9]) (by omega) (by omega) (by omega) (by omega) (by omega)) (by decide) (Nat.le_of_ble_eq_true rfl) (fun mem_71 hq => ?_)
    obtain ⟨b1, b2, b3, b4, b5, b6, b7, b8⟩ := hq
    refine M_vret dX2_addMan_74 rfl ?_
    refine ⟨⟨?_, fun p p0 p1 => ?_, fun m m0 m1 => ?_⟩, fun q hq => ?_⟩
    · rw [addR_lo (by omega) (by omega) (by omega), addR_lo (by omega) (by omega) (by omega), addR_3, addR_lo (by omega) (by omega) (by omega), addR_lo (by omega) (by omega) (by omega), addR_lo (by omega) (by omega) (by omega), rng_len, b1, b2 0 (by omega), b2 1 (by omega), b2 2 (by omega), b2 6 (by omega), b2 7 (by omega), b2 8 (by omega), mset_s, mset_i (by omega), mset_i (by omega), mset_i (by omega), mset_i (by omega), mset_i (by omega), mset_i (by omega), mset_n (by omega), mset_n (by omega), mset_n (by omega), mset_n (by omega)]
      exact ⟨c0, c1, rfl, c6, c7, c8, by omega⟩
    · rw [rng_len] at p1
      rw [lget_rng p0 (by omega)]
      by_cases e : p = k
      · subst e; exact b6
      · rw [b5 p p0 (by omega), mset_n (by omega), mset_n (by omega), mset_n (by omega), mset_n (by omega), mset_n (by omega), cO p p0 (by omega), lget_rng p0 (by omega)]
    · rw [addR_3] at m1
      rw [b8 (j + 1) (by omega) (by omega) (by omega), b8 (j + 2) (by omega) (by omega) (by omega), b8 (j + 3) (by omega) (by omega) (by omega), b8 (j + 5) (by omega) (by omega) (by omega), mset_n (show j + 1 ≠ j by omega), mset_n (show j + 1 ≠ j + 5 by omega), mset_n (show j + 1 ≠ j + 3 by omega), mset_n (show j + 1 ≠ j + 2 by omega), mset_n (show j + 2 ≠ j by omega), mset_n (show j + 2 ≠ j + 5 by omega), mset_n (show j + 2 ≠ j + 3 by omega), mset_n (show j + 3 ≠ j by omega), mset_n (show j + 3 ≠ j + 5 by omega), mset_n (show j + 5 ≠ j by omega)]
      by_cases e : m = k
      · subst e
        obtain ⟨n1, n2, n3, n4, n5⟩ := addR_new (r := r) (kind := kind) (d := d) (l := l) m0
        rw [n1, n2, n3, n4, n5, mset_s, mset_s, mset_s, mset_s, b3]
        exact ⟨rfl, rfl, rfl, rfl, rfl⟩
      · obtain ⟨n1, n2, n3, n4, n5⟩ := addR_old (r := r) (kind := kind) (d := d) (l := l) (show (0 : Int) ≤ k by omega) m0 e
        rw [n1, n2, n3, n4, n5, mset_i e, mset_i e, mset_i e, mset_i e, b4 m e, mset_n (show j + 6 ≠ j by omega), mset_n (show j + 6 ≠ j + 5 by omega), mset_n (show j + 6 ≠ j + 3 by omega), mset_n (show j + 6 ≠ j + 2 by omega), mset_n (show j + 6 ≠ j + 1 by omega), mset_n (show j + 2 ≠ j + 1 by omega), mset_n (show j + 3 ≠ j + 2 by omega), mset_n (show j + 3 ≠ j + 1 by omega), mset_n (show j + 5 ≠ j + 3 by omega), mset_n (show j + 5 ≠ j + 2 by omega), mset_n (show j + 5 ≠ j + 1 by omega)]
        exact cM m m0 (by omega)
    · rw [b8 q (by omega) (by omega) (by omega), mset_n (by omega), mset_n (by omega), mset_n (by omega), mset_n (by omega), mset_n (by omega)]
  · skip
    omega
