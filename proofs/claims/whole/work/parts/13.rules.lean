/-! more of numbers -/
theorem i32_ne0 {b : Int} (h0 : 0 < b) (h1 : b < 2147483648) : ¬ Int32.ofInt b = 0 := by
  rw [← i32_0, i32_eq (by omega) (by omega)]; omega
theorem i64_ne0 {b : Int} (h0 : 0 < b) (h1 : b < 9223372036854775808) : ¬ Int64.ofInt b = 0 := by
  intro h
  have h2 := congrArg Int64.toInt h
  rw [i64_toInt (by omega)] at h2
  have h3 : (0 : Int64).toInt = 0 := by decide
  omega
theorem nI_ofInt (n : Nat) : nI n = Int32.ofInt (n : Int) := rfl
theorem lN_ofInt (n : Nat) : lN n = Int64.ofInt (n : Int) := rfl
theorem i32_div {a b : Int} (ha : 0 ≤ a) (ha2 : a < 2147483648) (hb : 0 < b) (hb2 : b < 2147483648) : Int32.ofInt a / Int32.ofInt b = Int32.ofInt (a / b) := by
  obtain ⟨n, rfl⟩ := Int.eq_ofNat_of_zero_le ha
  obtain ⟨k, rfl⟩ := Int.eq_ofNat_of_zero_le (Int.le_of_lt hb)
  have := pk_div (a := n) (d := k) (by omega) (by omega) (by omega)
  rw [nI_ofInt, nI_ofInt, nI_ofInt] at this
  rw [this]
  rfl
theorem i32_rem {a b : Int} (ha : 0 ≤ a) (ha2 : a < 2147483648) (hb : 0 < b) (hb2 : b < 2147483648) : Int32.ofInt a - Int32.ofInt a / Int32.ofInt b * Int32.ofInt b = Int32.ofInt (a % b) := by
  obtain ⟨n, rfl⟩ := Int.eq_ofNat_of_zero_le ha
  obtain ⟨k, rfl⟩ := Int.eq_ofNat_of_zero_le (Int.le_of_lt hb)
  have := pk_rem (a := n) (d := k) (by omega) (by omega) (by omega)
  rw [nI_ofInt, nI_ofInt, nI_ofInt] at this
  rw [this]
  rfl
theorem i64_div {a b : Int} (ha : 0 ≤ a) (ha2 : a < 9223372036854775808) (hb : 0 < b) (hb2 : b < 9223372036854775808) : Int64.ofInt a / Int64.ofInt b = Int64.ofInt (a / b) := by
  obtain ⟨n, rfl⟩ := Int.eq_ofNat_of_zero_le ha
  obtain ⟨k, rfl⟩ := Int.eq_ofNat_of_zero_le (Int.le_of_lt hb)
  have := pk_lDiv (a := n) (b := k) (by omega) (by omega) (by omega)
  rw [lN_ofInt, lN_ofInt, lN_ofInt] at this
  rw [this]
  rfl
theorem i64_rem {a b : Int} (ha : 0 ≤ a) (ha2 : a < 9223372036854775808) (hb : 0 < b) (hb2 : b < 9223372036854775808) : Int64.ofInt a - Int64.ofInt a / Int64.ofInt b * Int64.ofInt b = Int64.ofInt (a % b) := by
  obtain ⟨n, rfl⟩ := Int.eq_ofNat_of_zero_le ha
  obtain ⟨k, rfl⟩ := Int.eq_ofNat_of_zero_le (Int.le_of_lt hb)
  have := pk_lRem (a := n) (b := k) (by omega) (by omega) (by omega)
  rw [lN_ofInt, lN_ofInt, lN_ofInt] at this
  rw [this]
  rfl
def zand (a b : Int) : Int := (Int32.ofInt a &&& Int32.ofInt b).toInt
def zor (a b : Int) : Int := (Int32.ofInt a ||| Int32.ofInt b).toInt
def zxor (a b : Int) : Int := (Int32.ofInt a ^^^ Int32.ofInt b).toInt
def zshl (a b : Int) : Int := (Int32.ofInt a <<< (Int32.ofInt b &&& 31)).toInt
def zshr (a b : Int) : Int := (Int32.ofInt a >>> (Int32.ofInt b &&& 31)).toInt
def zushr (a b : Int) : Int := ((Int32.ofInt a).toUInt32 >>> ((Int32.ofInt b).toUInt32 &&& Int32.toUInt32 31)).toInt32.toInt
def zb8 (a : Int) : Int := (Int32.ofInt a).toInt8.toInt32.toInt
def zs16 (a : Int) : Int := (Int32.ofInt a).toInt16.toInt32.toInt
theorem i32_i2l {a : Int} (h : -2147483648 ≤ a ∧ a < 2147483648) : (Int32.ofInt a).toInt64 = Int64.ofInt a := by
  rw [← Int64.toInt_inj, Int32.toInt_toInt64, i32_toInt h, i64_toInt (by omega)]
theorem i64_l2i (a : Int) : (Int64.ofInt a).toInt32 = Int32.ofInt a := by
  rw [← Int32.toInt_inj, Int64.toInt_toInt32, Int64.toInt_ofInt, Int32.toInt_ofInt]
  exact Int.bmod_bmod_of_dvd (by decide)
theorem i32_i2c {a : Int} (h : 0 ≤ a ∧ a < 65536) : ((Int32.ofInt a).toUInt32 % 65536).toInt32 = Int32.ofInt a := by
  obtain ⟨n, rfl⟩ := Int.eq_ofNat_of_zero_le h.1
  have h2 := pk_char (nI n)
  rw [pk_tn (by omega), Nat.mod_eq_of_lt (by omega)] at h2
  exact h2
noncomputable def bi (c : Prop) : Int := by classical exact if c then 1 else 0
theorem bi_t {c : Prop} (h : c) : bi c = 1 := by unfold bi; exact if_pos h
theorem bi_f {c : Prop} (h : ¬ c) : bi c = 0 := by unfold bi; exact if_neg h
theorem bi_01 (c : Prop) : bi c = 0 ∨ bi c = 1 := by
  by_cases h : c
  · exact Or.inr (bi_t h)
  · exact Or.inl (bi_f h)
theorem bi_ne {c : Prop} : ¬ bi c = 0 ↔ c := by
  by_cases h : c
  · rw [bi_t h]; simp [h]
  · rw [bi_f h]; simp [h]
theorem bi_eq {c : Prop} : bi c = 0 ↔ ¬ c := by
  by_cases h : c
  · rw [bi_t h]; simp [h]
  · rw [bi_f h]; simp [h]
theorem bi_r (c : Prop) : -2147483648 ≤ bi c ∧ bi c < 2147483648 := by rcases bi_01 c with h | h <;> omega
theorem bi_congr {a b : Prop} (h : a ↔ b) : bi a = bi b := by rw [propext h]
def zcmp (a b : Int) : Int32 := if a < b then -1 else if a = b then 0 else 1
theorem i64_cmp {a b : Int} (ha : -9223372036854775808 ≤ a ∧ a < 9223372036854775808) (hb : -9223372036854775808 ≤ b ∧ b < 9223372036854775808) : lg_cmp (Int64.ofInt a) (Int64.ofInt b) = zcmp a b := by
  unfold lg_cmp zcmp
  have e1 : Int64.ofInt a < Int64.ofInt b ↔ a < b := by rw [Int64.lt_iff_toInt_lt, i64_toInt ha, i64_toInt hb]
  have e2 : Int64.ofInt b < Int64.ofInt a ↔ b < a := by rw [Int64.lt_iff_toInt_lt, i64_toInt ha, i64_toInt hb]
  have e3 : Int64.ofInt a = Int64.ofInt b ↔ a = b := by rw [← Int64.toInt_inj, i64_toInt ha, i64_toInt hb]
  rcases Int.lt_trichotomy a b with h | h | h
  · simp [e1, e2, e3, h, show ¬ b < a by omega, show ¬ a = b by omega]
  · simp [e1, e2, e3, h]
  · simp [e1, e2, e3, h, show ¬ a < b by omega, show ¬ a = b by omega]
theorem zcmp_c (a b : Int) : (a < b ∧ zcmp a b = -1) ∨ (a = b ∧ zcmp a b = 0) ∨ (b < a ∧ zcmp a b = 1) := by
  unfold zcmp
  rcases Int.lt_trichotomy a b with h | h | h
  · exact Or.inl ⟨h, if_pos h⟩
  · exact Or.inr (Or.inl ⟨h, by rw [if_neg (by omega), if_pos h]⟩)
  · exact Or.inr (Or.inr ⟨h, by rw [if_neg (by omega), if_neg (by omega)]⟩)
theorem zcmp_eq_t {a b : Int} (q : zcmp a b = 0) : a = b := by
  rcases zcmp_c a b with ⟨h, e⟩ | ⟨h, e⟩ | ⟨h, e⟩ <;> rw [e] at q <;> first | omega | (exact absurd q (by decide))
theorem zcmp_eq_f {a b : Int} (q : ¬ (zcmp a b = 0)) : ¬ a = b := by
  rcases zcmp_c a b with ⟨h, e⟩ | ⟨h, e⟩ | ⟨h, e⟩ <;> rw [e] at q <;> first | omega | (exact absurd (by decide) q)
theorem zcmp_ne_t {a b : Int} (q : ¬ zcmp a b = 0) : ¬ a = b := by
  rcases zcmp_c a b with ⟨h, e⟩ | ⟨h, e⟩ | ⟨h, e⟩ <;> rw [e] at q <;> first | omega | (exact absurd q (by decide))
theorem zcmp_ne_f {a b : Int} (q : ¬ (¬ zcmp a b = 0)) : a = b := by
  rcases zcmp_c a b with ⟨h, e⟩ | ⟨h, e⟩ | ⟨h, e⟩ <;> rw [e] at q <;> first | omega | (exact absurd (by decide) q)
theorem zcmp_lt_t {a b : Int} (q : zcmp a b < 0) : a < b := by
  rcases zcmp_c a b with ⟨h, e⟩ | ⟨h, e⟩ | ⟨h, e⟩ <;> rw [e] at q <;> first | omega | (exact absurd q (by decide))
theorem zcmp_lt_f {a b : Int} (q : ¬ (zcmp a b < 0)) : b ≤ a := by
  rcases zcmp_c a b with ⟨h, e⟩ | ⟨h, e⟩ | ⟨h, e⟩ <;> rw [e] at q <;> first | omega | (exact absurd (by decide) q)
theorem zcmp_ge_t {a b : Int} (q : 0 ≤ zcmp a b) : b ≤ a := by
  rcases zcmp_c a b with ⟨h, e⟩ | ⟨h, e⟩ | ⟨h, e⟩ <;> rw [e] at q <;> first | omega | (exact absurd q (by decide))
theorem zcmp_ge_f {a b : Int} (q : ¬ (0 ≤ zcmp a b)) : a < b := by
  rcases zcmp_c a b with ⟨h, e⟩ | ⟨h, e⟩ | ⟨h, e⟩ <;> rw [e] at q <;> first | omega | (exact absurd (by decide) q)
theorem zcmp_gt_t {a b : Int} (q : 0 < zcmp a b) : b < a := by
  rcases zcmp_c a b with ⟨h, e⟩ | ⟨h, e⟩ | ⟨h, e⟩ <;> rw [e] at q <;> first | omega | (exact absurd q (by decide))
theorem zcmp_gt_f {a b : Int} (q : ¬ (0 < zcmp a b)) : a ≤ b := by
  rcases zcmp_c a b with ⟨h, e⟩ | ⟨h, e⟩ | ⟨h, e⟩ <;> rw [e] at q <;> first | omega | (exact absurd (by decide) q)
theorem zcmp_le_t {a b : Int} (q : zcmp a b ≤ 0) : a ≤ b := by
  rcases zcmp_c a b with ⟨h, e⟩ | ⟨h, e⟩ | ⟨h, e⟩ <;> rw [e] at q <;> first | omega | (exact absurd q (by decide))
theorem zcmp_le_f {a b : Int} (q : ¬ (zcmp a b ≤ 0)) : b < a := by
  rcases zcmp_c a b with ⟨h, e⟩ | ⟨h, e⟩ | ⟨h, e⟩ <;> rw [e] at q <;> first | omega | (exact absurd (by decide) q)
section ZR
variable {mi : ZMI} {d mc ms sz0 : Nat} {scr : Option (Nat × (Int → Int))} {Q : Option ZV → List ZC → Prop} {pc : Nat} {zs st : List ZV} {h : List ZC} {cells slots : Nat}
theorem J_iconst {n : Int} (hd : decode mi.2.1 pc = .ok (.iconst n, 1))  (k : J mi d mc ms sz0 scr Q (pc + 1) zs (zi n :: st) h cells slots) : J mi d mc ms sz0 scr Q pc zs st h cells slots := by
  intro E p l e s m args below meth c C hl H locs ls hP hS hL
  exact lv_iconst C.1 C.2.1 hd rfl (k E p l e s m args below meth c C hl H locs ls hP hS hL)

theorem J_bipush {n : Int} (hd : decode mi.2.1 pc = .ok (.bipush n, 2)) (hn : (Int8.ofInt n).toInt32 = Int32.ofInt n) (k : J mi d mc ms sz0 scr Q (pc + 2) zs (zi n :: st) h cells slots) : J mi d mc ms sz0 scr Q pc zs st h cells slots := by
  intro E p l e s m args below meth c C hl H locs ls hP hS hL
  exact lv_bipush C.1 C.2.1 hd hn (k E p l e s m args below meth c C hl H locs ls hP hS hL)

theorem J_sipush {n : Int} (hd : decode mi.2.1 pc = .ok (.sipush n, 3)) (hn : (Int16.ofInt n).toInt32 = Int32.ofInt n) (k : J mi d mc ms sz0 scr Q (pc + 3) zs (zi n :: st) h cells slots) : J mi d mc ms sz0 scr Q pc zs st h cells slots := by
  intro E p l e s m args below meth c C hl H locs ls hP hS hL
  exact lv_sipush C.1 C.2.1 hd hn (k E p l e s m args below meth c C hl H locs ls hP hS hL)

theorem J_lconst0  (hd : decode mi.2.1 pc = .ok (.lconst 0, 1))  (k : J mi d mc ms sz0 scr Q (pc + 1) zs (zl 0 :: st) h cells slots) : J mi d mc ms sz0 scr Q pc zs st h cells slots := by
  intro E p l e s m args below meth c C hl H locs ls hP hS hL
  exact lv_lconst C.1 C.2.1 hd (by decide) (k E p l e s m args below meth c C hl H locs ls hP hS hL)

theorem J_lconst1  (hd : decode mi.2.1 pc = .ok (.lconst 1, 1))  (k : J mi d mc ms sz0 scr Q (pc + 1) zs (zl 1 :: st) h cells slots) : J mi d mc ms sz0 scr Q pc zs st h cells slots := by
  intro E p l e s m args below meth c C hl H locs ls hP hS hL
  exact lv_lconst C.1 C.2.1 hd (by decide) (k E p l e s m args below meth c C hl H locs ls hP hS hL)

theorem J_ldc {idx : Nat} {n : Int} {v : Int32} (hd : decode mi.2.1 pc = .ok (.ldc idx, 2)) (hc : Cond.constant mi.1.cls idx v ∈ ztb) (hv : v = Int32.ofInt n) (k : J mi d mc ms sz0 scr Q (pc + 2) zs (zi n :: st) h cells slots) : J mi d mc ms sz0 scr Q pc zs st h cells slots := by
  intro E p l e s m args below meth c C hl H locs ls hP hS hL
  subst hv
  exact lv_ldc C.1 C.2.1 C.2.2.2.1 (C.2.2.2.2.1 _ hc) hd (k E p l e s m args below meth c C hl H locs ls hP hS hL)

theorem J_ldc2 {idx : Nat} {n : Int} {v : Int64} (hd : decode mi.2.1 pc = .ok (.ldc2_w idx, 3)) (hc : Cond.constantLong mi.1.cls idx v ∈ ztb) (hv : v = Int64.ofInt n) (k : J mi d mc ms sz0 scr Q (pc + 3) zs (zl n :: st) h cells slots) : J mi d mc ms sz0 scr Q pc zs st h cells slots := by
  intro E p l e s m args below meth c C hl H locs ls hP hS hL
  subst hv
  exact lv_ldc2 C.1 C.2.1 C.2.2.2.1 (C.2.2.2.2.1 _ hc) hd (k E p l e s m args below meth c C hl H locs ls hP hS hL)

theorem J_iload_n {f : Fin 4} {i : Nat} {a : Int} (hd : decode mi.2.1 pc = .ok (.iload_n f, 1)) (hi : (f : Nat) = i) (hz : zs[i]? = some (zi a)) (k : J mi d mc ms sz0 scr Q (pc + 1) zs (zi a :: st) h cells slots) : J mi d mc ms sz0 scr Q pc zs st h cells slots := by
  intro E p l e s m args below meth c C hl H locs ls hP hS hL
  exact lv_iload_n C.1 C.2.1 hd hi (hL.at hz zu_ne_i) (k E p l e s m args below meth c C hl H locs ls hP hS hL)

theorem J_iload {i : Nat} {a : Int} (hd : decode mi.2.1 pc = .ok (.iload i, 2)) (hz : zs[i]? = some (zi a)) (k : J mi d mc ms sz0 scr Q (pc + 2) zs (zi a :: st) h cells slots) : J mi d mc ms sz0 scr Q pc zs st h cells slots := by
  intro E p l e s m args below meth c C hl H locs ls hP hS hL
  exact lv_iload C.1 C.2.1 hd (hL.at hz zu_ne_i) (k E p l e s m args below meth c C hl H locs ls hP hS hL)

theorem J_lload_n {f : Fin 4} {i : Nat} {a : Int} (hd : decode mi.2.1 pc = .ok (.lload_n f, 1)) (hi : (f : Nat) = i) (hz : zs[i]? = some (zl a)) (k : J mi d mc ms sz0 scr Q (pc + 1) zs (zl a :: st) h cells slots) : J mi d mc ms sz0 scr Q pc zs st h cells slots := by
  intro E p l e s m args below meth c C hl H locs ls hP hS hL
  exact lv_lload_n C.1 C.2.1 hd hi (hL.at hz zu_ne_l) (k E p l e s m args below meth c C hl H locs ls hP hS hL)

theorem J_lload {i : Nat} {a : Int} (hd : decode mi.2.1 pc = .ok (.lload i, 2)) (hz : zs[i]? = some (zl a)) (k : J mi d mc ms sz0 scr Q (pc + 2) zs (zl a :: st) h cells slots) : J mi d mc ms sz0 scr Q pc zs st h cells slots := by
  intro E p l e s m args below meth c C hl H locs ls hP hS hL
  exact lv_lload C.1 C.2.1 hd (hL.at hz zu_ne_l) (k E p l e s m args below meth c C hl H locs ls hP hS hL)

theorem J_aload_n {f : Fin 4} {i : Nat} {a : Nat} (hd : decode mi.2.1 pc = .ok (.aload_n f, 1)) (hi : (f : Nat) = i) (hz : zs[i]? = some (zr a)) (k : J mi d mc ms sz0 scr Q (pc + 1) zs (zr a :: st) h cells slots) : J mi d mc ms sz0 scr Q pc zs st h cells slots := by
  intro E p l e s m args below meth c C hl H locs ls hP hS hL
  exact lv_aload_n C.1 C.2.1 hd hi (hL.at hz zu_ne_r) (k E p l e s m args below meth c C hl H locs ls hP hS hL)

theorem J_aload {i : Nat} {a : Nat} (hd : decode mi.2.1 pc = .ok (.aload i, 2)) (hz : zs[i]? = some (zr a)) (k : J mi d mc ms sz0 scr Q (pc + 2) zs (zr a :: st) h cells slots) : J mi d mc ms sz0 scr Q pc zs st h cells slots := by
  intro E p l e s m args below meth c C hl H locs ls hP hS hL
  exact lv_aload C.1 C.2.1 hd (hL.at hz zu_ne_r) (k E p l e s m args below meth c C hl H locs ls hP hS hL)

theorem J_istore_n {f : Fin 4} {i : Nat} {a : Int} (hd : decode mi.2.1 pc = .ok (.istore_n f, 1)) (hi : (f : Nat) = i) (hb : i < mi.2.2.1) (hp : ∀ w, i ≠ 0 → zs[i - 1]? = some w → zlong w = false) (k : J mi d mc ms sz0 scr Q (pc + 1) (zs.set i (zi a)) st h cells slots) : J mi d mc ms sz0 scr Q pc zs (zi a :: st) h cells slots := by
  intro E p l e s m args below meth c C hl H locs ls hP hS hL
  exact lv_istore_n C.1 C.2.1 hd hi hL hb rfl (fun ls' hL' => k E p l e s m args below meth c C hl H locs ls' hP hS (zL.store1 (v := zi a) hp hL'))

theorem J_istore {i : Nat} {a : Int} (hd : decode mi.2.1 pc = .ok (.istore i, 2)) (hb : i < mi.2.2.1) (hp : ∀ w, i ≠ 0 → zs[i - 1]? = some w → zlong w = false) (k : J mi d mc ms sz0 scr Q (pc + 2) (zs.set i (zi a)) st h cells slots) : J mi d mc ms sz0 scr Q pc zs (zi a :: st) h cells slots := by
  intro E p l e s m args below meth c C hl H locs ls hP hS hL
  exact lv_istore C.1 C.2.1 hd hL hb rfl (fun ls' hL' => k E p l e s m args below meth c C hl H locs ls' hP hS (zL.store1 (v := zi a) hp hL'))

theorem J_astore_n {f : Fin 4} {i : Nat} {a : Nat} (hd : decode mi.2.1 pc = .ok (.astore_n f, 1)) (hi : (f : Nat) = i) (hb : i < mi.2.2.1) (hp : ∀ w, i ≠ 0 → zs[i - 1]? = some w → zlong w = false) (k : J mi d mc ms sz0 scr Q (pc + 1) (zs.set i (zr a)) st h cells slots) : J mi d mc ms sz0 scr Q pc zs (zr a :: st) h cells slots := by
  intro E p l e s m args below meth c C hl H locs ls hP hS hL
  exact lv_astore_n C.1 C.2.1 hd hi hL hb rfl (fun ls' hL' => k E p l e s m args below meth c C hl H locs ls' hP hS (zL.store1 (v := zr a) hp hL'))

theorem J_astore {i : Nat} {a : Nat} (hd : decode mi.2.1 pc = .ok (.astore i, 2)) (hb : i < mi.2.2.1) (hp : ∀ w, i ≠ 0 → zs[i - 1]? = some w → zlong w = false) (k : J mi d mc ms sz0 scr Q (pc + 2) (zs.set i (zr a)) st h cells slots) : J mi d mc ms sz0 scr Q pc zs (zr a :: st) h cells slots := by
  intro E p l e s m args below meth c C hl H locs ls hP hS hL
  exact lv_astore C.1 C.2.1 hd hL hb rfl (fun ls' hL' => k E p l e s m args below meth c C hl H locs ls' hP hS (zL.store1 (v := zr a) hp hL'))

theorem J_lstore_n {f : Fin 4} {i : Nat} {a : Int} (hd : decode mi.2.1 pc = .ok (.lstore_n f, 1)) (hi : (f : Nat) = i) (hb : i + 1 < mi.2.2.1) (hp : ∀ w, i ≠ 0 → zs[i - 1]? = some w → zlong w = false) (k : J mi d mc ms sz0 scr Q (pc + 1) ((zs.set i (zl a)).set (i + 1) zu) st h cells slots) : J mi d mc ms sz0 scr Q pc zs (zl a :: st) h cells slots := by
  intro E p l e s m args below meth c C hl H locs ls hP hS hL
  exact lv_lstore_n C.1 C.2.1 hd hi hL hb rfl (fun ls' hL' => k E p l e s m args below meth c C hl H locs ls' hP hS (zL.store2 (v := zl a) hp hL'))

theorem J_lstore {i : Nat} {a : Int} (hd : decode mi.2.1 pc = .ok (.lstore i, 2)) (hb : i + 1 < mi.2.2.1) (hp : ∀ w, i ≠ 0 → zs[i - 1]? = some w → zlong w = false) (k : J mi d mc ms sz0 scr Q (pc + 2) ((zs.set i (zl a)).set (i + 1) zu) st h cells slots) : J mi d mc ms sz0 scr Q pc zs (zl a :: st) h cells slots := by
  intro E p l e s m args below meth c C hl H locs ls hP hS hL
  exact lv_lstore C.1 C.2.1 hd hL hb rfl (fun ls' hL' => k E p l e s m args below meth c C hl H locs ls' hP hS (zL.store2 (v := zl a) hp hL'))

theorem J_iinc {i : Nat} {a n : Int} (hd : decode mi.2.1 pc = .ok (.iinc i n, 3)) (hz : zs[i]? = some (zi a)) (hb : i < mi.2.2.1) (hp : ∀ w, i ≠ 0 → zs[i - 1]? = some w → zlong w = false) (k : J mi d mc ms sz0 scr Q (pc + 3) (zs.set i (zi (a + n))) st h cells slots) : J mi d mc ms sz0 scr Q pc zs st h cells slots := by
  intro E p l e s m args below meth c C hl H locs ls hP hS hL
  obtain ⟨kk, hk⟩ := List.getElem?_of_mem ((zlv_mem E zs 0 (i, cv E (zi a))).mpr ⟨i, zi a, by simp, hz, zu_ne_i, rfl⟩)
  exact lv_iinc (v := Int32.ofInt (a + n)) C.1 C.2.1 hd hL hk (by rw [← Int32.ofInt_add]) hb rfl (fun ls' hL' => k E p l e s m args below meth c C hl H locs ls' hP hS (zL.store1 (v := zi (a + n)) hp hL'))

theorem J_iadd {a b : Int} (hd : decode mi.2.1 pc = .ok (.iadd, 1))  (k : J mi d mc ms sz0 scr Q (pc + 1) zs (zi (a + b) :: st) h cells slots) : J mi d mc ms sz0 scr Q pc zs (zi b :: zi a :: st) h cells slots := by
  intro E p l e s m args below meth c C hl H locs ls hP hS hL
  refine lv_iadd C.1 C.2.1 hd ?_
  rw [← Int32.ofInt_add]
  exact k E p l e s m args below meth c C hl H locs ls hP hS hL

theorem J_isub {a b : Int} (hd : decode mi.2.1 pc = .ok (.isub, 1))  (k : J mi d mc ms sz0 scr Q (pc + 1) zs (zi (a - b) :: st) h cells slots) : J mi d mc ms sz0 scr Q pc zs (zi b :: zi a :: st) h cells slots := by
  intro E p l e s m args below meth c C hl H locs ls hP hS hL
  refine lv_isub C.1 C.2.1 hd ?_
  rw [← Int32.ofInt_sub]
  exact k E p l e s m args below meth c C hl H locs ls hP hS hL

theorem J_imul {a b : Int} (hd : decode mi.2.1 pc = .ok (.imul, 1))  (k : J mi d mc ms sz0 scr Q (pc + 1) zs (zi (a * b) :: st) h cells slots) : J mi d mc ms sz0 scr Q pc zs (zi b :: zi a :: st) h cells slots := by
  intro E p l e s m args below meth c C hl H locs ls hP hS hL
  refine lv_imul C.1 C.2.1 hd ?_
  rw [← Int32.ofInt_mul]
  exact k E p l e s m args below meth c C hl H locs ls hP hS hL

theorem J_ladd {a b : Int} (hd : decode mi.2.1 pc = .ok (.ladd, 1))  (k : J mi d mc ms sz0 scr Q (pc + 1) zs (zl (a + b) :: st) h cells slots) : J mi d mc ms sz0 scr Q pc zs (zl b :: zl a :: st) h cells slots := by
  intro E p l e s m args below meth c C hl H locs ls hP hS hL
  refine lv_ladd C.1 C.2.1 hd ?_
  rw [← Int64.ofInt_add]
  exact k E p l e s m args below meth c C hl H locs ls hP hS hL

theorem J_lsub {a b : Int} (hd : decode mi.2.1 pc = .ok (.lsub, 1))  (k : J mi d mc ms sz0 scr Q (pc + 1) zs (zl (a - b) :: st) h cells slots) : J mi d mc ms sz0 scr Q pc zs (zl b :: zl a :: st) h cells slots := by
  intro E p l e s m args below meth c C hl H locs ls hP hS hL
  refine lv_lsub C.1 C.2.1 hd ?_
  rw [← Int64.ofInt_sub]
  exact k E p l e s m args below meth c C hl H locs ls hP hS hL

theorem J_lmul {a b : Int} (hd : decode mi.2.1 pc = .ok (.lmul, 1))  (k : J mi d mc ms sz0 scr Q (pc + 1) zs (zl (a * b) :: st) h cells slots) : J mi d mc ms sz0 scr Q pc zs (zl b :: zl a :: st) h cells slots := by
  intro E p l e s m args below meth c C hl H locs ls hP hS hL
  refine lv_lmul C.1 C.2.1 hd ?_
  rw [← Int64.ofInt_mul]
  exact k E p l e s m args below meth c C hl H locs ls hP hS hL

theorem J_ineg {a : Int} (hd : decode mi.2.1 pc = .ok (.ineg, 1))  (k : J mi d mc ms sz0 scr Q (pc + 1) zs (zi (-a) :: st) h cells slots) : J mi d mc ms sz0 scr Q pc zs (zi a :: st) h cells slots := by
  intro E p l e s m args below meth c C hl H locs ls hP hS hL
  refine lv_ineg C.1 C.2.1 hd ?_
  rw [← Int32.ofInt_neg]
  exact k E p l e s m args below meth c C hl H locs ls hP hS hL

theorem J_idiv {a b : Int} (hd : decode mi.2.1 pc = .ok (.idiv, 1)) (hr : 0 ≤ a ∧ a < 2147483648 ∧ 0 < b ∧ b < 2147483648) (k : J mi d mc ms sz0 scr Q (pc + 1) zs (zi (a / b) :: st) h cells slots) : J mi d mc ms sz0 scr Q pc zs (zi b :: zi a :: st) h cells slots := by
  intro E p l e s m args below meth c C hl H locs ls hP hS hL
  refine lv_idiv C.1 C.2.1 hd (i32_ne0 hr.2.2.1 hr.2.2.2) ?_
  rw [i32_div hr.1 hr.2.1 hr.2.2.1 hr.2.2.2]
  exact k E p l e s m args below meth c C hl H locs ls hP hS hL

theorem J_irem {a b : Int} (hd : decode mi.2.1 pc = .ok (.irem, 1)) (hr : 0 ≤ a ∧ a < 2147483648 ∧ 0 < b ∧ b < 2147483648) (k : J mi d mc ms sz0 scr Q (pc + 1) zs (zi (a % b) :: st) h cells slots) : J mi d mc ms sz0 scr Q pc zs (zi b :: zi a :: st) h cells slots := by
  intro E p l e s m args below meth c C hl H locs ls hP hS hL
  refine lv_irem C.1 C.2.1 hd (i32_ne0 hr.2.2.1 hr.2.2.2) ?_
  rw [i32_rem hr.1 hr.2.1 hr.2.2.1 hr.2.2.2]
  exact k E p l e s m args below meth c C hl H locs ls hP hS hL

theorem J_ldiv {a b : Int} (hd : decode mi.2.1 pc = .ok (.ldiv, 1)) (hr : 0 ≤ a ∧ a < 9223372036854775808 ∧ 0 < b ∧ b < 9223372036854775808) (k : J mi d mc ms sz0 scr Q (pc + 1) zs (zl (a / b) :: st) h cells slots) : J mi d mc ms sz0 scr Q pc zs (zl b :: zl a :: st) h cells slots := by
  intro E p l e s m args below meth c C hl H locs ls hP hS hL
  refine lv_ldiv C.1 C.2.1 hd (i64_ne0 hr.2.2.1 hr.2.2.2) ?_
  rw [i64_div hr.1 hr.2.1 hr.2.2.1 hr.2.2.2]
  exact k E p l e s m args below meth c C hl H locs ls hP hS hL

theorem J_lrem {a b : Int} (hd : decode mi.2.1 pc = .ok (.lrem, 1)) (hr : 0 ≤ a ∧ a < 9223372036854775808 ∧ 0 < b ∧ b < 9223372036854775808) (k : J mi d mc ms sz0 scr Q (pc + 1) zs (zl (a % b) :: st) h cells slots) : J mi d mc ms sz0 scr Q pc zs (zl b :: zl a :: st) h cells slots := by
  intro E p l e s m args below meth c C hl H locs ls hP hS hL
  refine lv_lrem C.1 C.2.1 hd (i64_ne0 hr.2.2.1 hr.2.2.2) ?_
  rw [i64_rem hr.1 hr.2.1 hr.2.2.1 hr.2.2.2]
  exact k E p l e s m args below meth c C hl H locs ls hP hS hL

theorem J_iand {a b : Int} (hd : decode mi.2.1 pc = .ok (.iand, 1))  (k : J mi d mc ms sz0 scr Q (pc + 1) zs (zi (zand a b) :: st) h cells slots) : J mi d mc ms sz0 scr Q pc zs (zi b :: zi a :: st) h cells slots := by
  intro E p l e s m args below meth c C hl H locs ls hP hS hL
  refine lv_iand C.1 C.2.1 hd ?_
  rw [show (_ : Int32) = Int32.ofInt (zand a b) from (Int32.ofInt_toInt _).symm]
  exact k E p l e s m args below meth c C hl H locs ls hP hS hL

theorem J_ior {a b : Int} (hd : decode mi.2.1 pc = .ok (.ior, 1))  (k : J mi d mc ms sz0 scr Q (pc + 1) zs (zi (zor a b) :: st) h cells slots) : J mi d mc ms sz0 scr Q pc zs (zi b :: zi a :: st) h cells slots := by
  intro E p l e s m args below meth c C hl H locs ls hP hS hL
  refine lv_ior C.1 C.2.1 hd ?_
  rw [show (_ : Int32) = Int32.ofInt (zor a b) from (Int32.ofInt_toInt _).symm]
  exact k E p l e s m args below meth c C hl H locs ls hP hS hL

theorem J_ixor {a b : Int} (hd : decode mi.2.1 pc = .ok (.ixor, 1))  (k : J mi d mc ms sz0 scr Q (pc + 1) zs (zi (zxor a b) :: st) h cells slots) : J mi d mc ms sz0 scr Q pc zs (zi b :: zi a :: st) h cells slots := by
  intro E p l e s m args below meth c C hl H locs ls hP hS hL
  refine lv_ixor C.1 C.2.1 hd ?_
  rw [show (_ : Int32) = Int32.ofInt (zxor a b) from (Int32.ofInt_toInt _).symm]
  exact k E p l e s m args below meth c C hl H locs ls hP hS hL

theorem J_ishl {a b : Int} (hd : decode mi.2.1 pc = .ok (.ishl, 1))  (k : J mi d mc ms sz0 scr Q (pc + 1) zs (zi (zshl a b) :: st) h cells slots) : J mi d mc ms sz0 scr Q pc zs (zi b :: zi a :: st) h cells slots := by
  intro E p l e s m args below meth c C hl H locs ls hP hS hL
  refine lv_ishl C.1 C.2.1 hd ?_
  rw [show (_ : Int32) = Int32.ofInt (zshl a b) from (Int32.ofInt_toInt _).symm]
  exact k E p l e s m args below meth c C hl H locs ls hP hS hL

theorem J_ishr {a b : Int} (hd : decode mi.2.1 pc = .ok (.ishr, 1))  (k : J mi d mc ms sz0 scr Q (pc + 1) zs (zi (zshr a b) :: st) h cells slots) : J mi d mc ms sz0 scr Q pc zs (zi b :: zi a :: st) h cells slots := by
  intro E p l e s m args below meth c C hl H locs ls hP hS hL
  refine lv_ishr C.1 C.2.1 hd ?_
  rw [show (_ : Int32) = Int32.ofInt (zshr a b) from (Int32.ofInt_toInt _).symm]
  exact k E p l e s m args below meth c C hl H locs ls hP hS hL

theorem J_iushr {a b : Int} (hd : decode mi.2.1 pc = .ok (.iushr, 1))  (k : J mi d mc ms sz0 scr Q (pc + 1) zs (zi (zushr a b) :: st) h cells slots) : J mi d mc ms sz0 scr Q pc zs (zi b :: zi a :: st) h cells slots := by
  intro E p l e s m args below meth c C hl H locs ls hP hS hL
  exact lv_iushr C.1 C.2.1 hd (Int32.ofInt_toInt _).symm (k E p l e s m args below meth c C hl H locs ls hP hS hL)

theorem J_i2l {a : Int} (hd : decode mi.2.1 pc = .ok (.i2l, 1)) (hr : -2147483648 ≤ a ∧ a < 2147483648) (k : J mi d mc ms sz0 scr Q (pc + 1) zs (zl a :: st) h cells slots) : J mi d mc ms sz0 scr Q pc zs (zi a :: st) h cells slots := by
  intro E p l e s m args below meth c C hl H locs ls hP hS hL
  exact lv_i2l C.1 C.2.1 hd (i32_i2l hr) (k E p l e s m args below meth c C hl H locs ls hP hS hL)

theorem J_l2i {a : Int} (hd : decode mi.2.1 pc = .ok (.l2i, 1))  (k : J mi d mc ms sz0 scr Q (pc + 1) zs (zi a :: st) h cells slots) : J mi d mc ms sz0 scr Q pc zs (zl a :: st) h cells slots := by
  intro E p l e s m args below meth c C hl H locs ls hP hS hL
  exact lv_l2i C.1 C.2.1 hd (i64_l2i a) (k E p l e s m args below meth c C hl H locs ls hP hS hL)

theorem J_i2b {a : Int} (hd : decode mi.2.1 pc = .ok (.i2b, 1))  (k : J mi d mc ms sz0 scr Q (pc + 1) zs (zi (zb8 a) :: st) h cells slots) : J mi d mc ms sz0 scr Q pc zs (zi a :: st) h cells slots := by
  intro E p l e s m args below meth c C hl H locs ls hP hS hL
  exact lv_i2b C.1 C.2.1 hd (Int32.ofInt_toInt _).symm (k E p l e s m args below meth c C hl H locs ls hP hS hL)

theorem J_i2s {a : Int} (hd : decode mi.2.1 pc = .ok (.i2s, 1))  (k : J mi d mc ms sz0 scr Q (pc + 1) zs (zi (zs16 a) :: st) h cells slots) : J mi d mc ms sz0 scr Q pc zs (zi a :: st) h cells slots := by
  intro E p l e s m args below meth c C hl H locs ls hP hS hL
  exact lv_i2s C.1 C.2.1 hd (Int32.ofInt_toInt _).symm (k E p l e s m args below meth c C hl H locs ls hP hS hL)

theorem J_i2c {a : Int} (hd : decode mi.2.1 pc = .ok (.i2c, 1)) (hr : 0 ≤ a ∧ a < 65536) (k : J mi d mc ms sz0 scr Q (pc + 1) zs (zi a :: st) h cells slots) : J mi d mc ms sz0 scr Q pc zs (zi a :: st) h cells slots := by
  intro E p l e s m args below meth c C hl H locs ls hP hS hL
  exact lv_i2c C.1 C.2.1 hd (i32_i2c hr) (k E p l e s m args below meth c C hl H locs ls hP hS hL)

theorem J_dup {v : ZV} (hd : decode mi.2.1 pc = .ok (.dup, 1)) (hv : zcat v = 1) (k : J mi d mc ms sz0 scr Q (pc + 1) zs (v :: v :: st) h cells slots) : J mi d mc ms sz0 scr Q pc zs (v :: st) h cells slots := by
  intro E p l e s m args below meth c C hl H locs ls hP hS hL
  exact lv_dup C.1 C.2.1 hd ((cv_cat E v).trans hv) (k E p l e s m args below meth c C hl H locs ls hP hS hL)

theorem J_pop {v : ZV} (hd : decode mi.2.1 pc = .ok (.pop, 1)) (hv : zcat v = 1) (k : J mi d mc ms sz0 scr Q (pc + 1) zs st h cells slots) : J mi d mc ms sz0 scr Q pc zs (v :: st) h cells slots := by
  intro E p l e s m args below meth c C hl H locs ls hP hS hL
  exact lv_pop C.1 C.2.1 hd ((cv_cat E v).trans hv) (k E p l e s m args below meth c C hl H locs ls hP hS hL)

theorem J_dup2 {v w : ZV} (hd : decode mi.2.1 pc = .ok (.dup2, 1)) (hv : zcat v = 1) (hw : zcat w = 1) (k : J mi d mc ms sz0 scr Q (pc + 1) zs (v :: w :: v :: w :: st) h cells slots) : J mi d mc ms sz0 scr Q pc zs (v :: w :: st) h cells slots := by
  intro E p l e s m args below meth c C hl H locs ls hP hS hL
  exact lv_dup2_11 C.1 C.2.1 hd ((cv_cat E v).trans hv) ((cv_cat E w).trans hw) (k E p l e s m args below meth c C hl H locs ls hP hS hL)

theorem J_ceq {a b : Int} {off : Int} {tgt : Nat} (hd : decode mi.2.1 pc = .ok (.if_icmp .eq off, 3)) (ht : (pc : Int) + off = (tgt : Int)) (hr : (-2147483648 ≤ a ∧ a < 2147483648) ∧ (-2147483648 ≤ b ∧ b < 2147483648)) (kt : a = b → J mi d mc ms sz0 scr Q tgt zs st h cells slots) (kf : ¬ a = b → J mi d mc ms sz0 scr Q (pc + 3) zs st h cells slots) : J mi d mc ms sz0 scr Q pc zs (zi b :: zi a :: st) h cells slots := by
  intro E p l e s m args below meth c C hl H locs ls hP hS hL
  exact lv_icmp_eq C.1 C.2.1 hd ht (fun q => kt ((i32_eq hr.1 hr.2).mp q) E p l e s m args below meth c C hl H locs ls hP hS hL) (fun q => kf ((fun z => q ((i32_eq hr.1 hr.2).mpr z))) E p l e s m args below meth c C hl H locs ls hP hS hL)

theorem J_ifeq {a : Int} {off : Int} {tgt : Nat} (hd : decode mi.2.1 pc = .ok (.ifCond .eq off, 3)) (ht : (pc : Int) + off = (tgt : Int)) (hr : -2147483648 ≤ a ∧ a < 2147483648) (kt : a = 0 → J mi d mc ms sz0 scr Q tgt zs st h cells slots) (kf : ¬ a = 0 → J mi d mc ms sz0 scr Q (pc + 3) zs st h cells slots) : J mi d mc ms sz0 scr Q pc zs (zi a :: st) h cells slots := by
  intro E p l e s m args below meth c C hl H locs ls hP hS hL
  have hr : (-2147483648 ≤ a ∧ a < 2147483648) ∧ (-2147483648 ≤ (0 : Int) ∧ (0 : Int) < 2147483648) := ⟨hr, by omega⟩
  refine lv_if_eq C.1 C.2.1 hd ht (fun q => kt ?_ E p l e s m args below meth c C hl H locs ls hP hS hL) (fun q => kf ?_ E p l e s m args below meth c C hl H locs ls hP hS hL)
  · rw [← i32_0] at q
    exact (i32_eq hr.1 hr.2).mp q
  · rw [← i32_0] at q
    exact (fun z => q ((i32_eq hr.1 hr.2).mpr z))

theorem J_cne {a b : Int} {off : Int} {tgt : Nat} (hd : decode mi.2.1 pc = .ok (.if_icmp .ne off, 3)) (ht : (pc : Int) + off = (tgt : Int)) (hr : (-2147483648 ≤ a ∧ a < 2147483648) ∧ (-2147483648 ≤ b ∧ b < 2147483648)) (kt : ¬ a = b → J mi d mc ms sz0 scr Q tgt zs st h cells slots) (kf : a = b → J mi d mc ms sz0 scr Q (pc + 3) zs st h cells slots) : J mi d mc ms sz0 scr Q pc zs (zi b :: zi a :: st) h cells slots := by
  intro E p l e s m args below meth c C hl H locs ls hP hS hL
  exact lv_icmp_ne C.1 C.2.1 hd ht (fun q => kt ((fun z => q ((i32_eq hr.1 hr.2).mpr z))) E p l e s m args below meth c C hl H locs ls hP hS hL) (fun q => kf ((i32_eq hr.1 hr.2).mp q) E p l e s m args below meth c C hl H locs ls hP hS hL)

theorem J_ifne {a : Int} {off : Int} {tgt : Nat} (hd : decode mi.2.1 pc = .ok (.ifCond .ne off, 3)) (ht : (pc : Int) + off = (tgt : Int)) (hr : -2147483648 ≤ a ∧ a < 2147483648) (kt : ¬ a = 0 → J mi d mc ms sz0 scr Q tgt zs st h cells slots) (kf : a = 0 → J mi d mc ms sz0 scr Q (pc + 3) zs st h cells slots) : J mi d mc ms sz0 scr Q pc zs (zi a :: st) h cells slots := by
  intro E p l e s m args below meth c C hl H locs ls hP hS hL
  have hr : (-2147483648 ≤ a ∧ a < 2147483648) ∧ (-2147483648 ≤ (0 : Int) ∧ (0 : Int) < 2147483648) := ⟨hr, by omega⟩
  refine lv_if_ne C.1 C.2.1 hd ht (fun q => kt ?_ E p l e s m args below meth c C hl H locs ls hP hS hL) (fun q => kf ?_ E p l e s m args below meth c C hl H locs ls hP hS hL)
  · rw [← i32_0] at q
    exact (fun z => q ((i32_eq hr.1 hr.2).mpr z))
  · rw [← i32_0] at q
    exact (i32_eq hr.1 hr.2).mp q

theorem J_clt {a b : Int} {off : Int} {tgt : Nat} (hd : decode mi.2.1 pc = .ok (.if_icmp .lt off, 3)) (ht : (pc : Int) + off = (tgt : Int)) (hr : (-2147483648 ≤ a ∧ a < 2147483648) ∧ (-2147483648 ≤ b ∧ b < 2147483648)) (kt : a < b → J mi d mc ms sz0 scr Q tgt zs st h cells slots) (kf : b ≤ a → J mi d mc ms sz0 scr Q (pc + 3) zs st h cells slots) : J mi d mc ms sz0 scr Q pc zs (zi b :: zi a :: st) h cells slots := by
  intro E p l e s m args below meth c C hl H locs ls hP hS hL
  exact lv_icmp_lt C.1 C.2.1 hd ht (fun q => kt ((i32_lt hr.1 hr.2).mp q) E p l e s m args below meth c C hl H locs ls hP hS hL) (fun q => kf ((Int.not_lt.mp (fun z => q ((i32_lt hr.1 hr.2).mpr z)))) E p l e s m args below meth c C hl H locs ls hP hS hL)

theorem J_iflt {a : Int} {off : Int} {tgt : Nat} (hd : decode mi.2.1 pc = .ok (.ifCond .lt off, 3)) (ht : (pc : Int) + off = (tgt : Int)) (hr : -2147483648 ≤ a ∧ a < 2147483648) (kt : a < 0 → J mi d mc ms sz0 scr Q tgt zs st h cells slots) (kf : 0 ≤ a → J mi d mc ms sz0 scr Q (pc + 3) zs st h cells slots) : J mi d mc ms sz0 scr Q pc zs (zi a :: st) h cells slots := by
  intro E p l e s m args below meth c C hl H locs ls hP hS hL
  have hr : (-2147483648 ≤ a ∧ a < 2147483648) ∧ (-2147483648 ≤ (0 : Int) ∧ (0 : Int) < 2147483648) := ⟨hr, by omega⟩
  refine lv_if_lt C.1 C.2.1 hd ht (fun q => kt ?_ E p l e s m args below meth c C hl H locs ls hP hS hL) (fun q => kf ?_ E p l e s m args below meth c C hl H locs ls hP hS hL)
  · rw [← i32_0] at q
    exact (i32_lt hr.1 hr.2).mp q
  · rw [← i32_0] at q
    exact (Int.not_lt.mp (fun z => q ((i32_lt hr.1 hr.2).mpr z)))

theorem J_cge {a b : Int} {off : Int} {tgt : Nat} (hd : decode mi.2.1 pc = .ok (.if_icmp .ge off, 3)) (ht : (pc : Int) + off = (tgt : Int)) (hr : (-2147483648 ≤ a ∧ a < 2147483648) ∧ (-2147483648 ≤ b ∧ b < 2147483648)) (kt : b ≤ a → J mi d mc ms sz0 scr Q tgt zs st h cells slots) (kf : a < b → J mi d mc ms sz0 scr Q (pc + 3) zs st h cells slots) : J mi d mc ms sz0 scr Q pc zs (zi b :: zi a :: st) h cells slots := by
  intro E p l e s m args below meth c C hl H locs ls hP hS hL
  exact lv_icmp_ge C.1 C.2.1 hd ht (fun q => kt ((i32_le hr.2 hr.1).mp q) E p l e s m args below meth c C hl H locs ls hP hS hL) (fun q => kf ((Int.not_le.mp (fun z => q ((i32_le hr.2 hr.1).mpr z)))) E p l e s m args below meth c C hl H locs ls hP hS hL)

theorem J_ifge {a : Int} {off : Int} {tgt : Nat} (hd : decode mi.2.1 pc = .ok (.ifCond .ge off, 3)) (ht : (pc : Int) + off = (tgt : Int)) (hr : -2147483648 ≤ a ∧ a < 2147483648) (kt : 0 ≤ a → J mi d mc ms sz0 scr Q tgt zs st h cells slots) (kf : a < 0 → J mi d mc ms sz0 scr Q (pc + 3) zs st h cells slots) : J mi d mc ms sz0 scr Q pc zs (zi a :: st) h cells slots := by
  intro E p l e s m args below meth c C hl H locs ls hP hS hL
  have hr : (-2147483648 ≤ a ∧ a < 2147483648) ∧ (-2147483648 ≤ (0 : Int) ∧ (0 : Int) < 2147483648) := ⟨hr, by omega⟩
  refine lv_if_ge C.1 C.2.1 hd ht (fun q => kt ?_ E p l e s m args below meth c C hl H locs ls hP hS hL) (fun q => kf ?_ E p l e s m args below meth c C hl H locs ls hP hS hL)
  · rw [← i32_0] at q
    exact (i32_le hr.2 hr.1).mp q
  · rw [← i32_0] at q
    exact (Int.not_le.mp (fun z => q ((i32_le hr.2 hr.1).mpr z)))

theorem J_cgt {a b : Int} {off : Int} {tgt : Nat} (hd : decode mi.2.1 pc = .ok (.if_icmp .gt off, 3)) (ht : (pc : Int) + off = (tgt : Int)) (hr : (-2147483648 ≤ a ∧ a < 2147483648) ∧ (-2147483648 ≤ b ∧ b < 2147483648)) (kt : b < a → J mi d mc ms sz0 scr Q tgt zs st h cells slots) (kf : a ≤ b → J mi d mc ms sz0 scr Q (pc + 3) zs st h cells slots) : J mi d mc ms sz0 scr Q pc zs (zi b :: zi a :: st) h cells slots := by
  intro E p l e s m args below meth c C hl H locs ls hP hS hL
  exact lv_icmp_gt C.1 C.2.1 hd ht (fun q => kt ((i32_lt hr.2 hr.1).mp q) E p l e s m args below meth c C hl H locs ls hP hS hL) (fun q => kf ((Int.not_lt.mp (fun z => q ((i32_lt hr.2 hr.1).mpr z)))) E p l e s m args below meth c C hl H locs ls hP hS hL)

theorem J_ifgt {a : Int} {off : Int} {tgt : Nat} (hd : decode mi.2.1 pc = .ok (.ifCond .gt off, 3)) (ht : (pc : Int) + off = (tgt : Int)) (hr : -2147483648 ≤ a ∧ a < 2147483648) (kt : 0 < a → J mi d mc ms sz0 scr Q tgt zs st h cells slots) (kf : a ≤ 0 → J mi d mc ms sz0 scr Q (pc + 3) zs st h cells slots) : J mi d mc ms sz0 scr Q pc zs (zi a :: st) h cells slots := by
  intro E p l e s m args below meth c C hl H locs ls hP hS hL
  have hr : (-2147483648 ≤ a ∧ a < 2147483648) ∧ (-2147483648 ≤ (0 : Int) ∧ (0 : Int) < 2147483648) := ⟨hr, by omega⟩
  refine lv_if_gt C.1 C.2.1 hd ht (fun q => kt ?_ E p l e s m args below meth c C hl H locs ls hP hS hL) (fun q => kf ?_ E p l e s m args below meth c C hl H locs ls hP hS hL)
  · rw [← i32_0] at q
    exact (i32_lt hr.2 hr.1).mp q
  · rw [← i32_0] at q
    exact (Int.not_lt.mp (fun z => q ((i32_lt hr.2 hr.1).mpr z)))

theorem J_cle {a b : Int} {off : Int} {tgt : Nat} (hd : decode mi.2.1 pc = .ok (.if_icmp .le off, 3)) (ht : (pc : Int) + off = (tgt : Int)) (hr : (-2147483648 ≤ a ∧ a < 2147483648) ∧ (-2147483648 ≤ b ∧ b < 2147483648)) (kt : a ≤ b → J mi d mc ms sz0 scr Q tgt zs st h cells slots) (kf : b < a → J mi d mc ms sz0 scr Q (pc + 3) zs st h cells slots) : J mi d mc ms sz0 scr Q pc zs (zi b :: zi a :: st) h cells slots := by
  intro E p l e s m args below meth c C hl H locs ls hP hS hL
  exact lv_icmp_le C.1 C.2.1 hd ht (fun q => kt ((i32_le hr.1 hr.2).mp q) E p l e s m args below meth c C hl H locs ls hP hS hL) (fun q => kf ((Int.not_le.mp (fun z => q ((i32_le hr.1 hr.2).mpr z)))) E p l e s m args below meth c C hl H locs ls hP hS hL)

theorem J_ifle {a : Int} {off : Int} {tgt : Nat} (hd : decode mi.2.1 pc = .ok (.ifCond .le off, 3)) (ht : (pc : Int) + off = (tgt : Int)) (hr : -2147483648 ≤ a ∧ a < 2147483648) (kt : a ≤ 0 → J mi d mc ms sz0 scr Q tgt zs st h cells slots) (kf : 0 < a → J mi d mc ms sz0 scr Q (pc + 3) zs st h cells slots) : J mi d mc ms sz0 scr Q pc zs (zi a :: st) h cells slots := by
  intro E p l e s m args below meth c C hl H locs ls hP hS hL
  have hr : (-2147483648 ≤ a ∧ a < 2147483648) ∧ (-2147483648 ≤ (0 : Int) ∧ (0 : Int) < 2147483648) := ⟨hr, by omega⟩
  refine lv_if_le C.1 C.2.1 hd ht (fun q => kt ?_ E p l e s m args below meth c C hl H locs ls hP hS hL) (fun q => kf ?_ E p l e s m args below meth c C hl H locs ls hP hS hL)
  · rw [← i32_0] at q
    exact (i32_le hr.1 hr.2).mp q
  · rw [← i32_0] at q
    exact (Int.not_le.mp (fun z => q ((i32_le hr.1 hr.2).mpr z)))

theorem J_ifne_b {c : Prop} {off : Int} {tgt : Nat} (hd : decode mi.2.1 pc = .ok (.ifCond .ne off, 3)) (ht : (pc : Int) + off = (tgt : Int)) (kt : c → J mi d mc ms sz0 scr Q tgt zs st h cells slots) (kf : ¬ c → J mi d mc ms sz0 scr Q (pc + 3) zs st h cells slots) : J mi d mc ms sz0 scr Q pc zs (zi (bi c) :: st) h cells slots :=
  J_ifne hd ht (bi_r c) (fun q => kt (bi_ne.mp q)) (fun q => kf (bi_eq.mp q))
theorem J_ifeq_b {c : Prop} {off : Int} {tgt : Nat} (hd : decode mi.2.1 pc = .ok (.ifCond .eq off, 3)) (ht : (pc : Int) + off = (tgt : Int)) (kt : ¬ c → J mi d mc ms sz0 scr Q tgt zs st h cells slots) (kf : c → J mi d mc ms sz0 scr Q (pc + 3) zs st h cells slots) : J mi d mc ms sz0 scr Q pc zs (zi (bi c) :: st) h cells slots :=
  J_ifeq hd ht (bi_r c) (fun q => kt (bi_eq.mp q)) (fun q => kf (bi_ne.mp q))
/-- two answers that are one -/
theorem J_same {a : Int} {off : Int} {tgt : Nat} (hd : decode mi.2.1 pc = .ok (.if_icmp .eq off, 3)) (ht : (pc : Int) + off = (tgt : Int)) (k : J mi d mc ms sz0 scr Q tgt zs st h cells slots) : J mi d mc ms sz0 scr Q pc zs (zi a :: zi a :: st) h cells slots := by
  intro E p l e s m args below meth c C hl H locs ls hP hS hL
  exact lv_icmp_eq C.1 C.2.1 hd ht (fun _ => k E p l e s m args below meth c C hl H locs ls hP hS hL) (fun q => absurd rfl q)
theorem J_goto {off : Int} {tgt : Nat} (hd : decode mi.2.1 pc = .ok (.goto off, 3)) (ht : (pc : Int) + off = (tgt : Int)) (k : J mi d mc ms sz0 scr Q tgt zs st h cells slots) : J mi d mc ms sz0 scr Q pc zs st h cells slots := by
  intro E p l e s m args below meth c C hl H locs ls hP hS hL
  exact lv_goto C.1 C.2.1 hd ht (k E p l e s m args below meth c C hl H locs ls hP hS hL)
theorem J_tsIn {dflt lo hi : Int} {offs : Array Int} {len : Nat} {a off : Int} {tgt : Nat} (hd : decode mi.2.1 pc = .ok (.tableswitch dflt lo hi offs, len)) (h1 : lo ≤ a) (h2 : a ≤ hi) (h3 : -2147483648 ≤ a ∧ a < 2147483648) (ho : offs[(a - lo).toNat]? = some off) (ht : (pc : Int) + off = (tgt : Int)) (k : J mi d mc ms sz0 scr Q tgt zs st h cells slots) : J mi d mc ms sz0 scr Q pc zs (zi a :: st) h cells slots := by
  intro E p l e s m args below meth c C hl H locs ls hP hS hL
  exact lv_tableIn C.1 C.2.1 hd (by rw [i32_toInt h3]; omega) (by rw [i32_toInt h3]; omega) (by rw [i32_toInt h3]; exact ho) ht (k E p l e s m args below meth c C hl H locs ls hP hS hL)
theorem J_tsOut {dflt lo hi : Int} {offs : Array Int} {len : Nat} {a : Int} {tgt : Nat} (hd : decode mi.2.1 pc = .ok (.tableswitch dflt lo hi offs, len)) (h1 : a < lo ∨ hi < a) (h3 : -2147483648 ≤ a ∧ a < 2147483648) (ht : (pc : Int) + dflt = (tgt : Int)) (k : J mi d mc ms sz0 scr Q tgt zs st h cells slots) : J mi d mc ms sz0 scr Q pc zs (zi a :: st) h cells slots := by
  intro E p l e s m args below meth c C hl H locs ls hP hS hL
  exact lv_tableOut C.1 C.2.1 hd (by rw [i32_toInt h3]; exact h1) ht (k E p l e s m args below meth c C hl H locs ls hP hS hL)

theorem J_leq {a b : Int} {off : Int} {tgt : Nat} (hd : decode mi.2.1 pc = .ok (.lcmp, 1)) (hd2 : decode mi.2.1 (pc + 1) = .ok (.ifCond .eq off, 3)) (ht : ((pc + 1 : Nat) : Int) + off = (tgt : Int)) (hr : (-9223372036854775808 ≤ a ∧ a < 9223372036854775808) ∧ (-9223372036854775808 ≤ b ∧ b < 9223372036854775808)) (kt : a = b → J mi d mc ms sz0 scr Q tgt zs st h cells slots) (kf : ¬ a = b → J mi d mc ms sz0 scr Q (pc + 4) zs st h cells slots) : J mi d mc ms sz0 scr Q pc zs (zl b :: zl a :: st) h cells slots := by
  intro E p l e s m args below meth c C hl H locs ls hP hS hL
  refine W.lcmp C.1 C.2.1 hd ?_
  rw [i64_cmp hr.1 hr.2]
  refine lv_if_eq C.1 C.2.1 hd2 ht (fun q => kt ?_ E p l e s m args below meth c C hl H locs ls hP hS hL) (fun q => kf ?_ E p l e s m args below meth c C hl H locs ls hP hS hL)
  · exact zcmp_eq_t q
  · exact zcmp_eq_f q

theorem J_lne {a b : Int} {off : Int} {tgt : Nat} (hd : decode mi.2.1 pc = .ok (.lcmp, 1)) (hd2 : decode mi.2.1 (pc + 1) = .ok (.ifCond .ne off, 3)) (ht : ((pc + 1 : Nat) : Int) + off = (tgt : Int)) (hr : (-9223372036854775808 ≤ a ∧ a < 9223372036854775808) ∧ (-9223372036854775808 ≤ b ∧ b < 9223372036854775808)) (kt : ¬ a = b → J mi d mc ms sz0 scr Q tgt zs st h cells slots) (kf : a = b → J mi d mc ms sz0 scr Q (pc + 4) zs st h cells slots) : J mi d mc ms sz0 scr Q pc zs (zl b :: zl a :: st) h cells slots := by
  intro E p l e s m args below meth c C hl H locs ls hP hS hL
  refine W.lcmp C.1 C.2.1 hd ?_
  rw [i64_cmp hr.1 hr.2]
  refine lv_if_ne C.1 C.2.1 hd2 ht (fun q => kt ?_ E p l e s m args below meth c C hl H locs ls hP hS hL) (fun q => kf ?_ E p l e s m args below meth c C hl H locs ls hP hS hL)
  · exact zcmp_ne_t q
  · exact zcmp_ne_f (fun z => z q)

theorem J_llt {a b : Int} {off : Int} {tgt : Nat} (hd : decode mi.2.1 pc = .ok (.lcmp, 1)) (hd2 : decode mi.2.1 (pc + 1) = .ok (.ifCond .lt off, 3)) (ht : ((pc + 1 : Nat) : Int) + off = (tgt : Int)) (hr : (-9223372036854775808 ≤ a ∧ a < 9223372036854775808) ∧ (-9223372036854775808 ≤ b ∧ b < 9223372036854775808)) (kt : a < b → J mi d mc ms sz0 scr Q tgt zs st h cells slots) (kf : b ≤ a → J mi d mc ms sz0 scr Q (pc + 4) zs st h cells slots) : J mi d mc ms sz0 scr Q pc zs (zl b :: zl a :: st) h cells slots := by
  intro E p l e s m args below meth c C hl H locs ls hP hS hL
  refine W.lcmp C.1 C.2.1 hd ?_
  rw [i64_cmp hr.1 hr.2]
  refine lv_if_lt C.1 C.2.1 hd2 ht (fun q => kt ?_ E p l e s m args below meth c C hl H locs ls hP hS hL) (fun q => kf ?_ E p l e s m args below meth c C hl H locs ls hP hS hL)
  · exact zcmp_lt_t q
  · exact zcmp_lt_f q

theorem J_lge {a b : Int} {off : Int} {tgt : Nat} (hd : decode mi.2.1 pc = .ok (.lcmp, 1)) (hd2 : decode mi.2.1 (pc + 1) = .ok (.ifCond .ge off, 3)) (ht : ((pc + 1 : Nat) : Int) + off = (tgt : Int)) (hr : (-9223372036854775808 ≤ a ∧ a < 9223372036854775808) ∧ (-9223372036854775808 ≤ b ∧ b < 9223372036854775808)) (kt : b ≤ a → J mi d mc ms sz0 scr Q tgt zs st h cells slots) (kf : a < b → J mi d mc ms sz0 scr Q (pc + 4) zs st h cells slots) : J mi d mc ms sz0 scr Q pc zs (zl b :: zl a :: st) h cells slots := by
  intro E p l e s m args below meth c C hl H locs ls hP hS hL
  refine W.lcmp C.1 C.2.1 hd ?_
  rw [i64_cmp hr.1 hr.2]
  refine lv_if_ge C.1 C.2.1 hd2 ht (fun q => kt ?_ E p l e s m args below meth c C hl H locs ls hP hS hL) (fun q => kf ?_ E p l e s m args below meth c C hl H locs ls hP hS hL)
  · exact zcmp_ge_t q
  · exact zcmp_ge_f q

theorem J_lgt {a b : Int} {off : Int} {tgt : Nat} (hd : decode mi.2.1 pc = .ok (.lcmp, 1)) (hd2 : decode mi.2.1 (pc + 1) = .ok (.ifCond .gt off, 3)) (ht : ((pc + 1 : Nat) : Int) + off = (tgt : Int)) (hr : (-9223372036854775808 ≤ a ∧ a < 9223372036854775808) ∧ (-9223372036854775808 ≤ b ∧ b < 9223372036854775808)) (kt : b < a → J mi d mc ms sz0 scr Q tgt zs st h cells slots) (kf : a ≤ b → J mi d mc ms sz0 scr Q (pc + 4) zs st h cells slots) : J mi d mc ms sz0 scr Q pc zs (zl b :: zl a :: st) h cells slots := by
  intro E p l e s m args below meth c C hl H locs ls hP hS hL
  refine W.lcmp C.1 C.2.1 hd ?_
  rw [i64_cmp hr.1 hr.2]
  refine lv_if_gt C.1 C.2.1 hd2 ht (fun q => kt ?_ E p l e s m args below meth c C hl H locs ls hP hS hL) (fun q => kf ?_ E p l e s m args below meth c C hl H locs ls hP hS hL)
  · exact zcmp_gt_t q
  · exact zcmp_gt_f q

theorem J_lle {a b : Int} {off : Int} {tgt : Nat} (hd : decode mi.2.1 pc = .ok (.lcmp, 1)) (hd2 : decode mi.2.1 (pc + 1) = .ok (.ifCond .le off, 3)) (ht : ((pc + 1 : Nat) : Int) + off = (tgt : Int)) (hr : (-9223372036854775808 ≤ a ∧ a < 9223372036854775808) ∧ (-9223372036854775808 ≤ b ∧ b < 9223372036854775808)) (kt : a ≤ b → J mi d mc ms sz0 scr Q tgt zs st h cells slots) (kf : b < a → J mi d mc ms sz0 scr Q (pc + 4) zs st h cells slots) : J mi d mc ms sz0 scr Q pc zs (zl b :: zl a :: st) h cells slots := by
  intro E p l e s m args below meth c C hl H locs ls hP hS hL
  refine W.lcmp C.1 C.2.1 hd ?_
  rw [i64_cmp hr.1 hr.2]
  refine lv_if_le C.1 C.2.1 hd2 ht (fun q => kt ?_ E p l e s m args below meth c C hl H locs ls hP hS hL) (fun q => kf ?_ E p l e s m args below meth c C hl H locs ls hP hS hL)
  · exact zcmp_le_t q
  · exact zcmp_le_f q

theorem J_iret {a : Int} (hd : decode mi.2.1 pc = .ok (.ireturn, 1)) (hret : mi.2.2.2 = some .int) (hc : cells = mc) (hs : slots ≤ ms) (hq : Q (some (zi a)) h) : J mi d mc ms sz0 scr Q pc zs [zi a] h cells slots := by
  intro E p l e s m args below meth c C hl H locs ls hP hS hL
  subst hc
  refine W.widen (k := cells) (n := ms) (Nat.le_refl _) hs ?_
  exact W.iret C.1 C.2.1 (C.2.2.2.2.2.1.trans hret) (fun t ht hW => ⟨⟨some (zi a), h, rfl, hq, hl, by rw [ht]; exact hP⟩, hS.F ht⟩) hS.2.2 hd C.2.2.2.2.2.2.1
theorem J_zret {a : Int} (hd : decode mi.2.1 pc = .ok (.ireturn, 1)) (hret : mi.2.2.2 = some .boolean) (ha : a = 0 ∨ a = 1) (hc : cells = mc) (hs : slots ≤ ms) (hq : Q (some (zi a)) h) : J mi d mc ms sz0 scr Q pc zs [zi a] h cells slots := by
  intro E p l e s m args below meth c C hl H locs ls hP hS hL
  subst hc
  refine W.widen (k := cells) (n := ms) (Nat.le_refl _) hs ?_
  exact W.zret C.1 C.2.1 (C.2.2.2.2.2.1.trans hret) (by rcases ha with rfl | rfl <;> rfl) (fun t ht hW => ⟨⟨some (zi a), h, rfl, hq, hl, by rw [ht]; exact hP⟩, hS.F ht⟩) hS.2.2 hd C.2.2.2.2.2.2.1
theorem J_bret {a : Int} (hd : decode mi.2.1 pc = .ok (.ireturn, 1)) (hret : mi.2.2.2 = some .byte) (ha : a = 0 ∨ a = 1) (hc : cells = mc) (hs : slots ≤ ms) (hq : Q (some (zi a)) h) : J mi d mc ms sz0 scr Q pc zs [zi a] h cells slots := by
  intro E p l e s m args below meth c C hl H locs ls hP hS hL
  subst hc
  refine W.widen (k := cells) (n := ms) (Nat.le_refl _) hs ?_
  exact W.zret C.1 C.2.1 (C.2.2.2.2.2.1.trans hret) (by rcases ha with rfl | rfl <;> rfl) (fun t ht hW => ⟨⟨some (zi a), h, rfl, hq, hl, by rw [ht]; exact hP⟩, hS.F ht⟩) hS.2.2 hd C.2.2.2.2.2.2.1
theorem J_lret {a : Int} (hd : decode mi.2.1 pc = .ok (.lreturn, 1)) (hret : mi.2.2.2 = some .long) (hc : cells = mc) (hs : slots ≤ ms) (hq : Q (some (zl a)) h) : J mi d mc ms sz0 scr Q pc zs [zl a] h cells slots := by
  intro E p l e s m args below meth c C hl H locs ls hP hS hL
  subst hc
  refine W.widen (k := cells) (n := ms) (Nat.le_refl _) hs ?_
  exact W.lret C.1 C.2.1 (C.2.2.2.2.2.1.trans hret) (fun t ht hW => ⟨⟨some (zl a), h, rfl, hq, hl, by rw [ht]; exact hP⟩, hS.F ht⟩) hS.2.2 hd C.2.2.2.2.2.2.1
theorem J_vret (hd : decode mi.2.1 pc = .ok (.return_, 1)) (hret : mi.2.2.2 = none) (hc : cells = mc) (hs : slots ≤ ms) (hq : Q none h) : J mi d mc ms sz0 scr Q pc zs [] h cells slots := by
  intro E p l e s m args below meth c C hl H locs ls hP hS hL
  subst hc
  refine W.widen (k := cells) (n := ms) (Nat.le_refl _) hs ?_
  exact W.vret C.1 C.2.1 (C.2.2.2.2.2.1.trans hret) (fun t ht hW => ⟨⟨none, h, rfl, hq, hl, by rw [ht]; exact hP⟩, hS.F ht⟩) hS.2.2 hd C.2.2.2.2.2.2.1
theorem J_aret {a : Nat} {cn : String} (hd : decode mi.2.1 pc = .ok (.areturn, 1)) (hret : mi.2.2.2 = some (.object cn)) (hc : cells = mc) (hs : slots ≤ ms) (hq : Q (some (zr a)) h) : J mi d mc ms sz0 scr Q pc zs [zr a] h cells slots := by
  intro E p l e s m args below meth c C hl H locs ls hP hS hL
  subst hc
  refine W.widen (k := cells) (n := ms) (Nat.le_refl _) hs ?_
  exact W.aret C.1 C.2.1 (C.2.2.2.2.2.1.trans hret) (Or.inl ⟨_, rfl⟩) (Or.inr ⟨_, rfl⟩) (fun t ht hW => ⟨⟨some (zr a), h, rfl, hq, hl, by rw [ht]; exact hP⟩, hS.F ht⟩) hS.2.2 hd C.2.2.2.2.2.2.1
/-- fewer known locals -/
theorem J_weak {zs' : List ZV} (hw : ∀ (i : Nat) (v : ZV), zs'[i]? = some v → v = zu ∨ zs[i]? = some v) (k : J mi d mc ms sz0 scr Q pc zs' st h cells slots) : J mi d mc ms sz0 scr Q pc zs st h cells slots := by
  intro E p l e s m args below meth c C hl H locs ls hP hS hL
  exact k E p l e s m args below meth c C hl H locs ls hP hS (hL.weak hw)
theorem J_st {st' : List ZV} (e : st = st') (k : J mi d mc ms sz0 scr Q pc zs st' h cells slots) : J mi d mc ms sz0 scr Q pc zs st h cells slots := e ▸ k
theorem J_zs {zs' : List ZV} (e : zs = zs') (k : J mi d mc ms sz0 scr Q pc zs' st h cells slots) : J mi d mc ms sz0 scr Q pc zs st h cells slots := e ▸ k

theorem J_il0 {r : List ZV} {a : Int} (hd : decode mi.2.1 pc = .ok (.iload_n 0, 1)) (k : J mi d mc ms sz0 scr Q (pc + 1) (zi a :: r) (zi a :: st) h cells slots) : J mi d mc ms sz0 scr Q pc (zi a :: r) st h cells slots := J_iload_n hd rfl rfl k
theorem J_al0 {r : List ZV} {a : Nat} (hd : decode mi.2.1 pc = .ok (.aload_n 0, 1)) (k : J mi d mc ms sz0 scr Q (pc + 1) (zr a :: r) (zr a :: st) h cells slots) : J mi d mc ms sz0 scr Q pc (zr a :: r) st h cells slots := J_aload_n hd rfl rfl k
theorem J_ll0 {r : List ZV} {a : Int} (hd : decode mi.2.1 pc = .ok (.lload_n 0, 1)) (k : J mi d mc ms sz0 scr Q (pc + 1) (zl a :: r) (zl a :: st) h cells slots) : J mi d mc ms sz0 scr Q pc (zl a :: r) st h cells slots := J_lload_n hd rfl rfl k
theorem J_is0 {r : List ZV} {y : ZV} {a : Int} (hd : decode mi.2.1 pc = .ok (.istore_n 0, 1)) (hb : 0 < mi.2.2.1) (k : J mi d mc ms sz0 scr Q (pc + 1) (zi a :: r) st h cells slots) : J mi d mc ms sz0 scr Q pc (y :: r) (zi a :: st) h cells slots := J_istore_n hd rfl hb (fun w q _ => absurd rfl q) k
theorem J_as0 {r : List ZV} {y : ZV} {a : Nat} (hd : decode mi.2.1 pc = .ok (.astore_n 0, 1)) (hb : 0 < mi.2.2.1) (k : J mi d mc ms sz0 scr Q (pc + 1) (zr a :: r) st h cells slots) : J mi d mc ms sz0 scr Q pc (y :: r) (zr a :: st) h cells slots := J_astore_n hd rfl hb (fun w q _ => absurd rfl q) k
theorem J_ls0 {r : List ZV} {y y' : ZV} {a : Int} (hd : decode mi.2.1 pc = .ok (.lstore_n 0, 1)) (hb : 0 + 1 < mi.2.2.1) (k : J mi d mc ms sz0 scr Q (pc + 1) (zl a :: zu :: r) st h cells slots) : J mi d mc ms sz0 scr Q pc (y :: y' :: r) (zl a :: st) h cells slots := J_lstore_n hd rfl hb (fun w q _ => absurd rfl q) k
theorem J_inc0 {r : List ZV} {a n : Int} (hd : decode mi.2.1 pc = .ok (.iinc 0 n, 3)) (hb : 0 < mi.2.2.1) (k : J mi d mc ms sz0 scr Q (pc + 3) (zi (a + n) :: r) st h cells slots) : J mi d mc ms sz0 scr Q pc (zi a :: r) st h cells slots := J_iinc hd rfl hb (fun w q _ => absurd rfl q) k
theorem J_il1 {x0 : ZV} {r : List ZV} {a : Int} (hd : decode mi.2.1 pc = .ok (.iload_n 1, 1)) (k : J mi d mc ms sz0 scr Q (pc + 1) (x0 :: zi a :: r) (zi a :: st) h cells slots) : J mi d mc ms sz0 scr Q pc (x0 :: zi a :: r) st h cells slots := J_iload_n hd rfl rfl k
theorem J_al1 {x0 : ZV} {r : List ZV} {a : Nat} (hd : decode mi.2.1 pc = .ok (.aload_n 1, 1)) (k : J mi d mc ms sz0 scr Q (pc + 1) (x0 :: zr a :: r) (zr a :: st) h cells slots) : J mi d mc ms sz0 scr Q pc (x0 :: zr a :: r) st h cells slots := J_aload_n hd rfl rfl k
theorem J_ll1 {x0 : ZV} {r : List ZV} {a : Int} (hd : decode mi.2.1 pc = .ok (.lload_n 1, 1)) (k : J mi d mc ms sz0 scr Q (pc + 1) (x0 :: zl a :: r) (zl a :: st) h cells slots) : J mi d mc ms sz0 scr Q pc (x0 :: zl a :: r) st h cells slots := J_lload_n hd rfl rfl k
theorem J_is1 {x0 : ZV} {r : List ZV} {y : ZV} {a : Int} (hd : decode mi.2.1 pc = .ok (.istore_n 1, 1)) (hb : 1 < mi.2.2.1) (hp : zlong x0 = false) (k : J mi d mc ms sz0 scr Q (pc + 1) (x0 :: zi a :: r) st h cells slots) : J mi d mc ms sz0 scr Q pc (x0 :: y :: r) (zi a :: st) h cells slots := J_istore_n hd rfl hb (fun w _ e => by cases e; exact hp) k
theorem J_as1 {x0 : ZV} {r : List ZV} {y : ZV} {a : Nat} (hd : decode mi.2.1 pc = .ok (.astore_n 1, 1)) (hb : 1 < mi.2.2.1) (hp : zlong x0 = false) (k : J mi d mc ms sz0 scr Q (pc + 1) (x0 :: zr a :: r) st h cells slots) : J mi d mc ms sz0 scr Q pc (x0 :: y :: r) (zr a :: st) h cells slots := J_astore_n hd rfl hb (fun w _ e => by cases e; exact hp) k
theorem J_ls1 {x0 : ZV} {r : List ZV} {y y' : ZV} {a : Int} (hd : decode mi.2.1 pc = .ok (.lstore_n 1, 1)) (hb : 1 + 1 < mi.2.2.1) (hp : zlong x0 = false) (k : J mi d mc ms sz0 scr Q (pc + 1) (x0 :: zl a :: zu :: r) st h cells slots) : J mi d mc ms sz0 scr Q pc (x0 :: y :: y' :: r) (zl a :: st) h cells slots := J_lstore_n hd rfl hb (fun w _ e => by cases e; exact hp) k
theorem J_inc1 {x0 : ZV} {r : List ZV} {a n : Int} (hd : decode mi.2.1 pc = .ok (.iinc 1 n, 3)) (hb : 1 < mi.2.2.1) (hp : zlong x0 = false) (k : J mi d mc ms sz0 scr Q (pc + 3) (x0 :: zi (a + n) :: r) st h cells slots) : J mi d mc ms sz0 scr Q pc (x0 :: zi a :: r) st h cells slots := J_iinc hd rfl hb (fun w _ e => by cases e; exact hp) k
theorem J_il2 {x0 x1 : ZV} {r : List ZV} {a : Int} (hd : decode mi.2.1 pc = .ok (.iload_n 2, 1)) (k : J mi d mc ms sz0 scr Q (pc + 1) (x0 :: x1 :: zi a :: r) (zi a :: st) h cells slots) : J mi d mc ms sz0 scr Q pc (x0 :: x1 :: zi a :: r) st h cells slots := J_iload_n hd rfl rfl k
theorem J_al2 {x0 x1 : ZV} {r : List ZV} {a : Nat} (hd : decode mi.2.1 pc = .ok (.aload_n 2, 1)) (k : J mi d mc ms sz0 scr Q (pc + 1) (x0 :: x1 :: zr a :: r) (zr a :: st) h cells slots) : J mi d mc ms sz0 scr Q pc (x0 :: x1 :: zr a :: r) st h cells slots := J_aload_n hd rfl rfl k
theorem J_ll2 {x0 x1 : ZV} {r : List ZV} {a : Int} (hd : decode mi.2.1 pc = .ok (.lload_n 2, 1)) (k : J mi d mc ms sz0 scr Q (pc + 1) (x0 :: x1 :: zl a :: r) (zl a :: st) h cells slots) : J mi d mc ms sz0 scr Q pc (x0 :: x1 :: zl a :: r) st h cells slots := J_lload_n hd rfl rfl k
theorem J_is2 {x0 x1 : ZV} {r : List ZV} {y : ZV} {a : Int} (hd : decode mi.2.1 pc = .ok (.istore_n 2, 1)) (hb : 2 < mi.2.2.1) (hp : zlong x1 = false) (k : J mi d mc ms sz0 scr Q (pc + 1) (x0 :: x1 :: zi a :: r) st h cells slots) : J mi d mc ms sz0 scr Q pc (x0 :: x1 :: y :: r) (zi a :: st) h cells slots := J_istore_n hd rfl hb (fun w _ e => by cases e; exact hp) k
theorem J_as2 {x0 x1 : ZV} {r : List ZV} {y : ZV} {a : Nat} (hd : decode mi.2.1 pc = .ok (.astore_n 2, 1)) (hb : 2 < mi.2.2.1) (hp : zlong x1 = false) (k : J mi d mc ms sz0 scr Q (pc + 1) (x0 :: x1 :: zr a :: r) st h cells slots) : J mi d mc ms sz0 scr Q pc (x0 :: x1 :: y :: r) (zr a :: st) h cells slots := J_astore_n hd rfl hb (fun w _ e => by cases e; exact hp) k
theorem J_ls2 {x0 x1 : ZV} {r : List ZV} {y y' : ZV} {a : Int} (hd : decode mi.2.1 pc = .ok (.lstore_n 2, 1)) (hb : 2 + 1 < mi.2.2.1) (hp : zlong x1 = false) (k : J mi d mc ms sz0 scr Q (pc + 1) (x0 :: x1 :: zl a :: zu :: r) st h cells slots) : J mi d mc ms sz0 scr Q pc (x0 :: x1 :: y :: y' :: r) (zl a :: st) h cells slots := J_lstore_n hd rfl hb (fun w _ e => by cases e; exact hp) k
theorem J_inc2 {x0 x1 : ZV} {r : List ZV} {a n : Int} (hd : decode mi.2.1 pc = .ok (.iinc 2 n, 3)) (hb : 2 < mi.2.2.1) (hp : zlong x1 = false) (k : J mi d mc ms sz0 scr Q (pc + 3) (x0 :: x1 :: zi (a + n) :: r) st h cells slots) : J mi d mc ms sz0 scr Q pc (x0 :: x1 :: zi a :: r) st h cells slots := J_iinc hd rfl hb (fun w _ e => by cases e; exact hp) k
theorem J_il3 {x0 x1 x2 : ZV} {r : List ZV} {a : Int} (hd : decode mi.2.1 pc = .ok (.iload_n 3, 1)) (k : J mi d mc ms sz0 scr Q (pc + 1) (x0 :: x1 :: x2 :: zi a :: r) (zi a :: st) h cells slots) : J mi d mc ms sz0 scr Q pc (x0 :: x1 :: x2 :: zi a :: r) st h cells slots := J_iload_n hd rfl rfl k
theorem J_al3 {x0 x1 x2 : ZV} {r : List ZV} {a : Nat} (hd : decode mi.2.1 pc = .ok (.aload_n 3, 1)) (k : J mi d mc ms sz0 scr Q (pc + 1) (x0 :: x1 :: x2 :: zr a :: r) (zr a :: st) h cells slots) : J mi d mc ms sz0 scr Q pc (x0 :: x1 :: x2 :: zr a :: r) st h cells slots := J_aload_n hd rfl rfl k
theorem J_ll3 {x0 x1 x2 : ZV} {r : List ZV} {a : Int} (hd : decode mi.2.1 pc = .ok (.lload_n 3, 1)) (k : J mi d mc ms sz0 scr Q (pc + 1) (x0 :: x1 :: x2 :: zl a :: r) (zl a :: st) h cells slots) : J mi d mc ms sz0 scr Q pc (x0 :: x1 :: x2 :: zl a :: r) st h cells slots := J_lload_n hd rfl rfl k
theorem J_is3 {x0 x1 x2 : ZV} {r : List ZV} {y : ZV} {a : Int} (hd : decode mi.2.1 pc = .ok (.istore_n 3, 1)) (hb : 3 < mi.2.2.1) (hp : zlong x2 = false) (k : J mi d mc ms sz0 scr Q (pc + 1) (x0 :: x1 :: x2 :: zi a :: r) st h cells slots) : J mi d mc ms sz0 scr Q pc (x0 :: x1 :: x2 :: y :: r) (zi a :: st) h cells slots := J_istore_n hd rfl hb (fun w _ e => by cases e; exact hp) k
theorem J_as3 {x0 x1 x2 : ZV} {r : List ZV} {y : ZV} {a : Nat} (hd : decode mi.2.1 pc = .ok (.astore_n 3, 1)) (hb : 3 < mi.2.2.1) (hp : zlong x2 = false) (k : J mi d mc ms sz0 scr Q (pc + 1) (x0 :: x1 :: x2 :: zr a :: r) st h cells slots) : J mi d mc ms sz0 scr Q pc (x0 :: x1 :: x2 :: y :: r) (zr a :: st) h cells slots := J_astore_n hd rfl hb (fun w _ e => by cases e; exact hp) k
theorem J_ls3 {x0 x1 x2 : ZV} {r : List ZV} {y y' : ZV} {a : Int} (hd : decode mi.2.1 pc = .ok (.lstore_n 3, 1)) (hb : 3 + 1 < mi.2.2.1) (hp : zlong x2 = false) (k : J mi d mc ms sz0 scr Q (pc + 1) (x0 :: x1 :: x2 :: zl a :: zu :: r) st h cells slots) : J mi d mc ms sz0 scr Q pc (x0 :: x1 :: x2 :: y :: y' :: r) (zl a :: st) h cells slots := J_lstore_n hd rfl hb (fun w _ e => by cases e; exact hp) k
theorem J_inc3 {x0 x1 x2 : ZV} {r : List ZV} {a n : Int} (hd : decode mi.2.1 pc = .ok (.iinc 3 n, 3)) (hb : 3 < mi.2.2.1) (hp : zlong x2 = false) (k : J mi d mc ms sz0 scr Q (pc + 3) (x0 :: x1 :: x2 :: zi (a + n) :: r) st h cells slots) : J mi d mc ms sz0 scr Q pc (x0 :: x1 :: x2 :: zi a :: r) st h cells slots := J_iinc hd rfl hb (fun w _ e => by cases e; exact hp) k
theorem J_il4 {x0 x1 x2 x3 : ZV} {r : List ZV} {a : Int} (hd : decode mi.2.1 pc = .ok (.iload 4, 2)) (k : J mi d mc ms sz0 scr Q (pc + 2) (x0 :: x1 :: x2 :: x3 :: zi a :: r) (zi a :: st) h cells slots) : J mi d mc ms sz0 scr Q pc (x0 :: x1 :: x2 :: x3 :: zi a :: r) st h cells slots := J_iload hd rfl k
theorem J_al4 {x0 x1 x2 x3 : ZV} {r : List ZV} {a : Nat} (hd : decode mi.2.1 pc = .ok (.aload 4, 2)) (k : J mi d mc ms sz0 scr Q (pc + 2) (x0 :: x1 :: x2 :: x3 :: zr a :: r) (zr a :: st) h cells slots) : J mi d mc ms sz0 scr Q pc (x0 :: x1 :: x2 :: x3 :: zr a :: r) st h cells slots := J_aload hd rfl k
theorem J_ll4 {x0 x1 x2 x3 : ZV} {r : List ZV} {a : Int} (hd : decode mi.2.1 pc = .ok (.lload 4, 2)) (k : J mi d mc ms sz0 scr Q (pc + 2) (x0 :: x1 :: x2 :: x3 :: zl a :: r) (zl a :: st) h cells slots) : J mi d mc ms sz0 scr Q pc (x0 :: x1 :: x2 :: x3 :: zl a :: r) st h cells slots := J_lload hd rfl k
theorem J_is4 {x0 x1 x2 x3 : ZV} {r : List ZV} {y : ZV} {a : Int} (hd : decode mi.2.1 pc = .ok (.istore 4, 2)) (hb : 4 < mi.2.2.1) (hp : zlong x3 = false) (k : J mi d mc ms sz0 scr Q (pc + 2) (x0 :: x1 :: x2 :: x3 :: zi a :: r) st h cells slots) : J mi d mc ms sz0 scr Q pc (x0 :: x1 :: x2 :: x3 :: y :: r) (zi a :: st) h cells slots := J_istore hd hb (fun w _ e => by cases e; exact hp) k
theorem J_as4 {x0 x1 x2 x3 : ZV} {r : List ZV} {y : ZV} {a : Nat} (hd : decode mi.2.1 pc = .ok (.astore 4, 2)) (hb : 4 < mi.2.2.1) (hp : zlong x3 = false) (k : J mi d mc ms sz0 scr Q (pc + 2) (x0 :: x1 :: x2 :: x3 :: zr a :: r) st h cells slots) : J mi d mc ms sz0 scr Q pc (x0 :: x1 :: x2 :: x3 :: y :: r) (zr a :: st) h cells slots := J_astore hd hb (fun w _ e => by cases e; exact hp) k
theorem J_ls4 {x0 x1 x2 x3 : ZV} {r : List ZV} {y y' : ZV} {a : Int} (hd : decode mi.2.1 pc = .ok (.lstore 4, 2)) (hb : 4 + 1 < mi.2.2.1) (hp : zlong x3 = false) (k : J mi d mc ms sz0 scr Q (pc + 2) (x0 :: x1 :: x2 :: x3 :: zl a :: zu :: r) st h cells slots) : J mi d mc ms sz0 scr Q pc (x0 :: x1 :: x2 :: x3 :: y :: y' :: r) (zl a :: st) h cells slots := J_lstore hd hb (fun w _ e => by cases e; exact hp) k
theorem J_inc4 {x0 x1 x2 x3 : ZV} {r : List ZV} {a n : Int} (hd : decode mi.2.1 pc = .ok (.iinc 4 n, 3)) (hb : 4 < mi.2.2.1) (hp : zlong x3 = false) (k : J mi d mc ms sz0 scr Q (pc + 3) (x0 :: x1 :: x2 :: x3 :: zi (a + n) :: r) st h cells slots) : J mi d mc ms sz0 scr Q pc (x0 :: x1 :: x2 :: x3 :: zi a :: r) st h cells slots := J_iinc hd rfl hb (fun w _ e => by cases e; exact hp) k
theorem J_il5 {x0 x1 x2 x3 x4 : ZV} {r : List ZV} {a : Int} (hd : decode mi.2.1 pc = .ok (.iload 5, 2)) (k : J mi d mc ms sz0 scr Q (pc + 2) (x0 :: x1 :: x2 :: x3 :: x4 :: zi a :: r) (zi a :: st) h cells slots) : J mi d mc ms sz0 scr Q pc (x0 :: x1 :: x2 :: x3 :: x4 :: zi a :: r) st h cells slots := J_iload hd rfl k
theorem J_al5 {x0 x1 x2 x3 x4 : ZV} {r : List ZV} {a : Nat} (hd : decode mi.2.1 pc = .ok (.aload 5, 2)) (k : J mi d mc ms sz0 scr Q (pc + 2) (x0 :: x1 :: x2 :: x3 :: x4 :: zr a :: r) (zr a :: st) h cells slots) : J mi d mc ms sz0 scr Q pc (x0 :: x1 :: x2 :: x3 :: x4 :: zr a :: r) st h cells slots := J_aload hd rfl k
theorem J_ll5 {x0 x1 x2 x3 x4 : ZV} {r : List ZV} {a : Int} (hd : decode mi.2.1 pc = .ok (.lload 5, 2)) (k : J mi d mc ms sz0 scr Q (pc + 2) (x0 :: x1 :: x2 :: x3 :: x4 :: zl a :: r) (zl a :: st) h cells slots) : J mi d mc ms sz0 scr Q pc (x0 :: x1 :: x2 :: x3 :: x4 :: zl a :: r) st h cells slots := J_lload hd rfl k
theorem J_is5 {x0 x1 x2 x3 x4 : ZV} {r : List ZV} {y : ZV} {a : Int} (hd : decode mi.2.1 pc = .ok (.istore 5, 2)) (hb : 5 < mi.2.2.1) (hp : zlong x4 = false) (k : J mi d mc ms sz0 scr Q (pc + 2) (x0 :: x1 :: x2 :: x3 :: x4 :: zi a :: r) st h cells slots) : J mi d mc ms sz0 scr Q pc (x0 :: x1 :: x2 :: x3 :: x4 :: y :: r) (zi a :: st) h cells slots := J_istore hd hb (fun w _ e => by cases e; exact hp) k
theorem J_as5 {x0 x1 x2 x3 x4 : ZV} {r : List ZV} {y : ZV} {a : Nat} (hd : decode mi.2.1 pc = .ok (.astore 5, 2)) (hb : 5 < mi.2.2.1) (hp : zlong x4 = false) (k : J mi d mc ms sz0 scr Q (pc + 2) (x0 :: x1 :: x2 :: x3 :: x4 :: zr a :: r) st h cells slots) : J mi d mc ms sz0 scr Q pc (x0 :: x1 :: x2 :: x3 :: x4 :: y :: r) (zr a :: st) h cells slots := J_astore hd hb (fun w _ e => by cases e; exact hp) k
theorem J_ls5 {x0 x1 x2 x3 x4 : ZV} {r : List ZV} {y y' : ZV} {a : Int} (hd : decode mi.2.1 pc = .ok (.lstore 5, 2)) (hb : 5 + 1 < mi.2.2.1) (hp : zlong x4 = false) (k : J mi d mc ms sz0 scr Q (pc + 2) (x0 :: x1 :: x2 :: x3 :: x4 :: zl a :: zu :: r) st h cells slots) : J mi d mc ms sz0 scr Q pc (x0 :: x1 :: x2 :: x3 :: x4 :: y :: y' :: r) (zl a :: st) h cells slots := J_lstore hd hb (fun w _ e => by cases e; exact hp) k
theorem J_inc5 {x0 x1 x2 x3 x4 : ZV} {r : List ZV} {a n : Int} (hd : decode mi.2.1 pc = .ok (.iinc 5 n, 3)) (hb : 5 < mi.2.2.1) (hp : zlong x4 = false) (k : J mi d mc ms sz0 scr Q (pc + 3) (x0 :: x1 :: x2 :: x3 :: x4 :: zi (a + n) :: r) st h cells slots) : J mi d mc ms sz0 scr Q pc (x0 :: x1 :: x2 :: x3 :: x4 :: zi a :: r) st h cells slots := J_iinc hd rfl hb (fun w _ e => by cases e; exact hp) k
theorem J_il6 {x0 x1 x2 x3 x4 x5 : ZV} {r : List ZV} {a : Int} (hd : decode mi.2.1 pc = .ok (.iload 6, 2)) (k : J mi d mc ms sz0 scr Q (pc + 2) (x0 :: x1 :: x2 :: x3 :: x4 :: x5 :: zi a :: r) (zi a :: st) h cells slots) : J mi d mc ms sz0 scr Q pc (x0 :: x1 :: x2 :: x3 :: x4 :: x5 :: zi a :: r) st h cells slots := J_iload hd rfl k
theorem J_al6 {x0 x1 x2 x3 x4 x5 : ZV} {r : List ZV} {a : Nat} (hd : decode mi.2.1 pc = .ok (.aload 6, 2)) (k : J mi d mc ms sz0 scr Q (pc + 2) (x0 :: x1 :: x2 :: x3 :: x4 :: x5 :: zr a :: r) (zr a :: st) h cells slots) : J mi d mc ms sz0 scr Q pc (x0 :: x1 :: x2 :: x3 :: x4 :: x5 :: zr a :: r) st h cells slots := J_aload hd rfl k
theorem J_ll6 {x0 x1 x2 x3 x4 x5 : ZV} {r : List ZV} {a : Int} (hd : decode mi.2.1 pc = .ok (.lload 6, 2)) (k : J mi d mc ms sz0 scr Q (pc + 2) (x0 :: x1 :: x2 :: x3 :: x4 :: x5 :: zl a :: r) (zl a :: st) h cells slots) : J mi d mc ms sz0 scr Q pc (x0 :: x1 :: x2 :: x3 :: x4 :: x5 :: zl a :: r) st h cells slots := J_lload hd rfl k
theorem J_is6 {x0 x1 x2 x3 x4 x5 : ZV} {r : List ZV} {y : ZV} {a : Int} (hd : decode mi.2.1 pc = .ok (.istore 6, 2)) (hb : 6 < mi.2.2.1) (hp : zlong x5 = false) (k : J mi d mc ms sz0 scr Q (pc + 2) (x0 :: x1 :: x2 :: x3 :: x4 :: x5 :: zi a :: r) st h cells slots) : J mi d mc ms sz0 scr Q pc (x0 :: x1 :: x2 :: x3 :: x4 :: x5 :: y :: r) (zi a :: st) h cells slots := J_istore hd hb (fun w _ e => by cases e; exact hp) k
theorem J_as6 {x0 x1 x2 x3 x4 x5 : ZV} {r : List ZV} {y : ZV} {a : Nat} (hd : decode mi.2.1 pc = .ok (.astore 6, 2)) (hb : 6 < mi.2.2.1) (hp : zlong x5 = false) (k : J mi d mc ms sz0 scr Q (pc + 2) (x0 :: x1 :: x2 :: x3 :: x4 :: x5 :: zr a :: r) st h cells slots) : J mi d mc ms sz0 scr Q pc (x0 :: x1 :: x2 :: x3 :: x4 :: x5 :: y :: r) (zr a :: st) h cells slots := J_astore hd hb (fun w _ e => by cases e; exact hp) k
theorem J_ls6 {x0 x1 x2 x3 x4 x5 : ZV} {r : List ZV} {y y' : ZV} {a : Int} (hd : decode mi.2.1 pc = .ok (.lstore 6, 2)) (hb : 6 + 1 < mi.2.2.1) (hp : zlong x5 = false) (k : J mi d mc ms sz0 scr Q (pc + 2) (x0 :: x1 :: x2 :: x3 :: x4 :: x5 :: zl a :: zu :: r) st h cells slots) : J mi d mc ms sz0 scr Q pc (x0 :: x1 :: x2 :: x3 :: x4 :: x5 :: y :: y' :: r) (zl a :: st) h cells slots := J_lstore hd hb (fun w _ e => by cases e; exact hp) k
theorem J_inc6 {x0 x1 x2 x3 x4 x5 : ZV} {r : List ZV} {a n : Int} (hd : decode mi.2.1 pc = .ok (.iinc 6 n, 3)) (hb : 6 < mi.2.2.1) (hp : zlong x5 = false) (k : J mi d mc ms sz0 scr Q (pc + 3) (x0 :: x1 :: x2 :: x3 :: x4 :: x5 :: zi (a + n) :: r) st h cells slots) : J mi d mc ms sz0 scr Q pc (x0 :: x1 :: x2 :: x3 :: x4 :: x5 :: zi a :: r) st h cells slots := J_iinc hd rfl hb (fun w _ e => by cases e; exact hp) k
theorem J_il7 {x0 x1 x2 x3 x4 x5 x6 : ZV} {r : List ZV} {a : Int} (hd : decode mi.2.1 pc = .ok (.iload 7, 2)) (k : J mi d mc ms sz0 scr Q (pc + 2) (x0 :: x1 :: x2 :: x3 :: x4 :: x5 :: x6 :: zi a :: r) (zi a :: st) h cells slots) : J mi d mc ms sz0 scr Q pc (x0 :: x1 :: x2 :: x3 :: x4 :: x5 :: x6 :: zi a :: r) st h cells slots := J_iload hd rfl k
theorem J_al7 {x0 x1 x2 x3 x4 x5 x6 : ZV} {r : List ZV} {a : Nat} (hd : decode mi.2.1 pc = .ok (.aload 7, 2)) (k : J mi d mc ms sz0 scr Q (pc + 2) (x0 :: x1 :: x2 :: x3 :: x4 :: x5 :: x6 :: zr a :: r) (zr a :: st) h cells slots) : J mi d mc ms sz0 scr Q pc (x0 :: x1 :: x2 :: x3 :: x4 :: x5 :: x6 :: zr a :: r) st h cells slots := J_aload hd rfl k
theorem J_ll7 {x0 x1 x2 x3 x4 x5 x6 : ZV} {r : List ZV} {a : Int} (hd : decode mi.2.1 pc = .ok (.lload 7, 2)) (k : J mi d mc ms sz0 scr Q (pc + 2) (x0 :: x1 :: x2 :: x3 :: x4 :: x5 :: x6 :: zl a :: r) (zl a :: st) h cells slots) : J mi d mc ms sz0 scr Q pc (x0 :: x1 :: x2 :: x3 :: x4 :: x5 :: x6 :: zl a :: r) st h cells slots := J_lload hd rfl k
theorem J_is7 {x0 x1 x2 x3 x4 x5 x6 : ZV} {r : List ZV} {y : ZV} {a : Int} (hd : decode mi.2.1 pc = .ok (.istore 7, 2)) (hb : 7 < mi.2.2.1) (hp : zlong x6 = false) (k : J mi d mc ms sz0 scr Q (pc + 2) (x0 :: x1 :: x2 :: x3 :: x4 :: x5 :: x6 :: zi a :: r) st h cells slots) : J mi d mc ms sz0 scr Q pc (x0 :: x1 :: x2 :: x3 :: x4 :: x5 :: x6 :: y :: r) (zi a :: st) h cells slots := J_istore hd hb (fun w _ e => by cases e; exact hp) k
theorem J_as7 {x0 x1 x2 x3 x4 x5 x6 : ZV} {r : List ZV} {y : ZV} {a : Nat} (hd : decode mi.2.1 pc = .ok (.astore 7, 2)) (hb : 7 < mi.2.2.1) (hp : zlong x6 = false) (k : J mi d mc ms sz0 scr Q (pc + 2) (x0 :: x1 :: x2 :: x3 :: x4 :: x5 :: x6 :: zr a :: r) st h cells slots) : J mi d mc ms sz0 scr Q pc (x0 :: x1 :: x2 :: x3 :: x4 :: x5 :: x6 :: y :: r) (zr a :: st) h cells slots := J_astore hd hb (fun w _ e => by cases e; exact hp) k
theorem J_ls7 {x0 x1 x2 x3 x4 x5 x6 : ZV} {r : List ZV} {y y' : ZV} {a : Int} (hd : decode mi.2.1 pc = .ok (.lstore 7, 2)) (hb : 7 + 1 < mi.2.2.1) (hp : zlong x6 = false) (k : J mi d mc ms sz0 scr Q (pc + 2) (x0 :: x1 :: x2 :: x3 :: x4 :: x5 :: x6 :: zl a :: zu :: r) st h cells slots) : J mi d mc ms sz0 scr Q pc (x0 :: x1 :: x2 :: x3 :: x4 :: x5 :: x6 :: y :: y' :: r) (zl a :: st) h cells slots := J_lstore hd hb (fun w _ e => by cases e; exact hp) k
theorem J_inc7 {x0 x1 x2 x3 x4 x5 x6 : ZV} {r : List ZV} {a n : Int} (hd : decode mi.2.1 pc = .ok (.iinc 7 n, 3)) (hb : 7 < mi.2.2.1) (hp : zlong x6 = false) (k : J mi d mc ms sz0 scr Q (pc + 3) (x0 :: x1 :: x2 :: x3 :: x4 :: x5 :: x6 :: zi (a + n) :: r) st h cells slots) : J mi d mc ms sz0 scr Q pc (x0 :: x1 :: x2 :: x3 :: x4 :: x5 :: x6 :: zi a :: r) st h cells slots := J_iinc hd rfl hb (fun w _ e => by cases e; exact hp) k
theorem J_il8 {x0 x1 x2 x3 x4 x5 x6 x7 : ZV} {r : List ZV} {a : Int} (hd : decode mi.2.1 pc = .ok (.iload 8, 2)) (k : J mi d mc ms sz0 scr Q (pc + 2) (x0 :: x1 :: x2 :: x3 :: x4 :: x5 :: x6 :: x7 :: zi a :: r) (zi a :: st) h cells slots) : J mi d mc ms sz0 scr Q pc (x0 :: x1 :: x2 :: x3 :: x4 :: x5 :: x6 :: x7 :: zi a :: r) st h cells slots := J_iload hd rfl k
theorem J_al8 {x0 x1 x2 x3 x4 x5 x6 x7 : ZV} {r : List ZV} {a : Nat} (hd : decode mi.2.1 pc = .ok (.aload 8, 2)) (k : J mi d mc ms sz0 scr Q (pc + 2) (x0 :: x1 :: x2 :: x3 :: x4 :: x5 :: x6 :: x7 :: zr a :: r) (zr a :: st) h cells slots) : J mi d mc ms sz0 scr Q pc (x0 :: x1 :: x2 :: x3 :: x4 :: x5 :: x6 :: x7 :: zr a :: r) st h cells slots := J_aload hd rfl k
theorem J_ll8 {x0 x1 x2 x3 x4 x5 x6 x7 : ZV} {r : List ZV} {a : Int} (hd : decode mi.2.1 pc = .ok (.lload 8, 2)) (k : J mi d mc ms sz0 scr Q (pc + 2) (x0 :: x1 :: x2 :: x3 :: x4 :: x5 :: x6 :: x7 :: zl a :: r) (zl a :: st) h cells slots) : J mi d mc ms sz0 scr Q pc (x0 :: x1 :: x2 :: x3 :: x4 :: x5 :: x6 :: x7 :: zl a :: r) st h cells slots := J_lload hd rfl k
theorem J_is8 {x0 x1 x2 x3 x4 x5 x6 x7 : ZV} {r : List ZV} {y : ZV} {a : Int} (hd : decode mi.2.1 pc = .ok (.istore 8, 2)) (hb : 8 < mi.2.2.1) (hp : zlong x7 = false) (k : J mi d mc ms sz0 scr Q (pc + 2) (x0 :: x1 :: x2 :: x3 :: x4 :: x5 :: x6 :: x7 :: zi a :: r) st h cells slots) : J mi d mc ms sz0 scr Q pc (x0 :: x1 :: x2 :: x3 :: x4 :: x5 :: x6 :: x7 :: y :: r) (zi a :: st) h cells slots := J_istore hd hb (fun w _ e => by cases e; exact hp) k
theorem J_as8 {x0 x1 x2 x3 x4 x5 x6 x7 : ZV} {r : List ZV} {y : ZV} {a : Nat} (hd : decode mi.2.1 pc = .ok (.astore 8, 2)) (hb : 8 < mi.2.2.1) (hp : zlong x7 = false) (k : J mi d mc ms sz0 scr Q (pc + 2) (x0 :: x1 :: x2 :: x3 :: x4 :: x5 :: x6 :: x7 :: zr a :: r) st h cells slots) : J mi d mc ms sz0 scr Q pc (x0 :: x1 :: x2 :: x3 :: x4 :: x5 :: x6 :: x7 :: y :: r) (zr a :: st) h cells slots := J_astore hd hb (fun w _ e => by cases e; exact hp) k
theorem J_ls8 {x0 x1 x2 x3 x4 x5 x6 x7 : ZV} {r : List ZV} {y y' : ZV} {a : Int} (hd : decode mi.2.1 pc = .ok (.lstore 8, 2)) (hb : 8 + 1 < mi.2.2.1) (hp : zlong x7 = false) (k : J mi d mc ms sz0 scr Q (pc + 2) (x0 :: x1 :: x2 :: x3 :: x4 :: x5 :: x6 :: x7 :: zl a :: zu :: r) st h cells slots) : J mi d mc ms sz0 scr Q pc (x0 :: x1 :: x2 :: x3 :: x4 :: x5 :: x6 :: x7 :: y :: y' :: r) (zl a :: st) h cells slots := J_lstore hd hb (fun w _ e => by cases e; exact hp) k
theorem J_inc8 {x0 x1 x2 x3 x4 x5 x6 x7 : ZV} {r : List ZV} {a n : Int} (hd : decode mi.2.1 pc = .ok (.iinc 8 n, 3)) (hb : 8 < mi.2.2.1) (hp : zlong x7 = false) (k : J mi d mc ms sz0 scr Q (pc + 3) (x0 :: x1 :: x2 :: x3 :: x4 :: x5 :: x6 :: x7 :: zi (a + n) :: r) st h cells slots) : J mi d mc ms sz0 scr Q pc (x0 :: x1 :: x2 :: x3 :: x4 :: x5 :: x6 :: x7 :: zi a :: r) st h cells slots := J_iinc hd rfl hb (fun w _ e => by cases e; exact hp) k
theorem J_il9 {x0 x1 x2 x3 x4 x5 x6 x7 x8 : ZV} {r : List ZV} {a : Int} (hd : decode mi.2.1 pc = .ok (.iload 9, 2)) (k : J mi d mc ms sz0 scr Q (pc + 2) (x0 :: x1 :: x2 :: x3 :: x4 :: x5 :: x6 :: x7 :: x8 :: zi a :: r) (zi a :: st) h cells slots) : J mi d mc ms sz0 scr Q pc (x0 :: x1 :: x2 :: x3 :: x4 :: x5 :: x6 :: x7 :: x8 :: zi a :: r) st h cells slots := J_iload hd rfl k
theorem J_al9 {x0 x1 x2 x3 x4 x5 x6 x7 x8 : ZV} {r : List ZV} {a : Nat} (hd : decode mi.2.1 pc = .ok (.aload 9, 2)) (k : J mi d mc ms sz0 scr Q (pc + 2) (x0 :: x1 :: x2 :: x3 :: x4 :: x5 :: x6 :: x7 :: x8 :: zr a :: r) (zr a :: st) h cells slots) : J mi d mc ms sz0 scr Q pc (x0 :: x1 :: x2 :: x3 :: x4 :: x5 :: x6 :: x7 :: x8 :: zr a :: r) st h cells slots := J_aload hd rfl k
theorem J_ll9 {x0 x1 x2 x3 x4 x5 x6 x7 x8 : ZV} {r : List ZV} {a : Int} (hd : decode mi.2.1 pc = .ok (.lload 9, 2)) (k : J mi d mc ms sz0 scr Q (pc + 2) (x0 :: x1 :: x2 :: x3 :: x4 :: x5 :: x6 :: x7 :: x8 :: zl a :: r) (zl a :: st) h cells slots) : J mi d mc ms sz0 scr Q pc (x0 :: x1 :: x2 :: x3 :: x4 :: x5 :: x6 :: x7 :: x8 :: zl a :: r) st h cells slots := J_lload hd rfl k
theorem J_is9 {x0 x1 x2 x3 x4 x5 x6 x7 x8 : ZV} {r : List ZV} {y : ZV} {a : Int} (hd : decode mi.2.1 pc = .ok (.istore 9, 2)) (hb : 9 < mi.2.2.1) (hp : zlong x8 = false) (k : J mi d mc ms sz0 scr Q (pc + 2) (x0 :: x1 :: x2 :: x3 :: x4 :: x5 :: x6 :: x7 :: x8 :: zi a :: r) st h cells slots) : J mi d mc ms sz0 scr Q pc (x0 :: x1 :: x2 :: x3 :: x4 :: x5 :: x6 :: x7 :: x8 :: y :: r) (zi a :: st) h cells slots := J_istore hd hb (fun w _ e => by cases e; exact hp) k
theorem J_as9 {x0 x1 x2 x3 x4 x5 x6 x7 x8 : ZV} {r : List ZV} {y : ZV} {a : Nat} (hd : decode mi.2.1 pc = .ok (.astore 9, 2)) (hb : 9 < mi.2.2.1) (hp : zlong x8 = false) (k : J mi d mc ms sz0 scr Q (pc + 2) (x0 :: x1 :: x2 :: x3 :: x4 :: x5 :: x6 :: x7 :: x8 :: zr a :: r) st h cells slots) : J mi d mc ms sz0 scr Q pc (x0 :: x1 :: x2 :: x3 :: x4 :: x5 :: x6 :: x7 :: x8 :: y :: r) (zr a :: st) h cells slots := J_astore hd hb (fun w _ e => by cases e; exact hp) k
theorem J_ls9 {x0 x1 x2 x3 x4 x5 x6 x7 x8 : ZV} {r : List ZV} {y y' : ZV} {a : Int} (hd : decode mi.2.1 pc = .ok (.lstore 9, 2)) (hb : 9 + 1 < mi.2.2.1) (hp : zlong x8 = false) (k : J mi d mc ms sz0 scr Q (pc + 2) (x0 :: x1 :: x2 :: x3 :: x4 :: x5 :: x6 :: x7 :: x8 :: zl a :: zu :: r) st h cells slots) : J mi d mc ms sz0 scr Q pc (x0 :: x1 :: x2 :: x3 :: x4 :: x5 :: x6 :: x7 :: x8 :: y :: y' :: r) (zl a :: st) h cells slots := J_lstore hd hb (fun w _ e => by cases e; exact hp) k
theorem J_inc9 {x0 x1 x2 x3 x4 x5 x6 x7 x8 : ZV} {r : List ZV} {a n : Int} (hd : decode mi.2.1 pc = .ok (.iinc 9 n, 3)) (hb : 9 < mi.2.2.1) (hp : zlong x8 = false) (k : J mi d mc ms sz0 scr Q (pc + 3) (x0 :: x1 :: x2 :: x3 :: x4 :: x5 :: x6 :: x7 :: x8 :: zi (a + n) :: r) st h cells slots) : J mi d mc ms sz0 scr Q pc (x0 :: x1 :: x2 :: x3 :: x4 :: x5 :: x6 :: x7 :: x8 :: zi a :: r) st h cells slots := J_iinc hd rfl hb (fun w _ e => by cases e; exact hp) k
theorem J_il10 {x0 x1 x2 x3 x4 x5 x6 x7 x8 x9 : ZV} {r : List ZV} {a : Int} (hd : decode mi.2.1 pc = .ok (.iload 10, 2)) (k : J mi d mc ms sz0 scr Q (pc + 2) (x0 :: x1 :: x2 :: x3 :: x4 :: x5 :: x6 :: x7 :: x8 :: x9 :: zi a :: r) (zi a :: st) h cells slots) : J mi d mc ms sz0 scr Q pc (x0 :: x1 :: x2 :: x3 :: x4 :: x5 :: x6 :: x7 :: x8 :: x9 :: zi a :: r) st h cells slots := J_iload hd rfl k
theorem J_al10 {x0 x1 x2 x3 x4 x5 x6 x7 x8 x9 : ZV} {r : List ZV} {a : Nat} (hd : decode mi.2.1 pc = .ok (.aload 10, 2)) (k : J mi d mc ms sz0 scr Q (pc + 2) (x0 :: x1 :: x2 :: x3 :: x4 :: x5 :: x6 :: x7 :: x8 :: x9 :: zr a :: r) (zr a :: st) h cells slots) : J mi d mc ms sz0 scr Q pc (x0 :: x1 :: x2 :: x3 :: x4 :: x5 :: x6 :: x7 :: x8 :: x9 :: zr a :: r) st h cells slots := J_aload hd rfl k
theorem J_ll10 {x0 x1 x2 x3 x4 x5 x6 x7 x8 x9 : ZV} {r : List ZV} {a : Int} (hd : decode mi.2.1 pc = .ok (.lload 10, 2)) (k : J mi d mc ms sz0 scr Q (pc + 2) (x0 :: x1 :: x2 :: x3 :: x4 :: x5 :: x6 :: x7 :: x8 :: x9 :: zl a :: r) (zl a :: st) h cells slots) : J mi d mc ms sz0 scr Q pc (x0 :: x1 :: x2 :: x3 :: x4 :: x5 :: x6 :: x7 :: x8 :: x9 :: zl a :: r) st h cells slots := J_lload hd rfl k
theorem J_is10 {x0 x1 x2 x3 x4 x5 x6 x7 x8 x9 : ZV} {r : List ZV} {y : ZV} {a : Int} (hd : decode mi.2.1 pc = .ok (.istore 10, 2)) (hb : 10 < mi.2.2.1) (hp : zlong x9 = false) (k : J mi d mc ms sz0 scr Q (pc + 2) (x0 :: x1 :: x2 :: x3 :: x4 :: x5 :: x6 :: x7 :: x8 :: x9 :: zi a :: r) st h cells slots) : J mi d mc ms sz0 scr Q pc (x0 :: x1 :: x2 :: x3 :: x4 :: x5 :: x6 :: x7 :: x8 :: x9 :: y :: r) (zi a :: st) h cells slots := J_istore hd hb (fun w _ e => by cases e; exact hp) k
theorem J_as10 {x0 x1 x2 x3 x4 x5 x6 x7 x8 x9 : ZV} {r : List ZV} {y : ZV} {a : Nat} (hd : decode mi.2.1 pc = .ok (.astore 10, 2)) (hb : 10 < mi.2.2.1) (hp : zlong x9 = false) (k : J mi d mc ms sz0 scr Q (pc + 2) (x0 :: x1 :: x2 :: x3 :: x4 :: x5 :: x6 :: x7 :: x8 :: x9 :: zr a :: r) st h cells slots) : J mi d mc ms sz0 scr Q pc (x0 :: x1 :: x2 :: x3 :: x4 :: x5 :: x6 :: x7 :: x8 :: x9 :: y :: r) (zr a :: st) h cells slots := J_astore hd hb (fun w _ e => by cases e; exact hp) k
theorem J_ls10 {x0 x1 x2 x3 x4 x5 x6 x7 x8 x9 : ZV} {r : List ZV} {y y' : ZV} {a : Int} (hd : decode mi.2.1 pc = .ok (.lstore 10, 2)) (hb : 10 + 1 < mi.2.2.1) (hp : zlong x9 = false) (k : J mi d mc ms sz0 scr Q (pc + 2) (x0 :: x1 :: x2 :: x3 :: x4 :: x5 :: x6 :: x7 :: x8 :: x9 :: zl a :: zu :: r) st h cells slots) : J mi d mc ms sz0 scr Q pc (x0 :: x1 :: x2 :: x3 :: x4 :: x5 :: x6 :: x7 :: x8 :: x9 :: y :: y' :: r) (zl a :: st) h cells slots := J_lstore hd hb (fun w _ e => by cases e; exact hp) k
theorem J_inc10 {x0 x1 x2 x3 x4 x5 x6 x7 x8 x9 : ZV} {r : List ZV} {a n : Int} (hd : decode mi.2.1 pc = .ok (.iinc 10 n, 3)) (hb : 10 < mi.2.2.1) (hp : zlong x9 = false) (k : J mi d mc ms sz0 scr Q (pc + 3) (x0 :: x1 :: x2 :: x3 :: x4 :: x5 :: x6 :: x7 :: x8 :: x9 :: zi (a + n) :: r) st h cells slots) : J mi d mc ms sz0 scr Q pc (x0 :: x1 :: x2 :: x3 :: x4 :: x5 :: x6 :: x7 :: x8 :: x9 :: zi a :: r) st h cells slots := J_iinc hd rfl hb (fun w _ e => by cases e; exact hp) k
theorem J_il11 {x0 x1 x2 x3 x4 x5 x6 x7 x8 x9 x10 : ZV} {r : List ZV} {a : Int} (hd : decode mi.2.1 pc = .ok (.iload 11, 2)) (k : J mi d mc ms sz0 scr Q (pc + 2) (x0 :: x1 :: x2 :: x3 :: x4 :: x5 :: x6 :: x7 :: x8 :: x9 :: x10 :: zi a :: r) (zi a :: st) h cells slots) : J mi d mc ms sz0 scr Q pc (x0 :: x1 :: x2 :: x3 :: x4 :: x5 :: x6 :: x7 :: x8 :: x9 :: x10 :: zi a :: r) st h cells slots := J_iload hd rfl k
theorem J_al11 {x0 x1 x2 x3 x4 x5 x6 x7 x8 x9 x10 : ZV} {r : List ZV} {a : Nat} (hd : decode mi.2.1 pc = .ok (.aload 11, 2)) (k : J mi d mc ms sz0 scr Q (pc + 2) (x0 :: x1 :: x2 :: x3 :: x4 :: x5 :: x6 :: x7 :: x8 :: x9 :: x10 :: zr a :: r) (zr a :: st) h cells slots) : J mi d mc ms sz0 scr Q pc (x0 :: x1 :: x2 :: x3 :: x4 :: x5 :: x6 :: x7 :: x8 :: x9 :: x10 :: zr a :: r) st h cells slots := J_aload hd rfl k
theorem J_ll11 {x0 x1 x2 x3 x4 x5 x6 x7 x8 x9 x10 : ZV} {r : List ZV} {a : Int} (hd : decode mi.2.1 pc = .ok (.lload 11, 2)) (k : J mi d mc ms sz0 scr Q (pc + 2) (x0 :: x1 :: x2 :: x3 :: x4 :: x5 :: x6 :: x7 :: x8 :: x9 :: x10 :: zl a :: r) (zl a :: st) h cells slots) : J mi d mc ms sz0 scr Q pc (x0 :: x1 :: x2 :: x3 :: x4 :: x5 :: x6 :: x7 :: x8 :: x9 :: x10 :: zl a :: r) st h cells slots := J_lload hd rfl k
theorem J_is11 {x0 x1 x2 x3 x4 x5 x6 x7 x8 x9 x10 : ZV} {r : List ZV} {y : ZV} {a : Int} (hd : decode mi.2.1 pc = .ok (.istore 11, 2)) (hb : 11 < mi.2.2.1) (hp : zlong x10 = false) (k : J mi d mc ms sz0 scr Q (pc + 2) (x0 :: x1 :: x2 :: x3 :: x4 :: x5 :: x6 :: x7 :: x8 :: x9 :: x10 :: zi a :: r) st h cells slots) : J mi d mc ms sz0 scr Q pc (x0 :: x1 :: x2 :: x3 :: x4 :: x5 :: x6 :: x7 :: x8 :: x9 :: x10 :: y :: r) (zi a :: st) h cells slots := J_istore hd hb (fun w _ e => by cases e; exact hp) k
theorem J_as11 {x0 x1 x2 x3 x4 x5 x6 x7 x8 x9 x10 : ZV} {r : List ZV} {y : ZV} {a : Nat} (hd : decode mi.2.1 pc = .ok (.astore 11, 2)) (hb : 11 < mi.2.2.1) (hp : zlong x10 = false) (k : J mi d mc ms sz0 scr Q (pc + 2) (x0 :: x1 :: x2 :: x3 :: x4 :: x5 :: x6 :: x7 :: x8 :: x9 :: x10 :: zr a :: r) st h cells slots) : J mi d mc ms sz0 scr Q pc (x0 :: x1 :: x2 :: x3 :: x4 :: x5 :: x6 :: x7 :: x8 :: x9 :: x10 :: y :: r) (zr a :: st) h cells slots := J_astore hd hb (fun w _ e => by cases e; exact hp) k
theorem J_ls11 {x0 x1 x2 x3 x4 x5 x6 x7 x8 x9 x10 : ZV} {r : List ZV} {y y' : ZV} {a : Int} (hd : decode mi.2.1 pc = .ok (.lstore 11, 2)) (hb : 11 + 1 < mi.2.2.1) (hp : zlong x10 = false) (k : J mi d mc ms sz0 scr Q (pc + 2) (x0 :: x1 :: x2 :: x3 :: x4 :: x5 :: x6 :: x7 :: x8 :: x9 :: x10 :: zl a :: zu :: r) st h cells slots) : J mi d mc ms sz0 scr Q pc (x0 :: x1 :: x2 :: x3 :: x4 :: x5 :: x6 :: x7 :: x8 :: x9 :: x10 :: y :: y' :: r) (zl a :: st) h cells slots := J_lstore hd hb (fun w _ e => by cases e; exact hp) k
theorem J_inc11 {x0 x1 x2 x3 x4 x5 x6 x7 x8 x9 x10 : ZV} {r : List ZV} {a n : Int} (hd : decode mi.2.1 pc = .ok (.iinc 11 n, 3)) (hb : 11 < mi.2.2.1) (hp : zlong x10 = false) (k : J mi d mc ms sz0 scr Q (pc + 3) (x0 :: x1 :: x2 :: x3 :: x4 :: x5 :: x6 :: x7 :: x8 :: x9 :: x10 :: zi (a + n) :: r) st h cells slots) : J mi d mc ms sz0 scr Q pc (x0 :: x1 :: x2 :: x3 :: x4 :: x5 :: x6 :: x7 :: x8 :: x9 :: x10 :: zi a :: r) st h cells slots := J_iinc hd rfl hb (fun w _ e => by cases e; exact hp) k
theorem J_il12 {x0 x1 x2 x3 x4 x5 x6 x7 x8 x9 x10 x11 : ZV} {r : List ZV} {a : Int} (hd : decode mi.2.1 pc = .ok (.iload 12, 2)) (k : J mi d mc ms sz0 scr Q (pc + 2) (x0 :: x1 :: x2 :: x3 :: x4 :: x5 :: x6 :: x7 :: x8 :: x9 :: x10 :: x11 :: zi a :: r) (zi a :: st) h cells slots) : J mi d mc ms sz0 scr Q pc (x0 :: x1 :: x2 :: x3 :: x4 :: x5 :: x6 :: x7 :: x8 :: x9 :: x10 :: x11 :: zi a :: r) st h cells slots := J_iload hd rfl k
theorem J_al12 {x0 x1 x2 x3 x4 x5 x6 x7 x8 x9 x10 x11 : ZV} {r : List ZV} {a : Nat} (hd : decode mi.2.1 pc = .ok (.aload 12, 2)) (k : J mi d mc ms sz0 scr Q (pc + 2) (x0 :: x1 :: x2 :: x3 :: x4 :: x5 :: x6 :: x7 :: x8 :: x9 :: x10 :: x11 :: zr a :: r) (zr a :: st) h cells slots) : J mi d mc ms sz0 scr Q pc (x0 :: x1 :: x2 :: x3 :: x4 :: x5 :: x6 :: x7 :: x8 :: x9 :: x10 :: x11 :: zr a :: r) st h cells slots := J_aload hd rfl k
theorem J_ll12 {x0 x1 x2 x3 x4 x5 x6 x7 x8 x9 x10 x11 : ZV} {r : List ZV} {a : Int} (hd : decode mi.2.1 pc = .ok (.lload 12, 2)) (k : J mi d mc ms sz0 scr Q (pc + 2) (x0 :: x1 :: x2 :: x3 :: x4 :: x5 :: x6 :: x7 :: x8 :: x9 :: x10 :: x11 :: zl a :: r) (zl a :: st) h cells slots) : J mi d mc ms sz0 scr Q pc (x0 :: x1 :: x2 :: x3 :: x4 :: x5 :: x6 :: x7 :: x8 :: x9 :: x10 :: x11 :: zl a :: r) st h cells slots := J_lload hd rfl k
theorem J_is12 {x0 x1 x2 x3 x4 x5 x6 x7 x8 x9 x10 x11 : ZV} {r : List ZV} {y : ZV} {a : Int} (hd : decode mi.2.1 pc = .ok (.istore 12, 2)) (hb : 12 < mi.2.2.1) (hp : zlong x11 = false) (k : J mi d mc ms sz0 scr Q (pc + 2) (x0 :: x1 :: x2 :: x3 :: x4 :: x5 :: x6 :: x7 :: x8 :: x9 :: x10 :: x11 :: zi a :: r) st h cells slots) : J mi d mc ms sz0 scr Q pc (x0 :: x1 :: x2 :: x3 :: x4 :: x5 :: x6 :: x7 :: x8 :: x9 :: x10 :: x11 :: y :: r) (zi a :: st) h cells slots := J_istore hd hb (fun w _ e => by cases e; exact hp) k
theorem J_as12 {x0 x1 x2 x3 x4 x5 x6 x7 x8 x9 x10 x11 : ZV} {r : List ZV} {y : ZV} {a : Nat} (hd : decode mi.2.1 pc = .ok (.astore 12, 2)) (hb : 12 < mi.2.2.1) (hp : zlong x11 = false) (k : J mi d mc ms sz0 scr Q (pc + 2) (x0 :: x1 :: x2 :: x3 :: x4 :: x5 :: x6 :: x7 :: x8 :: x9 :: x10 :: x11 :: zr a :: r) st h cells slots) : J mi d mc ms sz0 scr Q pc (x0 :: x1 :: x2 :: x3 :: x4 :: x5 :: x6 :: x7 :: x8 :: x9 :: x10 :: x11 :: y :: r) (zr a :: st) h cells slots := J_astore hd hb (fun w _ e => by cases e; exact hp) k
theorem J_ls12 {x0 x1 x2 x3 x4 x5 x6 x7 x8 x9 x10 x11 : ZV} {r : List ZV} {y y' : ZV} {a : Int} (hd : decode mi.2.1 pc = .ok (.lstore 12, 2)) (hb : 12 + 1 < mi.2.2.1) (hp : zlong x11 = false) (k : J mi d mc ms sz0 scr Q (pc + 2) (x0 :: x1 :: x2 :: x3 :: x4 :: x5 :: x6 :: x7 :: x8 :: x9 :: x10 :: x11 :: zl a :: zu :: r) st h cells slots) : J mi d mc ms sz0 scr Q pc (x0 :: x1 :: x2 :: x3 :: x4 :: x5 :: x6 :: x7 :: x8 :: x9 :: x10 :: x11 :: y :: y' :: r) (zl a :: st) h cells slots := J_lstore hd hb (fun w _ e => by cases e; exact hp) k
theorem J_inc12 {x0 x1 x2 x3 x4 x5 x6 x7 x8 x9 x10 x11 : ZV} {r : List ZV} {a n : Int} (hd : decode mi.2.1 pc = .ok (.iinc 12 n, 3)) (hb : 12 < mi.2.2.1) (hp : zlong x11 = false) (k : J mi d mc ms sz0 scr Q (pc + 3) (x0 :: x1 :: x2 :: x3 :: x4 :: x5 :: x6 :: x7 :: x8 :: x9 :: x10 :: x11 :: zi (a + n) :: r) st h cells slots) : J mi d mc ms sz0 scr Q pc (x0 :: x1 :: x2 :: x3 :: x4 :: x5 :: x6 :: x7 :: x8 :: x9 :: x10 :: x11 :: zi a :: r) st h cells slots := J_iinc hd rfl hb (fun w _ e => by cases e; exact hp) k
theorem J_il13 {x0 x1 x2 x3 x4 x5 x6 x7 x8 x9 x10 x11 x12 : ZV} {r : List ZV} {a : Int} (hd : decode mi.2.1 pc = .ok (.iload 13, 2)) (k : J mi d mc ms sz0 scr Q (pc + 2) (x0 :: x1 :: x2 :: x3 :: x4 :: x5 :: x6 :: x7 :: x8 :: x9 :: x10 :: x11 :: x12 :: zi a :: r) (zi a :: st) h cells slots) : J mi d mc ms sz0 scr Q pc (x0 :: x1 :: x2 :: x3 :: x4 :: x5 :: x6 :: x7 :: x8 :: x9 :: x10 :: x11 :: x12 :: zi a :: r) st h cells slots := J_iload hd rfl k
theorem J_al13 {x0 x1 x2 x3 x4 x5 x6 x7 x8 x9 x10 x11 x12 : ZV} {r : List ZV} {a : Nat} (hd : decode mi.2.1 pc = .ok (.aload 13, 2)) (k : J mi d mc ms sz0 scr Q (pc + 2) (x0 :: x1 :: x2 :: x3 :: x4 :: x5 :: x6 :: x7 :: x8 :: x9 :: x10 :: x11 :: x12 :: zr a :: r) (zr a :: st) h cells slots) : J mi d mc ms sz0 scr Q pc (x0 :: x1 :: x2 :: x3 :: x4 :: x5 :: x6 :: x7 :: x8 :: x9 :: x10 :: x11 :: x12 :: zr a :: r) st h cells slots := J_aload hd rfl k
theorem J_ll13 {x0 x1 x2 x3 x4 x5 x6 x7 x8 x9 x10 x11 x12 : ZV} {r : List ZV} {a : Int} (hd : decode mi.2.1 pc = .ok (.lload 13, 2)) (k : J mi d mc ms sz0 scr Q (pc + 2) (x0 :: x1 :: x2 :: x3 :: x4 :: x5 :: x6 :: x7 :: x8 :: x9 :: x10 :: x11 :: x12 :: zl a :: r) (zl a :: st) h cells slots) : J mi d mc ms sz0 scr Q pc (x0 :: x1 :: x2 :: x3 :: x4 :: x5 :: x6 :: x7 :: x8 :: x9 :: x10 :: x11 :: x12 :: zl a :: r) st h cells slots := J_lload hd rfl k
theorem J_is13 {x0 x1 x2 x3 x4 x5 x6 x7 x8 x9 x10 x11 x12 : ZV} {r : List ZV} {y : ZV} {a : Int} (hd : decode mi.2.1 pc = .ok (.istore 13, 2)) (hb : 13 < mi.2.2.1) (hp : zlong x12 = false) (k : J mi d mc ms sz0 scr Q (pc + 2) (x0 :: x1 :: x2 :: x3 :: x4 :: x5 :: x6 :: x7 :: x8 :: x9 :: x10 :: x11 :: x12 :: zi a :: r) st h cells slots) : J mi d mc ms sz0 scr Q pc (x0 :: x1 :: x2 :: x3 :: x4 :: x5 :: x6 :: x7 :: x8 :: x9 :: x10 :: x11 :: x12 :: y :: r) (zi a :: st) h cells slots := J_istore hd hb (fun w _ e => by cases e; exact hp) k
theorem J_as13 {x0 x1 x2 x3 x4 x5 x6 x7 x8 x9 x10 x11 x12 : ZV} {r : List ZV} {y : ZV} {a : Nat} (hd : decode mi.2.1 pc = .ok (.astore 13, 2)) (hb : 13 < mi.2.2.1) (hp : zlong x12 = false) (k : J mi d mc ms sz0 scr Q (pc + 2) (x0 :: x1 :: x2 :: x3 :: x4 :: x5 :: x6 :: x7 :: x8 :: x9 :: x10 :: x11 :: x12 :: zr a :: r) st h cells slots) : J mi d mc ms sz0 scr Q pc (x0 :: x1 :: x2 :: x3 :: x4 :: x5 :: x6 :: x7 :: x8 :: x9 :: x10 :: x11 :: x12 :: y :: r) (zr a :: st) h cells slots := J_astore hd hb (fun w _ e => by cases e; exact hp) k
theorem J_ls13 {x0 x1 x2 x3 x4 x5 x6 x7 x8 x9 x10 x11 x12 : ZV} {r : List ZV} {y y' : ZV} {a : Int} (hd : decode mi.2.1 pc = .ok (.lstore 13, 2)) (hb : 13 + 1 < mi.2.2.1) (hp : zlong x12 = false) (k : J mi d mc ms sz0 scr Q (pc + 2) (x0 :: x1 :: x2 :: x3 :: x4 :: x5 :: x6 :: x7 :: x8 :: x9 :: x10 :: x11 :: x12 :: zl a :: zu :: r) st h cells slots) : J mi d mc ms sz0 scr Q pc (x0 :: x1 :: x2 :: x3 :: x4 :: x5 :: x6 :: x7 :: x8 :: x9 :: x10 :: x11 :: x12 :: y :: y' :: r) (zl a :: st) h cells slots := J_lstore hd hb (fun w _ e => by cases e; exact hp) k
theorem J_inc13 {x0 x1 x2 x3 x4 x5 x6 x7 x8 x9 x10 x11 x12 : ZV} {r : List ZV} {a n : Int} (hd : decode mi.2.1 pc = .ok (.iinc 13 n, 3)) (hb : 13 < mi.2.2.1) (hp : zlong x12 = false) (k : J mi d mc ms sz0 scr Q (pc + 3) (x0 :: x1 :: x2 :: x3 :: x4 :: x5 :: x6 :: x7 :: x8 :: x9 :: x10 :: x11 :: x12 :: zi (a + n) :: r) st h cells slots) : J mi d mc ms sz0 scr Q pc (x0 :: x1 :: x2 :: x3 :: x4 :: x5 :: x6 :: x7 :: x8 :: x9 :: x10 :: x11 :: x12 :: zi a :: r) st h cells slots := J_iinc hd rfl hb (fun w _ e => by cases e; exact hp) k
theorem J_il14 {x0 x1 x2 x3 x4 x5 x6 x7 x8 x9 x10 x11 x12 x13 : ZV} {r : List ZV} {a : Int} (hd : decode mi.2.1 pc = .ok (.iload 14, 2)) (k : J mi d mc ms sz0 scr Q (pc + 2) (x0 :: x1 :: x2 :: x3 :: x4 :: x5 :: x6 :: x7 :: x8 :: x9 :: x10 :: x11 :: x12 :: x13 :: zi a :: r) (zi a :: st) h cells slots) : J mi d mc ms sz0 scr Q pc (x0 :: x1 :: x2 :: x3 :: x4 :: x5 :: x6 :: x7 :: x8 :: x9 :: x10 :: x11 :: x12 :: x13 :: zi a :: r) st h cells slots := J_iload hd rfl k
theorem J_al14 {x0 x1 x2 x3 x4 x5 x6 x7 x8 x9 x10 x11 x12 x13 : ZV} {r : List ZV} {a : Nat} (hd : decode mi.2.1 pc = .ok (.aload 14, 2)) (k : J mi d mc ms sz0 scr Q (pc + 2) (x0 :: x1 :: x2 :: x3 :: x4 :: x5 :: x6 :: x7 :: x8 :: x9 :: x10 :: x11 :: x12 :: x13 :: zr a :: r) (zr a :: st) h cells slots) : J mi d mc ms sz0 scr Q pc (x0 :: x1 :: x2 :: x3 :: x4 :: x5 :: x6 :: x7 :: x8 :: x9 :: x10 :: x11 :: x12 :: x13 :: zr a :: r) st h cells slots := J_aload hd rfl k
theorem J_ll14 {x0 x1 x2 x3 x4 x5 x6 x7 x8 x9 x10 x11 x12 x13 : ZV} {r : List ZV} {a : Int} (hd : decode mi.2.1 pc = .ok (.lload 14, 2)) (k : J mi d mc ms sz0 scr Q (pc + 2) (x0 :: x1 :: x2 :: x3 :: x4 :: x5 :: x6 :: x7 :: x8 :: x9 :: x10 :: x11 :: x12 :: x13 :: zl a :: r) (zl a :: st) h cells slots) : J mi d mc ms sz0 scr Q pc (x0 :: x1 :: x2 :: x3 :: x4 :: x5 :: x6 :: x7 :: x8 :: x9 :: x10 :: x11 :: x12 :: x13 :: zl a :: r) st h cells slots := J_lload hd rfl k
theorem J_is14 {x0 x1 x2 x3 x4 x5 x6 x7 x8 x9 x10 x11 x12 x13 : ZV} {r : List ZV} {y : ZV} {a : Int} (hd : decode mi.2.1 pc = .ok (.istore 14, 2)) (hb : 14 < mi.2.2.1) (hp : zlong x13 = false) (k : J mi d mc ms sz0 scr Q (pc + 2) (x0 :: x1 :: x2 :: x3 :: x4 :: x5 :: x6 :: x7 :: x8 :: x9 :: x10 :: x11 :: x12 :: x13 :: zi a :: r) st h cells slots) : J mi d mc ms sz0 scr Q pc (x0 :: x1 :: x2 :: x3 :: x4 :: x5 :: x6 :: x7 :: x8 :: x9 :: x10 :: x11 :: x12 :: x13 :: y :: r) (zi a :: st) h cells slots := J_istore hd hb (fun w _ e => by cases e; exact hp) k
theorem J_as14 {x0 x1 x2 x3 x4 x5 x6 x7 x8 x9 x10 x11 x12 x13 : ZV} {r : List ZV} {y : ZV} {a : Nat} (hd : decode mi.2.1 pc = .ok (.astore 14, 2)) (hb : 14 < mi.2.2.1) (hp : zlong x13 = false) (k : J mi d mc ms sz0 scr Q (pc + 2) (x0 :: x1 :: x2 :: x3 :: x4 :: x5 :: x6 :: x7 :: x8 :: x9 :: x10 :: x11 :: x12 :: x13 :: zr a :: r) st h cells slots) : J mi d mc ms sz0 scr Q pc (x0 :: x1 :: x2 :: x3 :: x4 :: x5 :: x6 :: x7 :: x8 :: x9 :: x10 :: x11 :: x12 :: x13 :: y :: r) (zr a :: st) h cells slots := J_astore hd hb (fun w _ e => by cases e; exact hp) k
theorem J_ls14 {x0 x1 x2 x3 x4 x5 x6 x7 x8 x9 x10 x11 x12 x13 : ZV} {r : List ZV} {y y' : ZV} {a : Int} (hd : decode mi.2.1 pc = .ok (.lstore 14, 2)) (hb : 14 + 1 < mi.2.2.1) (hp : zlong x13 = false) (k : J mi d mc ms sz0 scr Q (pc + 2) (x0 :: x1 :: x2 :: x3 :: x4 :: x5 :: x6 :: x7 :: x8 :: x9 :: x10 :: x11 :: x12 :: x13 :: zl a :: zu :: r) st h cells slots) : J mi d mc ms sz0 scr Q pc (x0 :: x1 :: x2 :: x3 :: x4 :: x5 :: x6 :: x7 :: x8 :: x9 :: x10 :: x11 :: x12 :: x13 :: y :: y' :: r) (zl a :: st) h cells slots := J_lstore hd hb (fun w _ e => by cases e; exact hp) k
theorem J_inc14 {x0 x1 x2 x3 x4 x5 x6 x7 x8 x9 x10 x11 x12 x13 : ZV} {r : List ZV} {a n : Int} (hd : decode mi.2.1 pc = .ok (.iinc 14 n, 3)) (hb : 14 < mi.2.2.1) (hp : zlong x13 = false) (k : J mi d mc ms sz0 scr Q (pc + 3) (x0 :: x1 :: x2 :: x3 :: x4 :: x5 :: x6 :: x7 :: x8 :: x9 :: x10 :: x11 :: x12 :: x13 :: zi (a + n) :: r) st h cells slots) : J mi d mc ms sz0 scr Q pc (x0 :: x1 :: x2 :: x3 :: x4 :: x5 :: x6 :: x7 :: x8 :: x9 :: x10 :: x11 :: x12 :: x13 :: zi a :: r) st h cells slots := J_iinc hd rfl hb (fun w _ e => by cases e; exact hp) k
theorem J_il15 {x0 x1 x2 x3 x4 x5 x6 x7 x8 x9 x10 x11 x12 x13 x14 : ZV} {r : List ZV} {a : Int} (hd : decode mi.2.1 pc = .ok (.iload 15, 2)) (k : J mi d mc ms sz0 scr Q (pc + 2) (x0 :: x1 :: x2 :: x3 :: x4 :: x5 :: x6 :: x7 :: x8 :: x9 :: x10 :: x11 :: x12 :: x13 :: x14 :: zi a :: r) (zi a :: st) h cells slots) : J mi d mc ms sz0 scr Q pc (x0 :: x1 :: x2 :: x3 :: x4 :: x5 :: x6 :: x7 :: x8 :: x9 :: x10 :: x11 :: x12 :: x13 :: x14 :: zi a :: r) st h cells slots := J_iload hd rfl k
theorem J_al15 {x0 x1 x2 x3 x4 x5 x6 x7 x8 x9 x10 x11 x12 x13 x14 : ZV} {r : List ZV} {a : Nat} (hd : decode mi.2.1 pc = .ok (.aload 15, 2)) (k : J mi d mc ms sz0 scr Q (pc + 2) (x0 :: x1 :: x2 :: x3 :: x4 :: x5 :: x6 :: x7 :: x8 :: x9 :: x10 :: x11 :: x12 :: x13 :: x14 :: zr a :: r) (zr a :: st) h cells slots) : J mi d mc ms sz0 scr Q pc (x0 :: x1 :: x2 :: x3 :: x4 :: x5 :: x6 :: x7 :: x8 :: x9 :: x10 :: x11 :: x12 :: x13 :: x14 :: zr a :: r) st h cells slots := J_aload hd rfl k
theorem J_ll15 {x0 x1 x2 x3 x4 x5 x6 x7 x8 x9 x10 x11 x12 x13 x14 : ZV} {r : List ZV} {a : Int} (hd : decode mi.2.1 pc = .ok (.lload 15, 2)) (k : J mi d mc ms sz0 scr Q (pc + 2) (x0 :: x1 :: x2 :: x3 :: x4 :: x5 :: x6 :: x7 :: x8 :: x9 :: x10 :: x11 :: x12 :: x13 :: x14 :: zl a :: r) (zl a :: st) h cells slots) : J mi d mc ms sz0 scr Q pc (x0 :: x1 :: x2 :: x3 :: x4 :: x5 :: x6 :: x7 :: x8 :: x9 :: x10 :: x11 :: x12 :: x13 :: x14 :: zl a :: r) st h cells slots := J_lload hd rfl k
theorem J_is15 {x0 x1 x2 x3 x4 x5 x6 x7 x8 x9 x10 x11 x12 x13 x14 : ZV} {r : List ZV} {y : ZV} {a : Int} (hd : decode mi.2.1 pc = .ok (.istore 15, 2)) (hb : 15 < mi.2.2.1) (hp : zlong x14 = false) (k : J mi d mc ms sz0 scr Q (pc + 2) (x0 :: x1 :: x2 :: x3 :: x4 :: x5 :: x6 :: x7 :: x8 :: x9 :: x10 :: x11 :: x12 :: x13 :: x14 :: zi a :: r) st h cells slots) : J mi d mc ms sz0 scr Q pc (x0 :: x1 :: x2 :: x3 :: x4 :: x5 :: x6 :: x7 :: x8 :: x9 :: x10 :: x11 :: x12 :: x13 :: x14 :: y :: r) (zi a :: st) h cells slots := J_istore hd hb (fun w _ e => by cases e; exact hp) k
theorem J_as15 {x0 x1 x2 x3 x4 x5 x6 x7 x8 x9 x10 x11 x12 x13 x14 : ZV} {r : List ZV} {y : ZV} {a : Nat} (hd : decode mi.2.1 pc = .ok (.astore 15, 2)) (hb : 15 < mi.2.2.1) (hp : zlong x14 = false) (k : J mi d mc ms sz0 scr Q (pc + 2) (x0 :: x1 :: x2 :: x3 :: x4 :: x5 :: x6 :: x7 :: x8 :: x9 :: x10 :: x11 :: x12 :: x13 :: x14 :: zr a :: r) st h cells slots) : J mi d mc ms sz0 scr Q pc (x0 :: x1 :: x2 :: x3 :: x4 :: x5 :: x6 :: x7 :: x8 :: x9 :: x10 :: x11 :: x12 :: x13 :: x14 :: y :: r) (zr a :: st) h cells slots := J_astore hd hb (fun w _ e => by cases e; exact hp) k
theorem J_ls15 {x0 x1 x2 x3 x4 x5 x6 x7 x8 x9 x10 x11 x12 x13 x14 : ZV} {r : List ZV} {y y' : ZV} {a : Int} (hd : decode mi.2.1 pc = .ok (.lstore 15, 2)) (hb : 15 + 1 < mi.2.2.1) (hp : zlong x14 = false) (k : J mi d mc ms sz0 scr Q (pc + 2) (x0 :: x1 :: x2 :: x3 :: x4 :: x5 :: x6 :: x7 :: x8 :: x9 :: x10 :: x11 :: x12 :: x13 :: x14 :: zl a :: zu :: r) st h cells slots) : J mi d mc ms sz0 scr Q pc (x0 :: x1 :: x2 :: x3 :: x4 :: x5 :: x6 :: x7 :: x8 :: x9 :: x10 :: x11 :: x12 :: x13 :: x14 :: y :: y' :: r) (zl a :: st) h cells slots := J_lstore hd hb (fun w _ e => by cases e; exact hp) k
theorem J_inc15 {x0 x1 x2 x3 x4 x5 x6 x7 x8 x9 x10 x11 x12 x13 x14 : ZV} {r : List ZV} {a n : Int} (hd : decode mi.2.1 pc = .ok (.iinc 15 n, 3)) (hb : 15 < mi.2.2.1) (hp : zlong x14 = false) (k : J mi d mc ms sz0 scr Q (pc + 3) (x0 :: x1 :: x2 :: x3 :: x4 :: x5 :: x6 :: x7 :: x8 :: x9 :: x10 :: x11 :: x12 :: x13 :: x14 :: zi (a + n) :: r) st h cells slots) : J mi d mc ms sz0 scr Q pc (x0 :: x1 :: x2 :: x3 :: x4 :: x5 :: x6 :: x7 :: x8 :: x9 :: x10 :: x11 :: x12 :: x13 :: x14 :: zi a :: r) st h cells slots := J_iinc hd rfl hb (fun w _ e => by cases e; exact hp) k
end ZR
