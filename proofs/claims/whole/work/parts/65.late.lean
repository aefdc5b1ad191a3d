/-! THE PART OF THOSE WHO ARE LATE: numbers -/
def bcI (a : Int) : Int := a % 2 + a / 2 % 2 + a / 4 % 2 + a / 8 % 2 + a / 16 % 2 + a / 32 % 2 + a / 64 % 2
theorem bcI_range (a : Int) : 0 ≤ bcI a ∧ bcI a ≤ 7 := by unfold bcI; omega
def bc1 (a : Int) : Int := a - zand (zushr a 1) 1431655765
def bc2 (a : Int) : Int := zand (bc1 a) 858993459 + zand (zushr (bc1 a) 2) 858993459
def bc3 (a : Int) : Int := zand (bc2 a + zushr (bc2 a) 4) 252645135
def bc4 (a : Int) : Int := bc3 a + zushr (bc3 a) 8
def bc5 (a : Int) : Int := bc4 a + zushr (bc4 a) 16
theorem bc_all : ∀ a : Fin 128, zand (bc5 ((a.val : Nat) : Int)) 63 = bcI ((a.val : Nat) : Int) := by decide +kernel
theorem bc_eq {a : Int} (h : 0 ≤ a ∧ a < 128) : zand (bc5 a) 63 = bcI a := by
  have := bc_all ⟨a.toNat, by omega⟩
  rw [show (((⟨a.toNat, by omega⟩ : Fin 128).val : Nat) : Int) = a by show ((a.toNat : Nat) : Int) = a; omega] at this
  exact this
theorem k_bitCount {mem : ZMem} {a : Int} (h : 0 ≤ a ∧ a < 128) : CI mJ6_bitCount_0f7a4 0 [zi a] mem (fun v mem' => v = bcI a ∧ mem' = mem) := by
  refine CM.of (by decide +kernel) ([zi a]) (zok_all rfl) (Nat.le_of_ble_eq_true rfl) rfl ?_
  refine J_il0 dJ6_bitCount_0f7a4_0 ?_
  refine J_il0 dJ6_bitCount_0f7a4_1 ?_
  refine J_iconst dJ6_bitCount_0f7a4_2 ?_
  refine J_iushr dJ6_bitCount_0f7a4_3 ?_
  refine J_ldcw (n := 1431655765) dJ6_bitCount_0f7a4_4 co_J6_265 (by decide) ?_
  refine J_iand dJ6_bitCount_0f7a4_7 ?_
  refine J_isub dJ6_bitCount_0f7a4_8 ?_
  refine J_is0 dJ6_bitCount_0f7a4_9 (by decide) ?_
  refine J_il0 dJ6_bitCount_0f7a4_10 ?_
  refine J_ldcw (n := 858993459) dJ6_bitCount_0f7a4_11 co_J6_266 (by decide) ?_
  refine J_iand dJ6_bitCount_0f7a4_14 ?_
  refine J_il0 dJ6_bitCount_0f7a4_15 ?_
  refine J_iconst dJ6_bitCount_0f7a4_16 ?_
  refine J_iushr dJ6_bitCount_0f7a4_17 ?_
  refine J_ldcw (n := 858993459) dJ6_bitCount_0f7a4_18 co_J6_266 (by decide) ?_
  refine J_iand dJ6_bitCount_0f7a4_21 ?_
  refine J_iadd dJ6_bitCount_0f7a4_22 ?_
  refine J_is0 dJ6_bitCount_0f7a4_23 (by decide) ?_
  refine J_il0 dJ6_bitCount_0f7a4_24 ?_
  refine J_il0 dJ6_bitCount_0f7a4_25 ?_
  refine J_iconst dJ6_bitCount_0f7a4_26 ?_
  refine J_iushr dJ6_bitCount_0f7a4_27 ?_
  refine J_iadd dJ6_bitCount_0f7a4_28 ?_
  refine J_ldcw (n := 252645135) dJ6_bitCount_0f7a4_29 co_J6_267 (by decide) ?_
  refine J_iand dJ6_bitCount_0f7a4_32 ?_
  refine J_is0 dJ6_bitCount_0f7a4_33 (by decide) ?_
  refine J_il0 dJ6_bitCount_0f7a4_34 ?_
  refine J_il0 dJ6_bitCount_0f7a4_35 ?_
  refine J_bipush dJ6_bitCount_0f7a4_36 rfl ?_
  refine J_iushr dJ6_bitCount_0f7a4_38 ?_
  refine J_iadd dJ6_bitCount_0f7a4_39 ?_
  refine J_is0 dJ6_bitCount_0f7a4_40 (by decide) ?_
  refine J_il0 dJ6_bitCount_0f7a4_41 ?_
  refine J_il0 dJ6_bitCount_0f7a4_42 ?_
  refine J_bipush dJ6_bitCount_0f7a4_43 rfl ?_
  refine J_iushr dJ6_bitCount_0f7a4_45 ?_
  refine J_iadd dJ6_bitCount_0f7a4_46 ?_
  refine J_is0 dJ6_bitCount_0f7a4_47 (by decide) ?_
  refine J_il0 dJ6_bitCount_0f7a4_48 ?_
  refine J_bipush dJ6_bitCount_0f7a4_49 rfl ?_
  refine J_iand dJ6_bitCount_0f7a4_51 ?_
  refine M_iret dJ6_bitCount_0f7a4_52 rfl ?_
  exact ⟨bc_eq h, rfl⟩
def pw (x t : Int) : Int := x ^ t.toNat
theorem k_power {mem : ZMem} {x t : Int} (hx : 0 ≤ x ∧ x ≤ 10) (ht : 0 ≤ t ∧ t ≤ 7) : CL mX6_power 0 [zi x, zi t] mem (fun v mem' => v = pw x t ∧ mem' = mem) := by
  have loop : ∀ (c kn : Nat) (s k : Int) (y : ZV), k = kn → (c : Int) + k = t → s = x ^ kn → JM mX6_power 0 (QL (fun v mem' => v = pw x t ∧ mem' = mem)) 5 [zi x, zi t, zl s, y, zi k] [] mem := by
    intro c
    induction c with
    | zero =>
      intro kn s k y e0 a1 a2
      refine J_il4 dX6_power_5 ?_
      refine J_il1 dX6_power_7 ?_
      refine J_cge (tgt := 22) dX6_power_8 rfl (by omega) (fun c_8 => ?_) (fun c_8 => ?_)
      · skip
        refine J_ll2 dX6_power_22 ?_
        refine M_lret dX6_power_23 rfl ?_
        exact ⟨by unfold pw; rw [a2, show kn = t.toNat by omega], rfl⟩
      · skip
        omega
    | succ c ih =>
      intro kn s k y e0 a1 a2
      refine J_il4 dX6_power_5 ?_
      refine J_il1 dX6_power_7 ?_
      refine J_cge (tgt := 22) dX6_power_8 rfl (by omega) (fun c_8 => ?_) (fun c_8 => ?_)
      · skip
        omega
      · skip
        refine J_ll2 dX6_power_11 ?_
        refine J_il0 dX6_power_12 ?_
        refine J_i2l dX6_power_13 (by omega) ?_
        refine J_lmul dX6_power_14 ?_
        refine J_ls2 dX6_power_15 (by decide) rfl ?_
        refine J_inc4 dX6_power_16 (by decide) rfl ?_
        refine J_goto (tgt := 5) dX6_power_19 rfl ?_
        exact ih (kn + 1) _ _ _ (by omega) (by omega) (by rw [a2, Int.pow_succ])
  refine CM.of (by decide +kernel) ([zi x, zi t, zu, zu, zu]) (zok_all rfl) (Nat.le_of_ble_eq_true rfl) rfl ?_
  refine J_lconst1 dX6_power_0 ?_
  refine J_ls2 dX6_power_1 (by decide) rfl ?_
  refine J_iconst dX6_power_2 ?_
  refine J_is4 dX6_power_3 (by decide) rfl ?_
  exact loop t.toNat 0 1 0 _ rfl (by omega) (Int.pow_zero x).symm
theorem eu_half {a b : Nat} (h : 0 < b) (h2 : 0 < a % b) : 2 * (b % (a % b)) < b := by
  have h3 := Nat.mod_lt a h
  have h4 := Nat.mod_lt b h2
  by_cases q : 2 * (a % b) ≤ b
  · omega
  · have : b % (a % b) = b - a % b := by
      rw [Nat.mod_eq_sub_mod (by omega), Nat.mod_eq_of_lt (by omega)]
    omega
/-- Euclid, c rounds at most -/
def euN : Nat → Nat → Nat → Nat
  | 0, a, _ => a
  | c + 1, a, b => if b = 0 then a else euN c b (a % b)
theorem euN_gcd : ∀ (t c a b : Nat), b < 2 ^ t → 2 * t ≤ c → euN c a b = Nat.gcd a b
  | 0, c, a, b, h, h2 => by
    have e : b = 0 := by have : (2 : Nat) ^ 0 = 1 := rfl; omega
    subst e
    rw [Nat.gcd_zero_right]
    cases c with
    | zero => rfl
    | succ c => rfl
  | t + 1, c, a, b, h, h2 => by
    obtain ⟨c', rfl⟩ : ∃ c', c = c' + 2 := ⟨c - 2, by omega⟩
    have gs : ∀ x y : Nat, Nat.gcd x y = Nat.gcd y (x % y) := fun x y => by rw [Nat.gcd_comm y, ← Nat.gcd_rec, Nat.gcd_comm]
    by_cases e : b = 0
    · subst e
      rw [Nat.gcd_zero_right]
      rfl
    · have s1 : euN (c' + 2) a b = euN (c' + 1) b (a % b) := by
        show (if b = 0 then a else euN (c' + 1) b (a % b)) = _
        rw [if_neg e]
      rw [s1, gs a b]
      by_cases e2 : a % b = 0
      · rw [e2, Nat.gcd_zero_right]
        rfl
      · have s2 : euN (c' + 1) b (a % b) = euN c' (a % b) (b % (a % b)) := by
          show (if a % b = 0 then b else euN c' (a % b) (b % (a % b))) = _
          rw [if_neg e2]
        rw [s2, gs b (a % b)]
        have hh := eu_half (a := a) (b := b) (by omega) (by omega)
        exact euN_gcd t c' (a % b) (b % (a % b)) (by rw [Nat.pow_succ] at h; omega) (by omega)
theorem k_common {mem : ZMem} {a b : Nat} (ha : (a : Int) < 4000000000000000000) (hb : (b : Int) ≤ 10000000) : CL mX6_commonDivisor 0 [zl a, zl b] mem (fun v mem' => v = (Nat.gcd a b : Int) ∧ mem' = mem) := by
  have loop : ∀ (c : Nat) (x y : Nat) (k : Int) (z1 z2 z3 z7 z8 : ZV), (c : Int) + k = 64 → 0 ≤ k → (x : Int) < 4000000000000000000 → (y : Int) < 4000000000000000000 → euN c x y = Nat.gcd a b → JM mX6_commonDivisor 0 (QL (fun v mem' => v = (Nat.gcd a b : Int) ∧ mem' = mem)) 9 [z1, z2, z3, zu, zl x, zu, zl y, zu, zi k, z7, z8] [] mem := by
    intro c
    induction c with
    | zero =>
      intro x y k z1 z2 z3 z7 z8 e0 a0 a1 a2 a3
      refine J_il8 dX6_commonDivisor_9 ?_
      refine J_bipush dX6_commonDivisor_11 rfl ?_
      refine J_cge (tgt := 44) dX6_commonDivisor_13 rfl (by omega) (fun c_13 => ?_) (fun c_13 => ?_)
      · skip
        refine J_ll4 dX6_commonDivisor_44 ?_
        refine M_lret dX6_commonDivisor_46 rfl ?_
        exact ⟨by rw [← a3]; rfl, rfl⟩
      · skip
        omega
    | succ c ih =>
      intro x y k z1 z2 z3 z7 z8 e0 a0 a1 a2 a3
      refine J_il8 dX6_commonDivisor_9 ?_
      refine J_bipush dX6_commonDivisor_11 rfl ?_
      refine J_cge (tgt := 44) dX6_commonDivisor_13 rfl (by omega) (fun c_13 => ?_) (fun c_13 => ?_)
      · skip
        omega
      · skip
        refine J_ll6 dX6_commonDivisor_16 ?_
        refine J_lconst0 dX6_commonDivisor_18 ?_
        refine J_leq (tgt := 44) dX6_commonDivisor_19 dX6_commonDivisor_20 rfl (by omega) (fun c_19 => ?_) (fun c_19 => ?_)
        · skip
          refine J_ll4 dX6_commonDivisor_44 ?_
          refine M_lret dX6_commonDivisor_46 rfl ?_
          refine ⟨?_, rfl⟩
          rw [← a3]
          unfold euN
          rw [if_pos (by omega)]
        · skip
          refine J_ll4 dX6_commonDivisor_23 ?_
          refine J_ll6 dX6_commonDivisor_25 ?_
          refine J_lrem dX6_commonDivisor_27 (by omega) ?_
          refine J_ls9 dX6_commonDivisor_28 (by decide) rfl ?_
          refine J_ll6 dX6_commonDivisor_30 ?_
          refine J_ls4 dX6_commonDivisor_32 (by decide) rfl ?_
          refine J_ll9 dX6_commonDivisor_34 ?_
          refine J_ls6 dX6_commonDivisor_36 (by decide) rfl ?_
          refine J_inc8 dX6_commonDivisor_38 (by decide) rfl ?_
          refine J_goto (tgt := 9) dX6_commonDivisor_41 rfl ?_
          have hm := Nat.mod_lt x (show 0 < y by omega)
          refine ih y (x % y) _ _ _ _ _ _ (by omega) (by omega) a2 (by omega) ?_
          rw [← a3]
          show _ = (if y = 0 then x else euN c y (x % y))
          rw [if_neg (by omega)]
  refine CM.of (by decide +kernel) ([zl a, zu, zl b, zu, zu, zu, zu, zu, zu, zu, zu]) (zok_all rfl) (Nat.le_of_ble_eq_true rfl) rfl ?_
  refine J_ll0 dX6_commonDivisor_0 ?_
  refine J_ls4 dX6_commonDivisor_1 (by decide) rfl ?_
  refine J_ll2 dX6_commonDivisor_3 ?_
  refine J_ls6 dX6_commonDivisor_4 (by decide) rfl ?_
  refine J_iconst dX6_commonDivisor_6 ?_
  refine J_is8 dX6_commonDivisor_7 (by decide) rfl ?_
  have h24 : b < 2 ^ 24 := by rw [show (2 : Nat) ^ 24 = 16777216 by decide]; omega
  exact loop 64 a b 0 _ _ _ _ _ (by omega) (by omega) ha (by omega) (euN_gcd 24 64 a b h24 (by omega))
