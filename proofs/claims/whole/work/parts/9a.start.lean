/-! THE START: both are empty -/
def b0 : BN := (fun _ => 0, [])
def S0 : ZS := mkS (fun _ => -1) (fun _ => 0) (fun _ _ => 0) (fun _ => 0) 0 b0 [] b0 b0 [] 0 0
theorem b0_inv : BInv b0.1 b0.2 := by
  refine ⟨?_, List.nodup_nil, fun m hm => absurd hm List.not_mem_nil, ?_, fun m m0 m1 => ?_, ?_, ?_, ?_⟩
  · show (0 : Int) ≤ 0 ∧ (0 : Int) ≤ 7; omega
  · show (0 : Int) ≤ 0; omega
  · have m1 : m < 0 := m1
    omega
  · show (0 : Int) ≤ 0 ∧ (0 : Int) ≤ 23; omega
  · show (-1 : Int) ≤ 0 ∧ (0 : Int) ≤ 9; omega
  · show (0 : Int) = 0 ∨ (0 : Int) = 1; omega
theorem b0_ok : OkB b0 := ⟨b0_inv, by show (0 : Int) ≤ 999; omega, by show (0 : Int) ≤ 0; omega⟩
theorem S0_inv : SInv S0 := by
  refine ⟨fun w w0 w1 => ⟨?_, ?_, fun i i0 i1 => ?_⟩, b0_ok, ⟨?_, fun u hu => absurd hu List.not_mem_nil⟩, b0_ok, b0_ok, ?_, ?_⟩
  · show (-1 : Int) ≤ -1 ∧ (-1 : Int) ≤ 2; omega
  · show (0 : Int) ≤ 0 ∧ (0 : Int) ≤ 40; omega
  · show In32 0; unfold In32; omega
  · show (0 : Nat) ≤ 24; omega
  · show (0 : Nat) ≤ 16; omega
  · refine ⟨?_, ?_, fun p p0 p1 => ?_⟩
    · show (0 : Int) ≤ 0; omega
    · show (0 : Int) ≤ 100; omega
    · have p1 : p < 0 := p1
      omega
theorem mem0_n {q : Nat} (h : q ≠ 80) (x : Int) : mem0 q x = 0 := by unfold mem0; rw [if_neg h]
theorem CB0 {j : Nat} (hj : j + 6 < 80) : CB mem0 j b0.1 b0.2 := by
  have e : ∀ q : Nat, q < 80 → ∀ x : Int, mem0 q x = 0 := fun q hq x => mem0_n (by omega) x
  refine ⟨⟨?_, ?_, ?_, ?_, ?_, ?_, ?_⟩, fun p p0 p1 => ?_, fun m m0 m1 => ?_⟩
  · exact e j (by omega) 0
  · exact e j (by omega) 1
  · exact e j (by omega) 2
  · exact e j (by omega) 6
  · exact e j (by omega) 7
  · exact e j (by omega) 8
  · exact e j (by omega) 9
  · have p1 : p < ((0 : Nat) : Int) := p1
    omega
  · have m1 : m < 0 := m1
    omega
theorem lane0_v {w : Int} (w0 : 0 ≤ w) (w1 : w < 8) : mem0 80 w = -1 := by
  have hw : w = 0 ∨ w = 1 ∨ w = 2 ∨ w = 3 ∨ w = 4 ∨ w = 5 ∨ w = 6 ∨ w = 7 := by omega
  rcases hw with rfl | rfl | rfl | rfl | rfl | rfl | rfl | rfl <;> rfl
theorem CS0 : CS mem0 S0 := by
  refine ⟨fun w w0 w1 => ⟨?_, fun h => ?_, ?_, fun i i0 i1 => ?_⟩, ⟨⟨?_, ?_, ?_⟩, fun p p0 p1 => ?_⟩, CB0 (by omega), ⟨?_, ?_, ⟨?_, ?_⟩, fun i i0 i1 => ?_⟩, CB0 (by omega), CB0 (by omega), ⟨?_, fun i i0 i1 => ?_⟩, ?_, ?_⟩
  · rw [mem0_n (by omega)]
    exact (bi_f (by show ¬ (0 : Int) ≤ -1; omega)).symm
  · have h : (0 : Int) ≤ -1 := h
    omega
  · exact mem0_n (by omega) w
  · exact mem0_n (by omega) i
  · exact mem0_n (by omega) 1
  · show (0 : Int) ≤ 0; omega
  · show (0 : Int) ≤ 100; omega
  · have p1 : p < 0 := p1
    omega
  · exact mem0_n (by omega) 2
  · show (0 : Nat) ≤ 24; omega
  · rw [mem0_n (by omega)]; omega
  · rw [mem0_n (by omega)]; omega
  · have i1 : i < ((0 : Nat) : Int) := i1
    omega
  · exact mem0_n (by omega) 1
  · have i1 : i < ((0 : Nat) : Int) := i1
    omega
  · exact mem0_n (by omega) 9
  · exact mem0_n (by omega) 10
theorem MB0 {g : Int → Int} (h : ∀ x, g x = 0) : MB g b0.1 b0.2 := by
  refine ⟨⟨⟨h 1, h 2, h 3, h 4, h 5, h 7⟩, fun p p0 p1 => ?_, fun m m0 m1 => ?_⟩, h 6, ?_⟩
  · have p1 : p < ((0 : Nat) : Int) := p1
    omega
  · have m1 : m < 0 := m1
    omega
  · rw [h 0]
    exact (bi_f (fun z => z rfl)).symm
theorem MS0 : MS mem0 S0 := by
  refine ⟨fun w w0 w1 => ⟨lane0_v w0 w1, mem0_n (by omega) w, fun i i0 i1 => mem0_n (by omega) _⟩, ⟨mem0_n (by omega) 11, fun p p0 p1 => ?_⟩, MB0 (fun x => mem0_n (by omega) x), ⟨mem0_n (by omega) 9, fun i i0 i1 => ?_⟩, ⟨?_, MB0 (fun x => mem0_n (by omega) _)⟩, ⟨?_, MB0 (fun x => mem0_n (by omega) _)⟩, ⟨mem0_n (by omega) 24, fun i i0 i1 => ?_⟩, mem0_n (by omega) 18, mem0_n (by omega) 1⟩
  · have p1 : p < 0 := p1
    omega
  · have i1 : i < ((0 : Nat) : Int) := i1
    omega
  · rw [mem0_n (by omega)]
    exact (bi_f (fun z => z rfl)).symm
  · rw [mem0_n (by omega)]
    exact (bi_f (fun z => z rfl)).symm
  · have i1 : i < ((0 : Nat) : Int) := i1
    omega
theorem Bth0 : Bth mem0 S0 := ⟨CS0, MS0, S0_inv⟩
/-! the law's body, from its first instruction -/
theorem law_body {nm : String} {L : Nat} {f : Int → Int} (hL : L ≤ 384) (hf : ∀ j, In32 (f j)) : JL nm L f 0 [zr 1005, zu, zu, zu] [] [] 0 0 := by
  refine N_new (ci := 6) (n := 11) (r := 0) (fs := cD6) dL_law_0 rfl rfl cl_L_7 ins_6.1 ins_6.2 (fun E j hj => by rcases (by omega : j = 0 ∨ j = 1 ∨ j = 2 ∨ j = 3 ∨ j = 4 ∨ j = 5 ∨ j = 6 ∨ j = 7 ∨ j = 8 ∨ j = 9 ∨ j = 10) with rfl | rfl | rfl | rfl | rfl | rfl | rfl | rfl | rfl | rfl | rfl <;> rfl) (by decide) rfl (by omega) ?_
  refine J_dup dL_law_3 rfl ?_
  refine N_initI (h' := cL6) dL_law_4 lk_L_9 rfl cw_X6_init (by omega) i_X6 (by omega) (Nat.le_of_ble_eq_true rfl) (by decide) ?_
  refine J_as1 dL_law_7 (show 1 < 4 by decide) rfl ?_
  refine N_new (ci := 7) (n := 25) (r := 79) (fs := cD7) dL_law_8 rfl rfl cl_L_10 ins_7.1 ins_7.2 (fun E j hj => by rcases (by omega : j = 0 ∨ j = 1 ∨ j = 2 ∨ j = 3 ∨ j = 4 ∨ j = 5 ∨ j = 6 ∨ j = 7 ∨ j = 8 ∨ j = 9 ∨ j = 10 ∨ j = 11 ∨ j = 12 ∨ j = 13 ∨ j = 14 ∨ j = 15 ∨ j = 16 ∨ j = 17 ∨ j = 18 ∨ j = 19 ∨ j = 20 ∨ j = 21 ∨ j = 22 ∨ j = 23 ∨ j = 24) with rfl | rfl | rfl | rfl | rfl | rfl | rfl | rfl | rfl | rfl | rfl | rfl | rfl | rfl | rfl | rfl | rfl | rfl | rfl | rfl | rfl | rfl | rfl | rfl | rfl <;> rfl) (by decide) rfl (by omega) ?_
  refine J_dup dL_law_11 rfl ?_
  refine N_initI (h' := cL6 ++ cL7 79) dL_law_12 lk_L_12 rfl cw_X7_init (by omega) (i_X7 (pre := cL6) rfl (by omega)) (by omega) (Nat.le_of_ble_eq_true rfl) (by decide) ?_
  refine J_as2 dL_law_15 (show 2 < 4 by decide) rfl ?_
  refine J_iconst dL_law_16 ?_
  refine J_is3 dL_law_17 (show 3 < 4 by decide) rfl ?_
  rw [hp0]
  exact law_loop hL hf (L + 1) 0 mem0 S0 (by omega) (by omega) (by omega) Bth0
