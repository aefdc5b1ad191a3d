/-! WHAT THE STATEMENT GIVES OF THE START -/
theorem ao_spec {args : Array Value} {s : State} (h : (Cond.arrayOver (.array .int)).before args s = true) : ∃ (c : ClassId) (k : Class) (comp : ClassId), s.vm.findClass ("[" ++ (FieldType.array .int).toString) = some c ∧ s.vm.classes[c]? = some k ∧ k.kind = .array comp (.array .int) := by
  unfold Cond.before at h
  simp only [Cond.holds, Cond.value, beq_iff_eq] at h
  cases hc : s.vm.findClass (FieldType.array .int).toString with
  | none => simp [hc] at h
  | some comp =>
    simp only [hc, Option.bind_some, Option.bind_eq_some_iff, Option.map_eq_some_iff] at h
    obtain ⟨c, hi, k, hk, hb⟩ := h
    cases hkind : k.kind with
    | array component ty =>
      rw [hkind] at hb
      simp at hb
      exact ⟨c, k, component, hb.2, hk, by rw [hkind, hb.1]⟩
    | _ => rw [hkind] at hb; simp at hb
theorem ao_args {args : Array Value} {s : State} (h : (Cond.arrayOver (.array .int)).before args s = true) : zAO s := by
  unfold zAO
  unfold Cond.before at h ⊢
  simp only [Cond.holds, Cond.value] at h ⊢
  exact h
theorem i32z (a : Int) (b : Int32) (h : Int32.ofInt a = b) : some (Value.int b) = some (Value.int (Int32.ofInt a)) := by rw [h]
theorem start_env {s : State} {b : Nat} (hts : ∀ w ∈ lw_tbl, w.before #[Value.ref b] s = true) (hgv : (Jvm.Cond.and given_1 narrow_1).before #[Value.ref b] s = true) : ∃ E : ZE, E.1 = s.heap.size ∧ zad E 1005 = b ∧ zEnv E s := by
  have hg := flat_of_before _ hgv
  have hz : ∀ w ∈ ztb, w.before #[Value.ref b] s = true := fun w hw => hts w (List.mem_filter.mp hw).1
  have hA : ∀ a : Nat, a < s.heap.size → ¬ (fun q : Nat => s.heap.size ≤ q) a := fun a h q => Nat.not_le.mpr h q
  obtain ⟨c0, i0, k0⟩ := u_known (C := RX0) (T := TX0) (N := 3) (n := 3) hts inX0 (hz _ ins_0.1)
  obtain ⟨c1, i1, k1⟩ := u_known (C := RX1) (T := TX1) (N := 2) (n := 2) hts inX1 (hz _ ins_1.1)
  obtain ⟨c2, i2, k2⟩ := u_known (C := RX2) (T := TX2) (N := 13) (n := 13) hts inX2 (hz _ ins_2.1)
  obtain ⟨c4, i4, k4⟩ := u_known (C := RX4) (T := TX4) (N := 4) (n := 4) hts inX4 (hz _ ins_4.1)
  obtain ⟨c5, i5, k5⟩ := u_known (C := RX5) (T := TX5) (N := 5) (n := 5) hts inX5 (hz _ ins_5.1)
  obtain ⟨c6, i6, k6⟩ := u_known (C := RX6) (T := TX6) (N := 11) (n := 11) hts inX6 (hz _ ins_6.1)
  obtain ⟨c7, i7, k7⟩ := u_known (C := RX7) (T := TX7) (N := 25) (n := 25) hts inX7 (hz _ ins_7.1)
  obtain ⟨aI, kI, pI, hI1, hI2, hI3⟩ := Cond.arrayClass_spec (args := #[Value.ref b]) (first := s) (o := none) (s := s) (idx := []) (hz _ ac_I)
  obtain ⟨aZ, kZ, pZ, hZ1, hZ2, hZ3⟩ := Cond.arrayClass_spec (args := #[Value.ref b]) (first := s) (o := none) (s := s) (idx := []) (hz _ ac_Z)
  have hAO : (Cond.arrayOver (.array .int)).before #[Value.ref b] s = true := hts _ (by decide +kernel)
  obtain ⟨aA, kA, pA, hA1, hA2, hA3⟩ := ao_spec hAO
  obtain ⟨t0, e0, T0⟩ := va_Tof (args := #[Value.ref b]) (s := s) (tm := .static "SunBench$Kinds" "NEAREST" "[I") (ty := .int) (N := 6) (f := fun j => .int (Int32.ofInt ((fun j : Int => if j = 2 then 1 else if j = 3 then 1 else if j = 5 then 4 else 0) (j : Int)))) (A := fun q : Nat => s.heap.size ≤ q) (by decide) (hg _ (by decide +kernel)) (va_eqt (hg _ (by decide +kernel))) (fun j hj => by
    rcases (by omega : j = 0 ∨ j = 1 ∨ j = 2 ∨ j = 3 ∨ j = 4 ∨ j = 5) with rfl | rfl | rfl | rfl | rfl | rfl
    · exact (va_eqt (z := 0) (hg _ (by decide +kernel))).trans (i32z _ _ (by decide))
    · exact (va_eqt (z := 0) (hg _ (by decide +kernel))).trans (i32z _ _ (by decide))
    · exact (va_eqt (z := 1) (hg _ (by decide +kernel))).trans (i32z _ _ (by decide))
    · exact (va_eqt (z := 1) (hg _ (by decide +kernel))).trans (i32z _ _ (by decide))
    · exact (va_eqt (z := 0) (hg _ (by decide +kernel))).trans (i32z _ _ (by decide))
    · exact (va_eqt (z := 4) (hg _ (by decide +kernel))).trans (i32z _ _ (by decide))) hA
  obtain ⟨t1, e1, T1⟩ := va_Tof (args := #[Value.ref b]) (s := s) (tm := .static "SunBench$Asks" "SIZE_BODIES" "[I") (ty := .int) (N := 6) (f := fun j => .int (Int32.ofInt ((fun j : Int => if j = 0 then 10 else if j = 1 then 11 else if j = 2 then 12 else if j = 4 then 13 else if j = 5 then 14 else 0) (j : Int)))) (A := fun q : Nat => s.heap.size ≤ q) (by decide) (hg _ (by decide +kernel)) (va_eqt (hg _ (by decide +kernel))) (fun j hj => by
    rcases (by omega : j = 0 ∨ j = 1 ∨ j = 2 ∨ j = 3 ∨ j = 4 ∨ j = 5) with rfl | rfl | rfl | rfl | rfl | rfl
    · exact (va_eqt (z := 10) (hg _ (by decide +kernel))).trans (i32z _ _ (by decide))
    · exact (va_eqt (z := 11) (hg _ (by decide +kernel))).trans (i32z _ _ (by decide))
    · exact (va_eqt (z := 12) (hg _ (by decide +kernel))).trans (i32z _ _ (by decide))
    · exact (va_eqt (z := 0) (hg _ (by decide +kernel))).trans (i32z _ _ (by decide))
    · exact (va_eqt (z := 13) (hg _ (by decide +kernel))).trans (i32z _ _ (by decide))
    · exact (va_eqt (z := 14) (hg _ (by decide +kernel))).trans (i32z _ _ (by decide))) hA
  obtain ⟨t2, e2, T2⟩ := va_Tof (args := #[Value.ref b]) (s := s) (tm := .static "SunBench$Asks" "MARK_BODIES" "[I") (ty := .int) (N := 6) (f := fun j => .int (Int32.ofInt ((fun j : Int => if j = 0 then 20 else if j = 1 then 21 else if j = 2 then 24 else if j = 3 then 22 else if j = 4 then 23 else 0) (j : Int)))) (A := fun q : Nat => s.heap.size ≤ q) (by decide) (hg _ (by decide +kernel)) (va_eqt (hg _ (by decide +kernel))) (fun j hj => by
    rcases (by omega : j = 0 ∨ j = 1 ∨ j = 2 ∨ j = 3 ∨ j = 4 ∨ j = 5) with rfl | rfl | rfl | rfl | rfl | rfl
    · exact (va_eqt (z := 20) (hg _ (by decide +kernel))).trans (i32z _ _ (by decide))
    · exact (va_eqt (z := 21) (hg _ (by decide +kernel))).trans (i32z _ _ (by decide))
    · exact (va_eqt (z := 24) (hg _ (by decide +kernel))).trans (i32z _ _ (by decide))
    · exact (va_eqt (z := 22) (hg _ (by decide +kernel))).trans (i32z _ _ (by decide))
    · exact (va_eqt (z := 23) (hg _ (by decide +kernel))).trans (i32z _ _ (by decide))
    · exact (va_eqt (z := 0) (hg _ (by decide +kernel))).trans (i32z _ _ (by decide))) hA
  have hex : (Cond.exactly (.string "SunBench$Tape" 54) "java/lang/String").before #[Value.ref b] s = true := hg _ (by decide +kernel)
  obtain ⟨t3, cS, cellS, kS, e3, -⟩ := Cond.exactly_spec (args := #[Value.ref b]) (first := s) (o := none) (s := s) (idx := []) hex
  have O3 := va_Oof (A := fun q : Nat => s.heap.size ≤ q) hex e3 hA
  have R3 : vk_R RX5 54 "snabd" t3 s := vk_R.of (hts (.stringRef "SunBench$Tape" 54 "snabd") (by decide +kernel)) e3
  obtain ⟨t4, e4, T4⟩ := va_Tof (args := #[Value.ref b]) (s := s) (tm := .field (.string "SunBench$Tape" 54) "java/lang/String" "value" "[B") (ty := .byte) (N := 5) (f := fun j => .int (Int32.ofInt ((fun j : Int => if j = 0 then 115 else if j = 1 then 110 else if j = 2 then 97 else if j = 3 then 98 else if j = 4 then 100 else 0) (j : Int)))) (A := fun q : Nat => s.heap.size ≤ q) (by decide) (hg _ (by decide +kernel)) (va_eqt (hg _ (by decide +kernel))) (fun j hj => by
    rcases (by omega : j = 0 ∨ j = 1 ∨ j = 2 ∨ j = 3 ∨ j = 4) with rfl | rfl | rfl | rfl | rfl
    · exact (va_eqt (z := 115) (hg _ (by decide +kernel))).trans (i32z _ _ (by decide))
    · exact (va_eqt (z := 110) (hg _ (by decide +kernel))).trans (i32z _ _ (by decide))
    · exact (va_eqt (z := 97) (hg _ (by decide +kernel))).trans (i32z _ _ (by decide))
    · exact (va_eqt (z := 98) (hg _ (by decide +kernel))).trans (i32z _ _ (by decide))
    · exact (va_eqt (z := 100) (hg _ (by decide +kernel))).trans (i32z _ _ (by decide))) hA
  have F0 := vk_OFof (args := #[Value.ref b]) (A := fun q : Nat => s.heap.size ≤ q) e3 (va_eqt (t := .field (.string "SunBench$Tape" 54) "java/lang/String" "coder" "B") (z := 0) (hg _ (by decide +kernel))) hA
  have F1 := vk_OFof (args := #[Value.ref b]) (A := fun q : Nat => s.heap.size ≤ q) e3 e4 hA
  have Z0 := va_Zref (args := #[Value.ref b]) (A := fun q : Nat => s.heap.size ≤ q) (hts (.laysStatic "SunBench$Kinds" "NEAREST" "[I") (by decide +kernel)) (hts (.initialized "SunBench$Kinds") (by decide +kernel)) e0 hA
  have Z1 := va_Zref (args := #[Value.ref b]) (A := fun q : Nat => s.heap.size ≤ q) (hts (.laysStatic "SunBench$Asks" "SIZE_BODIES" "[I") (by decide +kernel)) (hts (.initialized "SunBench$Asks") (by decide +kernel)) e1 hA
  have Z2 := va_Zref (args := #[Value.ref b]) (A := fun q : Nat => s.heap.size ≤ q) (hts (.laysStatic "SunBench$Asks" "MARK_BODIES" "[I") (by decide +kernel)) (hts (.initialized "SunBench$Asks") (by decide +kernel)) e2 hA
  have Z3 := va_Zof (args := #[Value.ref b]) (A := fun q : Nat => s.heap.size ≤ q) (hts (.laysStatic "java/lang/String" "COMPACT_STRINGS" "Z") (by decide +kernel)) (hts (.initialized "java/lang/String") (by decide +kernel)) (va_eqt (t := .static "java/lang/String" "COMPACT_STRINGS" "Z") (z := 1) (hg _ (by decide +kernel))) hA
  refine ⟨(s.heap.size, fun k => if k = 0 then c0 else if k = 1 then c1 else if k = 2 then c2 else if k = 3 then c0 else if k = 4 then c4 else if k = 5 then c5 else if k = 6 then c6 else c7, fun k => if k = 0 then i0 else if k = 1 then i1 else if k = 2 then i2 else if k = 3 then i0 else if k = 4 then i4 else if k = 5 then i5 else if k = 6 then i6 else i7, fun k => if k = 0 then aI else if k = 1 then aZ else aA, fun k => if k = 0 then t0 else if k = 1 then t1 else if k = 2 then t2 else if k = 3 then t3 else if k = 4 then t4 else b), rfl, rfl, ⟨fun k q hq => ?_, fun k q hq => ?_⟩, fun w hw => ?_, ao_args hAO, fun q hq => ?_, fun k ty n f hf => ?_, R3, O3, fun q hq => ?_⟩
  · match k, hq with
    | 0, hq => cases hq; exact k0
    | 1, hq => cases hq; exact k1
    | 2, hq => cases hq; exact k2
    | 3, hq => cases hq; exact k0
    | 4, hq => cases hq; exact k4
    | 5, hq => cases hq; exact k5
    | 6, hq => cases hq; exact k6
    | 7, hq => cases hq; exact k7
    | (n + 8), hq => simp [zcl] at hq
  · match k, hq with
    | 0, hq => cases hq; exact ⟨fun n z => ⟨fun k h => (by cases h), kI, hI2, pI, hI3⟩, hI1⟩
    | 1, hq => cases hq; exact ⟨fun n z => ⟨fun k h => (by cases h), kZ, hZ2, pZ, hZ3⟩, hZ1⟩
    | 2, hq => cases hq; exact ⟨fun n z => ⟨fun k h => (by cases h), kA, hA2, pA, hA3⟩, hA1⟩
    | (n + 3), hq => simp [ztys] at hq
  · have hin : ∀ w ∈ znest, w ∈ lw_tbl := by decide +kernel
    have hon : ∀ w ∈ znest, w.onTables = true := by decide +kernel
    exact va_Nw.of (hon w hw) (hts w (hin w hw))
  · simp only [zst, List.mem_cons, List.not_mem_nil, or_false] at hq
    rcases hq with rfl | rfl | rfl | rfl
    · exact Z0
    · exact Z1
    · exact Z2
    · exact Z3
  · unfold zK at hf
    split at hf
    · cases hf; exact T0
    · cases hf; exact T1
    · cases hf; exact T2
    · cases hf; exact T4
    · cases hf
  · simp only [ztx, List.mem_cons, List.not_mem_nil, or_false] at hq
    rcases hq with rfl | rfl
    · exact F0
    · exact F1
