/-! MAKING, COPYING -/
theorem zw_P_app {E : ZE} {h g : List ZC} {D : va_G} {cl : List vw_C} {H : Heap} (hP : va_P D cl (zw E h) H) (hg : ∀ (j : Nat) (c : ZC), g[j]? = some c → va_at D cl (E.1 + (h.length + j), ce E c) H) : va_P D cl (zw E (h ++ g)) H := by
  intro k q hk
  rw [zw_get] at hk
  by_cases hl : k < h.length
  · rw [List.getElem?_append_left hl] at hk
    exact hP k q (by rw [zw_get]; exact hk)
  · rw [List.getElem?_append_right (by omega)] at hk
    cases hc : g[k - h.length]? with
    | none => rw [hc] at hk; cases hk
    | some c =>
      rw [hc] at hk
      cases hk
      have h1 := hg _ c hc
      rw [show h.length + (k - h.length) = k by omega] at h1
      exact h1
def zcpy (f g : Int → Int) (sp dp n : Int) : Int → Int := fun k => if dp ≤ k ∧ k < dp + n then f (sp + (k - dp)) else g k
theorem zcpy_c {f g : Int → Int} {sp dp n : Int} (h1 : 0 ≤ sp ∧ sp < 2147483648) (h2 : 0 ≤ dp ∧ dp < 2147483648) (h3 : 0 ≤ n ∧ n < 2147483648) : va_cpy (fun j : Nat => Int32.ofInt (f (j : Int))) (fun j : Nat => Int32.ofInt (g (j : Int))) (Int32.ofInt sp).toNatClampNeg (Int32.ofInt dp).toNatClampNeg (Int32.ofInt n).toNatClampNeg = (fun j : Nat => Int32.ofInt (zcpy f g sp dp n (j : Int))) := by
  rw [i32_clamp h1.1 h1.2, i32_clamp h2.1 h2.2, i32_clamp h3.1 h3.2]
  funext j
  unfold va_cpy zcpy
  by_cases e : dp.toNat ≤ j ∧ j < dp.toNat + n.toNat
  · rw [if_pos e, if_pos (by omega)]
    have e2 : ((sp.toNat + (j - dp.toNat) : Nat) : Int) = sp + ((j : Int) - dp) := by omega
    show Int32.ofInt (f ((sp.toNat + (j - dp.toNat) : Nat) : Int)) = _
    rw [e2]
  · rw [if_neg e, if_neg (by omega)]
theorem W_sz {E : ZE} {h : List ZC} {p : Program} {l : Launch} {e : Env} {R : Room} {s : State} {m : MethodId} {args : Array Value} {below : List Frame} {meth : Method} {c : Code} {H : Heap} {locs : List Loc} {cells slots sz0 : Nat} {Q : State → Prop} {g : JFrame} (hP : va_P (zD E) zcl (zw E h) H) (hs : s.heap.size = E.1 + sz0) (hl : h.length = sz0 + cells) (k : H.size = E.1 + h.length → W p l e R s m args below meth c H locs cells slots Q g) : W p l e R s m args below meth c H locs cells slots Q g :=
  fun T hT X => k (zsize hT X hP hs hl) T hT X
section ZNew
variable {mi : ZMI} {d mc ms sz0 : Nat} {scr : Option (Nat × (Int → Int))} {Q : Option ZV → List ZC → Prop} {pc : Nat} {zs st : List ZV} {h : List ZC} {cells slots : Nat}
theorem J_new {idx ci n : Nat} {fs : List ZV} {r : vw_C} (hd : decode mi.2.1 pc = .ok (.new idx, 3)) (hr : zcl[ci]? = some r) (hn : r.2.2 = n) (hcl : Cond.classLink mi.1.cls idx r.1 ∈ ztb) (hins : Cond.instantiable r.1 n ∈ ztb) (hini : Cond.initialized r.1 ∈ ztb) (hfs : ∀ (E : ZE) (j : Nat), j < n → defaultValue (zty ci j) = vp_V (fs.map (cv E)) j) (hroom : cells + 1 ≤ mc ∧ slots + n ≤ ms) (hsz : h.length < 1000) (kk : J mi d mc ms sz0 scr Q (pc + 3) zs (zr h.length :: st) (h ++ [.inl (ci, fs)]) (cells + 1) (slots + n)) : J mi d mc ms sz0 scr Q pc zs st h cells slots := by
  intro E p l e s m args below meth c C hl H locs ls hP hS hL
  subst hn
  refine W_sz hP C.2.2.2.2.2.2.2.2.2.1 hl (fun hz => ?_)
  have hKn := C.2.2.2.2.2.2.2.2.1.1.1 ci _ hr
  refine W.newcK C.1 C.2.1 C.2.2.2.1 (C.2.2.2.2.1 _ hcl) (C.2.2.2.2.1 _ hins) (C.2.2.2.2.1 _ hini) rfl hd hroom.1 hroom.2 hKn.2.1 hz (fun H1 kC hkC e1 z1 o1 => ?_)
  have hP1 : va_P (zD E) zcl (zw E (h ++ [.inl (ci, fs)])) H1 := by
    refine zw_P_app (hP.kept fun k x hx => o1 x.1 (by rw [← hz]; exact (hP k x hx).lt)) (fun j c hc => ?_)
    have hj : j < 1 := (List.getElem?_eq_some_iff.mp hc).1
    have hj0 : j = 0 := by omega
    subst hj0
    cases hc
    exact ⟨r, hr, (u_born (zty ci) C.2.2.2.2.1 (zcl_in ci r hr) hKn hkC e1 (zcl_ty ci r hr)).to (hfs E)⟩
  have k1 := kk E p l e s m args below meth c C (by rw [List.length_append, hl]; show sz0 + cells + 1 = _; omega) H1 locs ls hP1 ⟨Nat.le_trans hS.1 (by omega), fun x h1 h2 => (o1 x (by rw [← hz]; exact Nat.lt_of_lt_of_le h1 hS.1)).trans (hS.2.1 x h1 h2), hS.2.2⟩ hL
  rw [zst_r E h.length st hsz] at k1
  exact k1
theorem J_newI {n : Int} {N : Nat} (hd : decode mi.2.1 pc = .ok (.newarray .int, 2)) (hn : n = (N : Int)) (hN : N < 100000000) (hroom : cells + 1 ≤ mc ∧ slots + N ≤ ms) (hsz : h.length < 1000) (hac : Cond.arrayClass .int ∈ ztb) (kk : J mi d mc ms sz0 scr Q (pc + 2) zs (zr h.length :: st) (h ++ [.inr (0, N, fun _ => 0)]) (cells + 1) (slots + N)) : J mi d mc ms sz0 scr Q pc zs (zi n :: st) h cells slots := by
  intro E p l e s m args below meth c C hl H locs ls hP hS hL
  subst hn
  refine W_sz hP C.2.2.2.2.2.2.2.2.2.1 hl (fun hz => ?_)
  refine va_newaK (atype := ArrayType.int) (N := N) C.1 C.2.1 (C.2.2.2.2.1 _ hac) rfl hd rfl (i32_nneg (by omega) (by omega)) (by rw [i32_clamp (by omega) (by omega)]; omega) (by show N * 4 ≤ _; omega) hroom.1 hroom.2 hz (fun H1 cA e1 z1 o1 hAr hfa => ?_)
  have hRA : s.vm.findClass ("[" ++ FieldType.int.toString) = some (E.2.2.2.1 0) := (C.2.2.2.2.2.2.2.2.1.1.2 0 (E.2.2.2.1 0, .int) rfl).2
  have hcA : cA = E.2.2.2.1 0 := Option.some.inj (hfa.symm.trans hRA)
  subst hcA
  have hP1 : va_P (zD E) zcl (zw E (h ++ [.inr (0, N, fun _ => 0)])) H1 := by
    refine zw_P_app (hP.kept fun k x hx => o1 x.1 (by rw [← hz]; exact (hP k x hx).lt)) (fun j c hc => ?_)
    have hj : j < 1 := (List.getElem?_eq_some_iff.mp hc).1
    have hj0 : j = 0 := by omega
    subst hj0
    cases hc
    exact e1
  have k1 := kk E p l e s m args below meth c C (by rw [List.length_append, hl]; show sz0 + cells + 1 = _; omega) H1 locs ls hP1 ⟨Nat.le_trans hS.1 (by omega), fun x h1 h2 => (o1 x (by rw [← hz]; exact Nat.lt_of_lt_of_le h1 hS.1)).trans (hS.2.1 x h1 h2), hS.2.2⟩ hL
  rw [zst_r E h.length st hsz] at k1
  exact k1
theorem J_newZ {n : Int} {N : Nat} (hd : decode mi.2.1 pc = .ok (.newarray .boolean, 2)) (hn : n = (N : Int)) (hN : N < 100000000) (hroom : cells + 1 ≤ mc ∧ slots + N ≤ ms) (hsz : h.length < 1000) (hac : Cond.arrayClass .boolean ∈ ztb) (kk : J mi d mc ms sz0 scr Q (pc + 2) zs (zr h.length :: st) (h ++ [.inr (1, N, fun _ => 0)]) (cells + 1) (slots + N)) : J mi d mc ms sz0 scr Q pc zs (zi n :: st) h cells slots := by
  intro E p l e s m args below meth c C hl H locs ls hP hS hL
  subst hn
  refine W_sz hP C.2.2.2.2.2.2.2.2.2.1 hl (fun hz => ?_)
  refine va_newaK (atype := ArrayType.boolean) (N := N) C.1 C.2.1 (C.2.2.2.2.1 _ hac) rfl hd rfl (i32_nneg (by omega) (by omega)) (by rw [i32_clamp (by omega) (by omega)]; omega) (by show N * 1 ≤ _; omega) hroom.1 hroom.2 hz (fun H1 cA e1 z1 o1 hAr hfa => ?_)
  have hRA : s.vm.findClass ("[" ++ FieldType.boolean.toString) = some (E.2.2.2.1 1) := (C.2.2.2.2.2.2.2.2.1.1.2 1 (E.2.2.2.1 1, .boolean) rfl).2
  have hcA : cA = E.2.2.2.1 1 := Option.some.inj (hfa.symm.trans hRA)
  subst hcA
  have hP1 : va_P (zD E) zcl (zw E (h ++ [.inr (1, N, fun _ => 0)])) H1 := by
    refine zw_P_app (hP.kept fun k x hx => o1 x.1 (by rw [← hz]; exact (hP k x hx).lt)) (fun j c hc => ?_)
    have hj : j < 1 := (List.getElem?_eq_some_iff.mp hc).1
    have hj0 : j = 0 := by omega
    subst hj0
    cases hc
    exact e1
  have k1 := kk E p l e s m args below meth c C (by rw [List.length_append, hl]; show sz0 + cells + 1 = _; omega) H1 locs ls hP1 ⟨Nat.le_trans hS.1 (by omega), fun x h1 h2 => (o1 x (by rw [← hz]; exact Nat.lt_of_lt_of_le h1 hS.1)).trans (hS.2.1 x h1 h2), hS.2.2⟩ hL
  rw [zst_r E h.length st hsz] at k1
  exact k1
theorem z_outer (cI : ClassId) (N h0 : Nat) : ∀ i : Nat, Jvm.Free.Multi.outerC cI N h0 i = arrV cI N (fun j => va_rf (if j < i then some (h0 + 1 + j) else none))
  | 0 => by
    show ({ cls := cI, slots := Array.replicate N .null, vm := .none } : Cell) = _
    rw [arrV_new]
    refine congrArg (arrV cI N) (funext fun j => ?_)
    simp [va_rf]
  | i + 1 => by
    show (Jvm.Free.Multi.outerC cI N h0 i).setSlot i (.ref (h0 + 1 + i)) = _
    rw [z_outer cI N h0 i, arrV_store]
    refine congrArg (arrV cI N) (funext fun j => ?_)
    by_cases e : j = i
    · subst e
      simp [updV, va_rf]
    · by_cases hj : j < i
      · simp [updV, e, hj, Nat.lt_succ_of_lt hj]
      · simp [updV, e, hj, show ¬ j < i + 1 by omega]
theorem arrV_ext {cA : ClassId} {N : Nat} {f g : Nat → Value} (hfg : ∀ j, j < N → f j = g j) : arrV cA N f = arrV cA N g := by
  unfold arrV
  congr 1
  apply Array.ext
  · simp
  · intro i h1 h2
    simp
    exact hfg i (by simpa using h1)
theorem J_mna {n k : Int} {N K idx : Nat} (hd : decode mi.2.1 pc = .ok (.multianewarray idx 2, 4)) (hn : n = (N : Int)) (hk : k = (K : Int)) (hN : N < 1000000) (hK : K < 1000000) (hcl : Cond.classLink mi.1.cls idx "[[I" ∈ ztb) (hroom : cells + (1 + N) ≤ mc ∧ slots + (N + N * K) ≤ ms) (hsz : h.length + N + 1 < 1000) (hac : Cond.arrayClass .int ∈ ztb)
    (kk : J mi d mc ms sz0 scr Q (pc + 4) zs (zr h.length :: st) (h ++ (.inr (2, N, fun j => (h.length : Int) + 1 + j) :: List.replicate N (.inr (0, K, fun _ => 0)))) (cells + (1 + N)) (slots + (N + N * K))) : J mi d mc ms sz0 scr Q pc zs (zi k :: zi n :: st) h cells slots := by
  intro E p l e s m args below meth c C hl H locs ls hP hS hL T hT X
  subst hn
  subst hk
  have hz := zsize hT X hP C.2.2.2.2.2.2.2.2.2.1 hl
  have cN : (Int32.ofInt (N : Int)).toNatClampNeg = N := by rw [i32_clamp (by omega) (by omega)]; omega
  have cK : (Int32.ofInt (K : Int)).toNatClampNeg = K := by rw [i32_clamp (by omega) (by omega)]; omega
  obtain ⟨vm₁, cA, comp, -, fA, fC, -, -, X', step⟩ := X.multianewarray2F C.1 C.2.2.2.1 (ty := .int) (C.2.2.2.2.1 _ hcl) (show (Cond.arrayOver (.array .int)).before args s = true from C.2.2.2.2.2.2.2.2.1.2.2.1) (C.2.2.2.2.1 _ hac) (g := F0 m pc ls (.int (Int32.ofInt (K : Int)) :: .int (Int32.ofInt (N : Int)) :: st.map (cv E))) rfl (by rw [C.2.1]; exact hd) rfl (i32_nneg (by omega) (by omega)) (i32_nneg (by omega) (by omega)) (by rw [cN]; omega) (by rw [cK]; show K * 4 ≤ _; omega) (by rw [cK]; omega) rfl rfl (by rw [cN]; exact hroom.1) (by rw [cN, cK]; exact hroom.2)
  have hRI : s.vm.findClass ("[" ++ FieldType.int.toString) = some (E.2.2.2.1 0) := (C.2.2.2.2.2.2.2.2.1.1.2 0 (E.2.2.2.1 0, .int) rfl).2
  have hRA : s.vm.findClass ("[" ++ (FieldType.array .int).toString) = some (E.2.2.2.1 2) := (C.2.2.2.2.2.2.2.2.1.1.2 2 (E.2.2.2.1 2, .array .int) rfl).2
  have hcA : cA = E.2.2.2.1 2 := Option.some.inj (fA.symm.trans hRA)
  have hcC : comp = E.2.2.2.1 0 := Option.some.inj (fC.symm.trans hRI)
  subst hcA
  subst hcC
  rw [cN, cK] at X' step
  generalize hF : Jvm.Free.Multi.fill (T.setVm vm₁) (E.2.2.2.1 2) (E.2.2.2.1 0) N K (defaultValue .int) N = F at X' step
  have hTh : (T.setVm vm₁).heap = H := hT
  obtain ⟨f1, f2, -, -⟩ := Jvm.Free.Multi.fill_facts (T.setVm vm₁) (E.2.2.2.1 2) (E.2.2.2.1 0) N K (defaultValue .int) N
  rw [hF, hTh] at f1 f2
  have hold : ∀ x : Nat, x < H.size → F.heap[x]? = H[x]? := fun x hx => by
    have := Jvm.Free.Multi.fill_old (T.setVm vm₁) (E.2.2.2.1 2) (E.2.2.2.1 0) N K (defaultValue .int) (a := x) (by rw [hTh]; exact hx) N
    rw [hF, hTh] at this
    exact this
  have hrow : ∀ j : Nat, j < N → F.heap[H.size + 1 + j]? = some (Jvm.Free.Multi.innerC (E.2.2.2.1 0) K (defaultValue .int)) := fun j hj => by
    have := Jvm.Free.Multi.fill_inner (T.setVm vm₁) (E.2.2.2.1 2) (E.2.2.2.1 0) N K (defaultValue .int) N j hj
    rw [hF, hTh] at this
    exact this
  have hP1 : va_P (zD E) zcl (zw E (h ++ (.inr (2, N, fun j => (h.length : Int) + 1 + j) :: List.replicate N (.inr (0, K, fun _ => 0))))) F.heap := by
    refine zw_P_app (hP.kept fun k x hx => hold x.1 ((hP k x hx).lt)) (fun j c hc => ?_)
    cases j with
    | zero =>
      cases hc
      show F.heap[E.1 + (h.length + 0)]? = some (vp_cell _ _)
      rw [Nat.add_zero, ← hz, f2, vp_cell_q, z_outer]
      refine congrArg some (arrV_ext fun j hj => ?_)
      rw [if_pos hj, hz]
      show Value.ref _ = Value.ref (zad E ((h.length : Int) + 1 + (j : Int)).toNat)
      have e8 : ((h.length : Int) + 1 + (j : Int)).toNat = h.length + 1 + j := by omega
      rw [e8, zad_lt (by omega)]
      have e7 : E.1 + h.length + 1 + j = E.1 + (h.length + 1 + j) := by omega
      rw [← e7]
    | succ j =>
      rw [List.getElem?_cons_succ, List.getElem?_replicate] at hc
      by_cases hj : j < N
      · rw [if_pos hj] at hc
        cases hc
        show F.heap[E.1 + (h.length + (j + 1))]? = some (vp_cell _ _)
        rw [show E.1 + (h.length + (j + 1)) = H.size + 1 + j by omega, hrow j hj]
        unfold Jvm.Free.Multi.innerC
        rw [arrV_new]
        rfl
      · rw [if_neg hj] at hc
        cases hc
  have k1 := kk E p l e s m args below meth c C (by rw [List.length_append, List.length_cons, List.length_replicate, hl]; omega) F.heap locs ls hP1 ⟨by rw [f1]; have := hS.1; omega, fun x h1 h2 => (hold x (Nat.lt_of_lt_of_le h1 hS.1)).trans (hS.2.1 x h1 h2), hS.2.2⟩ hL
  rw [zst_r E h.length st (by omega), ← hz] at k1
  rw [show cells + (1 + N) = cells + 1 + N by omega, show slots + (N + N * K) = slots + N + N * K by omega] at k1
  obtain ⟨t, a1, b1⟩ := k1 F rfl X'
  refine ⟨t, step t ?_, b1⟩
  have e9 : T.heap.size = H.size := by rw [hT]
  rw [e9]
  exact a1
theorem J_copy {q0 q1 n0 n1 idx : Nat} {f g : Int → Int} {sp dp n : Int} {rest : List ZV} (hd : decode mi.2.1 pc = .ok (.invokestatic idx, 3)) (hl : Cond.methodLink mi.1.cls idx arraycopyName ∈ ztb ∧ Cond.native arraycopyName ∈ ztb ∧ Cond.static arraycopyName ∈ ztb ∧ Cond.initialized "java/lang/System" ∈ ztb) (h0 : q0 < 1000) (h1 : q1 < 1000) (hq0 : h[q0]? = some (.inr (0, n0, f))) (hq1 : h[q1]? = some (.inr (0, n1, g))) (hn0 : n0 < 2147483648) (hn1 : n1 < 2147483648) (hr : 0 ≤ sp ∧ 0 ≤ dp ∧ 0 ≤ n ∧ sp + n ≤ n0 ∧ dp + n ≤ n1) (hd1 : 1 ≤ d) (hcat : zcats rest ≤ 8)
    (kk : J mi d mc ms sz0 scr Q (pc + 3) zs rest (h.set q1 (.inr (0, n1, zcpy f g sp dp n))) cells slots) : J mi d mc ms sz0 scr Q pc zs (zi n :: zi dp :: zr q1 :: zi sp :: zr q0 :: rest) h cells slots := by
  intro E p l e s m args below meth c C hl0 H locs ls hP hS hL
  rw [List.map_cons, List.map_cons, zst_r E q1 _ h1, List.map_cons, zst_r E q0 _ h0]
  have hbig : (rest.map (cv E)).map (fun v => v.category) = (rest.map (cv E)).map (fun v => v.category) := rfl
  refine va_copyi C.1 C.2.1 (C.2.2.1.trans hL.1.symm) C.2.2.2.1 (C.2.2.2.2.1 _ hl.1) (C.2.2.2.2.1 _ hl.2.1) (C.2.2.2.2.1 _ hl.2.2.1) (C.2.2.2.2.1 _ hl.2.2.2) C.2.2.2.2.2.2.2.2.1.1 hP (zw_D E h) hS q0 q1 0 0 (zw_at hq0) (zw_at hq1) rfl rfl rfl (i32_nneg (by omega) (by omega)) (i32_nneg (by omega) (by omega)) (i32_nneg (by omega) (by omega)) (by rw [i32_clamp (by omega) (by omega), i32_clamp (by omega) (by omega)]; omega) (by rw [i32_clamp (by omega) (by omega), i32_clamp (by omega) (by omega)]; omega) (fun _ _ => rfl) hd1 ?_ hd (fun H1 locs1 hP1 _ hS1 => ?_)
  · rw [zcats_cv]
    have h2 : (rmd d mc ms).locals = 64 * d := rfl
    have h3 : nativeFrameWords "java/lang/System" "arraycopy" 5 ≤ 40 := by decide
    omega
  · rw [zcpy_c (by omega) (by omega) (by omega)] at hP1
    have ee : (E.1 + q1, (Sum.inl (E.2.2.2.1 0, n1, .inl (fun j : Nat => Int32.ofInt (zcpy f g sp dp n (j : Int)))) : va_E)) = (E.1 + q1, ce E (.inr (0, n1, zcpy f g sp dp n))) := rfl
    rw [ee, ← zw_set] at hP1
    exact kk E p l e s m args below meth c C (by rw [List.length_set]; exact hl0) H1 locs1 ls hP1 hS1 hL
end ZNew
