/-! WHAT IS MADE -/
theorem app_get {pre ns : List ZC} {x : ZC} {N : Nat} (hN : pre.length = N) : (pre ++ (x :: ns))[N]? = some x := by
  subst hN
  rw [List.getElem?_append_right (Nat.le_refl _), Nat.sub_self]
  rfl
theorem app_set {pre ns : List ZC} {x y : ZC} {N : Nat} (hN : pre.length = N) : (pre ++ (x :: ns)).set N y = pre ++ (y :: ns) := by
  subst hN
  rw [List.set_append_right _ _ (Nat.le_refl _), Nat.sub_self]
  rfl
theorem app_get1 {pre ns : List ZC} {w x : ZC} {N : Nat} (hN : pre.length = N) : (pre ++ (w :: x :: ns))[N + 1]? = some x := by
  subst hN
  rw [List.getElem?_append_right (by omega), show pre.length + 1 - pre.length = 1 by omega]
  rfl
theorem app_set1 {pre ns : List ZC} {w x y : ZC} {N : Nat} (hN : pre.length = N) : (pre ++ (w :: x :: ns)).set (N + 1) y = pre ++ (w :: y :: ns) := by
  subst hN
  rw [List.set_append_right _ _ (by omega), show pre.length + 1 - pre.length = 1 by omega]
  rfl
section ZCtor
variable {mi : ZMI} {d mc ms sz0 : Nat} {scr : Option (Nat × (Int → Int))} {Q : Option ZV → List ZC → Prop} {pc : Nat} {zs st : List ZV} {cells slots : Nat} {pre ns B B' : List ZC} {N : Nat}
theorem N_put {ci k idx : Nat} {fs fs' : List ZV} {v : ZV} {ty : FieldType} (hd : decode mi.2.1 pc = .ok (.putfield idx, 3)) (hf : zFL mi.1.cls idx ci k) (hN : pre.length = N) (hN1 : N < 1000) (hk2 : k < fs.length) (hfin : ∀ r : vw_C, zcl[ci]? = some r → (r.2.1 k).2.2.2 = false) (hty : zty ci k = ty) (hn : ∀ E, narrow ty (cv E v) = cv E v) (hfit : ∀ E, fits ty (cv E v) = true) (hfs : fs.set k v = fs') (kk : J mi d mc ms sz0 scr Q (pc + 3) zs st (pre ++ (.inl (ci, fs') :: ns)) cells slots) : J mi d mc ms sz0 scr Q pc zs (v :: zr N :: st) (pre ++ (.inl (ci, fs) :: ns)) cells slots := by
  subst hfs
  refine J_put hd hf hN1 (app_get hN) hk2 hfin hty hn hfit ?_
  rw [app_set hN]
  exact kk
theorem N_putF {ci k idx : Nat} {fs fs' : List ZV} {v : ZV} {ty : FieldType} (hd : decode mi.2.1 pc = .ok (.putfield idx, 3)) (hf : zFL mi.1.cls idx ci k) (hN : pre.length = N) (hN1 : N < 1000) (hk2 : k < fs.length) (hfin : ∀ r : vw_C, zcl[ci]? = some r → (r.2.1 k).2.2.2 = true ∧ (r.2.1 k).1 = mi.1.cls) (hin : mi.1.name = "<init>") (hty : zty ci k = ty) (hn : ∀ E, narrow ty (cv E v) = cv E v) (hfit : ∀ E, fits ty (cv E v) = true) (hfs : fs.set k v = fs') (kk : J mi d mc ms sz0 scr Q (pc + 3) zs st (pre ++ (.inl (ci, fs') :: ns)) cells slots) : J mi d mc ms sz0 scr Q pc zs (v :: zr N :: st) (pre ++ (.inl (ci, fs) :: ns)) cells slots := by
  subst hfs
  refine J_putF hd hf hN1 (app_get hN) hk2 hfin hin hty hn hfit ?_
  rw [app_set hN]
  exact kk
theorem N_newI {n : Int} {M r : Nat} (hd : decode mi.2.1 pc = .ok (.newarray .int, 2)) (hn : n = (M : Int)) (hM : M < 100000000) (hroom : cells + 1 ≤ mc ∧ slots + M ≤ ms) (hN : pre.length = N) (hr : N + B.length = r) (hr1 : r < 1000) (hB : B ++ [.inr (0, M, fun _ => 0)] = B') (kk : J mi d mc ms sz0 scr Q (pc + 2) zs (zr r :: st) (pre ++ B') (cells + 1) (slots + M)) : J mi d mc ms sz0 scr Q pc zs (zi n :: st) (pre ++ B) cells slots := by
  have e : (pre ++ B).length = r := by rw [List.length_append]; omega
  refine J_newI hd hn hM hroom (by omega) ac_I ?_
  rw [e, List.append_assoc, hB]
  exact kk
theorem N_newZ {n : Int} {M r : Nat} (hd : decode mi.2.1 pc = .ok (.newarray .boolean, 2)) (hn : n = (M : Int)) (hM : M < 100000000) (hroom : cells + 1 ≤ mc ∧ slots + M ≤ ms) (hN : pre.length = N) (hr : N + B.length = r) (hr1 : r < 1000) (hB : B ++ [.inr (1, M, fun _ => 0)] = B') (kk : J mi d mc ms sz0 scr Q (pc + 2) zs (zr r :: st) (pre ++ B') (cells + 1) (slots + M)) : J mi d mc ms sz0 scr Q pc zs (zi n :: st) (pre ++ B) cells slots := by
  have e : (pre ++ B).length = r := by rw [List.length_append]; omega
  refine J_newZ hd hn hM hroom (by omega) ac_Z ?_
  rw [e, List.append_assoc, hB]
  exact kk
theorem N_mna {n k : Int} {M K idx r : Nat} (hd : decode mi.2.1 pc = .ok (.multianewarray idx 2, 4)) (hn : n = (M : Int)) (hk : k = (K : Int)) (hM : M < 1000000) (hK : K < 1000000) (hcl : Cond.classLink mi.1.cls idx "[[I" ∈ ztb) (hroom : cells + (1 + M) ≤ mc ∧ slots + (M + M * K) ≤ ms) (hN : pre.length = N) (hr : N + B.length = r) (hr1 : r + M + 1 < 1000) (hB : B ++ (.inr (2, M, fun j => (r : Int) + 1 + j) :: List.replicate M (.inr (0, K, fun _ => 0))) = B') (kk : J mi d mc ms sz0 scr Q (pc + 4) zs (zr r :: st) (pre ++ B') (cells + (1 + M)) (slots + (M + M * K))) : J mi d mc ms sz0 scr Q pc zs (zi k :: zi n :: st) (pre ++ B) cells slots := by
  have e : (pre ++ B).length = r := by rw [List.length_append]; omega
  refine J_mna hd hn hk hM hK hcl hroom (by omega) ac_I ?_
  rw [e, List.append_assoc, hB]
  exact kk
theorem N_iast {w : ZC} {n : Nat} {f : Int → Int} {a v : Int} (hd : decode mi.2.1 pc = .ok (.iastore, 1)) (hN : pre.length = N) (hN1 : N + 1 < 1000) (hn : n < 2147483648) (ha : 0 ≤ a ∧ a < n) (kk : J mi d mc ms sz0 scr Q (pc + 1) zs st (pre ++ (w :: .inr (0, n, zup f a v) :: ns)) cells slots) : J mi d mc ms sz0 scr Q pc zs (zi v :: zi a :: zr (N + 1) :: st) (pre ++ (w :: .inr (0, n, f) :: ns)) cells slots := by
  refine J_iast hd hN1 (app_get1 hN) hn ha ?_
  rw [app_set1 hN]
  exact kk
theorem N_new {h : List ZC} {idx ci n r : Nat} {fs : List ZV} {r0 : vw_C} (hd : decode mi.2.1 pc = .ok (.new idx, 3)) (hr0 : zcl[ci]? = some r0) (hn : r0.2.2 = n) (hcl : Cond.classLink mi.1.cls idx r0.1 ∈ ztb) (hins : Cond.instantiable r0.1 n ∈ ztb) (hini : Cond.initialized r0.1 ∈ ztb) (hfs : ∀ (E : ZE) (j : Nat), j < n → defaultValue (zty ci j) = vp_V (fs.map (cv E)) j) (hroom : cells + 1 ≤ mc ∧ slots + n ≤ ms) (hl : h.length = r) (hr1 : r < 1000) (kk : J mi d mc ms sz0 scr Q (pc + 3) zs (zr r :: st) (h ++ [.inl (ci, fs)]) (cells + 1) (slots + n)) : J mi d mc ms sz0 scr Q pc zs st h cells slots := by
  subst hl
  exact J_new hd hr0 hn hcl hins hini hfs hroom hr1 kk
theorem N_initN {h : List ZC} {mi' : ZMI} {d' mc' ms' idx b : Nat} {rest : List ZV} {h' : List ZC} (hd : decode mi.2.1 pc = .ok (.invokespecial idx, 3)) (hl : zLNI mi.1.cls idx mi') (hret : mi'.2.2.2 = none) (hw : zCW mi' 0) (hb1 : b < 1000) (hc : ZM mi' d' mc' ms' [zr b] h (fun r h2 => r = none ∧ h2 = h')) (hd' : d' + 1 ≤ d) (hcat : zcats rest ≤ 8) (hroom : cells + mc' ≤ mc ∧ slots + ms' ≤ ms) (kk : J mi d mc ms sz0 scr Q (pc + 3) zs rest h' (cells + mc') (slots + ms')) : J mi d mc ms sz0 scr Q pc zs (zr b :: rest) h cells slots := by
  refine J_callNI (za := []) hd hl hret hw rfl hb1 hc hd' hcat hroom (fun r h2 hq => ?_)
  obtain ⟨rfl, rfl⟩ := hq
  exact kk
theorem N_initI {h : List ZC} {mi' : ZMI} {d' mc' ms' idx b : Nat} {rest : List ZV} {h' : List ZC} (hd : decode mi.2.1 pc = .ok (.invokespecial idx, 3)) (hl : zLI mi.1.cls idx mi') (hret : mi'.2.2.2 = none) (hw : zCW mi' 0) (hb1 : b < 1000) (hc : ZM mi' d' mc' ms' [zr b] h (fun r h2 => r = none ∧ h2 = h')) (hd' : d' + 1 ≤ d) (hcat : zcats rest ≤ 8) (hroom : cells + mc' ≤ mc ∧ slots + ms' ≤ ms) (kk : J mi d mc ms sz0 scr Q (pc + 3) zs rest h' (cells + mc') (slots + ms')) : J mi d mc ms sz0 scr Q pc zs (zr b :: rest) h cells slots := by
  refine J_callI (za := []) hd hl hret hw rfl hb1 hc hd' hcat hroom (fun r h2 hq => ?_)
  obtain ⟨rfl, rfl⟩ := hq
  exact kk
end ZCtor
def cL2 (N : Nat) : List ZC := [.inl (2, [zi 0, zi 0, zi 0, zr (N + 1), zr (N + 2), zr (N + 3), zi 0, zi 0, zi 0, zi 0, zr (N + 4), zr (N + 5), zr (N + 6)]), .inr (0, 7, fun _ => 0), .inr (0, 7, fun _ => 0), .inr (0, 7, fun _ => 0), .inr (0, 7, fun _ => 0), .inr (0, 7, fun _ => 0), .inr (0, 7, fun _ => 0)]
def cD2 : List ZV := [zi 0, zi 0, zi 0, zn, zn, zn, zi 0, zi 0, zi 0, zi 0, zn, zn, zn]
theorem i_X2 {pre : List ZC} {N : Nat} (hN : pre.length = N) (hN1 : N < 900) : ZM mX2_init 1 6 42 [zr N] (pre ++ [.inl (2, cD2)]) (fun r h2 => r = none ∧ h2 = pre ++ cL2 N) := by
  refine ZM.ofJ (by decide +kernel) ([zr N]) (zok_all rfl) (Nat.le_of_ble_eq_true rfl) rfl ?_
  unfold cD2
  refine J_al0 dX2_init_0 ?_
  refine J_objInit dX2_init_1 lk_X2_3 (by omega) (Nat.le_of_ble_eq_true rfl) ?_
  refine J_al0 dX2_init_4 ?_
  refine J_iconst dX2_init_5 ?_
  refine N_put (ty := .int) (fs' := [zi 0, zi 0, zi 0, zn, zn, zn, zi 0, zi 0, zi 0, zi 0, zn, zn, zn]) dX2_init_6 fl_X2_9 hN (by omega) (Nat.le_of_ble_eq_true rfl) (fun r hr => by cases hr; rfl) rfl (fun E => rfl) (fun E => rfl) rfl ?_
  refine J_al0 dX2_init_9 ?_
  refine J_iconst dX2_init_10 ?_
  refine N_put (ty := .int) (fs' := [zi 0, zi 0, zi 0, zn, zn, zn, zi 0, zi 0, zi 0, zi 0, zn, zn, zn]) dX2_init_11 fl_X2_15 hN (by omega) (Nat.le_of_ble_eq_true rfl) (fun r hr => by cases hr; rfl) rfl (fun E => rfl) (fun E => rfl) rfl ?_
  refine J_al0 dX2_init_14 ?_
  refine J_iconst dX2_init_15 ?_
  refine N_put (ty := .int) (fs' := [zi 0, zi 0, zi 0, zn, zn, zn, zi 0, zi 0, zi 0, zi 0, zn, zn, zn]) dX2_init_16 fl_X2_18 hN (by omega) (Nat.le_of_ble_eq_true rfl) (fun r hr => by cases hr; rfl) rfl (fun E => rfl) (fun E => rfl) rfl ?_
  refine J_al0 dX2_init_19 ?_
  refine J_bipush dX2_init_20 rfl ?_
  refine N_newI (M := 7) (r := N + 1) (B' := [.inl (2, [zi 0, zi 0, zi 0, zn, zn, zn, zi 0, zi 0, zi 0, zi 0, zn, zn, zn]), .inr (0, 7, fun _ => 0)]) dX2_init_22 rfl (by omega) (by decide) hN rfl (by omega) rfl ?_
  refine N_putF (ty := (.array .int)) (fs' := [zi 0, zi 0, zi 0, zr (N + 1), zn, zn, zi 0, zi 0, zi 0, zi 0, zn, zn, zn]) dX2_init_24 fl_X2_21 hN (by omega) (Nat.le_of_ble_eq_true rfl) (fun r hr => by cases hr; exact ⟨rfl, rfl⟩) rfl rfl (fun E => rfl) (fun E => rfl) rfl ?_
  refine J_al0 dX2_init_27 ?_
  refine J_bipush dX2_init_28 rfl ?_
  refine N_newI (M := 7) (r := N + 2) (B' := [.inl (2, [zi 0, zi 0, zi 0, zr (N + 1), zn, zn, zi 0, zi 0, zi 0, zi 0, zn, zn, zn]), .inr (0, 7, fun _ => 0), .inr (0, 7, fun _ => 0)]) dX2_init_30 rfl (by omega) (by decide) hN rfl (by omega) rfl ?_
  refine N_putF (ty := (.array .int)) (fs' := [zi 0, zi 0, zi 0, zr (N + 1), zr (N + 2), zn, zi 0, zi 0, zi 0, zi 0, zn, zn, zn]) dX2_init_32 fl_X2_25 hN (by omega) (Nat.le_of_ble_eq_true rfl) (fun r hr => by cases hr; exact ⟨rfl, rfl⟩) rfl rfl (fun E => rfl) (fun E => rfl) rfl ?_
  refine J_al0 dX2_init_35 ?_
  refine J_bipush dX2_init_36 rfl ?_
  refine N_newI (M := 7) (r := N + 3) (B' := [.inl (2, [zi 0, zi 0, zi 0, zr (N + 1), zr (N + 2), zn, zi 0, zi 0, zi 0, zi 0, zn, zn, zn]), .inr (0, 7, fun _ => 0), .inr (0, 7, fun _ => 0), .inr (0, 7, fun _ => 0)]) dX2_init_38 rfl (by omega) (by decide) hN rfl (by omega) rfl ?_
  refine N_putF (ty := (.array .int)) (fs' := [zi 0, zi 0, zi 0, zr (N + 1), zr (N + 2), zr (N + 3), zi 0, zi 0, zi 0, zi 0, zn, zn, zn]) dX2_init_40 fl_X2_28 hN (by omega) (Nat.le_of_ble_eq_true rfl) (fun r hr => by cases hr; exact ⟨rfl, rfl⟩) rfl rfl (fun E => rfl) (fun E => rfl) rfl ?_
  refine J_al0 dX2_init_43 ?_
  refine J_iconst dX2_init_44 ?_
  refine N_put (ty := .int) (fs' := [zi 0, zi 0, zi 0, zr (N + 1), zr (N + 2), zr (N + 3), zi 0, zi 0, zi 0, zi 0, zn, zn, zn]) dX2_init_45 fl_X2_31 hN (by omega) (Nat.le_of_ble_eq_true rfl) (fun r hr => by cases hr; rfl) rfl (fun E => rfl) (fun E => rfl) rfl ?_
  refine J_al0 dX2_init_48 ?_
  refine J_iconst dX2_init_49 ?_
  refine N_put (ty := .int) (fs' := [zi 0, zi 0, zi 0, zr (N + 1), zr (N + 2), zr (N + 3), zi 0, zi 0, zi 0, zi 0, zn, zn, zn]) dX2_init_50 fl_X2_34 hN (by omega) (Nat.le_of_ble_eq_true rfl) (fun r hr => by cases hr; rfl) rfl (fun E => rfl) (fun E => rfl) rfl ?_
  refine J_al0 dX2_init_53 ?_
  refine J_iconst dX2_init_54 ?_
  refine N_put (ty := .boolean) (fs' := [zi 0, zi 0, zi 0, zr (N + 1), zr (N + 2), zr (N + 3), zi 0, zi 0, zi 0, zi 0, zn, zn, zn]) dX2_init_55 fl_X2_37 hN (by omega) (Nat.le_of_ble_eq_true rfl) (fun r hr => by cases hr; rfl) rfl (fun E => rfl) (fun E => rfl) rfl ?_
  refine J_al0 dX2_init_58 ?_
  refine J_iconst dX2_init_59 ?_
  refine N_put (ty := .int) (fs' := [zi 0, zi 0, zi 0, zr (N + 1), zr (N + 2), zr (N + 3), zi 0, zi 0, zi 0, zi 0, zn, zn, zn]) dX2_init_60 fl_X2_41 hN (by omega) (Nat.le_of_ble_eq_true rfl) (fun r hr => by cases hr; rfl) rfl (fun E => rfl) (fun E => rfl) rfl ?_
  refine J_al0 dX2_init_63 ?_
  refine J_bipush dX2_init_64 rfl ?_
  refine N_newI (M := 7) (r := N + 4) (B' := [.inl (2, [zi 0, zi 0, zi 0, zr (N + 1), zr (N + 2), zr (N + 3), zi 0, zi 0, zi 0, zi 0, zn, zn, zn]), .inr (0, 7, fun _ => 0), .inr (0, 7, fun _ => 0), .inr (0, 7, fun _ => 0), .inr (0, 7, fun _ => 0)]) dX2_init_66 rfl (by omega) (by decide) hN rfl (by omega) rfl ?_
  refine N_putF (ty := (.array .int)) (fs' := [zi 0, zi 0, zi 0, zr (N + 1), zr (N + 2), zr (N + 3), zi 0, zi 0, zi 0, zi 0, zr (N + 4), zn, zn]) dX2_init_68 fl_X2_44 hN (by omega) (Nat.le_of_ble_eq_true rfl) (fun r hr => by cases hr; exact ⟨rfl, rfl⟩) rfl rfl (fun E => rfl) (fun E => rfl) rfl ?_
  refine J_al0 dX2_init_71 ?_
  refine J_bipush dX2_init_72 rfl ?_
  refine N_newI (M := 7) (r := N + 5) (B' := [.inl (2, [zi 0, zi 0, zi 0, zr (N + 1), zr (N + 2), zr (N + 3), zi 0, zi 0, zi 0, zi 0, zr (N + 4), zn, zn]), .inr (0, 7, fun _ => 0), .inr (0, 7, fun _ => 0), .inr (0, 7, fun _ => 0), .inr (0, 7, fun _ => 0), .inr (0, 7, fun _ => 0)]) dX2_init_74 rfl (by omega) (by decide) hN rfl (by omega) rfl ?_
  refine N_putF (ty := (.array .int)) (fs' := [zi 0, zi 0, zi 0, zr (N + 1), zr (N + 2), zr (N + 3), zi 0, zi 0, zi 0, zi 0, zr (N + 4), zr (N + 5), zn]) dX2_init_76 fl_X2_47 hN (by omega) (Nat.le_of_ble_eq_true rfl) (fun r hr => by cases hr; exact ⟨rfl, rfl⟩) rfl rfl (fun E => rfl) (fun E => rfl) rfl ?_
  refine J_al0 dX2_init_79 ?_
  refine J_bipush dX2_init_80 rfl ?_
  refine N_newI (M := 7) (r := N + 6) (B' := [.inl (2, [zi 0, zi 0, zi 0, zr (N + 1), zr (N + 2), zr (N + 3), zi 0, zi 0, zi 0, zi 0, zr (N + 4), zr (N + 5), zn]), .inr (0, 7, fun _ => 0), .inr (0, 7, fun _ => 0), .inr (0, 7, fun _ => 0), .inr (0, 7, fun _ => 0), .inr (0, 7, fun _ => 0), .inr (0, 7, fun _ => 0)]) dX2_init_82 rfl (by omega) (by decide) hN rfl (by omega) rfl ?_
  refine N_putF (ty := (.array .int)) (fs' := [zi 0, zi 0, zi 0, zr (N + 1), zr (N + 2), zr (N + 3), zi 0, zi 0, zi 0, zi 0, zr (N + 4), zr (N + 5), zr (N + 6)]) dX2_init_84 fl_X2_50 hN (by omega) (Nat.le_of_ble_eq_true rfl) (fun r hr => by cases hr; exact ⟨rfl, rfl⟩) rfl rfl (fun E => rfl) (fun E => rfl) rfl ?_
  exact J_vret dX2_init_87 rfl rfl (Nat.le_refl _) ⟨rfl, rfl⟩
def cL4 (N : Nat) : List ZC := [.inl (4, [zr (N + 1), zr (N + 2), zr (N + 3), zr (N + 4)]), .inr (1, 8, fun _ => 0), .inr (0, 8, fun _ => 0), .inr (0, 8, fun _ => 0), .inr (2, 8, fun j => ((N + 4 : Nat) : Int) + 1 + j), .inr (0, 40, fun _ => 0), .inr (0, 40, fun _ => 0), .inr (0, 40, fun _ => 0), .inr (0, 40, fun _ => 0), .inr (0, 40, fun _ => 0), .inr (0, 40, fun _ => 0), .inr (0, 40, fun _ => 0), .inr (0, 40, fun _ => 0)]
def cD4 : List ZV := [zn, zn, zn, zn]
theorem i_X4 {pre : List ZC} {N : Nat} (hN : pre.length = N) (hN1 : N < 900) : ZM mX4_init 1 12 352 [zr N] (pre ++ [.inl (4, cD4)]) (fun r h2 => r = none ∧ h2 = pre ++ cL4 N) := by
  refine ZM.ofJ (by decide +kernel) ([zr N]) (zok_all rfl) (Nat.le_of_ble_eq_true rfl) rfl ?_
  unfold cD4
  refine J_al0 dX4_init_0 ?_
  refine J_objInit dX4_init_1 lk_X4_1 (by omega) (Nat.le_of_ble_eq_true rfl) ?_
  refine J_al0 dX4_init_4 ?_
  refine J_bipush dX4_init_5 rfl ?_
  refine N_newZ (M := 8) (r := N + 1) (B' := [.inl (4, [zn, zn, zn, zn]), .inr (1, 8, fun _ => 0)]) dX4_init_7 rfl (by omega) (by decide) hN rfl (by omega) rfl ?_
  refine N_putF (ty := (.array .boolean)) (fs' := [zr (N + 1), zn, zn, zn]) dX4_init_9 fl_X4_9 hN (by omega) (Nat.le_of_ble_eq_true rfl) (fun r hr => by cases hr; exact ⟨rfl, rfl⟩) rfl rfl (fun E => rfl) (fun E => rfl) rfl ?_
  refine J_al0 dX4_init_12 ?_
  refine J_bipush dX4_init_13 rfl ?_
  refine N_newI (M := 8) (r := N + 2) (B' := [.inl (4, [zr (N + 1), zn, zn, zn]), .inr (1, 8, fun _ => 0), .inr (0, 8, fun _ => 0)]) dX4_init_15 rfl (by omega) (by decide) hN rfl (by omega) rfl ?_
  refine N_putF (ty := (.array .int)) (fs' := [zr (N + 1), zr (N + 2), zn, zn]) dX4_init_17 fl_X4_13 hN (by omega) (Nat.le_of_ble_eq_true rfl) (fun r hr => by cases hr; exact ⟨rfl, rfl⟩) rfl rfl (fun E => rfl) (fun E => rfl) rfl ?_
  refine J_al0 dX4_init_20 ?_
  refine J_bipush dX4_init_21 rfl ?_
  refine N_newI (M := 8) (r := N + 3) (B' := [.inl (4, [zr (N + 1), zr (N + 2), zn, zn]), .inr (1, 8, fun _ => 0), .inr (0, 8, fun _ => 0), .inr (0, 8, fun _ => 0)]) dX4_init_23 rfl (by omega) (by decide) hN rfl (by omega) rfl ?_
  refine N_putF (ty := (.array .int)) (fs' := [zr (N + 1), zr (N + 2), zr (N + 3), zn]) dX4_init_25 fl_X4_17 hN (by omega) (Nat.le_of_ble_eq_true rfl) (fun r hr => by cases hr; exact ⟨rfl, rfl⟩) rfl rfl (fun E => rfl) (fun E => rfl) rfl ?_
  refine J_al0 dX4_init_28 ?_
  refine J_bipush dX4_init_29 rfl ?_
  refine J_bipush dX4_init_31 rfl ?_
  refine N_mna (M := 8) (K := 40) (r := N + 4) (B' := [.inl (4, [zr (N + 1), zr (N + 2), zr (N + 3), zn]), .inr (1, 8, fun _ => 0), .inr (0, 8, fun _ => 0), .inr (0, 8, fun _ => 0), .inr (2, 8, fun j => ((N + 4 : Nat) : Int) + 1 + j), .inr (0, 40, fun _ => 0), .inr (0, 40, fun _ => 0), .inr (0, 40, fun _ => 0), .inr (0, 40, fun _ => 0), .inr (0, 40, fun _ => 0), .inr (0, 40, fun _ => 0), .inr (0, 40, fun _ => 0), .inr (0, 40, fun _ => 0)]) dX4_init_33 rfl rfl (by omega) (by omega) cl_X4_20 (by decide) hN rfl (by omega) rfl ?_
  refine N_putF (ty := (.array (.array .int))) (fs' := [zr (N + 1), zr (N + 2), zr (N + 3), zr (N + 4)]) dX4_init_37 fl_X4_22 hN (by omega) (Nat.le_of_ble_eq_true rfl) (fun r hr => by cases hr; exact ⟨rfl, rfl⟩) rfl rfl (fun E => rfl) (fun E => rfl) rfl ?_
  exact J_vret dX4_init_40 rfl rfl (Nat.le_refl _) ⟨rfl, rfl⟩
def cL5 (N : Nat) : List ZC := [.inl (5, [zr (N + 1), zi 0, zi 0, zi 0, zi 0]), .inr (0, 100, fun _ => 0)]
def cD5 : List ZV := [zn, zi 0, zi 0, zi 0, zi 0]
theorem i_X5 {pre : List ZC} {N : Nat} (hN : pre.length = N) (hN1 : N < 900) : ZM mX5_init 1 1 100 [zr N] (pre ++ [.inl (5, cD5)]) (fun r h2 => r = none ∧ h2 = pre ++ cL5 N) := by
  refine ZM.ofJ (by decide +kernel) ([zr N]) (zok_all rfl) (Nat.le_of_ble_eq_true rfl) rfl ?_
  unfold cD5
  refine J_al0 dX5_init_0 ?_
  refine J_objInit dX5_init_1 lk_X5_3 (by omega) (Nat.le_of_ble_eq_true rfl) ?_
  refine J_al0 dX5_init_4 ?_
  refine J_bipush dX5_init_5 rfl ?_
  refine N_newI (M := 100) (r := N + 1) (B' := [.inl (5, [zn, zi 0, zi 0, zi 0, zi 0]), .inr (0, 100, fun _ => 0)]) dX5_init_7 rfl (by omega) (by decide) hN rfl (by omega) rfl ?_
  refine N_putF (ty := (.array .int)) (fs' := [zr (N + 1), zi 0, zi 0, zi 0, zi 0]) dX5_init_9 fl_X5_11 hN (by omega) (Nat.le_of_ble_eq_true rfl) (fun r hr => by cases hr; exact ⟨rfl, rfl⟩) rfl rfl (fun E => rfl) (fun E => rfl) rfl ?_
  refine J_al0 dX5_init_12 ?_
  refine J_iconst dX5_init_13 ?_
  refine N_put (ty := .int) (fs' := [zr (N + 1), zi 0, zi 0, zi 0, zi 0]) dX5_init_14 fl_X5_15 hN (by omega) (Nat.le_of_ble_eq_true rfl) (fun r hr => by cases hr; rfl) rfl (fun E => rfl) (fun E => rfl) rfl ?_
  refine J_al0 dX5_init_17 ?_
  refine J_iconst dX5_init_18 ?_
  refine N_put (ty := .int) (fs' := [zr (N + 1), zi 0, zi 0, zi 0, zi 0]) dX5_init_19 fl_X5_19 hN (by omega) (Nat.le_of_ble_eq_true rfl) (fun r hr => by cases hr; rfl) rfl (fun E => rfl) (fun E => rfl) rfl ?_
  refine J_al0 dX5_init_22 ?_
  refine J_iconst dX5_init_23 ?_
  refine N_put (ty := .int) (fs' := [zr (N + 1), zi 0, zi 0, zi 0, zi 0]) dX5_init_24 fl_X5_22 hN (by omega) (Nat.le_of_ble_eq_true rfl) (fun r hr => by cases hr; rfl) rfl (fun E => rfl) (fun E => rfl) rfl ?_
  refine J_al0 dX5_init_27 ?_
  refine J_iconst dX5_init_28 ?_
  refine N_put (ty := .int) (fs' := [zr (N + 1), zi 0, zi 0, zi 0, zi 0]) dX5_init_29 fl_X5_25 hN (by omega) (Nat.le_of_ble_eq_true rfl) (fun r hr => by cases hr; rfl) rfl (fun E => rfl) (fun E => rfl) rfl ?_
  exact J_vret dX5_init_32 rfl rfl (Nat.le_refl _) ⟨rfl, rfl⟩
def cL0 (N : Nat) : List ZC := [.inl (0, [zr (N + 1), zi 0, zi 0]), .inr (2, 24, fun j => ((N + 1 : Nat) : Int) + 1 + j), .inr (0, 25, fun _ => 0), .inr (0, 25, fun _ => 0), .inr (0, 25, fun _ => 0), .inr (0, 25, fun _ => 0), .inr (0, 25, fun _ => 0), .inr (0, 25, fun _ => 0), .inr (0, 25, fun _ => 0), .inr (0, 25, fun _ => 0), .inr (0, 25, fun _ => 0), .inr (0, 25, fun _ => 0), .inr (0, 25, fun _ => 0), .inr (0, 25, fun _ => 0), .inr (0, 25, fun _ => 0), .inr (0, 25, fun _ => 0), .inr (0, 25, fun _ => 0), .inr (0, 25, fun _ => 0), .inr (0, 25, fun _ => 0), .inr (0, 25, fun _ => 0), .inr (0, 25, fun _ => 0), .inr (0, 25, fun _ => 0), .inr (0, 25, fun _ => 0), .inr (0, 25, fun _ => 0), .inr (0, 25, fun _ => 0), .inr (0, 25, fun _ => 0)]
def cD0 : List ZV := [zn, zi 0, zi 0]
theorem i_X0 {pre : List ZC} {N : Nat} (hN : pre.length = N) (hN1 : N < 900) : ZM mX0_init 1 25 624 [zr N] (pre ++ [.inl (0, cD0)]) (fun r h2 => r = none ∧ h2 = pre ++ cL0 N) := by
  refine ZM.ofJ (by decide +kernel) ([zr N]) (zok_all rfl) (Nat.le_of_ble_eq_true rfl) rfl ?_
  unfold cD0
  refine J_al0 dX0_init_0 ?_
  refine J_objInit dX0_init_1 lk_X0_5 (by omega) (Nat.le_of_ble_eq_true rfl) ?_
  refine J_al0 dX0_init_4 ?_
  refine J_bipush dX0_init_5 rfl ?_
  refine J_bipush dX0_init_7 rfl ?_
  refine N_mna (M := 24) (K := 25) (r := N + 1) (B' := [.inl (0, [zn, zi 0, zi 0]), .inr (2, 24, fun j => ((N + 1 : Nat) : Int) + 1 + j), .inr (0, 25, fun _ => 0), .inr (0, 25, fun _ => 0), .inr (0, 25, fun _ => 0), .inr (0, 25, fun _ => 0), .inr (0, 25, fun _ => 0), .inr (0, 25, fun _ => 0), .inr (0, 25, fun _ => 0), .inr (0, 25, fun _ => 0), .inr (0, 25, fun _ => 0), .inr (0, 25, fun _ => 0), .inr (0, 25, fun _ => 0), .inr (0, 25, fun _ => 0), .inr (0, 25, fun _ => 0), .inr (0, 25, fun _ => 0), .inr (0, 25, fun _ => 0), .inr (0, 25, fun _ => 0), .inr (0, 25, fun _ => 0), .inr (0, 25, fun _ => 0), .inr (0, 25, fun _ => 0), .inr (0, 25, fun _ => 0), .inr (0, 25, fun _ => 0), .inr (0, 25, fun _ => 0), .inr (0, 25, fun _ => 0), .inr (0, 25, fun _ => 0)]) dX0_init_9 rfl rfl (by omega) (by omega) cl_X0_11 (by decide) hN rfl (by omega) rfl ?_
  refine N_putF (ty := (.array (.array .int))) (fs' := [zr (N + 1), zi 0, zi 0]) dX0_init_13 fl_X0_13 hN (by omega) (Nat.le_of_ble_eq_true rfl) (fun r hr => by cases hr; exact ⟨rfl, rfl⟩) rfl rfl (fun E => rfl) (fun E => rfl) rfl ?_
  refine J_al0 dX0_init_16 ?_
  refine J_iconst dX0_init_17 ?_
  refine N_put (ty := .int) (fs' := [zr (N + 1), zi 0, zi 0]) dX0_init_18 fl_X0_16 hN (by omega) (Nat.le_of_ble_eq_true rfl) (fun r hr => by cases hr; rfl) rfl (fun E => rfl) (fun E => rfl) rfl ?_
  refine J_al0 dX0_init_21 ?_
  refine J_iconst dX0_init_22 ?_
  refine N_put (ty := .int) (fs' := [zr (N + 1), zi 0, zi 0]) dX0_init_23 fl_X0_20 hN (by omega) (Nat.le_of_ble_eq_true rfl) (fun r hr => by cases hr; rfl) rfl (fun E => rfl) (fun E => rfl) rfl ?_
  exact J_vret dX0_init_26 rfl rfl (Nat.le_refl _) ⟨rfl, rfl⟩
def cL1 (N : Nat) : List ZC := [.inl (1, [zr (N + 1), zi 0]), .inr (0, 16, fun _ => 0)]
def cD1 : List ZV := [zn, zi 0]
theorem i_X1 {pre : List ZC} {N : Nat} (hN : pre.length = N) (hN1 : N < 900) : ZM mX1_init 1 1 16 [zr N] (pre ++ [.inl (1, cD1)]) (fun r h2 => r = none ∧ h2 = pre ++ cL1 N) := by
  refine ZM.ofJ (by decide +kernel) ([zr N]) (zok_all rfl) (Nat.le_of_ble_eq_true rfl) rfl ?_
  unfold cD1
  refine J_al0 dX1_init_0 ?_
  refine J_objInit dX1_init_1 lk_X1_1 (by omega) (Nat.le_of_ble_eq_true rfl) ?_
  refine J_al0 dX1_init_4 ?_
  refine J_bipush dX1_init_5 rfl ?_
  refine N_newI (M := 16) (r := N + 1) (B' := [.inl (1, [zn, zi 0]), .inr (0, 16, fun _ => 0)]) dX1_init_7 rfl (by omega) (by decide) hN rfl (by omega) rfl ?_
  refine N_putF (ty := (.array .int)) (fs' := [zr (N + 1), zi 0]) dX1_init_9 fl_X1_9 hN (by omega) (Nat.le_of_ble_eq_true rfl) (fun r hr => by cases hr; exact ⟨rfl, rfl⟩) rfl rfl (fun E => rfl) (fun E => rfl) rfl ?_
  refine J_al0 dX1_init_12 ?_
  refine J_iconst dX1_init_13 ?_
  refine N_put (ty := .int) (fs' := [zr (N + 1), zi 0]) dX1_init_14 fl_X1_13 hN (by omega) (Nat.le_of_ble_eq_true rfl) (fun r hr => by cases hr; rfl) rfl (fun E => rfl) (fun E => rfl) rfl ?_
  exact J_vret dX1_init_17 rfl rfl (Nat.le_refl _) ⟨rfl, rfl⟩
def cL7 (N : Nat) : List ZC := [.inl (7, [zi 0, zi 0, zr (N + 1), zr (N + 2), zr (N + 3), zr (N + 4), zr (N + 5), zr (N + 6), zr (N + 7), zi 0, zr (N + 8), zi 0, zi 0, zi 0, zi 0, zi 0, zi 0, zi 0, zi 0, zr (N + 9), zr (N + 10), zr (N + 11), zr (N + 12), zr (N + 13), zi 0]), .inr (0, 8, zup (zup (zup (zup (zup (zup (zup (zup (fun _ => 0) 0 (-1)) 1 (-1)) 2 (-1)) 3 (-1)) 4 (-1)) 5 (-1)) 6 (-1)) 7 (-1)), .inr (0, 8, fun _ => 0), .inr (0, 320, fun _ => 0), .inr (0, 50, fun _ => 0), .inr (0, 50, fun _ => 0), .inr (0, 50, fun _ => 0), .inr (0, 1200, fun _ => 0), .inr (0, 100, fun _ => 0), .inr (0, 7, fun _ => 0), .inr (0, 7, fun _ => 0), .inr (1, 2, fun _ => 0), .inr (0, 100, fun _ => 0), .inr (0, 16, fun _ => 0)]
def cD7 : List ZV := [zi 0, zi 0, zn, zn, zn, zn, zn, zn, zn, zi 0, zn, zi 0, zi 0, zi 0, zi 0, zi 0, zi 0, zi 0, zi 0, zn, zn, zn, zn, zn, zi 0]
theorem i_X7 {pre : List ZC} {N : Nat} (hN : pre.length = N) (hN1 : N < 900) : ZM mX7_init 1 13 1918 [zr N] (pre ++ [.inl (7, cD7)]) (fun r h2 => r = none ∧ h2 = pre ++ cL7 N) := by
  refine ZM.ofJ (by decide +kernel) ([zr N]) (zok_all rfl) (Nat.le_of_ble_eq_true rfl) rfl ?_
  unfold cD7
  refine J_al0 dX7_init_0 ?_
  refine J_objInit dX7_init_1 lk_X7_1 (by omega) (Nat.le_of_ble_eq_true rfl) ?_
  refine J_al0 dX7_init_4 ?_
  refine J_bipush dX7_init_5 rfl ?_
  refine N_newI (M := 8) (r := N + 1) (B' := [.inl (7, [zi 0, zi 0, zn, zn, zn, zn, zn, zn, zn, zi 0, zn, zi 0, zi 0, zi 0, zi 0, zi 0, zi 0, zi 0, zi 0, zn, zn, zn, zn, zn, zi 0]), .inr (0, 8, fun _ => 0)]) dX7_init_7 rfl (by omega) (by decide) hN rfl (by omega) rfl ?_
  refine J_dup dX7_init_9 rfl ?_
  refine J_iconst dX7_init_10 ?_
  refine J_iconst dX7_init_11 ?_
  refine N_iast dX7_init_12 hN (by omega) (by omega) (by omega) ?_
  refine J_dup dX7_init_13 rfl ?_
  refine J_iconst dX7_init_14 ?_
  refine J_iconst dX7_init_15 ?_
  refine N_iast dX7_init_16 hN (by omega) (by omega) (by omega) ?_
  refine J_dup dX7_init_17 rfl ?_
  refine J_iconst dX7_init_18 ?_
  refine J_iconst dX7_init_19 ?_
  refine N_iast dX7_init_20 hN (by omega) (by omega) (by omega) ?_
  refine J_dup dX7_init_21 rfl ?_
  refine J_iconst dX7_init_22 ?_
  refine J_iconst dX7_init_23 ?_
  refine N_iast dX7_init_24 hN (by omega) (by omega) (by omega) ?_
  refine J_dup dX7_init_25 rfl ?_
  refine J_iconst dX7_init_26 ?_
  refine J_iconst dX7_init_27 ?_
  refine N_iast dX7_init_28 hN (by omega) (by omega) (by omega) ?_
  refine J_dup dX7_init_29 rfl ?_
  refine J_iconst dX7_init_30 ?_
  refine J_iconst dX7_init_31 ?_
  refine N_iast dX7_init_32 hN (by omega) (by omega) (by omega) ?_
  refine J_dup dX7_init_33 rfl ?_
  refine J_bipush dX7_init_34 rfl ?_
  refine J_iconst dX7_init_36 ?_
  refine N_iast dX7_init_37 hN (by omega) (by omega) (by omega) ?_
  refine J_dup dX7_init_38 rfl ?_
  refine J_bipush dX7_init_39 rfl ?_
  refine J_iconst dX7_init_41 ?_
  refine N_iast dX7_init_42 hN (by omega) (by omega) (by omega) ?_
  refine N_putF (ty := (.array .int)) (fs' := [zi 0, zi 0, zr (N + 1), zn, zn, zn, zn, zn, zn, zi 0, zn, zi 0, zi 0, zi 0, zi 0, zi 0, zi 0, zi 0, zi 0, zn, zn, zn, zn, zn, zi 0]) dX7_init_43 fl_X7_7 hN (by omega) (Nat.le_of_ble_eq_true rfl) (fun r hr => by cases hr; exact ⟨rfl, rfl⟩) rfl rfl (fun E => rfl) (fun E => rfl) rfl ?_
  refine J_al0 dX7_init_46 ?_
  refine J_bipush dX7_init_47 rfl ?_
  refine N_newI (M := 8) (r := N + 2) (B' := [.inl (7, [zi 0, zi 0, zr (N + 1), zn, zn, zn, zn, zn, zn, zi 0, zn, zi 0, zi 0, zi 0, zi 0, zi 0, zi 0, zi 0, zi 0, zn, zn, zn, zn, zn, zi 0]), .inr (0, 8, zup (zup (zup (zup (zup (zup (zup (zup (fun _ => 0) 0 (-1)) 1 (-1)) 2 (-1)) 3 (-1)) 4 (-1)) 5 (-1)) 6 (-1)) 7 (-1)), .inr (0, 8, fun _ => 0)]) dX7_init_49 rfl (by omega) (by decide) hN rfl (by omega) rfl ?_
  refine N_putF (ty := (.array .int)) (fs' := [zi 0, zi 0, zr (N + 1), zr (N + 2), zn, zn, zn, zn, zn, zi 0, zn, zi 0, zi 0, zi 0, zi 0, zi 0, zi 0, zi 0, zi 0, zn, zn, zn, zn, zn, zi 0]) dX7_init_51 fl_X7_13 hN (by omega) (Nat.le_of_ble_eq_true rfl) (fun r hr => by cases hr; exact ⟨rfl, rfl⟩) rfl rfl (fun E => rfl) (fun E => rfl) rfl ?_
  refine J_al0 dX7_init_54 ?_
  refine J_sipush dX7_init_55 rfl ?_
  refine N_newI (M := 320) (r := N + 3) (B' := [.inl (7, [zi 0, zi 0, zr (N + 1), zr (N + 2), zn, zn, zn, zn, zn, zi 0, zn, zi 0, zi 0, zi 0, zi 0, zi 0, zi 0, zi 0, zi 0, zn, zn, zn, zn, zn, zi 0]), .inr (0, 8, zup (zup (zup (zup (zup (zup (zup (zup (fun _ => 0) 0 (-1)) 1 (-1)) 2 (-1)) 3 (-1)) 4 (-1)) 5 (-1)) 6 (-1)) 7 (-1)), .inr (0, 8, fun _ => 0), .inr (0, 320, fun _ => 0)]) dX7_init_58 rfl (by omega) (by decide) hN rfl (by omega) rfl ?_
  refine N_putF (ty := (.array .int)) (fs' := [zi 0, zi 0, zr (N + 1), zr (N + 2), zr (N + 3), zn, zn, zn, zn, zi 0, zn, zi 0, zi 0, zi 0, zi 0, zi 0, zi 0, zi 0, zi 0, zn, zn, zn, zn, zn, zi 0]) dX7_init_60 fl_X7_16 hN (by omega) (Nat.le_of_ble_eq_true rfl) (fun r hr => by cases hr; exact ⟨rfl, rfl⟩) rfl rfl (fun E => rfl) (fun E => rfl) rfl ?_
  refine J_al0 dX7_init_63 ?_
  refine J_bipush dX7_init_64 rfl ?_
  refine N_newI (M := 50) (r := N + 4) (B' := [.inl (7, [zi 0, zi 0, zr (N + 1), zr (N + 2), zr (N + 3), zn, zn, zn, zn, zi 0, zn, zi 0, zi 0, zi 0, zi 0, zi 0, zi 0, zi 0, zi 0, zn, zn, zn, zn, zn, zi 0]), .inr (0, 8, zup (zup (zup (zup (zup (zup (zup (zup (fun _ => 0) 0 (-1)) 1 (-1)) 2 (-1)) 3 (-1)) 4 (-1)) 5 (-1)) 6 (-1)) 7 (-1)), .inr (0, 8, fun _ => 0), .inr (0, 320, fun _ => 0), .inr (0, 50, fun _ => 0)]) dX7_init_66 rfl (by omega) (by decide) hN rfl (by omega) rfl ?_
  refine N_putF (ty := (.array .int)) (fs' := [zi 0, zi 0, zr (N + 1), zr (N + 2), zr (N + 3), zr (N + 4), zn, zn, zn, zi 0, zn, zi 0, zi 0, zi 0, zi 0, zi 0, zi 0, zi 0, zi 0, zn, zn, zn, zn, zn, zi 0]) dX7_init_68 fl_X7_19 hN (by omega) (Nat.le_of_ble_eq_true rfl) (fun r hr => by cases hr; exact ⟨rfl, rfl⟩) rfl rfl (fun E => rfl) (fun E => rfl) rfl ?_
  refine J_al0 dX7_init_71 ?_
  refine J_bipush dX7_init_72 rfl ?_
  refine N_newI (M := 50) (r := N + 5) (B' := [.inl (7, [zi 0, zi 0, zr (N + 1), zr (N + 2), zr (N + 3), zr (N + 4), zn, zn, zn, zi 0, zn, zi 0, zi 0, zi 0, zi 0, zi 0, zi 0, zi 0, zi 0, zn, zn, zn, zn, zn, zi 0]), .inr (0, 8, zup (zup (zup (zup (zup (zup (zup (zup (fun _ => 0) 0 (-1)) 1 (-1)) 2 (-1)) 3 (-1)) 4 (-1)) 5 (-1)) 6 (-1)) 7 (-1)), .inr (0, 8, fun _ => 0), .inr (0, 320, fun _ => 0), .inr (0, 50, fun _ => 0), .inr (0, 50, fun _ => 0)]) dX7_init_74 rfl (by omega) (by decide) hN rfl (by omega) rfl ?_
  refine N_putF (ty := (.array .int)) (fs' := [zi 0, zi 0, zr (N + 1), zr (N + 2), zr (N + 3), zr (N + 4), zr (N + 5), zn, zn, zi 0, zn, zi 0, zi 0, zi 0, zi 0, zi 0, zi 0, zi 0, zi 0, zn, zn, zn, zn, zn, zi 0]) dX7_init_76 fl_X7_22 hN (by omega) (Nat.le_of_ble_eq_true rfl) (fun r hr => by cases hr; exact ⟨rfl, rfl⟩) rfl rfl (fun E => rfl) (fun E => rfl) rfl ?_
  refine J_al0 dX7_init_79 ?_
  refine J_bipush dX7_init_80 rfl ?_
  refine N_newI (M := 50) (r := N + 6) (B' := [.inl (7, [zi 0, zi 0, zr (N + 1), zr (N + 2), zr (N + 3), zr (N + 4), zr (N + 5), zn, zn, zi 0, zn, zi 0, zi 0, zi 0, zi 0, zi 0, zi 0, zi 0, zi 0, zn, zn, zn, zn, zn, zi 0]), .inr (0, 8, zup (zup (zup (zup (zup (zup (zup (zup (fun _ => 0) 0 (-1)) 1 (-1)) 2 (-1)) 3 (-1)) 4 (-1)) 5 (-1)) 6 (-1)) 7 (-1)), .inr (0, 8, fun _ => 0), .inr (0, 320, fun _ => 0), .inr (0, 50, fun _ => 0), .inr (0, 50, fun _ => 0), .inr (0, 50, fun _ => 0)]) dX7_init_82 rfl (by omega) (by decide) hN rfl (by omega) rfl ?_
  refine N_putF (ty := (.array .int)) (fs' := [zi 0, zi 0, zr (N + 1), zr (N + 2), zr (N + 3), zr (N + 4), zr (N + 5), zr (N + 6), zn, zi 0, zn, zi 0, zi 0, zi 0, zi 0, zi 0, zi 0, zi 0, zi 0, zn, zn, zn, zn, zn, zi 0]) dX7_init_84 fl_X7_25 hN (by omega) (Nat.le_of_ble_eq_true rfl) (fun r hr => by cases hr; exact ⟨rfl, rfl⟩) rfl rfl (fun E => rfl) (fun E => rfl) rfl ?_
  refine J_al0 dX7_init_87 ?_
  refine J_sipush dX7_init_88 rfl ?_
  refine N_newI (M := 1200) (r := N + 7) (B' := [.inl (7, [zi 0, zi 0, zr (N + 1), zr (N + 2), zr (N + 3), zr (N + 4), zr (N + 5), zr (N + 6), zn, zi 0, zn, zi 0, zi 0, zi 0, zi 0, zi 0, zi 0, zi 0, zi 0, zn, zn, zn, zn, zn, zi 0]), .inr (0, 8, zup (zup (zup (zup (zup (zup (zup (zup (fun _ => 0) 0 (-1)) 1 (-1)) 2 (-1)) 3 (-1)) 4 (-1)) 5 (-1)) 6 (-1)) 7 (-1)), .inr (0, 8, fun _ => 0), .inr (0, 320, fun _ => 0), .inr (0, 50, fun _ => 0), .inr (0, 50, fun _ => 0), .inr (0, 50, fun _ => 0), .inr (0, 1200, fun _ => 0)]) dX7_init_91 rfl (by omega) (by decide) hN rfl (by omega) rfl ?_
  refine N_putF (ty := (.array .int)) (fs' := [zi 0, zi 0, zr (N + 1), zr (N + 2), zr (N + 3), zr (N + 4), zr (N + 5), zr (N + 6), zr (N + 7), zi 0, zn, zi 0, zi 0, zi 0, zi 0, zi 0, zi 0, zi 0, zi 0, zn, zn, zn, zn, zn, zi 0]) dX7_init_93 fl_X7_28 hN (by omega) (Nat.le_of_ble_eq_true rfl) (fun r hr => by cases hr; exact ⟨rfl, rfl⟩) rfl rfl (fun E => rfl) (fun E => rfl) rfl ?_
  refine J_al0 dX7_init_96 ?_
  refine J_bipush dX7_init_97 rfl ?_
  refine N_newI (M := 100) (r := N + 8) (B' := [.inl (7, [zi 0, zi 0, zr (N + 1), zr (N + 2), zr (N + 3), zr (N + 4), zr (N + 5), zr (N + 6), zr (N + 7), zi 0, zn, zi 0, zi 0, zi 0, zi 0, zi 0, zi 0, zi 0, zi 0, zn, zn, zn, zn, zn, zi 0]), .inr (0, 8, zup (zup (zup (zup (zup (zup (zup (zup (fun _ => 0) 0 (-1)) 1 (-1)) 2 (-1)) 3 (-1)) 4 (-1)) 5 (-1)) 6 (-1)) 7 (-1)), .inr (0, 8, fun _ => 0), .inr (0, 320, fun _ => 0), .inr (0, 50, fun _ => 0), .inr (0, 50, fun _ => 0), .inr (0, 50, fun _ => 0), .inr (0, 1200, fun _ => 0), .inr (0, 100, fun _ => 0)]) dX7_init_99 rfl (by omega) (by decide) hN rfl (by omega) rfl ?_
  refine N_putF (ty := (.array .int)) (fs' := [zi 0, zi 0, zr (N + 1), zr (N + 2), zr (N + 3), zr (N + 4), zr (N + 5), zr (N + 6), zr (N + 7), zi 0, zr (N + 8), zi 0, zi 0, zi 0, zi 0, zi 0, zi 0, zi 0, zi 0, zn, zn, zn, zn, zn, zi 0]) dX7_init_101 fl_X7_31 hN (by omega) (Nat.le_of_ble_eq_true rfl) (fun r hr => by cases hr; exact ⟨rfl, rfl⟩) rfl rfl (fun E => rfl) (fun E => rfl) rfl ?_
  refine J_al0 dX7_init_104 ?_
  refine J_bipush dX7_init_105 rfl ?_
  refine N_newI (M := 7) (r := N + 9) (B' := [.inl (7, [zi 0, zi 0, zr (N + 1), zr (N + 2), zr (N + 3), zr (N + 4), zr (N + 5), zr (N + 6), zr (N + 7), zi 0, zr (N + 8), zi 0, zi 0, zi 0, zi 0, zi 0, zi 0, zi 0, zi 0, zn, zn, zn, zn, zn, zi 0]), .inr (0, 8, zup (zup (zup (zup (zup (zup (zup (zup (fun _ => 0) 0 (-1)) 1 (-1)) 2 (-1)) 3 (-1)) 4 (-1)) 5 (-1)) 6 (-1)) 7 (-1)), .inr (0, 8, fun _ => 0), .inr (0, 320, fun _ => 0), .inr (0, 50, fun _ => 0), .inr (0, 50, fun _ => 0), .inr (0, 50, fun _ => 0), .inr (0, 1200, fun _ => 0), .inr (0, 100, fun _ => 0), .inr (0, 7, fun _ => 0)]) dX7_init_107 rfl (by omega) (by decide) hN rfl (by omega) rfl ?_
  refine N_putF (ty := (.array .int)) (fs' := [zi 0, zi 0, zr (N + 1), zr (N + 2), zr (N + 3), zr (N + 4), zr (N + 5), zr (N + 6), zr (N + 7), zi 0, zr (N + 8), zi 0, zi 0, zi 0, zi 0, zi 0, zi 0, zi 0, zi 0, zr (N + 9), zn, zn, zn, zn, zi 0]) dX7_init_109 fl_X7_34 hN (by omega) (Nat.le_of_ble_eq_true rfl) (fun r hr => by cases hr; exact ⟨rfl, rfl⟩) rfl rfl (fun E => rfl) (fun E => rfl) rfl ?_
  refine J_al0 dX7_init_112 ?_
  refine J_bipush dX7_init_113 rfl ?_
  refine N_newI (M := 7) (r := N + 10) (B' := [.inl (7, [zi 0, zi 0, zr (N + 1), zr (N + 2), zr (N + 3), zr (N + 4), zr (N + 5), zr (N + 6), zr (N + 7), zi 0, zr (N + 8), zi 0, zi 0, zi 0, zi 0, zi 0, zi 0, zi 0, zi 0, zr (N + 9), zn, zn, zn, zn, zi 0]), .inr (0, 8, zup (zup (zup (zup (zup (zup (zup (zup (fun _ => 0) 0 (-1)) 1 (-1)) 2 (-1)) 3 (-1)) 4 (-1)) 5 (-1)) 6 (-1)) 7 (-1)), .inr (0, 8, fun _ => 0), .inr (0, 320, fun _ => 0), .inr (0, 50, fun _ => 0), .inr (0, 50, fun _ => 0), .inr (0, 50, fun _ => 0), .inr (0, 1200, fun _ => 0), .inr (0, 100, fun _ => 0), .inr (0, 7, fun _ => 0), .inr (0, 7, fun _ => 0)]) dX7_init_115 rfl (by omega) (by decide) hN rfl (by omega) rfl ?_
  refine N_putF (ty := (.array .int)) (fs' := [zi 0, zi 0, zr (N + 1), zr (N + 2), zr (N + 3), zr (N + 4), zr (N + 5), zr (N + 6), zr (N + 7), zi 0, zr (N + 8), zi 0, zi 0, zi 0, zi 0, zi 0, zi 0, zi 0, zi 0, zr (N + 9), zr (N + 10), zn, zn, zn, zi 0]) dX7_init_117 fl_X7_37 hN (by omega) (Nat.le_of_ble_eq_true rfl) (fun r hr => by cases hr; exact ⟨rfl, rfl⟩) rfl rfl (fun E => rfl) (fun E => rfl) rfl ?_
  refine J_al0 dX7_init_120 ?_
  refine J_iconst dX7_init_121 ?_
  refine N_newZ (M := 2) (r := N + 11) (B' := [.inl (7, [zi 0, zi 0, zr (N + 1), zr (N + 2), zr (N + 3), zr (N + 4), zr (N + 5), zr (N + 6), zr (N + 7), zi 0, zr (N + 8), zi 0, zi 0, zi 0, zi 0, zi 0, zi 0, zi 0, zi 0, zr (N + 9), zr (N + 10), zn, zn, zn, zi 0]), .inr (0, 8, zup (zup (zup (zup (zup (zup (zup (zup (fun _ => 0) 0 (-1)) 1 (-1)) 2 (-1)) 3 (-1)) 4 (-1)) 5 (-1)) 6 (-1)) 7 (-1)), .inr (0, 8, fun _ => 0), .inr (0, 320, fun _ => 0), .inr (0, 50, fun _ => 0), .inr (0, 50, fun _ => 0), .inr (0, 50, fun _ => 0), .inr (0, 1200, fun _ => 0), .inr (0, 100, fun _ => 0), .inr (0, 7, fun _ => 0), .inr (0, 7, fun _ => 0), .inr (1, 2, fun _ => 0)]) dX7_init_122 rfl (by omega) (by decide) hN rfl (by omega) rfl ?_
  refine N_putF (ty := (.array .boolean)) (fs' := [zi 0, zi 0, zr (N + 1), zr (N + 2), zr (N + 3), zr (N + 4), zr (N + 5), zr (N + 6), zr (N + 7), zi 0, zr (N + 8), zi 0, zi 0, zi 0, zi 0, zi 0, zi 0, zi 0, zi 0, zr (N + 9), zr (N + 10), zr (N + 11), zn, zn, zi 0]) dX7_init_124 fl_X7_40 hN (by omega) (Nat.le_of_ble_eq_true rfl) (fun r hr => by cases hr; exact ⟨rfl, rfl⟩) rfl rfl (fun E => rfl) (fun E => rfl) rfl ?_
  refine J_al0 dX7_init_127 ?_
  refine J_bipush dX7_init_128 rfl ?_
  refine N_newI (M := 100) (r := N + 12) (B' := [.inl (7, [zi 0, zi 0, zr (N + 1), zr (N + 2), zr (N + 3), zr (N + 4), zr (N + 5), zr (N + 6), zr (N + 7), zi 0, zr (N + 8), zi 0, zi 0, zi 0, zi 0, zi 0, zi 0, zi 0, zi 0, zr (N + 9), zr (N + 10), zr (N + 11), zn, zn, zi 0]), .inr (0, 8, zup (zup (zup (zup (zup (zup (zup (zup (fun _ => 0) 0 (-1)) 1 (-1)) 2 (-1)) 3 (-1)) 4 (-1)) 5 (-1)) 6 (-1)) 7 (-1)), .inr (0, 8, fun _ => 0), .inr (0, 320, fun _ => 0), .inr (0, 50, fun _ => 0), .inr (0, 50, fun _ => 0), .inr (0, 50, fun _ => 0), .inr (0, 1200, fun _ => 0), .inr (0, 100, fun _ => 0), .inr (0, 7, fun _ => 0), .inr (0, 7, fun _ => 0), .inr (1, 2, fun _ => 0), .inr (0, 100, fun _ => 0)]) dX7_init_130 rfl (by omega) (by decide) hN rfl (by omega) rfl ?_
  refine N_putF (ty := (.array .int)) (fs' := [zi 0, zi 0, zr (N + 1), zr (N + 2), zr (N + 3), zr (N + 4), zr (N + 5), zr (N + 6), zr (N + 7), zi 0, zr (N + 8), zi 0, zi 0, zi 0, zi 0, zi 0, zi 0, zi 0, zi 0, zr (N + 9), zr (N + 10), zr (N + 11), zr (N + 12), zn, zi 0]) dX7_init_132 fl_X7_44 hN (by omega) (Nat.le_of_ble_eq_true rfl) (fun r hr => by cases hr; exact ⟨rfl, rfl⟩) rfl rfl (fun E => rfl) (fun E => rfl) rfl ?_
  refine J_al0 dX7_init_135 ?_
  refine J_bipush dX7_init_136 rfl ?_
  refine N_newI (M := 16) (r := N + 13) (B' := [.inl (7, [zi 0, zi 0, zr (N + 1), zr (N + 2), zr (N + 3), zr (N + 4), zr (N + 5), zr (N + 6), zr (N + 7), zi 0, zr (N + 8), zi 0, zi 0, zi 0, zi 0, zi 0, zi 0, zi 0, zi 0, zr (N + 9), zr (N + 10), zr (N + 11), zr (N + 12), zn, zi 0]), .inr (0, 8, zup (zup (zup (zup (zup (zup (zup (zup (fun _ => 0) 0 (-1)) 1 (-1)) 2 (-1)) 3 (-1)) 4 (-1)) 5 (-1)) 6 (-1)) 7 (-1)), .inr (0, 8, fun _ => 0), .inr (0, 320, fun _ => 0), .inr (0, 50, fun _ => 0), .inr (0, 50, fun _ => 0), .inr (0, 50, fun _ => 0), .inr (0, 1200, fun _ => 0), .inr (0, 100, fun _ => 0), .inr (0, 7, fun _ => 0), .inr (0, 7, fun _ => 0), .inr (1, 2, fun _ => 0), .inr (0, 100, fun _ => 0), .inr (0, 16, fun _ => 0)]) dX7_init_138 rfl (by omega) (by decide) hN rfl (by omega) rfl ?_
  refine N_putF (ty := (.array .int)) (fs' := [zi 0, zi 0, zr (N + 1), zr (N + 2), zr (N + 3), zr (N + 4), zr (N + 5), zr (N + 6), zr (N + 7), zi 0, zr (N + 8), zi 0, zi 0, zi 0, zi 0, zi 0, zi 0, zi 0, zi 0, zr (N + 9), zr (N + 10), zr (N + 11), zr (N + 12), zr (N + 13), zi 0]) dX7_init_140 fl_X7_47 hN (by omega) (Nat.le_of_ble_eq_true rfl) (fun r hr => by cases hr; exact ⟨rfl, rfl⟩) rfl rfl (fun E => rfl) (fun E => rfl) rfl ?_
  exact J_vret dX7_init_143 rfl rfl (Nat.le_refl _) ⟨rfl, rfl⟩
def bR0 : List ZC := []
def bR1 : List ZC := bR0 ++ cL4 1
def bR2 : List ZC := bR1 ++ cL5 14
def bR3 : List ZC := bR2 ++ cL2 16
def bR4 : List ZC := bR3 ++ cL0 23
def bR5 : List ZC := bR4 ++ cL2 49
def bR6 : List ZC := bR5 ++ cL2 56
def bR7 : List ZC := bR6 ++ cL2 63
def bR8 : List ZC := bR7 ++ cL2 70
def bR9 : List ZC := bR8 ++ cL1 77
def cD6 : List ZV := [zn, zn, zn, zn, zn, zn, zn, zn, zn, zi 0, zi 0]
def cL6 : List ZC := .inl (6, [zr 1, zr 14, zr 16, zr 23, zr 49, zr 56, zr 63, zr 70, zr 77, zi 0, zi 0]) :: bR9
theorem i_X6 : ZM mX6_init 2 78 1381 [zr 0] [.inl (6, cD6)] (fun r h2 => r = none ∧ h2 = cL6) := by
  refine ZM.ofJ (by decide +kernel) ([zr 0]) (zok_all rfl) (Nat.le_of_ble_eq_true rfl) rfl ?_
  unfold cD6
  show J mX6_init 2 78 1381 1 none _ 0 [zr 0] [] (.inl (6, [zn, zn, zn, zn, zn, zn, zn, zn, zn, zi 0, zi 0]) :: bR0) 0 0
  refine J_al0 dX6_init_0 ?_
  refine J_objInit dX6_init_1 lk_X6_1 (by omega) (Nat.le_of_ble_eq_true rfl) ?_
  refine J_al0 dX6_init_4 ?_
  refine N_new (ci := 4) (n := 4) (r := 1) (fs := cD4) dX6_init_5 rfl rfl cl_X6_7 ins_4.1 ins_4.2 (fun E j hj => by rcases (by omega : j = 0 ∨ j = 1 ∨ j = 2 ∨ j = 3) with rfl | rfl | rfl | rfl <;> rfl) (by decide) rfl (by omega) ?_
  refine J_dup dX6_init_8 rfl ?_
  refine N_initN (h' := .inl (6, [zn, zn, zn, zn, zn, zn, zn, zn, zn, zi 0, zi 0]) :: bR1) dX6_init_9 lk_X6_9 rfl cw_X4_init (by omega) (i_X4 (pre := .inl (6, [zn, zn, zn, zn, zn, zn, zn, zn, zn, zi 0, zi 0]) :: bR0) rfl (by omega)) (by omega) (Nat.le_of_ble_eq_true rfl) (by decide) ?_
  refine N_putF (pre := []) (ty := (.object "SunBench$Rows")) (fs' := [zr 1, zn, zn, zn, zn, zn, zn, zn, zn, zi 0, zi 0]) dX6_init_12 fl_X6_10 rfl (by omega) (by decide) (fun r hr => by cases hr; exact ⟨rfl, rfl⟩) rfl rfl (fun E => rfl) (fun E => rfl) rfl ?_
  refine J_al0 dX6_init_15 ?_
  refine N_new (ci := 5) (n := 5) (r := 14) (fs := cD5) dX6_init_16 rfl rfl cl_X6_16 ins_5.1 ins_5.2 (fun E j hj => by rcases (by omega : j = 0 ∨ j = 1 ∨ j = 2 ∨ j = 3 ∨ j = 4) with rfl | rfl | rfl | rfl | rfl <;> rfl) (by decide) rfl (by omega) ?_
  refine J_dup dX6_init_19 rfl ?_
  refine N_initN (h' := .inl (6, [zr 1, zn, zn, zn, zn, zn, zn, zn, zn, zi 0, zi 0]) :: bR2) dX6_init_20 lk_X6_18 rfl cw_X5_init (by omega) (i_X5 (pre := .inl (6, [zr 1, zn, zn, zn, zn, zn, zn, zn, zn, zi 0, zi 0]) :: bR1) rfl (by omega)) (by omega) (Nat.le_of_ble_eq_true rfl) (by decide) ?_
  refine N_putF (pre := []) (ty := (.object "SunBench$Tape")) (fs' := [zr 1, zr 14, zn, zn, zn, zn, zn, zn, zn, zi 0, zi 0]) dX6_init_23 fl_X6_19 rfl (by omega) (by decide) (fun r hr => by cases hr; exact ⟨rfl, rfl⟩) rfl rfl (fun E => rfl) (fun E => rfl) rfl ?_
  refine J_al0 dX6_init_26 ?_
  refine N_new (ci := 2) (n := 13) (r := 16) (fs := cD2) dX6_init_27 rfl rfl cl_X6_23 ins_2.1 ins_2.2 (fun E j hj => by rcases (by omega : j = 0 ∨ j = 1 ∨ j = 2 ∨ j = 3 ∨ j = 4 ∨ j = 5 ∨ j = 6 ∨ j = 7 ∨ j = 8 ∨ j = 9 ∨ j = 10 ∨ j = 11 ∨ j = 12) with rfl | rfl | rfl | rfl | rfl | rfl | rfl | rfl | rfl | rfl | rfl | rfl | rfl <;> rfl) (by decide) rfl (by omega) ?_
  refine J_dup dX6_init_30 rfl ?_
  refine N_initN (h' := .inl (6, [zr 1, zr 14, zn, zn, zn, zn, zn, zn, zn, zi 0, zi 0]) :: bR3) dX6_init_31 lk_X6_25 rfl cw_X2_init (by omega) (i_X2 (pre := .inl (6, [zr 1, zr 14, zn, zn, zn, zn, zn, zn, zn, zi 0, zi 0]) :: bR2) rfl (by omega)) (by omega) (Nat.le_of_ble_eq_true rfl) (by decide) ?_
  refine N_putF (pre := []) (ty := (.object "SunBench$Bench")) (fs' := [zr 1, zr 14, zr 16, zn, zn, zn, zn, zn, zn, zi 0, zi 0]) dX6_init_34 fl_X6_26 rfl (by omega) (by decide) (fun r hr => by cases hr; exact ⟨rfl, rfl⟩) rfl rfl (fun E => rfl) (fun E => rfl) rfl ?_
  refine J_al0 dX6_init_37 ?_
  refine N_new (ci := 0) (n := 3) (r := 23) (fs := cD0) dX6_init_38 rfl rfl cl_X6_30 ins_0.1 ins_0.2 (fun E j hj => by rcases (by omega : j = 0 ∨ j = 1 ∨ j = 2) with rfl | rfl | rfl <;> rfl) (by decide) rfl (by omega) ?_
  refine J_dup dX6_init_41 rfl ?_
  refine N_initN (h' := .inl (6, [zr 1, zr 14, zr 16, zn, zn, zn, zn, zn, zn, zi 0, zi 0]) :: bR4) dX6_init_42 lk_X6_32 rfl cw_X0_init (by omega) (i_X0 (pre := .inl (6, [zr 1, zr 14, zr 16, zn, zn, zn, zn, zn, zn, zi 0, zi 0]) :: bR3) rfl (by omega)) (by omega) (Nat.le_of_ble_eq_true rfl) (by decide) ?_
  refine N_putF (pre := []) (ty := (.object "SunBench$Acts")) (fs' := [zr 1, zr 14, zr 16, zr 23, zn, zn, zn, zn, zn, zi 0, zi 0]) dX6_init_45 fl_X6_33 rfl (by omega) (by decide) (fun r hr => by cases hr; exact ⟨rfl, rfl⟩) rfl rfl (fun E => rfl) (fun E => rfl) rfl ?_
  refine J_al0 dX6_init_48 ?_
  refine N_new (ci := 2) (n := 13) (r := 49) (fs := cD2) dX6_init_49 rfl rfl cl_X6_23 ins_2.1 ins_2.2 (fun E j hj => by rcases (by omega : j = 0 ∨ j = 1 ∨ j = 2 ∨ j = 3 ∨ j = 4 ∨ j = 5 ∨ j = 6 ∨ j = 7 ∨ j = 8 ∨ j = 9 ∨ j = 10 ∨ j = 11 ∨ j = 12) with rfl | rfl | rfl | rfl | rfl | rfl | rfl | rfl | rfl | rfl | rfl | rfl | rfl <;> rfl) (by decide) rfl (by omega) ?_
  refine J_dup dX6_init_52 rfl ?_
  refine N_initN (h' := .inl (6, [zr 1, zr 14, zr 16, zr 23, zn, zn, zn, zn, zn, zi 0, zi 0]) :: bR5) dX6_init_53 lk_X6_25 rfl cw_X2_init (by omega) (i_X2 (pre := .inl (6, [zr 1, zr 14, zr 16, zr 23, zn, zn, zn, zn, zn, zi 0, zi 0]) :: bR4) rfl (by omega)) (by omega) (Nat.le_of_ble_eq_true rfl) (by decide) ?_
  refine N_putF (pre := []) (ty := (.object "SunBench$Bench")) (fs' := [zr 1, zr 14, zr 16, zr 23, zr 49, zn, zn, zn, zn, zi 0, zi 0]) dX6_init_56 fl_X6_37 rfl (by omega) (by decide) (fun r hr => by cases hr; exact ⟨rfl, rfl⟩) rfl rfl (fun E => rfl) (fun E => rfl) rfl ?_
  refine J_al0 dX6_init_59 ?_
  refine N_new (ci := 2) (n := 13) (r := 56) (fs := cD2) dX6_init_60 rfl rfl cl_X6_23 ins_2.1 ins_2.2 (fun E j hj => by rcases (by omega : j = 0 ∨ j = 1 ∨ j = 2 ∨ j = 3 ∨ j = 4 ∨ j = 5 ∨ j = 6 ∨ j = 7 ∨ j = 8 ∨ j = 9 ∨ j = 10 ∨ j = 11 ∨ j = 12) with rfl | rfl | rfl | rfl | rfl | rfl | rfl | rfl | rfl | rfl | rfl | rfl | rfl <;> rfl) (by decide) rfl (by omega) ?_
  refine J_dup dX6_init_63 rfl ?_
  refine N_initN (h' := .inl (6, [zr 1, zr 14, zr 16, zr 23, zr 49, zn, zn, zn, zn, zi 0, zi 0]) :: bR6) dX6_init_64 lk_X6_25 rfl cw_X2_init (by omega) (i_X2 (pre := .inl (6, [zr 1, zr 14, zr 16, zr 23, zr 49, zn, zn, zn, zn, zi 0, zi 0]) :: bR5) rfl (by omega)) (by omega) (Nat.le_of_ble_eq_true rfl) (by decide) ?_
  refine N_putF (pre := []) (ty := (.object "SunBench$Bench")) (fs' := [zr 1, zr 14, zr 16, zr 23, zr 49, zr 56, zn, zn, zn, zi 0, zi 0]) dX6_init_67 fl_X6_40 rfl (by omega) (by decide) (fun r hr => by cases hr; exact ⟨rfl, rfl⟩) rfl rfl (fun E => rfl) (fun E => rfl) rfl ?_
  refine J_al0 dX6_init_70 ?_
  refine N_new (ci := 2) (n := 13) (r := 63) (fs := cD2) dX6_init_71 rfl rfl cl_X6_23 ins_2.1 ins_2.2 (fun E j hj => by rcases (by omega : j = 0 ∨ j = 1 ∨ j = 2 ∨ j = 3 ∨ j = 4 ∨ j = 5 ∨ j = 6 ∨ j = 7 ∨ j = 8 ∨ j = 9 ∨ j = 10 ∨ j = 11 ∨ j = 12) with rfl | rfl | rfl | rfl | rfl | rfl | rfl | rfl | rfl | rfl | rfl | rfl | rfl <;> rfl) (by decide) rfl (by omega) ?_
  refine J_dup dX6_init_74 rfl ?_
  refine N_initN (h' := .inl (6, [zr 1, zr 14, zr 16, zr 23, zr 49, zr 56, zn, zn, zn, zi 0, zi 0]) :: bR7) dX6_init_75 lk_X6_25 rfl cw_X2_init (by omega) (i_X2 (pre := .inl (6, [zr 1, zr 14, zr 16, zr 23, zr 49, zr 56, zn, zn, zn, zi 0, zi 0]) :: bR6) rfl (by omega)) (by omega) (Nat.le_of_ble_eq_true rfl) (by decide) ?_
  refine N_putF (pre := []) (ty := (.object "SunBench$Bench")) (fs' := [zr 1, zr 14, zr 16, zr 23, zr 49, zr 56, zr 63, zn, zn, zi 0, zi 0]) dX6_init_78 fl_X6_43 rfl (by omega) (by decide) (fun r hr => by cases hr; exact ⟨rfl, rfl⟩) rfl rfl (fun E => rfl) (fun E => rfl) rfl ?_
  refine J_al0 dX6_init_81 ?_
  refine N_new (ci := 2) (n := 13) (r := 70) (fs := cD2) dX6_init_82 rfl rfl cl_X6_23 ins_2.1 ins_2.2 (fun E j hj => by rcases (by omega : j = 0 ∨ j = 1 ∨ j = 2 ∨ j = 3 ∨ j = 4 ∨ j = 5 ∨ j = 6 ∨ j = 7 ∨ j = 8 ∨ j = 9 ∨ j = 10 ∨ j = 11 ∨ j = 12) with rfl | rfl | rfl | rfl | rfl | rfl | rfl | rfl | rfl | rfl | rfl | rfl | rfl <;> rfl) (by decide) rfl (by omega) ?_
  refine J_dup dX6_init_85 rfl ?_
  refine N_initN (h' := .inl (6, [zr 1, zr 14, zr 16, zr 23, zr 49, zr 56, zr 63, zn, zn, zi 0, zi 0]) :: bR8) dX6_init_86 lk_X6_25 rfl cw_X2_init (by omega) (i_X2 (pre := .inl (6, [zr 1, zr 14, zr 16, zr 23, zr 49, zr 56, zr 63, zn, zn, zi 0, zi 0]) :: bR7) rfl (by omega)) (by omega) (Nat.le_of_ble_eq_true rfl) (by decide) ?_
  refine N_putF (pre := []) (ty := (.object "SunBench$Bench")) (fs' := [zr 1, zr 14, zr 16, zr 23, zr 49, zr 56, zr 63, zr 70, zn, zi 0, zi 0]) dX6_init_89 fl_X6_46 rfl (by omega) (by decide) (fun r hr => by cases hr; exact ⟨rfl, rfl⟩) rfl rfl (fun E => rfl) (fun E => rfl) rfl ?_
  refine J_al0 dX6_init_92 ?_
  refine N_new (ci := 1) (n := 2) (r := 77) (fs := cD1) dX6_init_93 rfl rfl cl_X6_49 ins_1.1 ins_1.2 (fun E j hj => by rcases (by omega : j = 0 ∨ j = 1) with rfl | rfl <;> rfl) (by decide) rfl (by omega) ?_
  refine J_dup dX6_init_96 rfl ?_
  refine N_initN (h' := .inl (6, [zr 1, zr 14, zr 16, zr 23, zr 49, zr 56, zr 63, zr 70, zn, zi 0, zi 0]) :: bR9) dX6_init_97 lk_X6_51 rfl cw_X1_init (by omega) (i_X1 (pre := .inl (6, [zr 1, zr 14, zr 16, zr 23, zr 49, zr 56, zr 63, zr 70, zn, zi 0, zi 0]) :: bR8) rfl (by omega)) (by omega) (Nat.le_of_ble_eq_true rfl) (by decide) ?_
  refine N_putF (pre := []) (ty := (.object "SunBench$Asks")) (fs' := [zr 1, zr 14, zr 16, zr 23, zr 49, zr 56, zr 63, zr 70, zr 77, zi 0, zi 0]) dX6_init_100 fl_X6_52 rfl (by omega) (by decide) (fun r hr => by cases hr; exact ⟨rfl, rfl⟩) rfl rfl (fun E => rfl) (fun E => rfl) rfl ?_
  refine J_al0 dX6_init_103 ?_
  refine J_iconst dX6_init_104 ?_
  refine N_put (pre := []) (ty := .int) (fs' := [zr 1, zr 14, zr 16, zr 23, zr 49, zr 56, zr 63, zr 70, zr 77, zi 0, zi 0]) dX6_init_105 fl_X6_56 rfl (by omega) (by decide) (fun r hr => by cases hr; rfl) rfl (fun E => rfl) (fun E => rfl) rfl ?_
  refine J_al0 dX6_init_108 ?_
  refine J_iconst dX6_init_109 ?_
  refine N_put (pre := []) (ty := .int) (fs' := [zr 1, zr 14, zr 16, zr 23, zr 49, zr 56, zr 63, zr 70, zr 77, zi 0, zi 0]) dX6_init_110 fl_X6_60 rfl (by omega) (by decide) (fun r hr => by cases hr; rfl) rfl (fun E => rfl) (fun E => rfl) rfl ?_
  exact J_vret dX6_init_113 rfl rfl (Nat.le_refl _) ⟨rfl, rfl⟩
def lane0 : Int → Int := zup (zup (zup (zup (zup (zup (zup (zup (fun _ => 0) 0 (-1)) 1 (-1)) 2 (-1)) 3 (-1)) 4 (-1)) 5 (-1)) 6 (-1)) 7 (-1)
def mem0 : ZMem := fun q => if q = 80 then lane0 else fun _ => 0
theorem hp0 : cL6 ++ cL7 79 = hp mem0 := rfl
