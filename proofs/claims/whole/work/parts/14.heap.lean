/-! FIELDS AND ARRAYS -/
def zFL (own : String) (idx ci k : Nat) : Prop := ∃ r : vw_C, zcl[ci]? = some r ∧ k < r.2.2 ∧ Cond.fieldLink own idx (r.2.1 k).1 (r.2.1 k).2.1 (r.2.1 k).2.2.1 ∈ ztb
def zup (f : Int → Int) (a v : Int) : Int → Int := fun j => if j = a then v else f j
theorem zup_s (f : Int → Int) (a v : Int) : zup f a v a = v := if_pos rfl
theorem zup_n {f : Int → Int} {a v j : Int} (h : j ≠ a) : zup f a v j = f j := if_neg h
theorem zup_c {f : Int → Int} {a v : Int} (h0 : 0 ≤ a) (h1 : a < 2147483648) : upd (fun j : Nat => Int32.ofInt (f (j : Int))) (Int32.ofInt a).toNatClampNeg (Int32.ofInt v) = (fun j : Nat => Int32.ofInt (zup f a v (j : Int))) := by
  rw [i32_clamp h0 h1]
  funext j
  unfold upd zup
  by_cases e : j = a.toNat
  · rw [if_pos e, if_pos (by omega)]
  · rw [if_neg e, if_neg (by omega)]
theorem cl_cast {a : Int} (h0 : 0 ≤ a) (h1 : a < 2147483648) : (((Int32.ofInt a).toNatClampNeg : Nat) : Int) = a := by
  rw [i32_clamp h0 h1]; omega
theorem zst_r (E : ZE) (q : Nat) (st : List ZV) (h : q < 1000) : (zr q :: st).map (cv E) = .ref (E.1 + q) :: st.map (cv E) := by
  rw [List.map_cons, cv_r, zad_lt h]
section ZH
variable {mi : ZMI} {d mc ms sz0 : Nat} {scr : Option (Nat × (Int → Int))} {Q : Option ZV → List ZC → Prop} {pc : Nat} {zs st : List ZV} {h : List ZC} {cells slots : Nat}
theorem J_getf {q ci k idx : Nat} {fs : List ZV} {v : ZV} (hd : decode mi.2.1 pc = .ok (.getfield idx, 3)) (hf : zFL mi.1.cls idx ci k) (hq1 : q < 1000) (hq : h[q]? = some (.inl (ci, fs))) (hv : fs[k]? = some v) (kk : J mi d mc ms sz0 scr Q (pc + 3) zs (v :: st) h cells slots) : J mi d mc ms sz0 scr Q pc zs (zr q :: st) h cells slots := by
  intro E p l e s m args below meth c C hl H locs ls hP hS hL
  obtain ⟨r, hr, hk, hlink⟩ := hf
  rw [zst_r E q st hq1]
  exact va_get (D := zD E) (ci := ci) (v := cv E v) (C := r.1) (T := r.2.1) (N := r.2.2) C.1 C.2.1 C.2.2.2.2.1 (zcl_in ci r hr) C.2.2.2.1 C.2.2.2.2.2.2.2.2.1.1 hP q (zw_at hq) hr k hk (C.2.2.2.2.1 _ hlink) (fun _ h9 => h9) (by rw [List.getElem?_map, hv]; rfl) hd (kk E p l e s m args below meth c C hl H locs ls hP hS hL)
theorem J_put {q ci k idx : Nat} {fs : List ZV} {v : ZV} {ty : FieldType} (hd : decode mi.2.1 pc = .ok (.putfield idx, 3)) (hf : zFL mi.1.cls idx ci k) (hq1 : q < 1000) (hq : h[q]? = some (.inl (ci, fs))) (hk2 : k < fs.length) (hfin : ∀ r : vw_C, zcl[ci]? = some r → (r.2.1 k).2.2.2 = false) (hty : zty ci k = ty) (hn : ∀ E, narrow ty (cv E v) = cv E v) (hfit : ∀ E, fits ty (cv E v) = true) (kk : J mi d mc ms sz0 scr Q (pc + 3) zs st (h.set q (.inl (ci, fs.set k v))) cells slots) : J mi d mc ms sz0 scr Q pc zs (v :: zr q :: st) h cells slots := by
  intro E p l e s m args below meth c C hl H locs ls hP hS hL
  obtain ⟨r, hr, hk, hlink⟩ := hf
  rw [List.map_cons, zst_r E q st hq1]
  refine va_put (D := zD E) (ci := ci) (v := cv E v) (ty := ty) (C := r.1) (T := r.2.1) (N := r.2.2) C.1 C.2.1 C.2.2.2.2.1 (zcl_in ci r hr) (zty ci) (zcl_ty ci r hr) (zcl_nm ci r hr) C.2.2.2.1 C.2.2.2.2.2.2.2.2.1.1 hP (zw_D E h) hS q (zw_at hq) hr k hk (C.2.2.2.2.1 _ hlink) (fun _ h9 => h9) (hfin r hr) (by rw [zcl_ty ci r hr k hk, hty]) (hn E) (hfit E) (by rw [List.length_map]; exact hk2) hd (fun H1 locs1 hP1 _ hS1 => ?_)
  rw [← List.map_set] at hP1
  have ee : (E.1 + q, (Sum.inr (ci, (fs.set k v).map (cv E)) : va_E)) = (E.1 + q, ce E (.inl (ci, fs.set k v))) := rfl
  rw [ee, ← zw_set] at hP1
  exact kk E p l e s m args below meth c C (by rw [List.length_set]; exact hl) H1 locs1 ls hP1 hS1 hL
theorem J_putF {q ci k idx : Nat} {fs : List ZV} {v : ZV} {ty : FieldType} (hd : decode mi.2.1 pc = .ok (.putfield idx, 3)) (hf : zFL mi.1.cls idx ci k) (hq1 : q < 1000) (hq : h[q]? = some (.inl (ci, fs))) (hk2 : k < fs.length) (hfin : ∀ r : vw_C, zcl[ci]? = some r → (r.2.1 k).2.2.2 = true ∧ (r.2.1 k).1 = mi.1.cls) (hin : mi.1.name = "<init>") (hty : zty ci k = ty) (hn : ∀ E, narrow ty (cv E v) = cv E v) (hfit : ∀ E, fits ty (cv E v) = true) (kk : J mi d mc ms sz0 scr Q (pc + 3) zs st (h.set q (.inl (ci, fs.set k v))) cells slots) : J mi d mc ms sz0 scr Q pc zs (v :: zr q :: st) h cells slots := by
  intro E p l e s m args below meth c C hl H locs ls hP hS hL
  obtain ⟨r, hr, hk, hlink⟩ := hf
  rw [List.map_cons, zst_r E q st hq1]
  refine va_putF (D := zD E) (ci := ci) (v := cv E v) (ty := ty) (C := r.1) (T := r.2.1) (N := r.2.2) C.1 C.2.1 C.2.2.2.2.1 (zcl_in ci r hr) (zty ci) (zcl_ty ci r hr) (zcl_nm ci r hr) C.2.2.2.1 C.2.2.2.2.2.2.2.2.1.1 hP (zw_D E h) hS q (zw_at hq) hr k hk (C.2.2.2.2.1 _ hlink) (fun _ h9 => h9) (hfin r hr).1 (C.2.2.2.2.2.2.2.1.trans hin) (hfin r hr).2 (by rw [zcl_ty ci r hr k hk, hty]) (hn E) (hfit E) (by rw [List.length_map]; exact hk2) hd (fun H1 locs1 hP1 _ hS1 => ?_)
  rw [← List.map_set] at hP1
  have ee : (E.1 + q, (Sum.inr (ci, (fs.set k v).map (cv E)) : va_E)) = (E.1 + q, ce E (.inl (ci, fs.set k v))) := rfl
  rw [ee, ← zw_set] at hP1
  exact kk E p l e s m args below meth c C (by rw [List.length_set]; exact hl) H1 locs1 ls hP1 hS1 hL
theorem J_iald {q n : Nat} {f : Int → Int} {a : Int} (hd : decode mi.2.1 pc = .ok (.iaload, 1)) (hq1 : q < 1000) (hq : h[q]? = some (.inr (0, n, f))) (hn : n < 2147483648) (ha : 0 ≤ a ∧ a < n) (kk : J mi d mc ms sz0 scr Q (pc + 1) zs (zi (f a) :: st) h cells slots) : J mi d mc ms sz0 scr Q pc zs (zi a :: zr q :: st) h cells slots := by
  intro E p l e s m args below meth c C hl H locs ls hP hS hL
  rw [List.map_cons, zst_r E q st hq1]
  refine va_iald C.1 C.2.1 C.2.2.2.2.2.2.2.2.1.1 hP q 0 (zw_at hq) rfl (i32_in ha.1 ha.2 hn) hd ?_
  rw [cl_cast ha.1 (by omega)]
  exact kk E p l e s m args below meth c C hl H locs ls hP hS hL
theorem J_zald {q n : Nat} {f : Int → Int} {a : Int} (hd : decode mi.2.1 pc = .ok (.baload, 1)) (hq1 : q < 1000) (hq : h[q]? = some (.inr (1, n, f))) (hn : n < 2147483648) (ha : 0 ≤ a ∧ a < n) (kk : J mi d mc ms sz0 scr Q (pc + 1) zs (zi (f a) :: st) h cells slots) : J mi d mc ms sz0 scr Q pc zs (zi a :: zr q :: st) h cells slots := by
  intro E p l e s m args below meth c C hl H locs ls hP hS hL
  rw [List.map_cons, zst_r E q st hq1]
  refine va_zald C.1 C.2.1 C.2.2.2.2.2.2.2.2.1.1 hP q 1 (zw_at hq) rfl (i32_in ha.1 ha.2 hn) hd ?_
  rw [cl_cast ha.1 (by omega)]
  exact kk E p l e s m args below meth c C hl H locs ls hP hS hL
theorem J_aald {q n : Nat} {f : Int → Int} {a : Int} (hd : decode mi.2.1 pc = .ok (.aaload, 1)) (hq1 : q < 1000) (hq : h[q]? = some (.inr (2, n, f))) (hn : n < 2147483648) (ha : 0 ≤ a ∧ a < n) (kk : J mi d mc ms sz0 scr Q (pc + 1) zs (zr (f a).toNat :: st) h cells slots) : J mi d mc ms sz0 scr Q pc zs (zi a :: zr q :: st) h cells slots := by
  intro E p l e s m args below meth c C hl H locs ls hP hS hL
  rw [List.map_cons, zst_r E q st hq1]
  have hP0 := hP q _ (zw_at hq)
  have hin := i32_in ha.1 ha.2 hn
  have hlt : (Int32.ofInt a).toNatClampNeg < n := Nat.not_le.mp fun z => hin (Or.inr z)
  have hKt := (C.2.2.2.2.2.2.2.2.1.1.2 2 (E.2.2.2.1 2, .array .int) rfl).1
  refine W.aald (v := .ref (zad E (f a).toNat)) (ty := .array .int) C.1 C.2.1 hP0 (hKt n (fun j => va_rf (some (zad E (f (j : Int)).toNat)))) rfl (fun z => by cases z) (by show ¬ (Int32.ofInt a < 0 ∨ (arrV _ _ _).slots.size ≤ _); rw [arrV_size]; exact hin) ?_ rfl rfl hd (kk E p l e s m args below meth c C hl H locs ls hP hS hL)
  show (arrV _ _ _).slots[_]? = _
  rw [arrV_read _ _ hlt]
  show some (Value.ref (zad E (f (((Int32.ofInt a).toNatClampNeg : Nat) : Int)).toNat)) = _
  rw [cl_cast ha.1 (by omega)]
theorem J_iast {q n : Nat} {f : Int → Int} {a v : Int} (hd : decode mi.2.1 pc = .ok (.iastore, 1)) (hq1 : q < 1000) (hq : h[q]? = some (.inr (0, n, f))) (hn : n < 2147483648) (ha : 0 ≤ a ∧ a < n) (kk : J mi d mc ms sz0 scr Q (pc + 1) zs st (h.set q (.inr (0, n, zup f a v))) cells slots) : J mi d mc ms sz0 scr Q pc zs (zi v :: zi a :: zr q :: st) h cells slots := by
  intro E p l e s m args below meth c C hl H locs ls hP hS hL
  rw [List.map_cons, List.map_cons, zst_r E q st hq1]
  refine va_iast C.1 C.2.1 C.2.2.2.2.2.2.2.2.1.1 hP (zw_D E h) hS q 0 (zw_at hq) rfl (i32_in ha.1 ha.2 hn) hd (fun H1 locs1 hP1 _ hS1 => ?_)
  rw [zup_c ha.1 (by omega)] at hP1
  have ee : (E.1 + q, (Sum.inl (E.2.2.2.1 0, n, .inl (fun j : Nat => Int32.ofInt (zup f a v (j : Int)))) : va_E)) = (E.1 + q, ce E (.inr (0, n, zup f a v))) := rfl
  rw [ee, ← zw_set] at hP1
  exact kk E p l e s m args below meth c C (by rw [List.length_set]; exact hl) H1 locs1 ls hP1 hS1 hL
theorem J_zast {q n : Nat} {f : Int → Int} {a v : Int} (hd : decode mi.2.1 pc = .ok (.bastore, 1)) (hq1 : q < 1000) (hq : h[q]? = some (.inr (1, n, f))) (hn : n < 2147483648) (ha : 0 ≤ a ∧ a < n) (hv : v = 0 ∨ v = 1) (kk : J mi d mc ms sz0 scr Q (pc + 1) zs st (h.set q (.inr (1, n, zup f a v))) cells slots) : J mi d mc ms sz0 scr Q pc zs (zi v :: zi a :: zr q :: st) h cells slots := by
  intro E p l e s m args below meth c C hl H locs ls hP hS hL
  rw [List.map_cons, List.map_cons, zst_r E q st hq1]
  refine va_zast C.1 C.2.1 C.2.2.2.2.2.2.2.2.1.1 hP (zw_D E h) hS q 1 (zw_at hq) rfl (i32_in ha.1 ha.2 hn) hd (fun H1 locs1 hP1 _ hS1 => ?_)
  rw [show vp_nar .boolean (Int32.ofInt v) = Int32.ofInt v by rcases hv with rfl | rfl <;> rfl, zup_c ha.1 (by omega)] at hP1
  have ee : (E.1 + q, (Sum.inl (E.2.2.2.1 1, n, .inl (fun j : Nat => Int32.ofInt (zup f a v (j : Int)))) : va_E)) = (E.1 + q, ce E (.inr (1, n, zup f a v))) := rfl
  rw [ee, ← zw_set] at hP1
  exact kk E p l e s m args below meth c C (by rw [List.length_set]; exact hl) H1 locs1 ls hP1 hS1 hL
/-! constants -/
theorem J_kald {q n : Nat} {f : Int → Int} {a : Int} (hd : decode mi.2.1 pc = .ok (.iaload, 1)) (hq : zK q = some (.int, n, f)) (hn : n < 2147483648) (ha : 0 ≤ a ∧ a < n) (kk : J mi d mc ms sz0 scr Q (pc + 1) zs (zi (f a) :: st) h cells slots) : J mi d mc ms sz0 scr Q pc zs (zi a :: zr q :: st) h cells slots := by
  intro E p l e s m args below meth c C hl H locs ls hP hS hL
  exact va_ti C.1 C.2.1 (C.2.2.2.2.2.2.2.2.1.2.2.2.2.1 q _ n f hq) hS (i32_in ha.1 ha.2 hn) (v := .int (Int32.ofInt (f a))) (by rw [cl_cast ha.1 (by omega)]) hd (kk E p l e s m args below meth c C hl H locs ls hP hS hL)
theorem J_kbald {q n : Nat} {f : Int → Int} {a : Int} (hd : decode mi.2.1 pc = .ok (.baload, 1)) (hq : zK q = some (.byte, n, f)) (hn : n < 2147483648) (ha : 0 ≤ a ∧ a < n) (kk : J mi d mc ms sz0 scr Q (pc + 1) zs (zi (f a) :: st) h cells slots) : J mi d mc ms sz0 scr Q pc zs (zi a :: zr q :: st) h cells slots := by
  intro E p l e s m args below meth c C hl H locs ls hP hS hL
  exact va_tb C.1 C.2.1 (C.2.2.2.2.2.2.2.2.1.2.2.2.2.1 q _ n f hq) hS (i32_in ha.1 ha.2 hn) (v := .int (Int32.ofInt (f a))) (by rw [cl_cast ha.1 (by omega)]) hd (kk E p l e s m args below meth c C hl H locs ls hP hS hL)
theorem J_klen {q n : Nat} {ty : FieldType} {f : Int → Int} (hd : decode mi.2.1 pc = .ok (.arraylength, 1)) (hq : zK q = some (ty, n, f)) (kk : J mi d mc ms sz0 scr Q (pc + 1) zs (zi (n : Int) :: st) h cells slots) : J mi d mc ms sz0 scr Q pc zs (zr q :: st) h cells slots := by
  intro E p l e s m args below meth c C hl H locs ls hP hS hL
  obtain ⟨cell, h1, h2, h3, h4, h5, h6, h7⟩ := C.2.2.2.2.2.2.2.2.1.2.2.2.2.1 q ty n f hq
  exact W.alen (n := Int32.ofInt (n : Int)) C.1 C.2.1 (by rw [hS.2.1 _ (Array.getElem?_eq_some_iff.mp h1).1 h7]; exact h1) h2 h5 rfl rfl hd (kk E p l e s m args below meth c C hl H locs ls hP hS hL)
theorem J_sald {n : Nat} {f : Int → Int} {a : Int} (hd : decode mi.2.1 pc = .ok (.iaload, 1)) (hn : n < 2147483648) (ha : 0 ≤ a ∧ a < n) (kk : J mi d mc ms sz0 (some (n, f)) Q (pc + 1) zs (zi (f a) :: st) h cells slots) : J mi d mc ms sz0 (some (n, f)) Q pc zs (zi a :: zr 1005 :: st) h cells slots := by
  intro E p l e s m args below meth c C hl H locs ls hP hS hL
  exact va_ti C.1 C.2.1 C.2.2.2.2.2.2.2.2.2.2 hS (i32_in ha.1 ha.2 hn) (v := .int (Int32.ofInt (f a))) (by rw [cl_cast ha.1 (by omega)]) hd (kk E p l e s m args below meth c C hl H locs ls hP hS hL)
theorem J_slen {n : Nat} {f : Int → Int} (hd : decode mi.2.1 pc = .ok (.arraylength, 1)) (kk : J mi d mc ms sz0 (some (n, f)) Q (pc + 1) zs (zi (n : Int) :: st) h cells slots) : J mi d mc ms sz0 (some (n, f)) Q pc zs (zr 1005 :: st) h cells slots := by
  intro E p l e s m args below meth c C hl H locs ls hP hS hL
  obtain ⟨cell, h1, h2, h3, h4, h5, h6, h7⟩ := C.2.2.2.2.2.2.2.2.2.2
  exact W.alen (n := Int32.ofInt (n : Int)) C.1 C.2.1 (by rw [hS.2.1 _ (Array.getElem?_eq_some_iff.mp h1).1 h7]; exact h1) h2 h5 rfl rfl hd (kk E p l e s m args below meth c C hl H locs ls hP hS hL)
theorem J_gets {C0 n0 d0 : String} {v : ZV} {idx : Nat} (hd : decode mi.2.1 pc = .ok (.getstatic idx, 3)) (hm : (C0, n0, d0, v) ∈ zst) (hlink : Cond.fieldLink mi.1.cls idx C0 n0 d0 ∈ ztb) (kk : J mi d mc ms sz0 scr Q (pc + 3) zs (v :: st) h cells slots) : J mi d mc ms sz0 scr Q pc zs st h cells slots := by
  intro E p l e s m args below meth c C hl H locs ls hP hS hL
  exact va_gets (v := cv E v) C.1 C.2.1 (C.2.2.2.2.2.2.2.2.1.2.2.2.1 _ hm) hS C.2.2.2.1 (C.2.2.2.2.1 _ hlink) (fun _ h9 => h9) hd (kk E p l e s m args below meth c C hl H locs ls hP hS hL)
theorem J_getk {n0 d0 : String} {v : ZV} {idx : Nat} (hd : decode mi.2.1 pc = .ok (.getfield idx, 3)) (hm : (n0, d0, v) ∈ ztx) (hlink : Cond.fieldLink mi.1.cls idx "java/lang/String" n0 d0 ∈ ztb) (kk : J mi d mc ms sz0 scr Q (pc + 3) zs (v :: st) h cells slots) : J mi d mc ms sz0 scr Q pc zs (zr 1003 :: st) h cells slots := by
  intro E p l e s m args below meth c C hl H locs ls hP hS hL
  exact vk_getf (v := cv E v) C.1 C.2.1 (C.2.2.2.2.2.2.2.2.1.2.2.2.2.2.2.2 _ hm) hS C.2.2.2.1 (C.2.2.2.2.1 _ hlink) (fun _ h9 => h9) hd (kk E p l e s m args below meth c C hl H locs ls hP hS hL)
theorem J_ldcS (hd : decode mi.2.1 pc = .ok (.ldc 54, 2)) (ho : mi.1.cls = RX5) (kk : J mi d mc ms sz0 scr Q (pc + 2) zs (zr 1003 :: st) h cells slots) : J mi d mc ms sz0 scr Q pc zs st h cells slots := by
  intro E p l e s m args below meth c C hl H locs ls hP hS hL
  exact va_ldcS C.1 C.2.1 (ho ▸ C.2.2.2.1) C.2.2.2.2.2.2.2.2.1.2.2.2.2.2.1 hd (kk E p l e s m args below meth c C hl H locs ls hP hS hL)
end ZH
