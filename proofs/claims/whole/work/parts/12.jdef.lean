/-! a method: its name, code, locals, answer -/
abbrev ZMI : Type := MethodName × ByteArray × Nat × Option FieldType
def rmd (d mc ms : Nat) : Room := { frames := d, cells := mc, slots := ms, locals := 64 * d }
def zScr (E : ZE) (scr : Option (Nat × (Int → Int))) (U : State) : Prop := match scr with
  | none => True
  | some (n, f) => va_T .int (zad E 1005) n (fun j => .int (Int32.ofInt (f (j : Int)))) (zA E) U U.heap
def zCtx (mi : ZMI) (sz0 : Nat) (scr : Option (Nat × (Int → Int))) (E : ZE) (p : Program) (s : State) (m : MethodId) (args : Array Value) (meth : Method) (c : Code) : Prop :=
  p.tables.exec = Jvm.exec ∧ c.code = mi.2.1 ∧ c.maxLocals = mi.2.2.1 ∧ s.vm.findClass mi.1.cls = some m.cls ∧ (∀ w ∈ ztb, w.before args s = true) ∧ meth.sig.returnType = mi.2.2.2 ∧ meth.locks = false ∧ meth.name = mi.1.name ∧ zEnv E s ∧ s.heap.size = E.1 + sz0 ∧ zScr E scr s
/-- what a method's end says -/
def zQ (E : ZE) (n : Nat) (Q : Option ZV → List ZC → Prop) : Array Value → State → Outcome → State → Prop := fun _ st oc t =>
  (∃ (r : Option ZV) (h : List ZC), oc = .returned (r.map (cv E)) ∧ Q r h ∧ h.length = n ∧ va_P (zD E) zcl (zw E h) t.heap) ∧ va_F (zA E) st t
def zP (E : ZE) (za : List ZV) (h : List ZC) : Array Value → State → Prop := fun v U =>
  v = (za.map (cv E)).toArray ∧ zEnv E U ∧ va_P (zD E) zcl (zw E h) U.heap ∧ U.heap.size = E.1 + h.length
/-- A CONTRACT: from the cells h the method returns, with Q of its answer and of the cells then; mc cells are made -/
def ZM (mi : ZMI) (d mc ms : Nat) (za : List ZV) (h : List ZC) (Q : Option ZV → List ZC → Prop) : Prop :=
  ∀ (l : Launch) (E : ZE), Met l mi.1 (Cond.code mi.1 mi.2.1 mi.2.2.1 mi.2.2.2 :: ztb) (rmd d mc ms) (zP E za h) (zQ E (h.length + mc) Q) mc ms (zA E)
/-- WITHIN A METHOD: from pc, these locals, this stack, these cells, it comes to its end with Q -/
def J (mi : ZMI) (d mc ms sz0 : Nat) (scr : Option (Nat × (Int → Int))) (Q : Option ZV → List ZC → Prop) (pc : Nat) (zs st : List ZV) (h : List ZC) (cells slots : Nat) : Prop :=
  ∀ (E : ZE) (p : Program) (l : Launch) (e : Env) (s : State) (m : MethodId) (args : Array Value) (below : List Frame) (meth : Method) (c : Code), zCtx mi sz0 scr E p s m args meth c → h.length = sz0 + cells →
    ∀ (H : Heap) (locs : List Loc) (ls : Array Slot), va_P (zD E) zcl (zw E h) H → va_S (zA E) s.heap H locs → zL E zs mi.2.2.1 ls →
      W p l e (rmd d mc ms) s m args below meth c H locs cells slots (MQ below (zQ E (sz0 + mc) Q) args s mc ms (zA E)) (F0 m pc ls (st.map (cv E)))
theorem zP.blind (E : ZE) (za : List ZV) (h : List ZC) : FrameBlind (zP E za h) := by
  rintro a U g mk ⟨h1, h2, h3, h4⟩
  exact ⟨h1, zEnv.same (u := U) rfl rfl h2, h3, h4⟩
theorem zent_len (E : ZE) : ∀ (za : List ZV), (∀ v ∈ za, v ≠ zu) → (lg_sl (za.map (cv E))).length = (zent za).length
  | [], _ => rfl
  | v :: l, hz => by
    have ih2 := zent_len E l (fun w hw => hz w (List.mem_cons_of_mem _ hw))
    have e1 : lg_sl ((v :: l).map (cv E)) = (if (cv E v).category = 2 then [.val (cv E v), .second] else [.val (cv E v)]) ++ lg_sl (l.map (cv E)) := by
      rw [List.map_cons]; rfl
    rw [e1, List.length_append, ih2]
    rcases v with a | a | (_ | a) | u
    · show 1 + _ = (_ :: zent l).length; rw [List.length_cons]; omega
    · show 2 + _ = (_ :: zu :: zent l).length; rw [List.length_cons, List.length_cons]; omega
    · show 1 + _ = (_ :: zent l).length; rw [List.length_cons]; omega
    · show 1 + _ = (_ :: zent l).length; rw [List.length_cons]; omega
    · exact absurd (by cases u; rfl) (hz _ List.mem_cons_self)
theorem z_ofW {l : Launch} {y : MethodName} {ws ws' : List Cond} {rm : Room} {Pc : Array Value → State → Prop} {Qc : Array Value → State → Outcome → State → Prop} {mc ms : Nat} {free : Addr → Prop} {cc : ByteArray} {maxL : Nat} {ret : Option FieldType}
    (hy : plainFor y = true) (hw : ws = Cond.code y cc maxL ret :: ws')
    (body : ∀ p e s m args below meth c s₁, BodyLoose p l y (headSpec ws rm) cc maxL ret e s m args below meth c s₁ → c.maxLocals = maxL → Pc args s →
      W p l e (headSpec ws rm).room s m args below meth c s.heap [] 0 0 (MQ below Qc args s mc ms free) (entryFrame m args maxL)) : Met l y ws rm Pc Qc mc ms free := by
  refine MetFree.of_bodySF (code := cc) (maxLocals := maxL) (ret := ret) hy ?_ ?_
  · intro args s m h hn
    obtain ⟨meth, c, h1, h2, h3, h4, h5, h6, -, -⟩ := Cond.code_spec hn (atoms_spec (ws := ws) h _ (by rw [hw]; exact List.mem_cons_self))
    exact ⟨meth, c, h1, h2, h3, h4, h5, h6⟩
  · intro p e s m args below meth c s₁ B hml hP _
    have hh0 : s₁.heap = s.heap := by rw [B.state]; rfl
    obtain ⟨t, a1, o, b1, b2, b3⟩ := body p e s m args below meth c s₁ B hml hP s₁ hh0 (Stand.of_body B)
    exact ⟨t, o, a1, b1, b2, ⟨b3.1, b3.2⟩⟩
/-- the contract out of the body -/
theorem ZM.ofJ {mi : ZMI} {d mc ms : Nat} {za : List ZV} {h : List ZC} {Q : Option ZV → List ZC → Prop} (hy : plainFor mi.1 = true) (zs : List ZV) (hz : ∀ v ∈ za, v ≠ zu) (hl : (zent za).length ≤ mi.2.2.1) (he : zent za ++ List.replicate (mi.2.2.1 - (zent za).length) zu = zs)
    (k : J mi d mc ms h.length none Q 0 zs [] h 0 0) : ZM mi d mc ms za h Q := by
  intro l E
  refine z_ofW (cc := mi.2.1) (maxL := mi.2.2.1) (ret := mi.2.2.2) hy rfl ?_
  intro p e s m args below meth c s₁ B hml hv
  obtain ⟨rfl, hE, hP, hsz⟩ := hv
  have hts := atoms_spec (ws := Cond.code mi.1 mi.2.1 mi.2.2.1 mi.2.2.2 :: ztb) B.pre
  have hown : s.vm.findClass mi.1.cls = some m.cls := findClass_of_methodNamed B.named
  have hin : meth.name = mi.1.name := (name_of_methodNamed B.named B.method).1
  have hlen : (lg_sl (za.map (cv E))).length ≤ mi.2.2.1 := Nat.le_trans (Nat.le_of_eq (zent_len E za hz)) hl
  have hL := lv_entry (za.map (cv E)) (n := mi.2.2.1) hlen
  rw [lg_entry_eq]
  have hL2 : zL E zs mi.2.2.1 ((lg_sl (za.map (cv E)) ++ List.replicate (mi.2.2.1 - (lg_sl (za.map (cv E))).length) Slot.unset).toArray) := by
    subst he
    unfold zL
    rw [zent_pad, zent_args E za 0 hz]
    exact hL
  have kk := k E p l e s m _ below meth c ⟨B.exec, B.bytes, hml, hown, fun w hw => hts w (List.mem_cons_of_mem _ hw), B.returns, B.notSynchronized, hin, hE, hsz, trivial⟩ (by omega) s.heap [] _ hP va_S.rf hL2
  exact kk
/-- the heap's size, while a method runs -/
theorem zsize {E : ZE} {h : List ZC} {p : Program} {l : Launch} {e : Env} {R : Room} {s : State} {m : MethodId} {args : Array Value} {below : List Frame} {meth : Method} {c : Code} {T : State} {H : Heap} {locs : List Loc} {cells slots sz0 : Nat} (hT : T.heap = H) (X : Stand p l e R s m args below meth c T locs cells slots) (hP : va_P (zD E) zcl (zw E h) H) (hs : s.heap.size = E.1 + sz0) (hl : h.length = sz0 + cells) : H.size = E.1 + h.length := by
  have h1 : (T.setVm s.vm).heap.size ≤ s.heap.size + cells := X.same.2.2.1
  have h2 : (T.setVm s.vm).heap = H := hT
  have h0 : s.heap.size ≤ (T.setVm s.vm).heap.size := X.same.2.1
  rw [h2] at h1 h0
  have h3 := zw_size hP (by omega)
  omega
/-! numbers -/
theorem i32_toInt {a : Int} (h : -2147483648 ≤ a ∧ a < 2147483648) : (Int32.ofInt a).toInt = a := by
  rw [Int32.toInt_ofInt, show Int32.size = 4294967296 from rfl, Int.bmod_eq_of_le] <;> omega
theorem i64_toInt {a : Int} (h : -9223372036854775808 ≤ a ∧ a < 9223372036854775808) : (Int64.ofInt a).toInt = a := by
  rw [Int64.toInt_ofInt, show Int64.size = 18446744073709551616 from rfl, Int.bmod_eq_of_le] <;> omega
theorem i32_lt {a b : Int} (ha : -2147483648 ≤ a ∧ a < 2147483648) (hb : -2147483648 ≤ b ∧ b < 2147483648) : Int32.ofInt a < Int32.ofInt b ↔ a < b := by
  rw [Int32.lt_iff_toInt_lt, i32_toInt ha, i32_toInt hb]
theorem i32_le {a b : Int} (ha : -2147483648 ≤ a ∧ a < 2147483648) (hb : -2147483648 ≤ b ∧ b < 2147483648) : Int32.ofInt a ≤ Int32.ofInt b ↔ a ≤ b := by
  rw [Int32.le_iff_toInt_le, i32_toInt ha, i32_toInt hb]
theorem i32_eq {a b : Int} (ha : -2147483648 ≤ a ∧ a < 2147483648) (hb : -2147483648 ≤ b ∧ b < 2147483648) : Int32.ofInt a = Int32.ofInt b ↔ a = b := by
  rw [← Int32.toInt_inj, i32_toInt ha, i32_toInt hb]
theorem i32_0 : Int32.ofInt 0 = 0 := by decide
theorem i32_in {a : Int} {n : Nat} (h0 : 0 ≤ a) (h1 : a < n) (hn : n < 2147483648) : vp_in (Int32.ofInt a) n := by
  rw [vp_in_iff, i32_toInt (by omega)]
  exact ⟨h0, h1⟩
theorem i32_clamp {a : Int} (h0 : 0 ≤ a) (h1 : a < 2147483648) : (Int32.ofInt a).toNatClampNeg = a.toNat := by
  show (Int32.ofInt a).toInt.toNat = _
  rw [i32_toInt (by omega)]
theorem i32_nneg {a : Int} (h0 : 0 ≤ a) (h1 : a < 2147483648) : ¬ Int32.ofInt a < 0 := by
  rw [← i32_0, i32_lt (by omega) (by omega)]
  omega
