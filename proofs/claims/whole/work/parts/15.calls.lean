/-! CALLS -/
def zcats (st : List ZV) : Nat := (st.map zcat).sum
theorem zcats_cv (E : ZE) (st : List ZV) : ((st.map (cv E)).map fun v => v.category).sum = zcats st := by
  unfold zcats
  rw [List.map_map]
  congr 1
  apply List.map_congr_left
  intro v _
  exact cv_cat E v
/-- what a callee's tables must hold -/
def zCW (mi : ZMI) (n : Nat) : Prop := Cond.code mi.1 mi.2.1 mi.2.2.1 mi.2.2.2 ∈ ztb ∧ Cond.initialized mi.1.cls ∈ ztb ∧ (mi.1.cls ≠ "java/lang/invoke/MethodHandle" ∧ mi.1.cls ≠ "java/lang/invoke/VarHandle" ∧ (parseMethodDescriptor mi.1.desc).map (fun d => d.parameters.length) = some n) ∧ mi.2.2.1 ≤ 45
def zLS (own : String) (idx : Nat) (mi : ZMI) : Prop := Cond.methodLink own idx mi.1 ∈ ztb ∧ Cond.static mi.1 ∈ ztb
def zLV (own : String) (idx : Nat) (mi : ZMI) : Prop := Cond.methodLink own idx mi.1 ∈ ztb ∧ Cond.instanceMethod mi.1 ∈ ztb ∧ Cond.selects mi.1.cls mi.1 mi.1 ∈ ztb
def zLI (own : String) (idx : Nat) (mi : ZMI) : Prop := Cond.methodLink own idx mi.1 ∈ ztb ∧ Cond.instanceMethod mi.1 ∈ ztb ∧ mi.1.name = "<init>"
def zLNS (own : String) (idx : Nat) (mi : ZMI) : Prop := Cond.methodLinkNest own idx mi.1 RX6 ∈ znest ∧ Cond.static mi.1 ∈ ztb
def zLNI (own : String) (idx : Nat) (mi : ZMI) : Prop := Cond.methodLinkNest own idx mi.1 RX6 ∈ znest ∧ Cond.instanceMethod mi.1 ∈ ztb ∧ mi.1.name = "<init>"
section ZCall
variable {p : Program} {l : Launch} {e : Env} {R : Room} {s : State} {m : MethodId} {args : Array Value} {below : List Frame} {meth : Method} {c : Code} {H : Heap} {locs : List Loc} {cells slots : Nat} {Q : State → Prop}
theorem z_call {E : ZE} {pc n mc ms : Nat} {ls : Array Slot} {st0 rest : List Value} {a : Array Value} {Q' : Option ZV → List ZC → Prop} (hr : va_Run p l e R s m args below meth c H locs cells slots mc ms (F0 m pc ls st0) rest (zQ E n Q' a) (zA E)) (hS : va_S (zA E) s.heap H locs)
    (kk : ∀ (r : Option ZV) (h : List ZC) (H1 : Heap) (locs1 : List Loc), Q' r h → h.length = n → va_P (zD E) zcl (zw E h) H1 → va_S (zA E) s.heap H1 locs1 → W p l e R s m args below meth c H1 locs1 (cells + mc) (slots + ms) Q (F0 m (pc + 3) ls ((r.map (cv E)).toList ++ rest))) : W p l e R s m args below meth c H locs cells slots Q (F0 m pc ls st0) := by
  intro T hT X
  obtain ⟨v, st₀, t, T', L, h0, X', hL, e1, e2, ⟨⟨r, h, hv, hq, hn, hP⟩, hz, hk⟩, st⟩ := hr T hT X
  cases hv
  rw [h0] at hz hk
  obtain ⟨t2, a1, b1⟩ := kk r h T'.heap (locs ++ L) hq hn (by rw [e1]; exact hP)
    ⟨Nat.le_trans hS.1 (by rw [e1]; exact hz), fun q h1 h2 => by rw [e1, hk q (Nat.lt_of_lt_of_le h1 hS.1) h2]; exact hS.2.1 q h1 h2, fun q hq => by
      rcases List.mem_append.mp hq with h | h
      · exact hS.2.2 q h
      · exact hL q h⟩ T' rfl X'
  exact ⟨t2, st t2 a1, b1⟩
end ZCall
theorem zmap_rev (E : ZE) (za rest : List ZV) : (za.reverse ++ rest).map (cv E) = (za.map (cv E)).reverse ++ rest.map (cv E) := by
  rw [List.map_append, List.map_reverse]
theorem zret_map (E : ZE) (r : Option ZV) (rest : List ZV) : (r.toList ++ rest).map (cv E) = (r.map (cv E)).toList ++ rest.map (cv E) := by
  cases r <;> rfl
section ZC
variable {mi : ZMI} {d mc ms sz0 : Nat} {scr : Option (Nat × (Int → Int))} {Q : Option ZV → List ZC → Prop} {pc : Nat} {zs st : List ZV} {h : List ZC} {cells slots : Nat}
theorem zCW.callB {mi' : ZMI} {n d' mc' ms' idx : Nat} {own : String} {s : State} {args : Array Value} (hw : zCW mi' n) (hd' : d' + 1 ≤ d) (hts : ∀ w ∈ ztb, w.before args s = true) (hl : Cond.methodLink own idx mi'.1 ∈ ztb) : CallB (rmd d mc ms) s args own idx mi'.1 mi'.2.1 mi'.2.2.1 mi'.2.2.2 (Cond.code mi'.1 mi'.2.1 mi'.2.2.1 mi'.2.2.2 :: ztb) (rmd d' mc' ms') mc' ms' n := by
  obtain ⟨h1, h2, h3, h4⟩ := hw
  refine callB_of n hts (ztb_good fun w hw => ?_) rfl rfl rfl (hts _ h2) (hts _ hl) h3 ⟨hd', ?_⟩
  · rcases List.mem_cons.mp hw with rfl | q
    · exact h1
    · exact q
  · show 8 + (mi'.2.2.1 + 11) + 64 * d' ≤ 64 * d
    omega
theorem zCW.callN {mi' : ZMI} {n d' mc' ms' idx : Nat} {own : String} {s : State} {args : Array Value} (hw : zCW mi' n) (hd' : d' + 1 ≤ d) (hts : ∀ w ∈ ztb, w.before args s = true) (hl : va_Nw (.methodLinkNest own idx mi'.1 RX6) s) : va_CN (rmd d mc ms) s args own idx mi'.1 RX6 mi'.2.1 mi'.2.2.1 mi'.2.2.2 (Cond.code mi'.1 mi'.2.1 mi'.2.2.1 mi'.2.2.2 :: ztb) (rmd d' mc' ms') mc' ms' n := by
  obtain ⟨h1, h2, h3, h4⟩ := hw
  refine va_cnB n hts (ztb_good fun w hw => ?_) rfl rfl rfl hl (hts _ h2) h3 ⟨hd', ?_⟩
  · rcases List.mem_cons.mp hw with rfl | q
    · exact h1
    · exact q
  · show 8 + (mi'.2.2.1 + 11) + 64 * d' ≤ 64 * d
    omega
/-- the callee's start -/
theorem zP.of {E : ZE} {za : List ZV} {p : Program} {m : MethodId} {args : Array Value} {meth : Method} {c : Code} {s : State} {H : Heap} {locs : List Loc} (C : zCtx mi sz0 scr E p s m args meth c) (hP : va_P (zD E) zcl (zw E h) H) (hS : va_S (zA E) s.heap H locs) (hz : H.size = E.1 + h.length) : ∀ U : State, U.heap = H → s.WarmedH U.vm → zP E za h (za.map (cv E)).toArray U :=
  fun U hU hW => ⟨rfl, zEnv.warm hW (fun q h1 h2 => by rw [hU]; exact hS.2.1 q h1 h2) C.2.2.2.2.2.2.2.2.1, by rw [hU]; exact hP, by rw [hU]; exact hz⟩
theorem J_callS {mi' : ZMI} {d' mc' ms' idx n : Nat} {za rest : List ZV} {Q' : Option ZV → List ZC → Prop} (hd : decode mi.2.1 pc = .ok (.invokestatic idx, 3)) (hl : zLS mi.1.cls idx mi') (hw : zCW mi' n) (hn : za.length = n) (hc : ZM mi' d' mc' ms' za h Q') (hd' : d' + 1 ≤ d) (hcat : zcats rest ≤ 8) (hroom : cells + mc' ≤ mc ∧ slots + ms' ≤ ms)
    (kk : ∀ (r : Option ZV) (h' : List ZC), Q' r h' → J mi d mc ms sz0 scr Q (pc + 3) zs (r.toList ++ rest) h' (cells + mc') (slots + ms')) : J mi d mc ms sz0 scr Q pc zs (za.reverse ++ rest) h cells slots := by
  intro E p l e s m args below meth c C hl0 H locs ls hP hS hL T hT X
  have hz := zsize hT X hP C.2.2.2.2.2.2.2.2.2.1 hl0
  rw [zmap_rev]
  refine z_call (va_runS (As := za.map (cv E)) (rest := rest.map (cv E)) ⟨C.1, C.2.1, C.2.2.1, C.2.2.2.1, C.2.2.2.2.1⟩ (hc l E) ⟨hw.callB hd' C.2.2.2.2.1 hl.1, C.2.2.2.2.1 _ hl.2⟩ ⟨zP.blind E za h, zP.of C hP hS hz⟩ rfl (by rw [List.length_map]; exact hn) hL.1 rfl (lv_room (by rw [zcats_cv]; exact hcat)) hd hroom) hS (fun r h' H1 locs1 hq hn' hP1 hS1 => ?_) T hT X
  rw [← zret_map]
  exact kk r h' hq E p l e s m args below meth c C (by rw [hn', hl0]; omega) H1 locs1 ls hP1 hS1 hL
theorem J_callNS {mi' : ZMI} {d' mc' ms' idx n : Nat} {za rest : List ZV} {Q' : Option ZV → List ZC → Prop} (hd : decode mi.2.1 pc = .ok (.invokestatic idx, 3)) (hl : zLNS mi.1.cls idx mi') (hw : zCW mi' n) (hn : za.length = n) (hc : ZM mi' d' mc' ms' za h Q') (hd' : d' + 1 ≤ d) (hcat : zcats rest ≤ 8) (hroom : cells + mc' ≤ mc ∧ slots + ms' ≤ ms)
    (kk : ∀ (r : Option ZV) (h' : List ZC), Q' r h' → J mi d mc ms sz0 scr Q (pc + 3) zs (r.toList ++ rest) h' (cells + mc') (slots + ms')) : J mi d mc ms sz0 scr Q pc zs (za.reverse ++ rest) h cells slots := by
  intro E p l e s m args below meth c C hl0 H locs ls hP hS hL T hT X
  have hz := zsize hT X hP C.2.2.2.2.2.2.2.2.2.1 hl0
  rw [zmap_rev]
  refine z_call (va_runSN (As := za.map (cv E)) (rest := rest.map (cv E)) ⟨C.1, C.2.1, C.2.2.1, C.2.2.2.1, C.2.2.2.2.1⟩ (hc l E) ⟨hw.callN hd' C.2.2.2.2.1 (C.2.2.2.2.2.2.2.2.1.2.1 _ hl.1), C.2.2.2.2.1 _ hl.2, trivial⟩ ⟨zP.blind E za h, zP.of C hP hS hz⟩ rfl (by rw [List.length_map]; exact hn) hL.1 rfl (lv_room (by rw [zcats_cv]; exact hcat)) hd hroom) hS (fun r h' H1 locs1 hq hn' hP1 hS1 => ?_) T hT X
  rw [← zret_map]
  exact kk r h' hq E p l e s m args below meth c C (by rw [hn', hl0]; omega) H1 locs1 ls hP1 hS1 hL
theorem J_callV {mi' : ZMI} {d' mc' ms' idx n b ci : Nat} {fs : List ZV} {r0 : vw_C} {za rest : List ZV} {Q' : Option ZV → List ZC → Prop} (hd : decode mi.2.1 pc = .ok (.invokevirtual idx, 3)) (hl : zLV mi.1.cls idx mi') (hw : zCW mi' n) (hn : za.length = n) (hb1 : b < 1000) (hb : h[b]? = some (.inl (ci, fs))) (hr0 : zcl[ci]? = some r0) (hr1 : r0.1 = mi'.1.cls) (hc : ZM mi' d' mc' ms' (zr b :: za) h Q') (hd' : d' + 1 ≤ d) (hcat : zcats rest ≤ 8) (hroom : cells + mc' ≤ mc ∧ slots + ms' ≤ ms)
    (kk : ∀ (r : Option ZV) (h' : List ZC), Q' r h' → J mi d mc ms sz0 scr Q (pc + 3) zs (r.toList ++ rest) h' (cells + mc') (slots + ms')) : J mi d mc ms sz0 scr Q pc zs (za.reverse ++ zr b :: rest) h cells slots := by
  intro E p l e s m args below meth c C hl0 H locs ls hP hS hL T hT X
  have hz := zsize hT X hP C.2.2.2.2.2.2.2.2.2.1 hl0
  rw [zmap_rev, zst_r E b rest hb1]
  have hrv := va_recv C.2.2.2.2.2.2.2.2.1.1 hP hr0 (zw_at (E := E) hb)
  rw [hr1] at hrv
  have hcc := hc l E
  have hp0 := zP.of (za := zr b :: za) C hP hS hz
  rw [zst_r E b za hb1] at hp0
  refine z_call (va_runV (As := za.map (cv E)) (b := E.1 + b) (C := mi'.1.cls) (rest := rest.map (cv E)) ⟨C.1, C.2.1, C.2.2.1, C.2.2.2.1, C.2.2.2.2.1⟩ hcc ⟨hw.callB hd' C.2.2.2.2.1 hl.1, C.2.2.2.2.1 _ hl.2.1, C.2.2.2.2.1 _ hl.2.2⟩ ⟨zP.blind E (zr b :: za) h, hrv, hp0⟩ rfl (by rw [List.length_map]; exact hn) hL.1 rfl (lv_room (by rw [zcats_cv]; exact hcat)) hd hroom) hS (fun r h' H1 locs1 hq hn' hP1 hS1 => ?_) T hT X
  rw [← zret_map]
  exact kk r h' hq E p l e s m args below meth c C (by rw [hn', hl0]; omega) H1 locs1 ls hP1 hS1 hL
/-- a method of the constant text -/
theorem J_callK {mi' : ZMI} {d' mc' ms' idx n : Nat} {za rest : List ZV} {Q' : Option ZV → List ZC → Prop} (hd : decode mi.2.1 pc = .ok (.invokevirtual idx, 3)) (hl : zLV mi.1.cls idx mi') (hw : zCW mi' n) (hn : za.length = n) (hk : mi'.1.cls = "java/lang/String") (hc : ZM mi' d' mc' ms' (zr 1003 :: za) h Q') (hd' : d' + 1 ≤ d) (hcat : zcats rest ≤ 8) (hroom : cells + mc' ≤ mc ∧ slots + ms' ≤ ms)
    (kk : ∀ (r : Option ZV) (h' : List ZC), Q' r h' → J mi d mc ms sz0 scr Q (pc + 3) zs (r.toList ++ rest) h' (cells + mc') (slots + ms')) : J mi d mc ms sz0 scr Q pc zs (za.reverse ++ zr 1003 :: rest) h cells slots := by
  intro E p l e s m args below meth c C hl0 H locs ls hP hS hL T hT X
  have hz := zsize hT X hP C.2.2.2.2.2.2.2.2.2.1 hl0
  rw [zmap_rev, List.map_cons, cv_r]
  have hrv : ∃ cell : Cell, H[zad E 1003]? = some cell ∧ cell.vm.isStatics = false ∧ s.vm.findClass mi'.1.cls = some cell.cls := by
    obtain ⟨cell, q1, q2, q3, q4⟩ := C.2.2.2.2.2.2.2.2.1.2.2.2.2.2.2.1
    exact ⟨cell, by rw [hS.2.1 _ (Array.getElem?_eq_some_iff.mp q1).1 q4]; exact q1, q2, by rw [hk]; exact q3⟩
  have hcc := hc l E
  have hp0 := zP.of (za := zr 1003 :: za) C hP hS hz
  rw [List.map_cons, cv_r] at hp0
  refine z_call (va_runV (As := za.map (cv E)) (b := zad E 1003) (C := mi'.1.cls) (rest := rest.map (cv E)) ⟨C.1, C.2.1, C.2.2.1, C.2.2.2.1, C.2.2.2.2.1⟩ hcc ⟨hw.callB hd' C.2.2.2.2.1 hl.1, C.2.2.2.2.1 _ hl.2.1, C.2.2.2.2.1 _ hl.2.2⟩ ⟨zP.blind E (zr 1003 :: za) h, hrv, hp0⟩ rfl (by rw [List.length_map]; exact hn) hL.1 rfl (lv_room (by rw [zcats_cv]; exact hcat)) hd hroom) hS (fun r h' H1 locs1 hq hn' hP1 hS1 => ?_) T hT X
  rw [← zret_map]
  exact kk r h' hq E p l e s m args below meth c C (by rw [hn', hl0]; omega) H1 locs1 ls hP1 hS1 hL
/-- constructors -/
theorem J_callI {mi' : ZMI} {d' mc' ms' idx n b : Nat} {za rest : List ZV} {Q' : Option ZV → List ZC → Prop} (hd : decode mi.2.1 pc = .ok (.invokespecial idx, 3)) (hl : zLI mi.1.cls idx mi') (hret : mi'.2.2.2 = none) (hw : zCW mi' n) (hn : za.length = n) (hb1 : b < 1000) (hc : ZM mi' d' mc' ms' (zr b :: za) h Q') (hd' : d' + 1 ≤ d) (hcat : zcats rest ≤ 8) (hroom : cells + mc' ≤ mc ∧ slots + ms' ≤ ms)
    (kk : ∀ (r : Option ZV) (h' : List ZC), Q' r h' → J mi d mc ms sz0 scr Q (pc + 3) zs (r.toList ++ rest) h' (cells + mc') (slots + ms')) : J mi d mc ms sz0 scr Q pc zs (za.reverse ++ zr b :: rest) h cells slots := by
  intro E p l e s m args below meth c C hl0 H locs ls hP hS hL T hT X
  have hz := zsize hT X hP C.2.2.2.2.2.2.2.2.2.1 hl0
  rw [zmap_rev, zst_r E b rest hb1]
  have hcc := hc l E
  have hp0 := zP.of (za := zr b :: za) C hP hS hz
  rw [zst_r E b za hb1] at hp0
  have hcb := hw.callB (mc := mc) (ms := ms) (mc' := mc') (ms' := ms') hd' C.2.2.2.2.1 hl.1
  rw [hret] at hcb hcc
  refine z_call (va_runI (As := za.map (cv E)) (b := E.1 + b) (rest := rest.map (cv E)) ⟨C.1, C.2.1, C.2.2.1, C.2.2.2.1, C.2.2.2.2.1⟩ hcc ⟨hcb, hl.2.2, C.2.2.2.2.1 _ hl.2.1⟩ ⟨zP.blind E (zr b :: za) h, hp0⟩ rfl (by rw [List.length_map]; exact hn) hL.1 rfl (lv_room (by rw [zcats_cv]; exact hcat)) hd hroom) hS (fun r h' H1 locs1 hq hn' hP1 hS1 => ?_) T hT X
  rw [← zret_map]
  exact kk r h' hq E p l e s m args below meth c C (by rw [hn', hl0]; omega) H1 locs1 ls hP1 hS1 hL
theorem J_callNI {mi' : ZMI} {d' mc' ms' idx n b : Nat} {za rest : List ZV} {Q' : Option ZV → List ZC → Prop} (hd : decode mi.2.1 pc = .ok (.invokespecial idx, 3)) (hl : zLNI mi.1.cls idx mi') (hret : mi'.2.2.2 = none) (hw : zCW mi' n) (hn : za.length = n) (hb1 : b < 1000) (hc : ZM mi' d' mc' ms' (zr b :: za) h Q') (hd' : d' + 1 ≤ d) (hcat : zcats rest ≤ 8) (hroom : cells + mc' ≤ mc ∧ slots + ms' ≤ ms)
    (kk : ∀ (r : Option ZV) (h' : List ZC), Q' r h' → J mi d mc ms sz0 scr Q (pc + 3) zs (r.toList ++ rest) h' (cells + mc') (slots + ms')) : J mi d mc ms sz0 scr Q pc zs (za.reverse ++ zr b :: rest) h cells slots := by
  intro E p l e s m args below meth c C hl0 H locs ls hP hS hL T hT X
  have hz := zsize hT X hP C.2.2.2.2.2.2.2.2.2.1 hl0
  rw [zmap_rev, zst_r E b rest hb1]
  have hcc := hc l E
  have hp0 := zP.of (za := zr b :: za) C hP hS hz
  rw [zst_r E b za hb1] at hp0
  have hcb := hw.callN (mc := mc) (ms := ms) (mc' := mc') (ms' := ms') hd' C.2.2.2.2.1 (C.2.2.2.2.2.2.2.2.1.2.1 _ hl.1)
  rw [hret] at hcb hcc
  refine z_call (va_runIN (As := za.map (cv E)) (b := E.1 + b) (rest := rest.map (cv E)) ⟨C.1, C.2.1, C.2.2.1, C.2.2.2.1, C.2.2.2.2.1⟩ hcc ⟨hcb, hl.2.2, C.2.2.2.2.1 _ hl.2.1⟩ ⟨zP.blind E (zr b :: za) h, hp0⟩ rfl (by rw [List.length_map]; exact hn) hL.1 rfl (lv_room (by rw [zcats_cv]; exact hcat)) hd hroom) hS (fun r h' H1 locs1 hq hn' hP1 hS1 => ?_) T hT X
  rw [← zret_map]
  exact kk r h' hq E p l e s m args below meth c C (by rw [hn', hl0]; omega) H1 locs1 ls hP1 hS1 hL
theorem J_objInit {idx b : Nat} {rest : List ZV} (hd : decode mi.2.1 pc = .ok (.invokespecial idx, 3)) (hl : Cond.methodLink mi.1.cls idx objectInit ∈ ztb ∧ Cond.instanceMethod objectInit ∈ ztb ∧ Cond.code objectInit ⟨#[0xb1]⟩ 1 none ∈ ztb) (hd1 : 1 ≤ d) (hcat : zcats rest ≤ 8) (kk : J mi d mc ms sz0 scr Q (pc + 3) zs rest h cells slots) : J mi d mc ms sz0 scr Q pc zs (zr b :: rest) h cells slots := by
  intro E p l e s m args below meth c C hl0 H locs ls hP hS hL
  refine W.objInit (a := zad E b) (rest := rest.map (cv E)) C.1 C.2.1 C.2.2.2.1 (C.2.2.2.2.1 _ hl.1) (C.2.2.2.2.1 _ hl.2.1) (C.2.2.2.2.1 _ hl.2.2) rfl (hL.1.trans C.2.2.1.symm) rfl hd hd1 ?_ (kk E p l e s m args below meth c C hl0 H locs ls hP hS hL)
  have h1 := lv_room (m := m) (pc := pc) (ls := ls) (rest := (zr b :: rest).map (cv E)) (st := rest.map (cv E)) (by rw [zcats_cv]; exact hcat)
  have h2 : 64 ≤ (rmd d mc ms).locals := by show 64 ≤ 64 * d; omega
  omega
end ZC
