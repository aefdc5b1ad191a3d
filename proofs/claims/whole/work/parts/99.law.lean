/-! THE LAW -/
section ZLaw
variable {mi : ZMI} {d mc ms sz0 : Nat} {scr : Option (Nat × (Int → Int))} {Q : Option ZV → List ZC → Prop} {pc : Nat} {zs st : List ZV} {mem : ZMem} {cells slots : Nat}
theorem J_ceqT {h : List ZC} {a : Int} {off : Int} {tgt : Nat} (hd : decode mi.2.1 pc = .ok (.if_icmp .eq off, 3)) (ht : (pc : Int) + off = (tgt : Int)) (kt : J mi d mc ms sz0 scr Q tgt zs st h cells slots) : J mi d mc ms sz0 scr Q pc zs (zi a :: zi a :: st) h cells slots := by
  intro E p l e s m args below meth c C hl H locs ls hP hS hL
  exact lv_icmp_eq C.1 C.2.1 hd ht (fun _ => kt E p l e s m args below meth c C hl H locs ls hP hS hL) (fun q => absurd rfl q)
theorem J_leqT {h : List ZC} {a : Int} {off : Int} {tgt : Nat} (hd : decode mi.2.1 pc = .ok (.lcmp, 1)) (hd2 : decode mi.2.1 (pc + 1) = .ok (.ifCond .eq off, 3)) (ht : ((pc + 1 : Nat) : Int) + off = (tgt : Int)) (kt : J mi d mc ms sz0 scr Q tgt zs st h cells slots) : J mi d mc ms sz0 scr Q pc zs (zl a :: zl a :: st) h cells slots := by
  intro E p l e s m args below meth c C hl H locs ls hP hS hL
  refine W.lcmp C.1 C.2.1 hd ?_
  refine lv_if_eq C.1 C.2.1 hd2 ht (fun _ => kt E p l e s m args below meth c C hl H locs ls hP hS hL) (fun q => absurd ?_ q)
  unfold lg_cmp
  simp
theorem L_cI {mi' : ZMI} {d' idx n b ci : Nat} {sl : List (Option Nat)} {r0 : vw_C} {za rest : List ZV} {post : Int → ZMem → Prop} (hd : decode mi.2.1 pc = .ok (.invokevirtual idx, 3)) (hl : zLV mi.1.cls idx mi') (hw : zCW mi' n) (hn : za.length = n) (hb : shl[b]? = some (.inl (ci, sl))) (hr0 : zcl[ci]? = some r0) (hr1 : r0.1 = mi'.1.cls) (hc : ZM mi' d' 0 0 (zr b :: za) (hp mem) (QI post)) (hd' : d' + 1 ≤ d) (hcat : zcats rest ≤ 8) (hroom : cells ≤ mc ∧ slots ≤ ms)
    (kk : ∀ (v : Int) (mem' : ZMem), post v mem' → J mi d mc ms sz0 scr Q (pc + 3) zs (zi v :: rest) (hp mem') cells slots) : J mi d mc ms sz0 scr Q pc zs (za.reverse ++ zr b :: rest) (hp mem) cells slots := by
  refine J_callV hd hl hw hn (shl_lt hb) (hp_at hb) hr0 hr1 hc hd' hcat hroom (fun r h' hq => ?_)
  obtain ⟨v, mem', rfl, rfl, hq⟩ := hq
  exact kk v mem' hq
theorem L_cL {mi' : ZMI} {d' idx n b ci : Nat} {sl : List (Option Nat)} {r0 : vw_C} {za rest : List ZV} {post : Int → ZMem → Prop} (hd : decode mi.2.1 pc = .ok (.invokevirtual idx, 3)) (hl : zLV mi.1.cls idx mi') (hw : zCW mi' n) (hn : za.length = n) (hb : shl[b]? = some (.inl (ci, sl))) (hr0 : zcl[ci]? = some r0) (hr1 : r0.1 = mi'.1.cls) (hc : ZM mi' d' 0 0 (zr b :: za) (hp mem) (QL post)) (hd' : d' + 1 ≤ d) (hcat : zcats rest ≤ 8) (hroom : cells ≤ mc ∧ slots ≤ ms)
    (kk : ∀ (v : Int) (mem' : ZMem), post v mem' → J mi d mc ms sz0 scr Q (pc + 3) zs (zl v :: rest) (hp mem') cells slots) : J mi d mc ms sz0 scr Q pc zs (za.reverse ++ zr b :: rest) (hp mem) cells slots := by
  refine J_callV hd hl hw hn (shl_lt hb) (hp_at hb) hr0 hr1 hc hd' hcat hroom (fun r h' hq => ?_)
  obtain ⟨v, mem', rfl, rfl, hq⟩ := hq
  exact kk v mem' hq
end ZLaw
theorem MS.frc {mem mem' : ZMem} {S : ZS} (h : MS mem S) (e : FrC mem mem') : MS mem' S := h.ext (fun x _ => by rw [e 79 (by omega)]) (fun q q1 _ _ _ _ _ => e q (by omega))
theorem CS.frm {mem mem' : ZMem} {S : ZS} (h : CS mem S) (e : FrM mem mem') : CS mem' S := by
  obtain ⟨a, b, c, d, f, g, i, j, k⟩ := h
  exact ⟨a.ext (fun q q0 q1 => e q (by omega)), b.ext (by rw [e 14 (by omega)]) (e 15 (by omega)), c.ext (fun q q0 q1 => e q (by omega)), d.ext (fun q q0 q1 => e q (by omega)), f.ext (fun q q0 q1 => e q (by omega)), g.ext (fun q q0 q1 => e q (by omega)), i.ext (fun q q0 q1 => e q (by omega)), by rw [e 0 (by omega)]; exact j, by rw [e 0 (by omega)]; exact k⟩
def mLn (nm : String) : ZMI := (⟨RL, nm, "([I)Z"⟩, cL_law, 4, some .boolean)
abbrev QLw : Option ZV → List ZC → Prop := fun r _ => r = some (zi 1)
abbrev JL (nm : String) (L : Nat) (f : Int → Int) (pc : Nat) (zs st : List ZV) (h : List ZC) (cells slots : Nat) : Prop := J (mLn nm) 16 93 3335 0 (some (L, f)) QLw pc zs st h cells slots
/-- both are in the state S -/
def Bth (mem : ZMem) (S : ZS) : Prop := CS mem S ∧ MS mem S ∧ SInv S
abbrev Nxt (nm : String) (L : Nat) (f : Int → Int) (i : Int) : Prop := ∀ (mem : ZMem) (S : ZS), Bth mem S → JL nm L f 1288 [zr 1005, zr 0, zr 79, zi i] [] (hp mem) 93 3335
theorem law_0 {nm : String} {L : Nat} {f : Int → Int} (hL : L ≤ 384) (hf : ∀ j, In32 (f j)) {i : Int} (hi : 0 ≤ i ∧ i + 6 ≤ L) (nxt : Nxt nm L f i) {mem : ZMem} {S : ZS} (hB : Bth mem S) : JL nm L f 196 [zr 1005, zr 0, zr 79, zi i] [] (hp mem) 93 3335 := by
  obtain ⟨hC, hM, hI⟩ := hB
  refine J_al1 dL_law_196 ?_
  refine J_al0 dL_law_197 ?_
  refine J_il3 dL_law_198 ?_
  refine J_iconst dL_law_199 ?_
  refine J_iadd dL_law_200 ?_
  refine J_sald dL_law_201 (by omega) (by omega) ?_
  refine J_al0 dL_law_202 ?_
  refine J_il3 dL_law_203 ?_
  refine J_iconst dL_law_204 ?_
  refine J_iadd dL_law_205 ?_
  refine J_sald dL_law_206 (by omega) (by omega) ?_
  refine J_al0 dL_law_207 ?_
  refine J_il3 dL_law_208 ?_
  refine J_iconst dL_law_209 ?_
  refine J_iadd dL_law_210 ?_
  refine J_sald dL_law_211 (by omega) (by omega) ?_
  refine L_cI (za := [zi (f (i + 1)), zi (f (i + 2)), zi (f (i + 3))]) dL_law_212 lk_L_13 cw_X6_row rfl sh_0 rfl rfl (c_row hC (hf _) (hf _) (hf _)) (by decide) (Nat.le_of_ble_eq_true rfl) ⟨Nat.le_refl _, Nat.le_refl _⟩ (fun v0 mem0 hq0 => ?_)
  obtain ⟨e0, hC1, hF0⟩ := hq0
  have hM2 := hM.frc hF0
  refine J_al2 dL_law_215 ?_
  refine J_al0 dL_law_216 ?_
  refine J_il3 dL_law_217 ?_
  refine J_iconst dL_law_218 ?_
  refine J_iadd dL_law_219 ?_
  refine J_sald dL_law_220 (by omega) (by omega) ?_
  refine J_al0 dL_law_221 ?_
  refine J_il3 dL_law_222 ?_
  refine J_iconst dL_law_223 ?_
  refine J_iadd dL_law_224 ?_
  refine J_sald dL_law_225 (by omega) (by omega) ?_
  refine J_al0 dL_law_226 ?_
  refine J_il3 dL_law_227 ?_
  refine J_iconst dL_law_228 ?_
  refine J_iadd dL_law_229 ?_
  refine J_sald dL_law_230 (by omega) (by omega) ?_
  refine L_cI (za := [zi (f (i + 1)), zi (f (i + 2)), zi (f (i + 3))]) dL_law_231 lk_L_17 cw_X7_row rfl sh_79 rfl rfl (m_row hM2 (hf _) (hf _) (hf _)) (by decide) (Nat.le_of_ble_eq_true rfl) ⟨Nat.le_refl _, Nat.le_refl _⟩ (fun v1 mem1 hq1 => ?_)
  obtain ⟨e1, hM3, hF1⟩ := hq1
  have hC3 := hC1.frm hF1
  rw [e0, e1]
  refine J_ceqT (tgt := 1288) dL_law_234 rfl ?_
  exact nxt _ _ ⟨hC3, hM3, i_row hI⟩
theorem law_1 {nm : String} {L : Nat} {f : Int → Int} (hL : L ≤ 384) (hf : ∀ j, In32 (f j)) {i : Int} (hi : 0 ≤ i ∧ i + 6 ≤ L) (nxt : Nxt nm L f i) {mem : ZMem} {S : ZS} (hB : Bth mem S) : JL nm L f 239 [zr 1005, zr 0, zr 79, zi i] [] (hp mem) 93 3335 := by
  obtain ⟨hC, hM, hI⟩ := hB
  refine J_al1 dL_law_239 ?_
  refine J_al0 dL_law_240 ?_
  refine J_il3 dL_law_241 ?_
  refine J_iconst dL_law_242 ?_
  refine J_iadd dL_law_243 ?_
  refine J_sald dL_law_244 (by omega) (by omega) ?_
  refine J_al0 dL_law_245 ?_
  refine J_il3 dL_law_246 ?_
  refine J_iconst dL_law_247 ?_
  refine J_iadd dL_law_248 ?_
  refine J_sald dL_law_249 (by omega) (by omega) ?_
  refine J_al0 dL_law_250 ?_
  refine J_il3 dL_law_251 ?_
  refine J_iconst dL_law_252 ?_
  refine J_iadd dL_law_253 ?_
  refine J_sald dL_law_254 (by omega) (by omega) ?_
  refine L_cI (za := [zi (f (i + 1)), zi (f (i + 2)), zi (f (i + 3))]) dL_law_255 lk_L_18 cw_X6_set rfl sh_0 rfl rfl (c_set hC hI (hf _) (hf _) (hf _)) (by decide) (Nat.le_of_ble_eq_true rfl) ⟨Nat.le_refl _, Nat.le_refl _⟩ (fun v0 mem0 hq0 => ?_)
  obtain ⟨e0, hC1, hF0⟩ := hq0
  have hM2 := hM.frc hF0
  refine J_al2 dL_law_258 ?_
  refine J_al0 dL_law_259 ?_
  refine J_il3 dL_law_260 ?_
  refine J_iconst dL_law_261 ?_
  refine J_iadd dL_law_262 ?_
  refine J_sald dL_law_263 (by omega) (by omega) ?_
  refine J_al0 dL_law_264 ?_
  refine J_il3 dL_law_265 ?_
  refine J_iconst dL_law_266 ?_
  refine J_iadd dL_law_267 ?_
  refine J_sald dL_law_268 (by omega) (by omega) ?_
  refine J_al0 dL_law_269 ?_
  refine J_il3 dL_law_270 ?_
  refine J_iconst dL_law_271 ?_
  refine J_iadd dL_law_272 ?_
  refine J_sald dL_law_273 (by omega) (by omega) ?_
  refine L_cI (za := [zi (f (i + 1)), zi (f (i + 2)), zi (f (i + 3))]) dL_law_274 lk_L_21 cw_X7_set rfl sh_79 rfl rfl (m_set hM2 hI (hf _) (hf _) (hf _)) (by decide) (Nat.le_of_ble_eq_true rfl) ⟨Nat.le_refl _, Nat.le_refl _⟩ (fun v1 mem1 hq1 => ?_)
  obtain ⟨e1, hM3, hF1⟩ := hq1
  have hC3 := hC1.frm hF1
  rw [e0, e1]
  refine J_ceqT (tgt := 1288) dL_law_277 rfl ?_
  exact nxt _ _ ⟨hC3, hM3, i_set hI (hf _)⟩
theorem law_2 {nm : String} {L : Nat} {f : Int → Int} (hL : L ≤ 384) (hf : ∀ j, In32 (f j)) {i : Int} (hi : 0 ≤ i ∧ i + 6 ≤ L) (nxt : Nxt nm L f i) {mem : ZMem} {S : ZS} (hB : Bth mem S) : JL nm L f 282 [zr 1005, zr 0, zr 79, zi i] [] (hp mem) 93 3335 := by
  obtain ⟨hC, hM, hI⟩ := hB
  refine J_al1 dL_law_282 ?_
  refine J_al0 dL_law_283 ?_
  refine J_il3 dL_law_284 ?_
  refine J_iconst dL_law_285 ?_
  refine J_iadd dL_law_286 ?_
  refine J_sald dL_law_287 (by omega) (by omega) ?_
  refine J_al0 dL_law_288 ?_
  refine J_il3 dL_law_289 ?_
  refine J_iconst dL_law_290 ?_
  refine J_iadd dL_law_291 ?_
  refine J_sald dL_law_292 (by omega) (by omega) ?_
  refine J_al0 dL_law_293 ?_
  refine J_il3 dL_law_294 ?_
  refine J_iconst dL_law_295 ?_
  refine J_iadd dL_law_296 ?_
  refine J_sald dL_law_297 (by omega) (by omega) ?_
  refine J_al0 dL_law_298 ?_
  refine J_il3 dL_law_299 ?_
  refine J_iconst dL_law_300 ?_
  refine J_iadd dL_law_301 ?_
  refine J_sald dL_law_302 (by omega) (by omega) ?_
  refine J_al0 dL_law_303 ?_
  refine J_il3 dL_law_304 ?_
  refine J_iconst dL_law_305 ?_
  refine J_iadd dL_law_306 ?_
  refine J_sald dL_law_307 (by omega) (by omega) ?_
  refine L_cI (za := [zi (f (i + 1)), zi (f (i + 2)), zi (f (i + 3)), zi (f (i + 4)), zi (f (i + 5))]) dL_law_308 lk_L_22 cw_X6_copy rfl sh_0 rfl rfl (c_copy hC hI (hf _) (hf _) (hf _) (hf _) (hf _)) (by decide) (Nat.le_of_ble_eq_true rfl) ⟨Nat.le_refl _, Nat.le_refl _⟩ (fun v0 mem0 hq0 => ?_)
  obtain ⟨e0, hC1, hF0⟩ := hq0
  have hM2 := hM.frc hF0
  refine J_al2 dL_law_311 ?_
  refine J_al0 dL_law_312 ?_
  refine J_il3 dL_law_313 ?_
  refine J_iconst dL_law_314 ?_
  refine J_iadd dL_law_315 ?_
  refine J_sald dL_law_316 (by omega) (by omega) ?_
  refine J_al0 dL_law_317 ?_
  refine J_il3 dL_law_318 ?_
  refine J_iconst dL_law_319 ?_
  refine J_iadd dL_law_320 ?_
  refine J_sald dL_law_321 (by omega) (by omega) ?_
  refine J_al0 dL_law_322 ?_
  refine J_il3 dL_law_323 ?_
  refine J_iconst dL_law_324 ?_
  refine J_iadd dL_law_325 ?_
  refine J_sald dL_law_326 (by omega) (by omega) ?_
  refine J_al0 dL_law_327 ?_
  refine J_il3 dL_law_328 ?_
  refine J_iconst dL_law_329 ?_
  refine J_iadd dL_law_330 ?_
  refine J_sald dL_law_331 (by omega) (by omega) ?_
  refine J_al0 dL_law_332 ?_
  refine J_il3 dL_law_333 ?_
  refine J_iconst dL_law_334 ?_
  refine J_iadd dL_law_335 ?_
  refine J_sald dL_law_336 (by omega) (by omega) ?_
  refine L_cI (za := [zi (f (i + 1)), zi (f (i + 2)), zi (f (i + 3)), zi (f (i + 4)), zi (f (i + 5))]) dL_law_337 lk_L_26 cw_X7_copy rfl sh_79 rfl rfl (m_copy hM2 hI (hf _) (hf _) (hf _) (hf _) (hf _)) (by decide) (Nat.le_of_ble_eq_true rfl) ⟨Nat.le_refl _, Nat.le_refl _⟩ (fun v1 mem1 hq1 => ?_)
  obtain ⟨e1, hM3, hF1⟩ := hq1
  have hC3 := hC1.frm hF1
  rw [e0, e1]
  refine J_ceqT (tgt := 1288) dL_law_340 rfl ?_
  exact nxt _ _ ⟨hC3, hM3, i_copy hI⟩
theorem law_3 {nm : String} {L : Nat} {f : Int → Int} (hL : L ≤ 384) (hf : ∀ j, In32 (f j)) {i : Int} (hi : 0 ≤ i ∧ i + 6 ≤ L) (nxt : Nxt nm L f i) {mem : ZMem} {S : ZS} (hB : Bth mem S) : JL nm L f 345 [zr 1005, zr 0, zr 79, zi i] [] (hp mem) 93 3335 := by
  obtain ⟨hC, hM, hI⟩ := hB
  refine J_al1 dL_law_345 ?_
  refine J_al0 dL_law_346 ?_
  refine J_il3 dL_law_347 ?_
  refine J_iconst dL_law_348 ?_
  refine J_iadd dL_law_349 ?_
  refine J_sald dL_law_350 (by omega) (by omega) ?_
  refine L_cI (za := [zi (f (i + 1))]) dL_law_351 lk_L_27 cw_X6_drop rfl sh_0 rfl rfl (c_drop hC (hf _)) (by decide) (Nat.le_of_ble_eq_true rfl) ⟨Nat.le_refl _, Nat.le_refl _⟩ (fun v0 mem0 hq0 => ?_)
  obtain ⟨e0, hC1, hF0⟩ := hq0
  have hM2 := hM.frc hF0
  refine J_al2 dL_law_354 ?_
  refine J_al0 dL_law_355 ?_
  refine J_il3 dL_law_356 ?_
  refine J_iconst dL_law_357 ?_
  refine J_iadd dL_law_358 ?_
  refine J_sald dL_law_359 (by omega) (by omega) ?_
  refine L_cI (za := [zi (f (i + 1))]) dL_law_360 lk_L_31 cw_X7_drop rfl sh_79 rfl rfl (m_drop hM2 hI (hf _)) (by decide) (Nat.le_of_ble_eq_true rfl) ⟨Nat.le_refl _, Nat.le_refl _⟩ (fun v1 mem1 hq1 => ?_)
  obtain ⟨e1, hM3, hF1⟩ := hq1
  have hC3 := hC1.frm hF1
  rw [e0, e1]
  refine J_ceqT (tgt := 1288) dL_law_363 rfl ?_
  exact nxt _ _ ⟨hC3, hM3, i_drop hI⟩
theorem law_4 {nm : String} {L : Nat} {f : Int → Int} (hL : L ≤ 384) (hf : ∀ j, In32 (f j)) {i : Int} (hi : 0 ≤ i ∧ i + 6 ≤ L) (nxt : Nxt nm L f i) {mem : ZMem} {S : ZS} (hB : Bth mem S) : JL nm L f 368 [zr 1005, zr 0, zr 79, zi i] [] (hp mem) 93 3335 := by
  obtain ⟨hC, hM, hI⟩ := hB
  refine J_al1 dL_law_368 ?_
  refine J_al0 dL_law_369 ?_
  refine J_il3 dL_law_370 ?_
  refine J_iconst dL_law_371 ?_
  refine J_iadd dL_law_372 ?_
  refine J_sald dL_law_373 (by omega) (by omega) ?_
  refine L_cI (za := [zi (f (i + 1))]) dL_law_374 lk_L_32 cw_X6_feed rfl sh_0 rfl rfl (c_feed hC (hf _)) (by decide) (Nat.le_of_ble_eq_true rfl) ⟨Nat.le_refl _, Nat.le_refl _⟩ (fun v0 mem0 hq0 => ?_)
  obtain ⟨e0, hC1, hF0⟩ := hq0
  have hM2 := hM.frc hF0
  refine J_al2 dL_law_377 ?_
  refine J_al0 dL_law_378 ?_
  refine J_il3 dL_law_379 ?_
  refine J_iconst dL_law_380 ?_
  refine J_iadd dL_law_381 ?_
  refine J_sald dL_law_382 (by omega) (by omega) ?_
  refine L_cI (za := [zi (f (i + 1))]) dL_law_383 lk_L_35 cw_X7_feed rfl sh_79 rfl rfl (m_feed hM2 hI (hf _)) (by decide) (Nat.le_of_ble_eq_true rfl) ⟨Nat.le_refl _, Nat.le_refl _⟩ (fun v1 mem1 hq1 => ?_)
  obtain ⟨e1, hM3, hF1⟩ := hq1
  have hC3 := hC1.frm hF1
  rw [e0, e1]
  refine J_ceqT (tgt := 1288) dL_law_386 rfl ?_
  exact nxt _ _ ⟨hC3, hM3, i_feed hI⟩
theorem law_5 {nm : String} {L : Nat} {f : Int → Int} (hL : L ≤ 384) (hf : ∀ j, In32 (f j)) {i : Int} (hi : 0 ≤ i ∧ i + 6 ≤ L) (nxt : Nxt nm L f i) {mem : ZMem} {S : ZS} (hB : Bth mem S) : JL nm L f 391 [zr 1005, zr 0, zr 79, zi i] [] (hp mem) 93 3335 := by
  obtain ⟨hC, hM, hI⟩ := hB
  refine J_al1 dL_law_391 ?_
  refine L_cI (za := []) dL_law_392 lk_L_36 cw_X6_bench rfl sh_0 rfl rfl (c_bench hC) (by decide) (Nat.le_of_ble_eq_true rfl) ⟨Nat.le_refl _, Nat.le_refl _⟩ (fun v0 mem0 hq0 => ?_)
  obtain ⟨e0, hC1, hF0⟩ := hq0
  have hM2 := hM.frc hF0
  refine J_al2 dL_law_395 ?_
  refine L_cI (za := []) dL_law_396 lk_L_40 cw_X7_bench rfl sh_79 rfl rfl (m_bench hM2 hI) (by decide) (Nat.le_of_ble_eq_true rfl) ⟨Nat.le_refl _, Nat.le_refl _⟩ (fun v1 mem1 hq1 => ?_)
  obtain ⟨e1, hM3, hF1⟩ := hq1
  have hC3 := hC1.frm hF1
  rw [e0, e1]
  refine J_ceqT (tgt := 1288) dL_law_399 rfl ?_
  exact nxt _ _ ⟨hC3, hM3, i_bench hI⟩
theorem law_6 {nm : String} {L : Nat} {f : Int → Int} (hL : L ≤ 384) (hf : ∀ j, In32 (f j)) {i : Int} (hi : 0 ≤ i ∧ i + 6 ≤ L) (nxt : Nxt nm L f i) {mem : ZMem} {S : ZS} (hB : Bth mem S) : JL nm L f 404 [zr 1005, zr 0, zr 79, zi i] [] (hp mem) 93 3335 := by
  obtain ⟨hC, hM, hI⟩ := hB
  refine J_al1 dL_law_404 ?_
  refine L_cI (za := []) dL_law_405 lk_L_41 cw_X6_fault rfl sh_0 rfl rfl (c_fault hC) (by decide) (Nat.le_of_ble_eq_true rfl) ⟨Nat.le_refl _, Nat.le_refl _⟩ (fun v0 mem0 hq0 => ?_)
  obtain ⟨e0, hC1, hF0⟩ := hq0
  have hM2 := hM.frc hF0
  refine J_al2 dL_law_408 ?_
  refine L_cI (za := []) dL_law_409 lk_L_44 cw_X7_fault rfl sh_79 rfl rfl (m_fault hM2) (by decide) (Nat.le_of_ble_eq_true rfl) ⟨Nat.le_refl _, Nat.le_refl _⟩ (fun v1 mem1 hq1 => ?_)
  obtain ⟨e1, hM3, hF1⟩ := hq1
  have hC3 := hC1.frm hF1
  rw [e0, e1]
  refine J_ceqT (tgt := 1288) dL_law_412 rfl ?_
  exact nxt _ _ ⟨hC3, hM3, hI⟩
theorem law_7 {nm : String} {L : Nat} {f : Int → Int} (hL : L ≤ 384) (hf : ∀ j, In32 (f j)) {i : Int} (hi : 0 ≤ i ∧ i + 6 ≤ L) (nxt : Nxt nm L f i) {mem : ZMem} {S : ZS} (hB : Bth mem S) : JL nm L f 417 [zr 1005, zr 0, zr 79, zi i] [] (hp mem) 93 3335 := by
  obtain ⟨hC, hM, hI⟩ := hB
  refine J_al1 dL_law_417 ?_
  refine L_cI (za := []) dL_law_418 lk_L_45 cw_X6_undo rfl sh_0 rfl rfl (c_undo hC hI) (by decide) (Nat.le_of_ble_eq_true rfl) ⟨Nat.le_refl _, Nat.le_refl _⟩ (fun v0 mem0 hq0 => ?_)
  obtain ⟨e0, hC1, hF0⟩ := hq0
  have hM2 := hM.frc hF0
  refine J_al2 dL_law_421 ?_
  refine L_cI (za := []) dL_law_422 lk_L_48 cw_X7_undo rfl sh_79 rfl rfl (m_undo hM2 hI) (by decide) (Nat.le_of_ble_eq_true rfl) ⟨Nat.le_refl _, Nat.le_refl _⟩ (fun v1 mem1 hq1 => ?_)
  obtain ⟨e1, hM3, hF1⟩ := hq1
  have hC3 := hC1.frm hF1
  rw [e0, e1]
  refine J_ceqT (tgt := 1288) dL_law_425 rfl ?_
  exact nxt _ _ ⟨hC3, hM3, i_undo hI⟩
theorem law_8 {nm : String} {L : Nat} {f : Int → Int} (hL : L ≤ 384) (hf : ∀ j, In32 (f j)) {i : Int} (hi : 0 ≤ i ∧ i + 6 ≤ L) (nxt : Nxt nm L f i) {mem : ZMem} {S : ZS} (hB : Bth mem S) : JL nm L f 430 [zr 1005, zr 0, zr 79, zi i] [] (hp mem) 93 3335 := by
  obtain ⟨hC, hM, hI⟩ := hB
  refine J_al1 dL_law_430 ?_
  refine J_al0 dL_law_431 ?_
  refine J_il3 dL_law_432 ?_
  refine J_iconst dL_law_433 ?_
  refine J_iadd dL_law_434 ?_
  refine J_sald dL_law_435 (by omega) (by omega) ?_
  refine L_cI (za := [zi (f (i + 1))]) dL_law_436 lk_L_49 cw_X6_hours rfl sh_0 rfl rfl (c_hours hC hI (hf _)) (by decide) (Nat.le_of_ble_eq_true rfl) ⟨Nat.le_refl _, Nat.le_refl _⟩ (fun v0 mem0 hq0 => ?_)
  obtain ⟨e0, hC1, hF0⟩ := hq0
  have hM2 := hM.frc hF0
  refine J_al2 dL_law_439 ?_
  refine J_al0 dL_law_440 ?_
  refine J_il3 dL_law_441 ?_
  refine J_iconst dL_law_442 ?_
  refine J_iadd dL_law_443 ?_
  refine J_sald dL_law_444 (by omega) (by omega) ?_
  refine L_cI (za := [zi (f (i + 1))]) dL_law_445 lk_L_52 cw_X7_hours rfl sh_79 rfl rfl (m_hours hM2 hI (hf _)) (by decide) (Nat.le_of_ble_eq_true rfl) ⟨Nat.le_refl _, Nat.le_refl _⟩ (fun v1 mem1 hq1 => ?_)
  obtain ⟨e1, hM3, hF1⟩ := hq1
  have hC3 := hC1.frm hF1
  rw [e0, e1]
  refine J_ceqT (tgt := 1288) dL_law_448 rfl ?_
  exact nxt _ _ ⟨hC3, hM3, i_hours hI⟩
theorem law_9 {nm : String} {L : Nat} {f : Int → Int} (hL : L ≤ 384) (hf : ∀ j, In32 (f j)) {i : Int} (hi : 0 ≤ i ∧ i + 6 ≤ L) (nxt : Nxt nm L f i) {mem : ZMem} {S : ZS} (hB : Bth mem S) : JL nm L f 453 [zr 1005, zr 0, zr 79, zi i] [] (hp mem) 93 3335 := by
  obtain ⟨hC, hM, hI⟩ := hB
  refine J_al1 dL_law_453 ?_
  refine J_al0 dL_law_454 ?_
  refine J_il3 dL_law_455 ?_
  refine J_iconst dL_law_456 ?_
  refine J_iadd dL_law_457 ?_
  refine J_sald dL_law_458 (by omega) (by omega) ?_
  refine L_cI (za := [zi (f (i + 1))]) dL_law_459 lk_L_53 cw_X6_snuff rfl sh_0 rfl rfl (c_snuff hC hI (hf _)) (by decide) (Nat.le_of_ble_eq_true rfl) ⟨Nat.le_refl _, Nat.le_refl _⟩ (fun v0 mem0 hq0 => ?_)
  obtain ⟨e0, hC1, hF0⟩ := hq0
  have hM2 := hM.frc hF0
  refine J_al2 dL_law_462 ?_
  refine J_al0 dL_law_463 ?_
  refine J_il3 dL_law_464 ?_
  refine J_iconst dL_law_465 ?_
  refine J_iadd dL_law_466 ?_
  refine J_sald dL_law_467 (by omega) (by omega) ?_
  refine L_cI (za := [zi (f (i + 1))]) dL_law_468 lk_L_56 cw_X7_snuff rfl sh_79 rfl rfl (m_snuff hM2 hI (hf _)) (by decide) (Nat.le_of_ble_eq_true rfl) ⟨Nat.le_refl _, Nat.le_refl _⟩ (fun v1 mem1 hq1 => ?_)
  obtain ⟨e1, hM3, hF1⟩ := hq1
  have hC3 := hC1.frm hF1
  rw [e0, e1]
  refine J_ceqT (tgt := 1288) dL_law_471 rfl ?_
  exact nxt _ _ ⟨hC3, hM3, i_snuff hI⟩
theorem law_10 {nm : String} {L : Nat} {f : Int → Int} (hL : L ≤ 384) (hf : ∀ j, In32 (f j)) {i : Int} (hi : 0 ≤ i ∧ i + 6 ≤ L) (nxt : Nxt nm L f i) {mem : ZMem} {S : ZS} (hB : Bth mem S) : JL nm L f 476 [zr 1005, zr 0, zr 79, zi i] [] (hp mem) 93 3335 := by
  obtain ⟨hC, hM, hI⟩ := hB
  refine J_al1 dL_law_476 ?_
  refine J_al0 dL_law_477 ?_
  refine J_il3 dL_law_478 ?_
  refine J_iconst dL_law_479 ?_
  refine J_iadd dL_law_480 ?_
  refine J_sald dL_law_481 (by omega) (by omega) ?_
  refine L_cI (za := [zi (f (i + 1))]) dL_law_482 lk_L_57 cw_X6_leave rfl sh_0 rfl rfl (c_leave hC hI (hf _)) (by decide) (Nat.le_of_ble_eq_true rfl) ⟨Nat.le_refl _, Nat.le_refl _⟩ (fun v0 mem0 hq0 => ?_)
  obtain ⟨e0, hC1, hF0⟩ := hq0
  have hM2 := hM.frc hF0
  refine J_al2 dL_law_485 ?_
  refine J_al0 dL_law_486 ?_
  refine J_il3 dL_law_487 ?_
  refine J_iconst dL_law_488 ?_
  refine J_iadd dL_law_489 ?_
  refine J_sald dL_law_490 (by omega) (by omega) ?_
  refine L_cI (za := [zi (f (i + 1))]) dL_law_491 lk_L_60 cw_X7_leave rfl sh_79 rfl rfl (m_leave hM2 hI (hf _)) (by decide) (Nat.le_of_ble_eq_true rfl) ⟨Nat.le_refl _, Nat.le_refl _⟩ (fun v1 mem1 hq1 => ?_)
  obtain ⟨e1, hM3, hF1⟩ := hq1
  have hC3 := hC1.frm hF1
  rw [e0, e1]
  refine J_ceqT (tgt := 1288) dL_law_494 rfl ?_
  exact nxt _ _ ⟨hC3, hM3, i_leave hI⟩
theorem law_11 {nm : String} {L : Nat} {f : Int → Int} (hL : L ≤ 384) (hf : ∀ j, In32 (f j)) {i : Int} (hi : 0 ≤ i ∧ i + 6 ≤ L) (nxt : Nxt nm L f i) {mem : ZMem} {S : ZS} (hB : Bth mem S) : JL nm L f 499 [zr 1005, zr 0, zr 79, zi i] [] (hp mem) 93 3335 := by
  obtain ⟨hC, hM, hI⟩ := hB
  refine J_al1 dL_law_499 ?_
  refine J_al0 dL_law_500 ?_
  refine J_il3 dL_law_501 ?_
  refine J_iconst dL_law_502 ?_
  refine J_iadd dL_law_503 ?_
  refine J_sald dL_law_504 (by omega) (by omega) ?_
  refine L_cI (za := [zi (f (i + 1))]) dL_law_505 lk_L_61 cw_X6_come rfl sh_0 rfl rfl (c_come hC hI (hf _)) (by decide) (Nat.le_of_ble_eq_true rfl) ⟨Nat.le_refl _, Nat.le_refl _⟩ (fun v0 mem0 hq0 => ?_)
  obtain ⟨e0, hC1, hF0⟩ := hq0
  have hM2 := hM.frc hF0
  refine J_al2 dL_law_508 ?_
  refine J_al0 dL_law_509 ?_
  refine J_il3 dL_law_510 ?_
  refine J_iconst dL_law_511 ?_
  refine J_iadd dL_law_512 ?_
  refine J_sald dL_law_513 (by omega) (by omega) ?_
  refine L_cI (za := [zi (f (i + 1))]) dL_law_514 lk_L_64 cw_X7_come rfl sh_79 rfl rfl (m_come hM2 hI (hf _)) (by decide) (Nat.le_of_ble_eq_true rfl) ⟨Nat.le_refl _, Nat.le_refl _⟩ (fun v1 mem1 hq1 => ?_)
  obtain ⟨e1, hM3, hF1⟩ := hq1
  have hC3 := hC1.frm hF1
  rw [e0, e1]
  refine J_ceqT (tgt := 1288) dL_law_517 rfl ?_
  exact nxt _ _ ⟨hC3, hM3, i_come hI⟩
theorem law_12 {nm : String} {L : Nat} {f : Int → Int} (hL : L ≤ 384) (hf : ∀ j, In32 (f j)) {i : Int} (hi : 0 ≤ i ∧ i + 6 ≤ L) (nxt : Nxt nm L f i) {mem : ZMem} {S : ZS} (hB : Bth mem S) : JL nm L f 522 [zr 1005, zr 0, zr 79, zi i] [] (hp mem) 93 3335 := by
  obtain ⟨hC, hM, hI⟩ := hB
  refine J_al1 dL_law_522 ?_
  refine J_al0 dL_law_523 ?_
  refine J_il3 dL_law_524 ?_
  refine J_iconst dL_law_525 ?_
  refine J_iadd dL_law_526 ?_
  refine J_sald dL_law_527 (by omega) (by omega) ?_
  refine L_cI (za := [zi (f (i + 1))]) dL_law_528 lk_L_65 cw_X6_june rfl sh_0 rfl rfl (c_june hC hI (hf _)) (by decide) (Nat.le_of_ble_eq_true rfl) ⟨Nat.le_refl _, Nat.le_refl _⟩ (fun v0 mem0 hq0 => ?_)
  obtain ⟨e0, hC1, hF0⟩ := hq0
  have hM2 := hM.frc hF0
  refine J_al2 dL_law_531 ?_
  refine J_al0 dL_law_532 ?_
  refine J_il3 dL_law_533 ?_
  refine J_iconst dL_law_534 ?_
  refine J_iadd dL_law_535 ?_
  refine J_sald dL_law_536 (by omega) (by omega) ?_
  refine L_cI (za := [zi (f (i + 1))]) dL_law_537 lk_L_68 cw_X7_june rfl sh_79 rfl rfl (m_june hM2 hI (hf _)) (by decide) (Nat.le_of_ble_eq_true rfl) ⟨Nat.le_refl _, Nat.le_refl _⟩ (fun v1 mem1 hq1 => ?_)
  obtain ⟨e1, hM3, hF1⟩ := hq1
  have hC3 := hC1.frm hF1
  rw [e0, e1]
  refine J_ceqT (tgt := 1288) dL_law_540 rfl ?_
  exact nxt _ _ ⟨hC3, hM3, i_june hI⟩
theorem law_13 {nm : String} {L : Nat} {f : Int → Int} (hL : L ≤ 384) (hf : ∀ j, In32 (f j)) {i : Int} (hi : 0 ≤ i ∧ i + 6 ≤ L) (nxt : Nxt nm L f i) {mem : ZMem} {S : ZS} (hB : Bth mem S) : JL nm L f 545 [zr 1005, zr 0, zr 79, zi i] [] (hp mem) 93 3335 := by
  obtain ⟨hC, hM, hI⟩ := hB
  refine J_al1 dL_law_545 ?_
  refine J_al0 dL_law_546 ?_
  refine J_il3 dL_law_547 ?_
  refine J_iconst dL_law_548 ?_
  refine J_iadd dL_law_549 ?_
  refine J_sald dL_law_550 (by omega) (by omega) ?_
  refine J_al0 dL_law_551 ?_
  refine J_il3 dL_law_552 ?_
  refine J_iconst dL_law_553 ?_
  refine J_iadd dL_law_554 ?_
  refine J_sald dL_law_555 (by omega) (by omega) ?_
  refine L_cI (za := [zi (f (i + 1)), zi (f (i + 2))]) dL_law_556 lk_L_69 cw_X6_man rfl sh_0 rfl rfl (c_man hC hI (hf _) (hf _)) (by decide) (Nat.le_of_ble_eq_true rfl) ⟨Nat.le_refl _, Nat.le_refl _⟩ (fun v0 mem0 hq0 => ?_)
  obtain ⟨e0, hC1, hF0⟩ := hq0
  have hM2 := hM.frc hF0
  refine J_al2 dL_law_559 ?_
  refine J_al0 dL_law_560 ?_
  refine J_il3 dL_law_561 ?_
  refine J_iconst dL_law_562 ?_
  refine J_iadd dL_law_563 ?_
  refine J_sald dL_law_564 (by omega) (by omega) ?_
  refine J_al0 dL_law_565 ?_
  refine J_il3 dL_law_566 ?_
  refine J_iconst dL_law_567 ?_
  refine J_iadd dL_law_568 ?_
  refine J_sald dL_law_569 (by omega) (by omega) ?_
  refine L_cI (za := [zi (f (i + 1)), zi (f (i + 2))]) dL_law_570 lk_L_73 cw_X7_man rfl sh_79 rfl rfl (m_man hM2 hI (hf _) (hf _)) (by decide) (Nat.le_of_ble_eq_true rfl) ⟨Nat.le_refl _, Nat.le_refl _⟩ (fun v1 mem1 hq1 => ?_)
  obtain ⟨e1, hM3, hF1⟩ := hq1
  have hC3 := hC1.frm hF1
  rw [e0, e1]
  refine J_ceqT (tgt := 1288) dL_law_573 rfl ?_
  exact nxt _ _ ⟨hC3, hM3, hI⟩
theorem law_14 {nm : String} {L : Nat} {f : Int → Int} (hL : L ≤ 384) (hf : ∀ j, In32 (f j)) {i : Int} (hi : 0 ≤ i ∧ i + 6 ≤ L) (nxt : Nxt nm L f i) {mem : ZMem} {S : ZS} (hB : Bth mem S) : JL nm L f 578 [zr 1005, zr 0, zr 79, zi i] [] (hp mem) 93 3335 := by
  obtain ⟨hC, hM, hI⟩ := hB
  refine J_al1 dL_law_578 ?_
  refine J_al0 dL_law_579 ?_
  refine J_il3 dL_law_580 ?_
  refine J_iconst dL_law_581 ?_
  refine J_iadd dL_law_582 ?_
  refine J_sald dL_law_583 (by omega) (by omega) ?_
  refine L_cI (za := [zi (f (i + 1))]) dL_law_584 lk_L_74 cw_X6_place rfl sh_0 rfl rfl (c_place hC hI (hf _)) (by decide) (Nat.le_of_ble_eq_true rfl) ⟨Nat.le_refl _, Nat.le_refl _⟩ (fun v0 mem0 hq0 => ?_)
  obtain ⟨e0, hC1, hF0⟩ := hq0
  have hM2 := hM.frc hF0
  refine J_al2 dL_law_587 ?_
  refine J_al0 dL_law_588 ?_
  refine J_il3 dL_law_589 ?_
  refine J_iconst dL_law_590 ?_
  refine J_iadd dL_law_591 ?_
  refine J_sald dL_law_592 (by omega) (by omega) ?_
  refine L_cI (za := [zi (f (i + 1))]) dL_law_593 lk_L_77 cw_X7_place rfl sh_79 rfl rfl (m_place hM2 hI (hf _)) (by decide) (Nat.le_of_ble_eq_true rfl) ⟨Nat.le_refl _, Nat.le_refl _⟩ (fun v1 mem1 hq1 => ?_)
  obtain ⟨e1, hM3, hF1⟩ := hq1
  have hC3 := hC1.frm hF1
  rw [e0, e1]
  refine J_ceqT (tgt := 1288) dL_law_596 rfl ?_
  exact nxt _ _ ⟨hC3, hM3, hI⟩
theorem law_15 {nm : String} {L : Nat} {f : Int → Int} (hL : L ≤ 384) (hf : ∀ j, In32 (f j)) {i : Int} (hi : 0 ≤ i ∧ i + 6 ≤ L) (nxt : Nxt nm L f i) {mem : ZMem} {S : ZS} (hB : Bth mem S) : JL nm L f 601 [zr 1005, zr 0, zr 79, zi i] [] (hp mem) 93 3335 := by
  obtain ⟨hC, hM, hI⟩ := hB
  refine J_al1 dL_law_601 ?_
  refine J_al0 dL_law_602 ?_
  refine J_il3 dL_law_603 ?_
  refine J_iconst dL_law_604 ?_
  refine J_iadd dL_law_605 ?_
  refine J_sald dL_law_606 (by omega) (by omega) ?_
  refine L_cI (za := [zi (f (i + 1))]) dL_law_607 lk_L_78 cw_X6_sun rfl sh_0 rfl rfl (c_sun hC hI (hf _)) (by decide) (Nat.le_of_ble_eq_true rfl) ⟨Nat.le_refl _, Nat.le_refl _⟩ (fun v0 mem0 hq0 => ?_)
  obtain ⟨e0, hC1, hF0⟩ := hq0
  have hM2 := hM.frc hF0
  refine J_al2 dL_law_610 ?_
  refine J_al0 dL_law_611 ?_
  refine J_il3 dL_law_612 ?_
  refine J_iconst dL_law_613 ?_
  refine J_iadd dL_law_614 ?_
  refine J_sald dL_law_615 (by omega) (by omega) ?_
  refine L_cI (za := [zi (f (i + 1))]) dL_law_616 lk_L_81 cw_X7_sun rfl sh_79 rfl rfl (m_sun hM2 hI (hf _)) (by decide) (Nat.le_of_ble_eq_true rfl) ⟨Nat.le_refl _, Nat.le_refl _⟩ (fun v1 mem1 hq1 => ?_)
  obtain ⟨e1, hM3, hF1⟩ := hq1
  have hC3 := hC1.frm hF1
  rw [e0, e1]
  refine J_ceqT (tgt := 1288) dL_law_619 rfl ?_
  exact nxt _ _ ⟨hC3, hM3, hI⟩
theorem law_16 {nm : String} {L : Nat} {f : Int → Int} (hL : L ≤ 384) (hf : ∀ j, In32 (f j)) {i : Int} (hi : 0 ≤ i ∧ i + 6 ≤ L) (nxt : Nxt nm L f i) {mem : ZMem} {S : ZS} (hB : Bth mem S) : JL nm L f 624 [zr 1005, zr 0, zr 79, zi i] [] (hp mem) 93 3335 := by
  obtain ⟨hC, hM, hI⟩ := hB
  refine J_al1 dL_law_624 ?_
  refine J_al0 dL_law_625 ?_
  refine J_il3 dL_law_626 ?_
  refine J_iconst dL_law_627 ?_
  refine J_iadd dL_law_628 ?_
  refine J_sald dL_law_629 (by omega) (by omega) ?_
  refine J_al0 dL_law_630 ?_
  refine J_il3 dL_law_631 ?_
  refine J_iconst dL_law_632 ?_
  refine J_iadd dL_law_633 ?_
  refine J_sald dL_law_634 (by omega) (by omega) ?_
  refine J_al0 dL_law_635 ?_
  refine J_il3 dL_law_636 ?_
  refine J_iconst dL_law_637 ?_
  refine J_iadd dL_law_638 ?_
  refine J_sald dL_law_639 (by omega) (by omega) ?_
  refine L_cI (za := [zi (f (i + 1)), zi (f (i + 2)), zi (f (i + 3))]) dL_law_640 lk_L_82 cw_X6_ahead rfl sh_0 rfl rfl (c_ahead hC hI (hf _) (hf _) (hf _)) (by decide) (Nat.le_of_ble_eq_true rfl) ⟨Nat.le_refl _, Nat.le_refl _⟩ (fun v0 mem0 hq0 => ?_)
  obtain ⟨e0, hC1, hF0⟩ := hq0
  have hM2 := hM.frc hF0
  refine J_al2 dL_law_643 ?_
  refine J_al0 dL_law_644 ?_
  refine J_il3 dL_law_645 ?_
  refine J_iconst dL_law_646 ?_
  refine J_iadd dL_law_647 ?_
  refine J_sald dL_law_648 (by omega) (by omega) ?_
  refine J_al0 dL_law_649 ?_
  refine J_il3 dL_law_650 ?_
  refine J_iconst dL_law_651 ?_
  refine J_iadd dL_law_652 ?_
  refine J_sald dL_law_653 (by omega) (by omega) ?_
  refine J_al0 dL_law_654 ?_
  refine J_il3 dL_law_655 ?_
  refine J_iconst dL_law_656 ?_
  refine J_iadd dL_law_657 ?_
  refine J_sald dL_law_658 (by omega) (by omega) ?_
  refine L_cI (za := [zi (f (i + 1)), zi (f (i + 2)), zi (f (i + 3))]) dL_law_659 lk_L_85 cw_X7_ahead rfl sh_79 rfl rfl (m_ahead hM2 hI (hf _) (hf _) (hf _)) (by decide) (Nat.le_of_ble_eq_true rfl) ⟨Nat.le_refl _, Nat.le_refl _⟩ (fun v1 mem1 hq1 => ?_)
  obtain ⟨e1, hM3, hF1⟩ := hq1
  have hC3 := hC1.frm hF1
  rw [e0, e1]
  refine J_ceqT (tgt := 1288) dL_law_662 rfl ?_
  exact nxt _ _ ⟨hC3, hM3, hI⟩
theorem law_17 {nm : String} {L : Nat} {f : Int → Int} (hL : L ≤ 384) (hf : ∀ j, In32 (f j)) {i : Int} (hi : 0 ≤ i ∧ i + 6 ≤ L) (nxt : Nxt nm L f i) {mem : ZMem} {S : ZS} (hB : Bth mem S) : JL nm L f 667 [zr 1005, zr 0, zr 79, zi i] [] (hp mem) 93 3335 := by
  obtain ⟨hC, hM, hI⟩ := hB
  refine J_al1 dL_law_667 ?_
  refine J_al0 dL_law_668 ?_
  refine J_il3 dL_law_669 ?_
  refine J_iconst dL_law_670 ?_
  refine J_iadd dL_law_671 ?_
  refine J_sald dL_law_672 (by omega) (by omega) ?_
  refine L_cI (za := [zi (f (i + 1))]) dL_law_673 lk_L_86 cw_X6_sunny rfl sh_0 rfl rfl (c_sunny hC hI (hf _)) (by decide) (Nat.le_of_ble_eq_true rfl) ⟨Nat.le_refl _, Nat.le_refl _⟩ (fun v0 mem0 hq0 => ?_)
  obtain ⟨e0, hC1, hF0⟩ := hq0
  have hM2 := hM.frc hF0
  refine J_al2 dL_law_676 ?_
  refine J_al0 dL_law_677 ?_
  refine J_il3 dL_law_678 ?_
  refine J_iconst dL_law_679 ?_
  refine J_iadd dL_law_680 ?_
  refine J_sald dL_law_681 (by omega) (by omega) ?_
  refine L_cI (za := [zi (f (i + 1))]) dL_law_682 lk_L_89 cw_X7_sunny rfl sh_79 rfl rfl (m_sunny hM2 hI (hf _)) (by decide) (Nat.le_of_ble_eq_true rfl) ⟨Nat.le_refl _, Nat.le_refl _⟩ (fun v1 mem1 hq1 => ?_)
  obtain ⟨e1, hM3, hF1⟩ := hq1
  have hC3 := hC1.frm hF1
  rw [e0, e1]
  refine J_ceqT (tgt := 1288) dL_law_685 rfl ?_
  exact nxt _ _ ⟨hC3, hM3, hI⟩
theorem law_18 {nm : String} {L : Nat} {f : Int → Int} (hL : L ≤ 384) (hf : ∀ j, In32 (f j)) {i : Int} (hi : 0 ≤ i ∧ i + 6 ≤ L) (nxt : Nxt nm L f i) {mem : ZMem} {S : ZS} (hB : Bth mem S) : JL nm L f 690 [zr 1005, zr 0, zr 79, zi i] [] (hp mem) 93 3335 := by
  obtain ⟨hC, hM, hI⟩ := hB
  refine J_al1 dL_law_690 ?_
  refine J_al0 dL_law_691 ?_
  refine J_il3 dL_law_692 ?_
  refine J_iconst dL_law_693 ?_
  refine J_iadd dL_law_694 ?_
  refine J_sald dL_law_695 (by omega) (by omega) ?_
  refine J_al0 dL_law_696 ?_
  refine J_il3 dL_law_697 ?_
  refine J_iconst dL_law_698 ?_
  refine J_iadd dL_law_699 ?_
  refine J_sald dL_law_700 (by omega) (by omega) ?_
  refine L_cI (za := [zi (f (i + 1)), zi (f (i + 2))]) dL_law_701 lk_L_90 cw_X6_most rfl sh_0 rfl rfl (c_most hC hI (hf _) (hf _)) (by decide) (Nat.le_of_ble_eq_true rfl) ⟨Nat.le_refl _, Nat.le_refl _⟩ (fun v0 mem0 hq0 => ?_)
  obtain ⟨e0, hC1, hF0⟩ := hq0
  have hM2 := hM.frc hF0
  refine J_al2 dL_law_704 ?_
  refine J_al0 dL_law_705 ?_
  refine J_il3 dL_law_706 ?_
  refine J_iconst dL_law_707 ?_
  refine J_iadd dL_law_708 ?_
  refine J_sald dL_law_709 (by omega) (by omega) ?_
  refine J_al0 dL_law_710 ?_
  refine J_il3 dL_law_711 ?_
  refine J_iconst dL_law_712 ?_
  refine J_iadd dL_law_713 ?_
  refine J_sald dL_law_714 (by omega) (by omega) ?_
  refine L_cI (za := [zi (f (i + 1)), zi (f (i + 2))]) dL_law_715 lk_L_93 cw_X7_most rfl sh_79 rfl rfl (m_most hM2 hI (hf _) (hf _)) (by decide) (Nat.le_of_ble_eq_true rfl) ⟨Nat.le_refl _, Nat.le_refl _⟩ (fun v1 mem1 hq1 => ?_)
  obtain ⟨e1, hM3, hF1⟩ := hq1
  have hC3 := hC1.frm hF1
  rw [e0, e1]
  refine J_ceqT (tgt := 1288) dL_law_718 rfl ?_
  exact nxt _ _ ⟨hC3, hM3, hI⟩
theorem law_19 {nm : String} {L : Nat} {f : Int → Int} (hL : L ≤ 384) (hf : ∀ j, In32 (f j)) {i : Int} (hi : 0 ≤ i ∧ i + 6 ≤ L) (nxt : Nxt nm L f i) {mem : ZMem} {S : ZS} (hB : Bth mem S) : JL nm L f 723 [zr 1005, zr 0, zr 79, zi i] [] (hp mem) 93 3335 := by
  obtain ⟨hC, hM, hI⟩ := hB
  refine J_al1 dL_law_723 ?_
  refine J_al0 dL_law_724 ?_
  refine J_il3 dL_law_725 ?_
  refine J_iconst dL_law_726 ?_
  refine J_iadd dL_law_727 ?_
  refine J_sald dL_law_728 (by omega) (by omega) ?_
  refine J_al0 dL_law_729 ?_
  refine J_il3 dL_law_730 ?_
  refine J_iconst dL_law_731 ?_
  refine J_iadd dL_law_732 ?_
  refine J_sald dL_law_733 (by omega) (by omega) ?_
  refine J_al0 dL_law_734 ?_
  refine J_il3 dL_law_735 ?_
  refine J_iconst dL_law_736 ?_
  refine J_iadd dL_law_737 ?_
  refine J_sald dL_law_738 (by omega) (by omega) ?_
  refine L_cI (za := [zi (f (i + 1)), zi (f (i + 2)), zi (f (i + 3))]) dL_law_739 lk_L_94 cw_X6_leastSnuff rfl sh_0 rfl rfl (c_least hC hI (hf _) (hf _) (hf _)) (by decide) (Nat.le_of_ble_eq_true rfl) ⟨Nat.le_refl _, Nat.le_refl _⟩ (fun v0 mem0 hq0 => ?_)
  obtain ⟨e0, hC1, hF0⟩ := hq0
  have hM2 := hM.frc hF0
  refine J_al2 dL_law_742 ?_
  refine J_al0 dL_law_743 ?_
  refine J_il3 dL_law_744 ?_
  refine J_iconst dL_law_745 ?_
  refine J_iadd dL_law_746 ?_
  refine J_sald dL_law_747 (by omega) (by omega) ?_
  refine J_al0 dL_law_748 ?_
  refine J_il3 dL_law_749 ?_
  refine J_iconst dL_law_750 ?_
  refine J_iadd dL_law_751 ?_
  refine J_sald dL_law_752 (by omega) (by omega) ?_
  refine J_al0 dL_law_753 ?_
  refine J_il3 dL_law_754 ?_
  refine J_iconst dL_law_755 ?_
  refine J_iadd dL_law_756 ?_
  refine J_sald dL_law_757 (by omega) (by omega) ?_
  refine L_cI (za := [zi (f (i + 1)), zi (f (i + 2)), zi (f (i + 3))]) dL_law_758 lk_L_97 cw_X7_leastSnuff rfl sh_79 rfl rfl (m_least hM2 hI (hf _) (hf _) (hf _)) (by decide) (Nat.le_of_ble_eq_true rfl) ⟨Nat.le_refl _, Nat.le_refl _⟩ (fun v1 mem1 hq1 => ?_)
  obtain ⟨e1, hM3, hF1⟩ := hq1
  have hC3 := hC1.frm hF1
  rw [e0, e1]
  refine J_ceqT (tgt := 1288) dL_law_761 rfl ?_
  exact nxt _ _ ⟨hC3, hM3, hI⟩
theorem law_20 {nm : String} {L : Nat} {f : Int → Int} (hL : L ≤ 384) (hf : ∀ j, In32 (f j)) {i : Int} (hi : 0 ≤ i ∧ i + 6 ≤ L) (nxt : Nxt nm L f i) {mem : ZMem} {S : ZS} (hB : Bth mem S) : JL nm L f 766 [zr 1005, zr 0, zr 79, zi i] [] (hp mem) 93 3335 := by
  obtain ⟨hC, hM, hI⟩ := hB
  refine J_al1 dL_law_766 ?_
  refine J_al0 dL_law_767 ?_
  refine J_il3 dL_law_768 ?_
  refine J_iconst dL_law_769 ?_
  refine J_iadd dL_law_770 ?_
  refine J_sald dL_law_771 (by omega) (by omega) ?_
  refine J_al0 dL_law_772 ?_
  refine J_il3 dL_law_773 ?_
  refine J_iconst dL_law_774 ?_
  refine J_iadd dL_law_775 ?_
  refine J_sald dL_law_776 (by omega) (by omega) ?_
  refine J_al0 dL_law_777 ?_
  refine J_il3 dL_law_778 ?_
  refine J_iconst dL_law_779 ?_
  refine J_iadd dL_law_780 ?_
  refine J_sald dL_law_781 (by omega) (by omega) ?_
  refine L_cI (za := [zi (f (i + 1)), zi (f (i + 2)), zi (f (i + 3))]) dL_law_782 lk_L_98 cw_X6_whenToCome rfl sh_0 rfl rfl (c_when hC hI (hf _) (hf _) (hf _)) (by decide) (Nat.le_of_ble_eq_true rfl) ⟨Nat.le_refl _, Nat.le_refl _⟩ (fun v0 mem0 hq0 => ?_)
  obtain ⟨e0, hC1, hF0⟩ := hq0
  have hM2 := hM.frc hF0
  refine J_al2 dL_law_785 ?_
  refine J_al0 dL_law_786 ?_
  refine J_il3 dL_law_787 ?_
  refine J_iconst dL_law_788 ?_
  refine J_iadd dL_law_789 ?_
  refine J_sald dL_law_790 (by omega) (by omega) ?_
  refine J_al0 dL_law_791 ?_
  refine J_il3 dL_law_792 ?_
  refine J_iconst dL_law_793 ?_
  refine J_iadd dL_law_794 ?_
  refine J_sald dL_law_795 (by omega) (by omega) ?_
  refine J_al0 dL_law_796 ?_
  refine J_il3 dL_law_797 ?_
  refine J_iconst dL_law_798 ?_
  refine J_iadd dL_law_799 ?_
  refine J_sald dL_law_800 (by omega) (by omega) ?_
  refine L_cI (za := [zi (f (i + 1)), zi (f (i + 2)), zi (f (i + 3))]) dL_law_801 lk_L_101 cw_X7_whenToCome rfl sh_79 rfl rfl (m_when hM2 hI (hf _) (hf _) (hf _)) (by decide) (Nat.le_of_ble_eq_true rfl) ⟨Nat.le_refl _, Nat.le_refl _⟩ (fun v1 mem1 hq1 => ?_)
  obtain ⟨e1, hM3, hF1⟩ := hq1
  have hC3 := hC1.frm hF1
  rw [e0, e1]
  refine J_ceqT (tgt := 1288) dL_law_804 rfl ?_
  exact nxt _ _ ⟨hC3, hM3, hI⟩
theorem law_21 {nm : String} {L : Nat} {f : Int → Int} (hL : L ≤ 384) (hf : ∀ j, In32 (f j)) {i : Int} (hi : 0 ≤ i ∧ i + 6 ≤ L) (nxt : Nxt nm L f i) {mem : ZMem} {S : ZS} (hB : Bth mem S) : JL nm L f 809 [zr 1005, zr 0, zr 79, zi i] [] (hp mem) 93 3335 := by
  obtain ⟨hC, hM, hI⟩ := hB
  refine J_al1 dL_law_809 ?_
  refine J_al0 dL_law_810 ?_
  refine J_il3 dL_law_811 ?_
  refine J_iconst dL_law_812 ?_
  refine J_iadd dL_law_813 ?_
  refine J_sald dL_law_814 (by omega) (by omega) ?_
  refine J_al0 dL_law_815 ?_
  refine J_il3 dL_law_816 ?_
  refine J_iconst dL_law_817 ?_
  refine J_iadd dL_law_818 ?_
  refine J_sald dL_law_819 (by omega) (by omega) ?_
  refine J_al0 dL_law_820 ?_
  refine J_il3 dL_law_821 ?_
  refine J_iconst dL_law_822 ?_
  refine J_iadd dL_law_823 ?_
  refine J_sald dL_law_824 (by omega) (by omega) ?_
  refine L_cI (za := [zi (f (i + 1)), zi (f (i + 2)), zi (f (i + 3))]) dL_law_825 lk_L_102 cw_X6_rang rfl sh_0 rfl rfl (c_rang hC hI (hf _) (hf _) (hf _)) (by decide) (Nat.le_of_ble_eq_true rfl) ⟨Nat.le_refl _, Nat.le_refl _⟩ (fun v0 mem0 hq0 => ?_)
  obtain ⟨e0, hC1, hF0⟩ := hq0
  have hM2 := hM.frc hF0
  refine J_al2 dL_law_828 ?_
  refine J_al0 dL_law_829 ?_
  refine J_il3 dL_law_830 ?_
  refine J_iconst dL_law_831 ?_
  refine J_iadd dL_law_832 ?_
  refine J_sald dL_law_833 (by omega) (by omega) ?_
  refine J_al0 dL_law_834 ?_
  refine J_il3 dL_law_835 ?_
  refine J_iconst dL_law_836 ?_
  refine J_iadd dL_law_837 ?_
  refine J_sald dL_law_838 (by omega) (by omega) ?_
  refine J_al0 dL_law_839 ?_
  refine J_il3 dL_law_840 ?_
  refine J_iconst dL_law_841 ?_
  refine J_iadd dL_law_842 ?_
  refine J_sald dL_law_843 (by omega) (by omega) ?_
  refine L_cI (za := [zi (f (i + 1)), zi (f (i + 2)), zi (f (i + 3))]) dL_law_844 lk_L_105 cw_X7_rang rfl sh_79 rfl rfl (m_rang hM2 hI (hf _) (hf _) (hf _)) (by decide) (Nat.le_of_ble_eq_true rfl) ⟨Nat.le_refl _, Nat.le_refl _⟩ (fun v1 mem1 hq1 => ?_)
  obtain ⟨e1, hM3, hF1⟩ := hq1
  have hC3 := hC1.frm hF1
  rw [e0, e1]
  refine J_ceqT (tgt := 1288) dL_law_847 rfl ?_
  exact nxt _ _ ⟨hC3, hM3, i_rang hI⟩
theorem law_22 {nm : String} {L : Nat} {f : Int → Int} (hL : L ≤ 384) (hf : ∀ j, In32 (f j)) {i : Int} (hi : 0 ≤ i ∧ i + 6 ≤ L) (nxt : Nxt nm L f i) {mem : ZMem} {S : ZS} (hB : Bth mem S) : JL nm L f 852 [zr 1005, zr 0, zr 79, zi i] [] (hp mem) 93 3335 := by
  obtain ⟨hC, hM, hI⟩ := hB
  refine J_al1 dL_law_852 ?_
  refine J_al0 dL_law_853 ?_
  refine J_il3 dL_law_854 ?_
  refine J_iconst dL_law_855 ?_
  refine J_iadd dL_law_856 ?_
  refine J_sald dL_law_857 (by omega) (by omega) ?_
  refine J_al0 dL_law_858 ?_
  refine J_il3 dL_law_859 ?_
  refine J_iconst dL_law_860 ?_
  refine J_iadd dL_law_861 ?_
  refine J_sald dL_law_862 (by omega) (by omega) ?_
  refine J_al0 dL_law_863 ?_
  refine J_il3 dL_law_864 ?_
  refine J_iconst dL_law_865 ?_
  refine J_iadd dL_law_866 ?_
  refine J_sald dL_law_867 (by omega) (by omega) ?_
  refine J_al0 dL_law_868 ?_
  refine J_il3 dL_law_869 ?_
  refine J_iconst dL_law_870 ?_
  refine J_iadd dL_law_871 ?_
  refine J_sald dL_law_872 (by omega) (by omega) ?_
  refine L_cI (za := [zi (f (i + 1)), zi (f (i + 2)), zi (f (i + 3)), zi (f (i + 4))]) dL_law_873 lk_L_106 cw_X6_who rfl sh_0 rfl rfl (c_who hC hI (hf _) (hf _) (hf _) (hf _)) (by decide) (Nat.le_of_ble_eq_true rfl) ⟨Nat.le_refl _, Nat.le_refl _⟩ (fun v0 mem0 hq0 => ?_)
  obtain ⟨e0, hC1, hF0⟩ := hq0
  have hM2 := hM.frc hF0
  refine J_al2 dL_law_876 ?_
  refine J_al0 dL_law_877 ?_
  refine J_il3 dL_law_878 ?_
  refine J_iconst dL_law_879 ?_
  refine J_iadd dL_law_880 ?_
  refine J_sald dL_law_881 (by omega) (by omega) ?_
  refine J_al0 dL_law_882 ?_
  refine J_il3 dL_law_883 ?_
  refine J_iconst dL_law_884 ?_
  refine J_iadd dL_law_885 ?_
  refine J_sald dL_law_886 (by omega) (by omega) ?_
  refine J_al0 dL_law_887 ?_
  refine J_il3 dL_law_888 ?_
  refine J_iconst dL_law_889 ?_
  refine J_iadd dL_law_890 ?_
  refine J_sald dL_law_891 (by omega) (by omega) ?_
  refine J_al0 dL_law_892 ?_
  refine J_il3 dL_law_893 ?_
  refine J_iconst dL_law_894 ?_
  refine J_iadd dL_law_895 ?_
  refine J_sald dL_law_896 (by omega) (by omega) ?_
  refine L_cI (za := [zi (f (i + 1)), zi (f (i + 2)), zi (f (i + 3)), zi (f (i + 4))]) dL_law_897 lk_L_110 cw_X7_who rfl sh_79 rfl rfl (m_who hM2 hI (hf _) (hf _) (hf _) (hf _)) (by decide) (Nat.le_of_ble_eq_true rfl) ⟨Nat.le_refl _, Nat.le_refl _⟩ (fun v1 mem1 hq1 => ?_)
  obtain ⟨e1, hM3, hF1⟩ := hq1
  have hC3 := hC1.frm hF1
  rw [e0, e1]
  refine J_ceqT (tgt := 1288) dL_law_900 rfl ?_
  exact nxt _ _ ⟨hC3, hM3, i_who hI⟩
theorem law_23 {nm : String} {L : Nat} {f : Int → Int} (hL : L ≤ 384) (hf : ∀ j, In32 (f j)) {i : Int} (hi : 0 ≤ i ∧ i + 6 ≤ L) (nxt : Nxt nm L f i) {mem : ZMem} {S : ZS} (hB : Bth mem S) : JL nm L f 905 [zr 1005, zr 0, zr 79, zi i] [] (hp mem) 93 3335 := by
  obtain ⟨hC, hM, hI⟩ := hB
  refine J_al1 dL_law_905 ?_
  refine J_al0 dL_law_906 ?_
  refine J_il3 dL_law_907 ?_
  refine J_iconst dL_law_908 ?_
  refine J_iadd dL_law_909 ?_
  refine J_sald dL_law_910 (by omega) (by omega) ?_
  refine L_cI (za := [zi (f (i + 1))]) dL_law_911 lk_L_111 cw_X6_elm rfl sh_0 rfl rfl (c_elm hC hI (hf _)) (by decide) (Nat.le_of_ble_eq_true rfl) ⟨Nat.le_refl _, Nat.le_refl _⟩ (fun v0 mem0 hq0 => ?_)
  obtain ⟨e0, hC1, hF0⟩ := hq0
  have hM2 := hM.frc hF0
  refine J_al2 dL_law_914 ?_
  refine J_al0 dL_law_915 ?_
  refine J_il3 dL_law_916 ?_
  refine J_iconst dL_law_917 ?_
  refine J_iadd dL_law_918 ?_
  refine J_sald dL_law_919 (by omega) (by omega) ?_
  refine L_cI (za := [zi (f (i + 1))]) dL_law_920 lk_L_114 cw_X7_elm rfl sh_79 rfl rfl (m_elm hM2 hI (hf _)) (by decide) (Nat.le_of_ble_eq_true rfl) ⟨Nat.le_refl _, Nat.le_refl _⟩ (fun v1 mem1 hq1 => ?_)
  obtain ⟨e1, hM3, hF1⟩ := hq1
  have hC3 := hC1.frm hF1
  rw [e0, e1]
  refine J_ceqT (tgt := 1288) dL_law_923 rfl ?_
  exact nxt _ _ ⟨hC3, hM3, hI⟩
theorem law_24 {nm : String} {L : Nat} {f : Int → Int} (hL : L ≤ 384) (hf : ∀ j, In32 (f j)) {i : Int} (hi : 0 ≤ i ∧ i + 6 ≤ L) (nxt : Nxt nm L f i) {mem : ZMem} {S : ZS} (hB : Bth mem S) : JL nm L f 928 [zr 1005, zr 0, zr 79, zi i] [] (hp mem) 93 3335 := by
  obtain ⟨hC, hM, hI⟩ := hB
  refine J_al1 dL_law_928 ?_
  refine L_cI (za := []) dL_law_929 lk_L_115 cw_X6_lasts rfl sh_0 rfl rfl (c_lasts hC hI) (by decide) (Nat.le_of_ble_eq_true rfl) ⟨Nat.le_refl _, Nat.le_refl _⟩ (fun v0 mem0 hq0 => ?_)
  obtain ⟨e0, hC1, hF0⟩ := hq0
  have hM2 := hM.frc hF0
  refine J_al2 dL_law_932 ?_
  refine L_cI (za := []) dL_law_933 lk_L_118 cw_X7_lasts rfl sh_79 rfl rfl (m_lasts hM2 hI) (by decide) (Nat.le_of_ble_eq_true rfl) ⟨Nat.le_refl _, Nat.le_refl _⟩ (fun v1 mem1 hq1 => ?_)
  obtain ⟨e1, hM3, hF1⟩ := hq1
  have hC3 := hC1.frm hF1
  rw [e0, e1]
  refine J_ceqT (tgt := 1288) dL_law_936 rfl ?_
  exact nxt _ _ ⟨hC3, hM3, hI⟩
theorem law_25 {nm : String} {L : Nat} {f : Int → Int} (hL : L ≤ 384) (hf : ∀ j, In32 (f j)) {i : Int} (hi : 0 ≤ i ∧ i + 6 ≤ L) (nxt : Nxt nm L f i) {mem : ZMem} {S : ZS} (hB : Bth mem S) : JL nm L f 941 [zr 1005, zr 0, zr 79, zi i] [] (hp mem) 93 3335 := by
  obtain ⟨hC, hM, hI⟩ := hB
  refine J_al1 dL_law_941 ?_
  refine J_al0 dL_law_942 ?_
  refine J_il3 dL_law_943 ?_
  refine J_iconst dL_law_944 ?_
  refine J_iadd dL_law_945 ?_
  refine J_sald dL_law_946 (by omega) (by omega) ?_
  refine J_al0 dL_law_947 ?_
  refine J_il3 dL_law_948 ?_
  refine J_iconst dL_law_949 ?_
  refine J_iadd dL_law_950 ?_
  refine J_sald dL_law_951 (by omega) (by omega) ?_
  refine J_al0 dL_law_952 ?_
  refine J_il3 dL_law_953 ?_
  refine J_iconst dL_law_954 ?_
  refine J_iadd dL_law_955 ?_
  refine J_sald dL_law_956 (by omega) (by omega) ?_
  refine L_cI (za := [zi (f (i + 1)), zi (f (i + 2)), zi (f (i + 3))]) dL_law_957 lk_L_119 cw_X6_wager rfl sh_0 rfl rfl (c_wager hC hI (hf _) (hf _) (hf _)) (by decide) (Nat.le_of_ble_eq_true rfl) ⟨Nat.le_refl _, Nat.le_refl _⟩ (fun v0 mem0 hq0 => ?_)
  obtain ⟨e0, hC1, hF0⟩ := hq0
  have hM2 := hM.frc hF0
  refine J_al2 dL_law_960 ?_
  refine J_al0 dL_law_961 ?_
  refine J_il3 dL_law_962 ?_
  refine J_iconst dL_law_963 ?_
  refine J_iadd dL_law_964 ?_
  refine J_sald dL_law_965 (by omega) (by omega) ?_
  refine J_al0 dL_law_966 ?_
  refine J_il3 dL_law_967 ?_
  refine J_iconst dL_law_968 ?_
  refine J_iadd dL_law_969 ?_
  refine J_sald dL_law_970 (by omega) (by omega) ?_
  refine J_al0 dL_law_971 ?_
  refine J_il3 dL_law_972 ?_
  refine J_iconst dL_law_973 ?_
  refine J_iadd dL_law_974 ?_
  refine J_sald dL_law_975 (by omega) (by omega) ?_
  refine L_cI (za := [zi (f (i + 1)), zi (f (i + 2)), zi (f (i + 3))]) dL_law_976 lk_L_122 cw_X7_wager rfl sh_79 rfl rfl (m_wager hM2 hI (hf _) (hf _) (hf _)) (by decide) (Nat.le_of_ble_eq_true rfl) ⟨Nat.le_refl _, Nat.le_refl _⟩ (fun v1 mem1 hq1 => ?_)
  obtain ⟨e1, hM3, hF1⟩ := hq1
  have hC3 := hC1.frm hF1
  rw [e0, e1]
  refine J_ceqT (tgt := 1288) dL_law_979 rfl ?_
  exact nxt _ _ ⟨hC3, hM3, hI⟩
theorem law_26 {nm : String} {L : Nat} {f : Int → Int} (hL : L ≤ 384) (hf : ∀ j, In32 (f j)) {i : Int} (hi : 0 ≤ i ∧ i + 6 ≤ L) (nxt : Nxt nm L f i) {mem : ZMem} {S : ZS} (hB : Bth mem S) : JL nm L f 984 [zr 1005, zr 0, zr 79, zi i] [] (hp mem) 93 3335 := by
  obtain ⟨hC, hM, hI⟩ := hB
  refine J_al1 dL_law_984 ?_
  refine J_al0 dL_law_985 ?_
  refine J_il3 dL_law_986 ?_
  refine J_iconst dL_law_987 ?_
  refine J_iadd dL_law_988 ?_
  refine J_sald dL_law_989 (by omega) (by omega) ?_
  refine L_cI (za := [zi (f (i + 1))]) dL_law_990 lk_L_123 cw_X6_calls rfl sh_0 rfl rfl (c_calls hC hI (hf _)) (by decide) (Nat.le_of_ble_eq_true rfl) ⟨Nat.le_refl _, Nat.le_refl _⟩ (fun v0 mem0 hq0 => ?_)
  obtain ⟨e0, hC1, hF0⟩ := hq0
  have hM2 := hM.frc hF0
  refine J_al2 dL_law_993 ?_
  refine J_al0 dL_law_994 ?_
  refine J_il3 dL_law_995 ?_
  refine J_iconst dL_law_996 ?_
  refine J_iadd dL_law_997 ?_
  refine J_sald dL_law_998 (by omega) (by omega) ?_
  refine L_cI (za := [zi (f (i + 1))]) dL_law_999 lk_L_126 cw_X7_calls rfl sh_79 rfl rfl (m_calls hM2 hI (hf _)) (by decide) (Nat.le_of_ble_eq_true rfl) ⟨Nat.le_refl _, Nat.le_refl _⟩ (fun v1 mem1 hq1 => ?_)
  obtain ⟨e1, hM3, hF1⟩ := hq1
  have hC3 := hC1.frm hF1
  rw [e0, e1]
  refine J_ceqT (tgt := 1288) dL_law_1002 rfl ?_
  exact nxt _ _ ⟨hC3, hM3, hI⟩
theorem law_27 {nm : String} {L : Nat} {f : Int → Int} (hL : L ≤ 384) (hf : ∀ j, In32 (f j)) {i : Int} (hi : 0 ≤ i ∧ i + 6 ≤ L) (nxt : Nxt nm L f i) {mem : ZMem} {S : ZS} (hB : Bth mem S) : JL nm L f 1007 [zr 1005, zr 0, zr 79, zi i] [] (hp mem) 93 3335 := by
  obtain ⟨hC, hM, hI⟩ := hB
  refine J_al1 dL_law_1007 ?_
  refine J_al0 dL_law_1008 ?_
  refine J_il3 dL_law_1009 ?_
  refine J_iconst dL_law_1010 ?_
  refine J_iadd dL_law_1011 ?_
  refine J_sald dL_law_1012 (by omega) (by omega) ?_
  refine J_al0 dL_law_1013 ?_
  refine J_il3 dL_law_1014 ?_
  refine J_iconst dL_law_1015 ?_
  refine J_iadd dL_law_1016 ?_
  refine J_sald dL_law_1017 (by omega) (by omega) ?_
  refine J_al0 dL_law_1018 ?_
  refine J_il3 dL_law_1019 ?_
  refine J_iconst dL_law_1020 ?_
  refine J_iadd dL_law_1021 ?_
  refine J_sald dL_law_1022 (by omega) (by omega) ?_
  refine L_cL (za := [zi (f (i + 1)), zi (f (i + 2)), zi (f (i + 3))]) dL_law_1023 lk_L_127 cw_X6_late rfl sh_0 rfl rfl (c_late hC hI (hf _) (hf _) (hf _)) (by decide) (Nat.le_of_ble_eq_true rfl) ⟨Nat.le_refl _, Nat.le_refl _⟩ (fun v0 mem0 hq0 => ?_)
  obtain ⟨e0, hC1, hF0⟩ := hq0
  have hM2 := hM.frc hF0
  refine J_al2 dL_law_1026 ?_
  refine J_al0 dL_law_1027 ?_
  refine J_il3 dL_law_1028 ?_
  refine J_iconst dL_law_1029 ?_
  refine J_iadd dL_law_1030 ?_
  refine J_sald dL_law_1031 (by omega) (by omega) ?_
  refine J_al0 dL_law_1032 ?_
  refine J_il3 dL_law_1033 ?_
  refine J_iconst dL_law_1034 ?_
  refine J_iadd dL_law_1035 ?_
  refine J_sald dL_law_1036 (by omega) (by omega) ?_
  refine J_al0 dL_law_1037 ?_
  refine J_il3 dL_law_1038 ?_
  refine J_iconst dL_law_1039 ?_
  refine J_iadd dL_law_1040 ?_
  refine J_sald dL_law_1041 (by omega) (by omega) ?_
  refine L_cL (za := [zi (f (i + 1)), zi (f (i + 2)), zi (f (i + 3))]) dL_law_1042 lk_L_131 cw_X7_late rfl sh_79 rfl rfl (m_late hM2 hI (hf _) (hf _) (hf _)) (by decide) (Nat.le_of_ble_eq_true rfl) ⟨Nat.le_refl _, Nat.le_refl _⟩ (fun v1 mem1 hq1 => ?_)
  obtain ⟨e1, hM3, hF1⟩ := hq1
  have hC3 := hC1.frm hF1
  rw [e0, e1]
  refine J_leqT (tgt := 1288) dL_law_1045 dL_law_1046 rfl ?_
  exact nxt _ _ ⟨hC3, hM3, hI⟩
theorem law_28 {nm : String} {L : Nat} {f : Int → Int} (hL : L ≤ 384) (hf : ∀ j, In32 (f j)) {i : Int} (hi : 0 ≤ i ∧ i + 6 ≤ L) (nxt : Nxt nm L f i) {mem : ZMem} {S : ZS} (hB : Bth mem S) : JL nm L f 1051 [zr 1005, zr 0, zr 79, zi i] [] (hp mem) 93 3335 := by
  obtain ⟨hC, hM, hI⟩ := hB
  refine J_al1 dL_law_1051 ?_
  refine J_al0 dL_law_1052 ?_
  refine J_il3 dL_law_1053 ?_
  refine J_iconst dL_law_1054 ?_
  refine J_iadd dL_law_1055 ?_
  refine J_sald dL_law_1056 (by omega) (by omega) ?_
  refine J_al0 dL_law_1057 ?_
  refine J_il3 dL_law_1058 ?_
  refine J_iconst dL_law_1059 ?_
  refine J_iadd dL_law_1060 ?_
  refine J_sald dL_law_1061 (by omega) (by omega) ?_
  refine J_al0 dL_law_1062 ?_
  refine J_il3 dL_law_1063 ?_
  refine J_iconst dL_law_1064 ?_
  refine J_iadd dL_law_1065 ?_
  refine J_sald dL_law_1066 (by omega) (by omega) ?_
  refine L_cI (za := [zi (f (i + 1)), zi (f (i + 2)), zi (f (i + 3))]) dL_law_1067 lk_L_132 cw_X6_drawn rfl sh_0 rfl rfl (c_drawn hC hI (hf _) (hf _) (hf _)) (by decide) (Nat.le_of_ble_eq_true rfl) ⟨Nat.le_refl _, Nat.le_refl _⟩ (fun v0 mem0 hq0 => ?_)
  obtain ⟨e0, hC1, hF0⟩ := hq0
  have hM2 := hM.frc hF0
  refine J_al2 dL_law_1070 ?_
  refine J_al0 dL_law_1071 ?_
  refine J_il3 dL_law_1072 ?_
  refine J_iconst dL_law_1073 ?_
  refine J_iadd dL_law_1074 ?_
  refine J_sald dL_law_1075 (by omega) (by omega) ?_
  refine J_al0 dL_law_1076 ?_
  refine J_il3 dL_law_1077 ?_
  refine J_iconst dL_law_1078 ?_
  refine J_iadd dL_law_1079 ?_
  refine J_sald dL_law_1080 (by omega) (by omega) ?_
  refine J_al0 dL_law_1081 ?_
  refine J_il3 dL_law_1082 ?_
  refine J_iconst dL_law_1083 ?_
  refine J_iadd dL_law_1084 ?_
  refine J_sald dL_law_1085 (by omega) (by omega) ?_
  refine L_cI (za := [zi (f (i + 1)), zi (f (i + 2)), zi (f (i + 3))]) dL_law_1086 lk_L_135 cw_X7_drawn rfl sh_79 rfl rfl (m_drawn hM2 hI (hf _) (hf _) (hf _)) (by decide) (Nat.le_of_ble_eq_true rfl) ⟨Nat.le_refl _, Nat.le_refl _⟩ (fun v1 mem1 hq1 => ?_)
  obtain ⟨e1, hM3, hF1⟩ := hq1
  have hC3 := hC1.frm hF1
  rw [e0, e1]
  refine J_ceqT (tgt := 1288) dL_law_1089 rfl ?_
  exact nxt _ _ ⟨hC3, hM3, hI⟩
theorem law_29 {nm : String} {L : Nat} {f : Int → Int} (hL : L ≤ 384) (hf : ∀ j, In32 (f j)) {i : Int} (hi : 0 ≤ i ∧ i + 6 ≤ L) (nxt : Nxt nm L f i) {mem : ZMem} {S : ZS} (hB : Bth mem S) : JL nm L f 1094 [zr 1005, zr 0, zr 79, zi i] [] (hp mem) 93 3335 := by
  obtain ⟨hC, hM, hI⟩ := hB
  refine J_al1 dL_law_1094 ?_
  refine J_al0 dL_law_1095 ?_
  refine J_il3 dL_law_1096 ?_
  refine J_iconst dL_law_1097 ?_
  refine J_iadd dL_law_1098 ?_
  refine J_sald dL_law_1099 (by omega) (by omega) ?_
  refine L_cI (za := [zi (f (i + 1))]) dL_law_1100 lk_L_136 cw_X6_image rfl sh_0 rfl rfl (c_image hC hI (hf _)) (by decide) (Nat.le_of_ble_eq_true rfl) ⟨Nat.le_refl _, Nat.le_refl _⟩ (fun v0 mem0 hq0 => ?_)
  obtain ⟨e0, hC1, hF0⟩ := hq0
  have hM2 := hM.frc hF0
  refine J_al2 dL_law_1103 ?_
  refine J_al0 dL_law_1104 ?_
  refine J_il3 dL_law_1105 ?_
  refine J_iconst dL_law_1106 ?_
  refine J_iadd dL_law_1107 ?_
  refine J_sald dL_law_1108 (by omega) (by omega) ?_
  refine L_cI (za := [zi (f (i + 1))]) dL_law_1109 lk_L_139 cw_X7_image rfl sh_79 rfl rfl (m_image hM2 hI (hf _)) (by decide) (Nat.le_of_ble_eq_true rfl) ⟨Nat.le_refl _, Nat.le_refl _⟩ (fun v1 mem1 hq1 => ?_)
  obtain ⟨e1, hM3, hF1⟩ := hq1
  have hC3 := hC1.frm hF1
  rw [e0, e1]
  refine J_ceqT (tgt := 1288) dL_law_1112 rfl ?_
  exact nxt _ _ ⟨hC3, hM3, i_image hI⟩
theorem law_30 {nm : String} {L : Nat} {f : Int → Int} (hL : L ≤ 384) (hf : ∀ j, In32 (f j)) {i : Int} (hi : 0 ≤ i ∧ i + 6 ≤ L) (nxt : Nxt nm L f i) {mem : ZMem} {S : ZS} (hB : Bth mem S) : JL nm L f 1117 [zr 1005, zr 0, zr 79, zi i] [] (hp mem) 93 3335 := by
  obtain ⟨hC, hM, hI⟩ := hB
  refine J_al1 dL_law_1117 ?_
  refine J_al0 dL_law_1118 ?_
  refine J_il3 dL_law_1119 ?_
  refine J_iconst dL_law_1120 ?_
  refine J_iadd dL_law_1121 ?_
  refine J_sald dL_law_1122 (by omega) (by omega) ?_
  refine L_cI (za := [zi (f (i + 1))]) dL_law_1123 lk_L_140 cw_X6_restore rfl sh_0 rfl rfl (c_restore hC hI (hf _)) (by decide) (Nat.le_of_ble_eq_true rfl) ⟨Nat.le_refl _, Nat.le_refl _⟩ (fun v0 mem0 hq0 => ?_)
  obtain ⟨e0, hC1, hF0⟩ := hq0
  have hM2 := hM.frc hF0
  refine J_al2 dL_law_1126 ?_
  refine J_al0 dL_law_1127 ?_
  refine J_il3 dL_law_1128 ?_
  refine J_iconst dL_law_1129 ?_
  refine J_iadd dL_law_1130 ?_
  refine J_sald dL_law_1131 (by omega) (by omega) ?_
  refine L_cI (za := [zi (f (i + 1))]) dL_law_1132 lk_L_143 cw_X7_restore rfl sh_79 rfl rfl (m_restore hM2 hI (hf _)) (by decide) (Nat.le_of_ble_eq_true rfl) ⟨Nat.le_refl _, Nat.le_refl _⟩ (fun v1 mem1 hq1 => ?_)
  obtain ⟨e1, hM3, hF1⟩ := hq1
  have hC3 := hC1.frm hF1
  rw [e0, e1]
  refine J_ceqT (tgt := 1288) dL_law_1135 rfl ?_
  exact nxt _ _ ⟨hC3, hM3, i_restore hI⟩
theorem law_31 {nm : String} {L : Nat} {f : Int → Int} (hL : L ≤ 384) (hf : ∀ j, In32 (f j)) {i : Int} (hi : 0 ≤ i ∧ i + 6 ≤ L) (nxt : Nxt nm L f i) {mem : ZMem} {S : ZS} (hB : Bth mem S) : JL nm L f 1140 [zr 1005, zr 0, zr 79, zi i] [] (hp mem) 93 3335 := by
  obtain ⟨hC, hM, hI⟩ := hB
  refine J_al1 dL_law_1140 ?_
  refine J_al0 dL_law_1141 ?_
  refine J_il3 dL_law_1142 ?_
  refine J_iconst dL_law_1143 ?_
  refine J_iadd dL_law_1144 ?_
  refine J_sald dL_law_1145 (by omega) (by omega) ?_
  refine L_cI (za := [zi (f (i + 1))]) dL_law_1146 lk_L_144 cw_X6_kind rfl sh_0 rfl rfl (c_kind hC hI (hf _)) (by decide) (Nat.le_of_ble_eq_true rfl) ⟨Nat.le_refl _, Nat.le_refl _⟩ (fun v0 mem0 hq0 => ?_)
  obtain ⟨e0, hC1, hF0⟩ := hq0
  have hM2 := hM.frc hF0
  refine J_al2 dL_law_1149 ?_
  refine J_al0 dL_law_1150 ?_
  refine J_il3 dL_law_1151 ?_
  refine J_iconst dL_law_1152 ?_
  refine J_iadd dL_law_1153 ?_
  refine J_sald dL_law_1154 (by omega) (by omega) ?_
  refine L_cI (za := [zi (f (i + 1))]) dL_law_1155 lk_L_147 cw_X7_kind rfl sh_79 rfl rfl (m_kind hM2 hI (hf _)) (by decide) (Nat.le_of_ble_eq_true rfl) ⟨Nat.le_refl _, Nat.le_refl _⟩ (fun v1 mem1 hq1 => ?_)
  obtain ⟨e1, hM3, hF1⟩ := hq1
  have hC3 := hC1.frm hF1
  rw [e0, e1]
  refine J_ceqT (tgt := 1288) dL_law_1158 rfl ?_
  exact nxt _ _ ⟨hC3, hM3, hI⟩
theorem law_32 {nm : String} {L : Nat} {f : Int → Int} (hL : L ≤ 384) (hf : ∀ j, In32 (f j)) {i : Int} (hi : 0 ≤ i ∧ i + 6 ≤ L) (nxt : Nxt nm L f i) {mem : ZMem} {S : ZS} (hB : Bth mem S) : JL nm L f 1163 [zr 1005, zr 0, zr 79, zi i] [] (hp mem) 93 3335 := by
  obtain ⟨hC, hM, hI⟩ := hB
  refine J_al1 dL_law_1163 ?_
  refine J_al0 dL_law_1164 ?_
  refine J_il3 dL_law_1165 ?_
  refine J_iconst dL_law_1166 ?_
  refine J_iadd dL_law_1167 ?_
  refine J_sald dL_law_1168 (by omega) (by omega) ?_
  refine J_al0 dL_law_1169 ?_
  refine J_il3 dL_law_1170 ?_
  refine J_iconst dL_law_1171 ?_
  refine J_iadd dL_law_1172 ?_
  refine J_sald dL_law_1173 (by omega) (by omega) ?_
  refine L_cI (za := [zi (f (i + 1)), zi (f (i + 2))]) dL_law_1174 lk_L_148 cw_X6_as rfl sh_0 rfl rfl (c_as hC hI (hf _) (hf _)) (by decide) (Nat.le_of_ble_eq_true rfl) ⟨Nat.le_refl _, Nat.le_refl _⟩ (fun v0 mem0 hq0 => ?_)
  obtain ⟨e0, hC1, hF0⟩ := hq0
  have hM2 := hM.frc hF0
  refine J_al2 dL_law_1177 ?_
  refine J_al0 dL_law_1178 ?_
  refine J_il3 dL_law_1179 ?_
  refine J_iconst dL_law_1180 ?_
  refine J_iadd dL_law_1181 ?_
  refine J_sald dL_law_1182 (by omega) (by omega) ?_
  refine J_al0 dL_law_1183 ?_
  refine J_il3 dL_law_1184 ?_
  refine J_iconst dL_law_1185 ?_
  refine J_iadd dL_law_1186 ?_
  refine J_sald dL_law_1187 (by omega) (by omega) ?_
  refine L_cI (za := [zi (f (i + 1)), zi (f (i + 2))]) dL_law_1188 lk_L_151 cw_X7_as rfl sh_79 rfl rfl (m_as hM2 hI (hf _) (hf _)) (by decide) (Nat.le_of_ble_eq_true rfl) ⟨Nat.le_refl _, Nat.le_refl _⟩ (fun v1 mem1 hq1 => ?_)
  obtain ⟨e1, hM3, hF1⟩ := hq1
  have hC3 := hC1.frm hF1
  rw [e0, e1]
  refine J_ceqT (tgt := 1288) dL_law_1191 rfl ?_
  exact nxt _ _ ⟨hC3, hM3, i_as hI⟩
theorem law_33 {nm : String} {L : Nat} {f : Int → Int} (hL : L ≤ 384) (hf : ∀ j, In32 (f j)) {i : Int} (hi : 0 ≤ i ∧ i + 6 ≤ L) (nxt : Nxt nm L f i) {mem : ZMem} {S : ZS} (hB : Bth mem S) : JL nm L f 1196 [zr 1005, zr 0, zr 79, zi i] [] (hp mem) 93 3335 := by
  obtain ⟨hC, hM, hI⟩ := hB
  refine J_al1 dL_law_1196 ?_
  refine J_al0 dL_law_1197 ?_
  refine J_il3 dL_law_1198 ?_
  refine J_iconst dL_law_1199 ?_
  refine J_iadd dL_law_1200 ?_
  refine J_sald dL_law_1201 (by omega) (by omega) ?_
  refine J_al0 dL_law_1202 ?_
  refine J_il3 dL_law_1203 ?_
  refine J_iconst dL_law_1204 ?_
  refine J_iadd dL_law_1205 ?_
  refine J_sald dL_law_1206 (by omega) (by omega) ?_
  refine L_cI (za := [zi (f (i + 1)), zi (f (i + 2))]) dL_law_1207 lk_L_152 cw_X6_ask rfl sh_0 rfl rfl (c_ask hC hI (hf _) (hf _)) (by decide) (Nat.le_of_ble_eq_true rfl) ⟨Nat.le_refl _, Nat.le_refl _⟩ (fun v0 mem0 hq0 => ?_)
  obtain ⟨e0, hC1, hF0⟩ := hq0
  have hM2 := hM.frc hF0
  refine J_al2 dL_law_1210 ?_
  refine J_al0 dL_law_1211 ?_
  refine J_il3 dL_law_1212 ?_
  refine J_iconst dL_law_1213 ?_
  refine J_iadd dL_law_1214 ?_
  refine J_sald dL_law_1215 (by omega) (by omega) ?_
  refine J_al0 dL_law_1216 ?_
  refine J_il3 dL_law_1217 ?_
  refine J_iconst dL_law_1218 ?_
  refine J_iadd dL_law_1219 ?_
  refine J_sald dL_law_1220 (by omega) (by omega) ?_
  refine L_cI (za := [zi (f (i + 1)), zi (f (i + 2))]) dL_law_1221 lk_L_155 cw_X7_ask rfl sh_79 rfl rfl (m_ask hM2 hI (hf _) (hf _)) (by decide) (Nat.le_of_ble_eq_true rfl) ⟨Nat.le_refl _, Nat.le_refl _⟩ (fun v1 mem1 hq1 => ?_)
  obtain ⟨e1, hM3, hF1⟩ := hq1
  have hC3 := hC1.frm hF1
  rw [e0, e1]
  refine J_ceqT (tgt := 1288) dL_law_1224 rfl ?_
  exact nxt _ _ ⟨hC3, hM3, i_ask hI⟩
theorem law_34 {nm : String} {L : Nat} {f : Int → Int} (hL : L ≤ 384) (hf : ∀ j, In32 (f j)) {i : Int} (hi : 0 ≤ i ∧ i + 6 ≤ L) (nxt : Nxt nm L f i) {mem : ZMem} {S : ZS} (hB : Bth mem S) : JL nm L f 1229 [zr 1005, zr 0, zr 79, zi i] [] (hp mem) 93 3335 := by
  obtain ⟨hC, hM, hI⟩ := hB
  refine J_al1 dL_law_1229 ?_
  refine J_al0 dL_law_1230 ?_
  refine J_il3 dL_law_1231 ?_
  refine J_iconst dL_law_1232 ?_
  refine J_iadd dL_law_1233 ?_
  refine J_sald dL_law_1234 (by omega) (by omega) ?_
  refine L_cI (za := [zi (f (i + 1))]) dL_law_1235 lk_L_156 cw_X6_trace rfl sh_0 rfl rfl (c_trace hC hI (hf _)) (by decide) (Nat.le_of_ble_eq_true rfl) ⟨Nat.le_refl _, Nat.le_refl _⟩ (fun v0 mem0 hq0 => ?_)
  obtain ⟨e0, hC1, hF0⟩ := hq0
  have hM2 := hM.frc hF0
  refine J_al2 dL_law_1238 ?_
  refine J_al0 dL_law_1239 ?_
  refine J_il3 dL_law_1240 ?_
  refine J_iconst dL_law_1241 ?_
  refine J_iadd dL_law_1242 ?_
  refine J_sald dL_law_1243 (by omega) (by omega) ?_
  refine L_cI (za := [zi (f (i + 1))]) dL_law_1244 lk_L_159 cw_X7_trace rfl sh_79 rfl rfl (m_trace hM2 hI (hf _)) (by decide) (Nat.le_of_ble_eq_true rfl) ⟨Nat.le_refl _, Nat.le_refl _⟩ (fun v1 mem1 hq1 => ?_)
  obtain ⟨e1, hM3, hF1⟩ := hq1
  have hC3 := hC1.frm hF1
  rw [e0, e1]
  refine J_ceqT (tgt := 1288) dL_law_1247 rfl ?_
  exact nxt _ _ ⟨hC3, hM3, hI⟩
theorem law_35 {nm : String} {L : Nat} {f : Int → Int} (hL : L ≤ 384) (hf : ∀ j, In32 (f j)) {i : Int} (hi : 0 ≤ i ∧ i + 6 ≤ L) (nxt : Nxt nm L f i) {mem : ZMem} {S : ZS} (hB : Bth mem S) : JL nm L f 1252 [zr 1005, zr 0, zr 79, zi i] [] (hp mem) 93 3335 := by
  obtain ⟨hC, hM, hI⟩ := hB
  refine J_al1 dL_law_1252 ?_
  refine J_al0 dL_law_1253 ?_
  refine J_il3 dL_law_1254 ?_
  refine J_iconst dL_law_1255 ?_
  refine J_iadd dL_law_1256 ?_
  refine J_sald dL_law_1257 (by omega) (by omega) ?_
  refine L_cI (za := [zi (f (i + 1))]) dL_law_1258 lk_L_160 cw_X6_count rfl sh_0 rfl rfl (c_count hC hI (hf _)) (by decide) (Nat.le_of_ble_eq_true rfl) ⟨Nat.le_refl _, Nat.le_refl _⟩ (fun v0 mem0 hq0 => ?_)
  obtain ⟨e0, hC1, hF0⟩ := hq0
  have hM2 := hM.frc hF0
  refine J_al2 dL_law_1261 ?_
  refine J_al0 dL_law_1262 ?_
  refine J_il3 dL_law_1263 ?_
  refine J_iconst dL_law_1264 ?_
  refine J_iadd dL_law_1265 ?_
  refine J_sald dL_law_1266 (by omega) (by omega) ?_
  refine L_cI (za := [zi (f (i + 1))]) dL_law_1267 lk_L_163 cw_X7_count rfl sh_79 rfl rfl (m_count hM2 hI (hf _)) (by decide) (Nat.le_of_ble_eq_true rfl) ⟨Nat.le_refl _, Nat.le_refl _⟩ (fun v1 mem1 hq1 => ?_)
  obtain ⟨e1, hM3, hF1⟩ := hq1
  have hC3 := hC1.frm hF1
  rw [e0, e1]
  refine J_ceqT (tgt := 1288) dL_law_1270 rfl ?_
  exact nxt _ _ ⟨hC3, hM3, hI⟩
theorem law_36 {nm : String} {L : Nat} {f : Int → Int} (hL : L ≤ 384) (hf : ∀ j, In32 (f j)) {i : Int} (hi : 0 ≤ i ∧ i + 6 ≤ L) (nxt : Nxt nm L f i) {mem : ZMem} {S : ZS} (hB : Bth mem S) : JL nm L f 1275 [zr 1005, zr 0, zr 79, zi i] [] (hp mem) 93 3335 := by
  obtain ⟨hC, hM, hI⟩ := hB
  refine J_al1 dL_law_1275 ?_
  refine L_cI (za := []) dL_law_1276 lk_L_164 cw_X6_status rfl sh_0 rfl rfl (c_status hC) (by decide) (Nat.le_of_ble_eq_true rfl) ⟨Nat.le_refl _, Nat.le_refl _⟩ (fun v0 mem0 hq0 => ?_)
  obtain ⟨e0, hC1, hF0⟩ := hq0
  have hM2 := hM.frc hF0
  refine J_al2 dL_law_1279 ?_
  refine L_cI (za := []) dL_law_1280 lk_L_167 cw_X7_status rfl sh_79 rfl rfl (m_status hM2) (by decide) (Nat.le_of_ble_eq_true rfl) ⟨Nat.le_refl _, Nat.le_refl _⟩ (fun v1 mem1 hq1 => ?_)
  obtain ⟨e1, hM3, hF1⟩ := hq1
  have hC3 := hC1.frm hF1
  rw [e0, e1]
  refine J_ceqT (tgt := 1288) dL_law_1283 rfl ?_
  exact nxt _ _ ⟨hC3, hM3, hI⟩
theorem z63 (a : Int) : 0 ≤ zand a 63 ∧ zand a 63 ≤ 63 := by
  unfold zand
  show 0 ≤ ((Int32.ofInt a).toBitVec &&& (Int32.ofInt 63).toBitVec).toInt ∧ ((Int32.ofInt a).toBitVec &&& (Int32.ofInt 63).toBitVec).toInt ≤ 63
  generalize (Int32.ofInt a).toBitVec = x
  have e : (Int32.ofInt 63).toBitVec = 63#32 := by decide
  rw [e]
  have h1 : (x &&& 63#32).toNat = x.toNat % 64 := by
    rw [BitVec.toNat_and]
    exact Nat.and_two_pow_sub_one_eq_mod x.toNat 6
  have h2 : (x &&& 63#32).toInt = ((x &&& 63#32).toNat : Int) := BitVec.toInt_eq_toNat_of_lt (by rw [h1]; omega)
  rw [h2, h1]
  omega
theorem law_loop {nm : String} {L : Nat} {f : Int → Int} (hL : L ≤ 384) (hf : ∀ j, In32 (f j)) : ∀ (c : Nat) (i : Int) (mem : ZMem) (S : ZS), (L : Int) - i ≤ c → 0 ≤ i → i ≤ 1000 → Bth mem S → JL nm L f 18 [zr 1005, zr 0, zr 79, zi i] [] (hp mem) 93 3335 := by
  intro c
  induction c with
  | zero =>
    intro i mem S a0 a1 a2 hB
    refine J_il3 dL_law_18 ?_
    refine J_al0 dL_law_19 ?_
    refine J_slen dL_law_20 ?_
    refine J_bipush dL_law_21 rfl ?_
    refine J_isub dL_law_23 ?_
    refine J_cgt (tgt := 1294) dL_law_24 rfl (by omega) (fun c_24 => ?_) (fun c_24 => by omega)
    refine J_iconst dL_law_1294 ?_
    exact J_zret dL_law_1295 rfl (Or.inr rfl) rfl (Nat.le_refl _) rfl
  | succ c ih =>
    intro i mem S a0 a1 a2 hB
    have nxt : i + 6 ≤ L → Nxt nm L f i := fun hi mem2 S2 hB2 => by
      refine J_inc3 dL_law_1288 (show 3 < 4 by decide) rfl ?_
      refine J_goto (tgt := 18) dL_law_1291 rfl ?_
      exact ih (i + 6) mem2 S2 (by omega) (by omega) (by omega) hB2
    refine J_il3 dL_law_18 ?_
    refine J_al0 dL_law_19 ?_
    refine J_slen dL_law_20 ?_
    refine J_bipush dL_law_21 rfl ?_
    refine J_isub dL_law_23 ?_
    refine J_cgt (tgt := 1294) dL_law_24 rfl (by omega) (fun c_24 => ?_) (fun c_24 => ?_)
    · refine J_iconst dL_law_1294 ?_
      exact J_zret dL_law_1295 rfl (Or.inr rfl) rfl (Nat.le_refl _) rfl
    have hi : 0 ≤ i ∧ i + 6 ≤ L := by omega
    have nx := nxt hi.2
    refine J_al0 dL_law_27 ?_
    refine J_il3 dL_law_28 ?_
    refine J_sald dL_law_29 (by omega) (by omega) ?_
    refine J_bipush dL_law_30 rfl ?_
    refine J_iand dL_law_32 ?_
    have hz := z63 (f i)
    generalize zand (f i) 63 = k at *
    by_cases c_33 : k < 0 ∨ 36 < k
    · refine J_tsOut (tgt := 1288) dL_law_33 c_33 (by omega) rfl ?_
      exact nx mem S hB
    have c_33 : k = 0 ∨ k = 1 ∨ k = 2 ∨ k = 3 ∨ k = 4 ∨ k = 5 ∨ k = 6 ∨ k = 7 ∨ k = 8 ∨ k = 9 ∨ k = 10 ∨ k = 11 ∨ k = 12 ∨ k = 13 ∨ k = 14 ∨ k = 15 ∨ k = 16 ∨ k = 17 ∨ k = 18 ∨ k = 19 ∨ k = 20 ∨ k = 21 ∨ k = 22 ∨ k = 23 ∨ k = 24 ∨ k = 25 ∨ k = 26 ∨ k = 27 ∨ k = 28 ∨ k = 29 ∨ k = 30 ∨ k = 31 ∨ k = 32 ∨ k = 33 ∨ k = 34 ∨ k = 35 ∨ k = 36 := by omega
    rcases c_33 with rfl | rfl | rfl | rfl | rfl | rfl | rfl | rfl | rfl | rfl | rfl | rfl | rfl | rfl | rfl | rfl | rfl | rfl | rfl | rfl | rfl | rfl | rfl | rfl | rfl | rfl | rfl | rfl | rfl | rfl | rfl | rfl | rfl | rfl | rfl | rfl | rfl
    · exact J_tsIn (off := 163) (tgt := 196) dL_law_33 (by omega) (by omega) (by omega) rfl rfl (law_0 hL hf hi nx hB)
    · exact J_tsIn (off := 206) (tgt := 239) dL_law_33 (by omega) (by omega) (by omega) rfl rfl (law_1 hL hf hi nx hB)
    · exact J_tsIn (off := 249) (tgt := 282) dL_law_33 (by omega) (by omega) (by omega) rfl rfl (law_2 hL hf hi nx hB)
    · exact J_tsIn (off := 312) (tgt := 345) dL_law_33 (by omega) (by omega) (by omega) rfl rfl (law_3 hL hf hi nx hB)
    · exact J_tsIn (off := 335) (tgt := 368) dL_law_33 (by omega) (by omega) (by omega) rfl rfl (law_4 hL hf hi nx hB)
    · exact J_tsIn (off := 358) (tgt := 391) dL_law_33 (by omega) (by omega) (by omega) rfl rfl (law_5 hL hf hi nx hB)
    · exact J_tsIn (off := 371) (tgt := 404) dL_law_33 (by omega) (by omega) (by omega) rfl rfl (law_6 hL hf hi nx hB)
    · exact J_tsIn (off := 384) (tgt := 417) dL_law_33 (by omega) (by omega) (by omega) rfl rfl (law_7 hL hf hi nx hB)
    · exact J_tsIn (off := 397) (tgt := 430) dL_law_33 (by omega) (by omega) (by omega) rfl rfl (law_8 hL hf hi nx hB)
    · exact J_tsIn (off := 420) (tgt := 453) dL_law_33 (by omega) (by omega) (by omega) rfl rfl (law_9 hL hf hi nx hB)
    · exact J_tsIn (off := 443) (tgt := 476) dL_law_33 (by omega) (by omega) (by omega) rfl rfl (law_10 hL hf hi nx hB)
    · exact J_tsIn (off := 466) (tgt := 499) dL_law_33 (by omega) (by omega) (by omega) rfl rfl (law_11 hL hf hi nx hB)
    · exact J_tsIn (off := 489) (tgt := 522) dL_law_33 (by omega) (by omega) (by omega) rfl rfl (law_12 hL hf hi nx hB)
    · exact J_tsIn (off := 512) (tgt := 545) dL_law_33 (by omega) (by omega) (by omega) rfl rfl (law_13 hL hf hi nx hB)
    · exact J_tsIn (off := 545) (tgt := 578) dL_law_33 (by omega) (by omega) (by omega) rfl rfl (law_14 hL hf hi nx hB)
    · exact J_tsIn (off := 568) (tgt := 601) dL_law_33 (by omega) (by omega) (by omega) rfl rfl (law_15 hL hf hi nx hB)
    · exact J_tsIn (off := 591) (tgt := 624) dL_law_33 (by omega) (by omega) (by omega) rfl rfl (law_16 hL hf hi nx hB)
    · exact J_tsIn (off := 634) (tgt := 667) dL_law_33 (by omega) (by omega) (by omega) rfl rfl (law_17 hL hf hi nx hB)
    · exact J_tsIn (off := 657) (tgt := 690) dL_law_33 (by omega) (by omega) (by omega) rfl rfl (law_18 hL hf hi nx hB)
    · exact J_tsIn (off := 690) (tgt := 723) dL_law_33 (by omega) (by omega) (by omega) rfl rfl (law_19 hL hf hi nx hB)
    · exact J_tsIn (off := 733) (tgt := 766) dL_law_33 (by omega) (by omega) (by omega) rfl rfl (law_20 hL hf hi nx hB)
    · exact J_tsIn (off := 776) (tgt := 809) dL_law_33 (by omega) (by omega) (by omega) rfl rfl (law_21 hL hf hi nx hB)
    · exact J_tsIn (off := 819) (tgt := 852) dL_law_33 (by omega) (by omega) (by omega) rfl rfl (law_22 hL hf hi nx hB)
    · exact J_tsIn (off := 872) (tgt := 905) dL_law_33 (by omega) (by omega) (by omega) rfl rfl (law_23 hL hf hi nx hB)
    · exact J_tsIn (off := 895) (tgt := 928) dL_law_33 (by omega) (by omega) (by omega) rfl rfl (law_24 hL hf hi nx hB)
    · exact J_tsIn (off := 908) (tgt := 941) dL_law_33 (by omega) (by omega) (by omega) rfl rfl (law_25 hL hf hi nx hB)
    · exact J_tsIn (off := 951) (tgt := 984) dL_law_33 (by omega) (by omega) (by omega) rfl rfl (law_26 hL hf hi nx hB)
    · exact J_tsIn (off := 974) (tgt := 1007) dL_law_33 (by omega) (by omega) (by omega) rfl rfl (law_27 hL hf hi nx hB)
    · exact J_tsIn (off := 1018) (tgt := 1051) dL_law_33 (by omega) (by omega) (by omega) rfl rfl (law_28 hL hf hi nx hB)
    · exact J_tsIn (off := 1061) (tgt := 1094) dL_law_33 (by omega) (by omega) (by omega) rfl rfl (law_29 hL hf hi nx hB)
    · exact J_tsIn (off := 1084) (tgt := 1117) dL_law_33 (by omega) (by omega) (by omega) rfl rfl (law_30 hL hf hi nx hB)
    · exact J_tsIn (off := 1107) (tgt := 1140) dL_law_33 (by omega) (by omega) (by omega) rfl rfl (law_31 hL hf hi nx hB)
    · exact J_tsIn (off := 1130) (tgt := 1163) dL_law_33 (by omega) (by omega) (by omega) rfl rfl (law_32 hL hf hi nx hB)
    · exact J_tsIn (off := 1163) (tgt := 1196) dL_law_33 (by omega) (by omega) (by omega) rfl rfl (law_33 hL hf hi nx hB)
    · exact J_tsIn (off := 1196) (tgt := 1229) dL_law_33 (by omega) (by omega) (by omega) rfl rfl (law_34 hL hf hi nx hB)
    · exact J_tsIn (off := 1219) (tgt := 1252) dL_law_33 (by omega) (by omega) (by omega) rfl rfl (law_35 hL hf hi nx hB)
    · exact J_tsIn (off := 1242) (tgt := 1275) dL_law_33 (by omega) (by omega) (by omega) rfl rfl (law_36 hL hf hi nx hB)
