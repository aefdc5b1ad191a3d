theorem hr_go {mem : ZMem} {q : Nat} (hQ : isW q) {b : BN} (hI : BInv b.1 b.2) (hh : b.1 4 ≤ 2999) (F : Int → Prop) {fb h N : Int} {c : BN × Int} (hc : c = (((callR F (bckN (b.1 3).toNat b).1 [] (bckN (b.1 3).toNat b).2).1, (callR F (bckN (b.1 3).toNat b).1 [] (bckN (b.1 3).toNat b).2).2.1), (callR F (bckN (b.1 3).toNat b).1 [] (bckN (b.1 3).toNat b).2).2.2)) (hcI : BInv c.1.1 c.1.2) (hc4 : c.1.1 4 = b.1 4) (hN : N ≤ 7) : ∀ (R : List Int) (d : BN) (went i : Int) (m2 : ZMem), i + R.length = N → 0 ≤ i → (∀ x : Int, 0 ≤ x → x < R.length → m2 88 (i + x) = lget R x) → MX (m2 q) d.1 d.2 → BInv d.1 d.2 → d.1 4 = b.1 4 → R.Nodup → (∀ m ∈ R, m ∈ d.2) → gcN d R = (c.1, c.2 - went) → FrH q mem m2 → JM mX7_hour 4 (QI (HrQ F b q mem)) 144 [zr 79, zr q, zi fb, zi h, zi N, zi went, zi i] [] m2 := by
  have hw := isW88 hQ
  intro R
  induction R with
  | nil =>
    intro d went i m2 e0 i0 a1 a2 a3 a4 a5 a6 a7 a8
    have e0 : i + ((0 : Nat) : Int) = N := e0
    have hd : d = c.1 := congrArg Prod.fst a7
    have hz : (0 : Int) = c.2 - went := congrArg Prod.snd a7
    refine J_il6 dX7_hour_144 ?_
    refine J_il4 dX7_hour_146 ?_
    refine J_cge (tgt := 201) dX7_hour_148 rfl (by omega) (fun c_148 => ?_) (fun c_148 => ?_)
    · skip
      refine J_iconst dX7_hour_201 ?_
      refine J_is6 dX7_hour_202 (by decide) rfl ?_
      have ew : went = c.2 := by omega
      rw [ew]
      rw [hd] at a2
      exact hr_warm hQ hI hh F hc hcI hc4 c.1.2.length 0 0 m2 rfl (by omega) a2 a8
    · skip
      omega
  | cons m R ih =>
    intro d went i m2 e0 i0 a1 a2 a3 a4 a5 a6 a7 a8
    have e0 : i + (R.length + 1 : Nat) = N := e0
    have hm := a6 m List.mem_cons_self
    obtain ⟨m0, m1⟩ := a3.2.2.1 m hm
    have h3 := a3.1
    have h8 : m2 88 i = m := by
      have := a1 0 (by omega) (by rw [List.length_cons]; omega)
      rwa [Int.add_zero] at this
    have hlg : m2 q (15 + 5 * m + 2) = lg d.1 m := (a2.2.2 m m0 m1).2.2.1
    have hlr := (a3.2.2.2.2.1 m m0 m1).2.2.1
    have c4 : m2 q 4 = d.1 4 := a2.1.2.2.2.1
    have h4 := a3.2.2.2.1
    obtain ⟨n1, n2⟩ := List.nodup_cons.mp a5
    have hr : ∀ x : Int, 0 ≤ x → x < R.length → m2 88 (i + 1 + x) = lget R x := fun x x0 x1 => by
      have := a1 (x + 1) (by omega) (by rw [List.length_cons]; omega)
      rw [lget_cs (by omega), show x + 1 - 1 = x by omega] at this
      rw [show i + 1 + x = i + (x + 1) by omega]
      exact this
    have eg : gcN d (m :: R) = cif (goesR d.1 d.2.length m (plc d.2 m)) ((gcN (goneR d m (d.1 4 + lg d.1 m)) R).1, (gcN (goneR d m (d.1 4 + lg d.1 m)) R).2 + 1) (gcN d R) := rfl
    have yes : goesR d.1 d.2.length m (plc d.2 m) → ∀ m3 : ZMem, MX (m3 q) (goneR d m (d.1 4 + lg d.1 m)).1 (goneR d m (d.1 4 + lg d.1 m)).2 → FrR q m2 m3 → JM mX7_hour 4 (QI (HrQ F b q mem)) 144 [zr 79, zr q, zi fb, zi h, zi N, zi (went + 1), zi (i + 1)] [] m3 := by
      intro g m3 hM2 hF2
      refine ih (goneR d m (d.1 4 + lg d.1 m)) (went + 1) (i + 1) m3 (by omega) (by omega) (fun x x0 x1 => by rw [hF2.1 88 (Ne.symm hw.1)]; exact hr x x0 x1) hM2 (goneR_inv a3 m0 m1 ⟨by omega, by omega, by omega⟩) (by show zup d.1 (15 + 5 * m + 4) (d.1 4 + lg d.1 m) 4 = _; rw [zup_n (by omega)]; exact a4) n2 (fun x hx => ?_) ?_ (a8.tr hF2.h)
      · have hx2 := a6 x (List.mem_cons_of_mem _ hx)
        have hxm : x ≠ m := fun e => n1 (e ▸ hx)
        show x ∈ remL d.2 m
        obtain ⟨A, B, e1, e2, -⟩ := remL_split hm
        rw [e2]
        rw [e1] at hx2
        rcases List.mem_append.mp hx2 with z | z
        · exact List.mem_append_left _ z
        · rcases List.mem_cons.mp z with z | z
          · exact absurd z hxm
          · exact List.mem_append_right _ z
      · rw [eg, cif_t g] at a7
        obtain ⟨z1, z2⟩ := Prod.mk.inj a7
        exact Prod.ext z1 (by show (gcN (goneR d m (d.1 4 + lg d.1 m)) R).2 = c.2 - (went + 1); omega)
    refine J_il6 dX7_hour_144 ?_
    refine J_il4 dX7_hour_146 ?_
    refine J_cge (tgt := 201) dX7_hour_148 rfl (by omega) (fun c_148 => ?_) (fun c_148 => ?_)
    · skip
      omega
    · skip
      refine J_al1 dX7_hour_151 ?_
      refine J_al0 dX7_hour_152 ?_
      refine M_getR dX7_hour_153 fl_X7_34 sh_79 rfl ?_
      refine J_il6 dX7_hour_156 ?_
      refine M_ald dX7_hour_158 sh_88 (by decide) (by omega) ?_
      rw [h8]
      refine M_csI2 dX7_hour_159 lk_X7_174 cw_X7_goes (k_goes hQ a2 a3 (by omega) hm) (by decide) (Nat.le_of_ble_eq_true rfl) (fun v_159 mem_159 hq => ?_)
      obtain ⟨rfl, hq⟩ := hq; have hq := hq.symm; subst hq
      refine J_ifeq_b (tgt := 195) dX7_hour_162 rfl (fun c_162 => ?_) (fun c_162 => ?_)
      · skip
        refine J_inc6 dX7_hour_195 (by decide) rfl ?_
        refine J_goto (tgt := 144) dX7_hour_198 rfl ?_
        first
        | exact yes c_162 mem_189 hM2 hF2
        | exact ih d _ _ _ (by omega) (by omega) hr a2 a3 a4 n2 (fun x hx => a6 x (List.mem_cons_of_mem _ hx)) (by rw [eg, cif_f c_162] at a7; exact a7) a8
      · skip
        refine J_al1 dX7_hour_165 ?_
        refine J_al0 dX7_hour_166 ?_
        refine M_getR dX7_hour_167 fl_X7_34 sh_79 rfl ?_
        refine J_il6 dX7_hour_170 ?_
        refine M_ald dX7_hour_172 sh_88 (by decide) (by omega) ?_
        rw [h8]
        refine J_al1 dX7_hour_173 ?_
        refine J_iconst dX7_hour_174 ?_
        refine M_ald dX7_hour_175 (isW_sh hQ) (by decide) (by omega) ?_
        refine J_al1 dX7_hour_176 ?_
        refine J_al0 dX7_hour_177 ?_
        refine M_getR dX7_hour_178 fl_X7_34 sh_79 rfl ?_
        refine J_il6 dX7_hour_181 ?_
        refine M_ald dX7_hour_183 sh_88 (by decide) (by omega) ?_
        rw [h8]
        refine J_iconst dX7_hour_184 ?_
        refine M_csI3 dX7_hour_185 lk_X7_163 cw_X7_of (k_of hQ (by omega) (by omega)) (by decide) (Nat.le_of_ble_eq_true rfl) (fun v_185 mem_185 hq => ?_)
        obtain ⟨e, hq⟩ := hq; rw [hlg] at e; subst e; have hq := hq.symm; subst hq
        refine J_iadd dX7_hour_188 ?_
        rw [c4]
        refine M_csV3 dX7_hour_189 lk_X7_177 cw_X7_getUp (k_getUp hQ a2 a3 (by omega)) (by decide) (Nat.le_of_ble_eq_true rfl) (fun mem_189 hq => ?_)
        obtain ⟨hM2, hF2⟩ := hq
        refine J_inc5 dX7_hour_192 (by decide) rfl ?_
        refine J_inc6 dX7_hour_195 (by decide) rfl ?_
        refine J_goto (tgt := 144) dX7_hour_198 rfl ?_
        first
        | exact yes c_162 mem_189 hM2 hF2
        | exact ih d _ _ _ (by omega) (by omega) hr a2 a3 a4 n2 (fun x hx => a6 x (List.mem_cons_of_mem _ hx)) (by rw [eg, cif_f c_162] at a7; exact a7) a8
theorem zsr_r (a b : Int) : In32 (zand (zshr a b) 1) := zand_r _ _
theorem hr_call {mem : ZMem} {q : Nat} (hQ : isW q) {b : BN} (hI : BInv b.1 b.2) (hh : b.1 4 ≤ 2999) (F : Int → Prop) {fb : Int} (hF : ∀ m, 0 ≤ m → m < 7 → (zand (zshr fb m) 1 = 0 ↔ F m)) {d : BN} (hd : d = bckN (b.1 3).toNat b) (hdI : BInv d.1 d.2) (hd4 : d.1 4 = b.1 4) : ∀ (k kn : Nat) (n p : Int) (z : ZV) (m2 : ZMem), p = kn → (k : Int) + p = d.2.length → n = (clL F d.1 (d.2.take kn)).length → (∀ x : Int, 0 ≤ x → x < n → m2 88 x = lget (clL F d.1 (d.2.take kn)) x) → MX (m2 q) d.1 d.2 → FrH q mem m2 → JM mX7_hour 4 (QI (HrQ F b q mem)) 82 [zr 79, zr q, zi fb, zi (b.1 4 % 24), zi n, zi p, z] [] m2 := by
  have hw := isW88 hQ
  have hl := hdI.len
  have h3 := hdI.1
  have h4 := hdI.2.2.2.1
  intro k
  induction k with
  | zero =>
    intro kn n p z m2 e0 a1 a2 a3 a4 a5
    have c7 : m2 q 7 = (d.2.length : Int) := a4.1.2.2.2.2.2
    have et : d.2.take kn = d.2 := List.take_of_length_le (by omega)
    rw [et] at a2 a3
    have hcl := clL_len F d.1 d.2
    have hg := gc_call F d.2 d.1 [] hdI
    obtain ⟨c1, c2, c3, c4', c5, c6⟩ := callR_inv F d.2 d.1 [] hdI
    refine J_il5 dX7_hour_82 ?_
    refine J_al1 dX7_hour_84 ?_
    refine J_bipush dX7_hour_85 rfl ?_
    refine M_ald dX7_hour_87 (isW_sh hQ) (by decide) (by omega) ?_
    refine J_cge (tgt := 138) dX7_hour_88 rfl (by omega) (fun c_88 => ?_) (fun c_88 => ?_)
    · skip
      refine J_iconst dX7_hour_138 ?_
      refine J_is5 dX7_hour_139 (by decide) rfl ?_
      refine J_iconst dX7_hour_141 ?_
      refine J_is6 dX7_hour_142 (by decide) rfl ?_
      refine hr_go (c := (((callR F d.1 [] d.2).1, (callR F d.1 [] d.2).2.1), (callR F d.1 [] d.2).2.2)) hQ hI hh F (by rw [hd]) c1 (by show (callR F d.1 [] d.2).1 4 = b.1 4; rw [c3, hd4]) (by omega) (clL F d.1 d.2) d 0 0 m2 (by omega) (by omega) (fun x x0 x1 => by rw [Int.zero_add]; exact a3 x x0 (by omega)) a4 hdI hd4 (clL_nodup hdI.2.1) (fun m hm => clL_mem hm) ?_ a5
      have hg : gcN d (clL F d.1 d.2) = _ := hg
      rw [hg]
      exact Prod.ext rfl (by show (callR F d.1 [] d.2).2.2 = (callR F d.1 [] d.2).2.2 - 0; omega)
    · skip
      omega
  | succ k ih =>
    intro kn n p z m2 e0 a1 a2 a3 a4 a5
    have c7 : m2 q 7 = (d.2.length : Int) := a4.1.2.2.2.2.2
    have hcl := clL_len F d.1 (d.2.take kn)
    rw [List.length_take] at hcl
    have hO : m2 q (8 + p) = lget d.2 kn := by rw [← e0]; exact a4.2.1 p (by omega) (by omega)
    obtain ⟨m0, m1⟩ := hdI.2.2.1 _ (lget_mem (L := d.2) (p := (kn : Int)) (by omega) (by omega))
    have hdn : m2 q (15 + 5 * lget d.2 kn + 1) = dn d.1 (lget d.2 kn) := (a4.2.2 _ m0 m1).2.1
    have hdr := (hdI.2.2.2.2.1 _ m0 m1).2.1
    have et : clL F d.1 (d.2.take (kn + 1)) = clL F d.1 (d.2.take kn) ++ clL F d.1 [lget d.2 kn] := by rw [take_s (by omega), clL_app]
    have e1 : clL F d.1 [lget d.2 kn] = cif (dn d.1 (lget d.2 kn) = d.1 4 % 24 ∧ F (lget d.2 kn)) [lget d.2 kn] [] := rfl
    have stay : ¬ (dn d.1 (lget d.2 kn) = d.1 4 % 24 ∧ F (lget d.2 kn)) → clL F d.1 (d.2.take (kn + 1)) = clL F d.1 (d.2.take kn) := fun g => by rw [et, e1, cif_f g, List.append_nil]
    refine J_il5 dX7_hour_82 ?_
    refine J_al1 dX7_hour_84 ?_
    refine J_bipush dX7_hour_85 rfl ?_
    refine M_ald dX7_hour_87 (isW_sh hQ) (by decide) (by omega) ?_
    refine J_cge (tgt := 138) dX7_hour_88 rfl (by omega) (fun c_88 => ?_) (fun c_88 => ?_)
    · skip
      omega
    · skip
      refine J_al1 dX7_hour_91 ?_
      refine J_bipush dX7_hour_92 rfl ?_
      refine J_il5 dX7_hour_94 ?_
      refine J_iadd dX7_hour_96 ?_
      refine M_ald dX7_hour_97 (isW_sh hQ) (by decide) (by omega) ?_
      rw [hO]
      refine J_is6 dX7_hour_98 (by decide) rfl ?_
      refine J_al1 dX7_hour_100 ?_
      refine J_il6 dX7_hour_101 ?_
      refine J_iconst dX7_hour_103 ?_
      refine M_csI3 dX7_hour_104 lk_X7_163 cw_X7_of (k_of hQ (by omega) (by omega)) (by decide) (Nat.le_of_ble_eq_true rfl) (fun v_104 mem_104 hq => ?_)
      obtain ⟨e, hq⟩ := hq; rw [hdn] at e; subst e; have hq := hq.symm; subst hq
      refine J_il3 dX7_hour_107 ?_
      refine J_cne (tgt := 132) dX7_hour_108 rfl (by omega) (fun c_108 => ?_) (fun c_108 => ?_)
      · skip
        refine J_inc5 dX7_hour_132 (by decide) rfl ?_
        refine J_goto (tgt := 82) dX7_hour_135 rfl ?_
        first
        | (have hg : dn d.1 (lget d.2 kn) = d.1 4 % 24 ∧ F (lget d.2 kn) := ⟨by omega, (hF _ m0 (by omega)).mp (by omega)⟩
           have en : clL F d.1 (d.2.take (kn + 1)) = clL F d.1 (d.2.take kn) ++ [lget d.2 kn] := by rw [et, e1, cif_t hg]
           refine ih (kn + 1) _ _ _ _ (by omega) (by omega) (by rw [en, List.length_append, List.length_singleton]; omega) (fun x x0 x1 => ?_) (by rw [mset_n hw.1]; exact a4) (a5.set88 hw.1)
           rw [en]
           by_cases y : x = n
           · subst y
             rw [mset_s, a2, lget_app_r (by omega), show ((clL F d.1 (d.2.take kn)).length : Int) - (clL F d.1 (d.2.take kn)).length = 0 by omega, lget_c0]
           · rw [mset_i y, lget_app_l x0 (by omega)]
             exact a3 x x0 (by omega))
        | exact ih (kn + 1) _ _ _ _ (by omega) (by omega) (by rw [stay (fun g => c_117 ((hF _ m0 (by omega)).mpr g.2))]; exact a2) (by rw [stay (fun g => c_117 ((hF _ m0 (by omega)).mpr g.2))]; exact a3) a4 a5
        | exact ih (kn + 1) _ _ _ _ (by omega) (by omega) (by rw [stay (fun g => c_108 (by omega))]; exact a2) (by rw [stay (fun g => c_108 (by omega))]; exact a3) a4 a5
      · skip
        refine J_il2 dX7_hour_111 ?_
        refine J_il6 dX7_hour_112 ?_
        refine J_ishr dX7_hour_114 ?_
        refine J_iconst dX7_hour_115 ?_
        refine J_iand dX7_hour_116 ?_
        refine J_ifne (tgt := 132) dX7_hour_117 rfl (by exact zsr_r _ _) (fun c_117 => ?_) (fun c_117 => ?_)
        · skip
          refine J_inc5 dX7_hour_132 (by decide) rfl ?_
          refine J_goto (tgt := 82) dX7_hour_135 rfl ?_
          first
          | (have hg : dn d.1 (lget d.2 kn) = d.1 4 % 24 ∧ F (lget d.2 kn) := ⟨by omega, (hF _ m0 (by omega)).mp (by omega)⟩
             have en : clL F d.1 (d.2.take (kn + 1)) = clL F d.1 (d.2.take kn) ++ [lget d.2 kn] := by rw [et, e1, cif_t hg]
             refine ih (kn + 1) _ _ _ _ (by omega) (by omega) (by rw [en, List.length_append, List.length_singleton]; omega) (fun x x0 x1 => ?_) (by rw [mset_n hw.1]; exact a4) (a5.set88 hw.1)
             rw [en]
             by_cases y : x = n
             · subst y
               rw [mset_s, a2, lget_app_r (by omega), show ((clL F d.1 (d.2.take kn)).length : Int) - (clL F d.1 (d.2.take kn)).length = 0 by omega, lget_c0]
             · rw [mset_i y, lget_app_l x0 (by omega)]
               exact a3 x x0 (by omega))
          | exact ih (kn + 1) _ _ _ _ (by omega) (by omega) (by rw [stay (fun g => c_117 ((hF _ m0 (by omega)).mpr g.2))]; exact a2) (by rw [stay (fun g => c_117 ((hF _ m0 (by omega)).mpr g.2))]; exact a3) a4 a5
          | exact ih (kn + 1) _ _ _ _ (by omega) (by omega) (by rw [stay (fun g => c_108 (by omega))]; exact a2) (by rw [stay (fun g => c_108 (by omega))]; exact a3) a4 a5
        · skip
          refine J_al0 dX7_hour_120 ?_
          refine M_getR dX7_hour_121 fl_X7_34 sh_79 rfl ?_
          refine J_il4 dX7_hour_124 ?_
          refine J_il6 dX7_hour_126 ?_
          refine M_ast dX7_hour_128 sh_88 (by decide) (by omega) ?_
          refine J_inc4 dX7_hour_129 (by decide) rfl ?_
          refine J_inc5 dX7_hour_132 (by decide) rfl ?_
          refine J_goto (tgt := 82) dX7_hour_135 rfl ?_
          first
          | (have hg : dn d.1 (lget d.2 kn) = d.1 4 % 24 ∧ F (lget d.2 kn) := ⟨by omega, (hF _ m0 (by omega)).mp (by omega)⟩
             have en : clL F d.1 (d.2.take (kn + 1)) = clL F d.1 (d.2.take kn) ++ [lget d.2 kn] := by rw [et, e1, cif_t hg]
             refine ih (kn + 1) _ _ _ _ (by omega) (by omega) (by rw [en, List.length_append, List.length_singleton]; omega) (fun x x0 x1 => ?_) (by rw [mset_n hw.1]; exact a4) (a5.set88 hw.1)
             rw [en]
             by_cases y : x = n
             · subst y
               rw [mset_s, a2, lget_app_r (by omega), show ((clL F d.1 (d.2.take kn)).length : Int) - (clL F d.1 (d.2.take kn)).length = 0 by omega, lget_c0]
             · rw [mset_i y, lget_app_l x0 (by omega)]
               exact a3 x x0 (by omega))
          | exact ih (kn + 1) _ _ _ _ (by omega) (by omega) (by rw [stay (fun g => c_117 ((hF _ m0 (by omega)).mpr g.2))]; exact a2) (by rw [stay (fun g => c_117 ((hF _ m0 (by omega)).mpr g.2))]; exact a3) a4 a5
          | exact ih (kn + 1) _ _ _ _ (by omega) (by omega) (by rw [stay (fun g => c_108 (by omega))]; exact a2) (by rw [stay (fun g => c_108 (by omega))]; exact a3) a4 a5
