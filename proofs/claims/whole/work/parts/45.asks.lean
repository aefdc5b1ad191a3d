/-! WHAT IS ASKED -/
def AskP (mem mem' : ZMem) (n : Int) (bs : List Int) : Prop := mem' 77 1 = n + bs.length ∧ (∀ i : Int, 0 ≤ i → i < bs.length → mem' 78 (n + i) = lget bs i) ∧ (∀ x, x < n → mem' 78 x = mem 78 x) ∧ (∀ q : Nat, q ≠ 77 → q ≠ 78 → mem' q = mem q)
theorem AskP.tr {a b c : ZMem} {n : Int} {as bs : List Int} (h : AskP a b n as) (g : AskP b c (n + as.length) bs) : AskP a c n (as ++ bs) := by
  obtain ⟨h1, h2, h3, h4⟩ := h
  obtain ⟨g1, g2, g3, g4⟩ := g
  refine ⟨by rw [g1, List.length_append]; omega, fun i i0 i1 => ?_, fun x hx => (g3 x (by omega)).trans (h3 x hx), fun q q1 q2 => (g4 q q1 q2).trans (h4 q q1 q2)⟩
  rw [List.length_append] at i1
  by_cases e : i < as.length
  · rw [g3 _ (by omega), h2 i i0 e, lget_app_l i0 e]
  · rw [lget_app_r (by omega), ← g2 (i - as.length) (by omega) (by omega)]
    congr 1
    omega
theorem AskP.cb {mem mem' : ZMem} {n : Int} {bs : List Int} {r : Int → Int} {L : List Int} (h : AskP mem mem' n bs) (hC : CB mem 16 r L) : CB mem' 16 r L := hC.ext (fun q h1 h2 => h.2.2.2 q (by omega) (by omega))
theorem k_leave {mem : ZMem} {n b : Int} (hn : mem 77 1 = n) (h0 : 0 ≤ n ∧ n ≤ 12) : CV mX1_leaveInTrace 0 [zr 77, zi b] mem (fun mem' => AskP mem mem' n [b]) := by
  refine CM.of (by decide +kernel) ([zr 77, zi b]) (zok_all rfl) (Nat.le_of_ble_eq_true rfl) rfl ?_
  refine J_al0 dX1_leaveInTrace_0 ?_
  refine M_get (ki := 1) dX1_leaveInTrace_1 fl_X1_13 sh_77 rfl rfl ?_
  refine J_bipush dX1_leaveInTrace_4 rfl ?_
  refine J_cge (tgt := 29) dX1_leaveInTrace_6 rfl (by omega) (fun c_6 => ?_) (fun c_6 => ?_)
  · skip
    omega
  · skip
    refine J_al0 dX1_leaveInTrace_9 ?_
    refine M_getR dX1_leaveInTrace_10 fl_X1_9 sh_77 rfl ?_
    refine J_al0 dX1_leaveInTrace_13 ?_
    refine M_get (ki := 1) dX1_leaveInTrace_14 fl_X1_13 sh_77 rfl rfl ?_
    refine J_il1 dX1_leaveInTrace_17 ?_
    refine M_ast dX1_leaveInTrace_18 sh_78 (by decide) (by omega) ?_
    refine J_al0 dX1_leaveInTrace_19 ?_
    refine J_dup dX1_leaveInTrace_20 rfl ?_
    refine M_get (ki := 1) dX1_leaveInTrace_21 fl_X1_13 sh_77 rfl rfl ?_
    refine J_iconst dX1_leaveInTrace_24 ?_
    refine J_iadd dX1_leaveInTrace_25 ?_
    refine M_put (ki := 1) dX1_leaveInTrace_26 fl_X1_13 sh_77 rfl rfl rfl (fun r hr => by cases hr; rfl) ?_
    refine M_vret dX1_leaveInTrace_29 rfl ?_
    subst hn
    refine ⟨?_, fun i i0 i1 => ?_, fun x hx => ?_, fun q q1 q2 => ?_⟩
    · rw [mset_s, mset_n (by omega)]; rfl
    · have i1 : i < 1 := i1
      have e : i = 0 := by omega
      subst e
      rw [mset_n (by omega), Int.add_zero, mset_s]; rfl
    · rw [mset_n (by omega), mset_i (by omega)]
    · rw [mset_n q1, mset_n q2]

theorem k_give10 {mem : ZMem} {r : Int → Int} {L : List Int} (hC : CB mem 16 r L) {man dp n : Int} (hm0 : 0 ≤ man) (hm1 : man < r 3) (h3 : r 3 ≤ 7) (hdp : 0 ≤ dp ∧ dp ≤ 36) (hn : mem 77 1 = n) (hn0 : 0 ≤ n ∧ n ≤ 11) : CI mX1_give 1 [zr 77, zr 16, zi man, zi 10, zi dp] mem (fun v mem' => v = wm r man ∧ AskP mem mem' n [10]) := by
  refine CM.of (by decide +kernel) ([zr 77, zr 16, zi man, zi 10, zi dp, zu]) (zok_all rfl) (Nat.le_of_ble_eq_true rfl) rfl ?_
  refine J_il4 dX1_give_0 ?_
  refine J_bipush dX1_give_2 rfl ?_
  refine J_cle (tgt := 9) dX1_give_4 rfl (by omega) (fun c_4 => ?_) (fun c_4 => ?_)
  · skip
    refine J_al0 dX1_give_9 ?_
    refine J_il3 dX1_give_10 ?_
    refine M_cvV1 dX1_give_11 lk_X1_41 cw_X1_leaveInTrace sh_77 rfl rfl (k_leave hn (by omega)) (by decide) (Nat.le_of_ble_eq_true rfl) (fun mem_11 hq => ?_)
    have a1 := hq
    have hC1 := a1.cb hC
    have n1 := a1.1
    refine J_il4 dX1_give_14 ?_
    refine J_iconst dX1_give_16 ?_
    refine J_iadd dX1_give_17 ?_
    refine J_is5 dX1_give_18 (by decide) rfl ?_
    refine J_il3 dX1_give_20 ?_
    refine J_tsIn (off := 75) (tgt := 96) dX1_give_21 (by decide) (by decide) (by decide) rfl rfl ?_
    refine J_al1 dX1_give_96 ?_
    refine M_getR dX1_give_97 fl_X1_45 sh_16 rfl ?_
    refine J_il2 dX1_give_100 ?_
    refine M_ald dX1_give_101 sh_21 (by decide) (by omega) ?_
    refine M_iret dX1_give_102 rfl ?_
    exact ⟨(hC1.2.2 man hm0 hm1).2.2.2.1, a1⟩
  · skip
    omega

theorem k_give20 {mem : ZMem} {r : Int → Int} {L : List Int} (hC : CB mem 16 r L) {man dp n : Int} (hm0 : 0 ≤ man) (hm1 : man < r 3) (h3 : r 3 ≤ 7) (hdp : 0 ≤ dp ∧ dp ≤ 36) (hn : mem 77 1 = n) (hn0 : 0 ≤ n ∧ n ≤ 11) : CI mX1_give 1 [zr 77, zr 16, zi man, zi 20, zi dp] mem (fun v mem' => v = man ∧ AskP mem mem' n [20]) := by
  refine CM.of (by decide +kernel) ([zr 77, zr 16, zi man, zi 20, zi dp, zu]) (zok_all rfl) (Nat.le_of_ble_eq_true rfl) rfl ?_
  refine J_il4 dX1_give_0 ?_
  refine J_bipush dX1_give_2 rfl ?_
  refine J_cle (tgt := 9) dX1_give_4 rfl (by omega) (fun c_4 => ?_) (fun c_4 => ?_)
  · skip
    refine J_al0 dX1_give_9 ?_
    refine J_il3 dX1_give_10 ?_
    refine M_cvV1 dX1_give_11 lk_X1_41 cw_X1_leaveInTrace sh_77 rfl rfl (k_leave hn (by omega)) (by decide) (Nat.le_of_ble_eq_true rfl) (fun mem_11 hq => ?_)
    have a1 := hq
    have hC1 := a1.cb hC
    have n1 := a1.1
    refine J_il4 dX1_give_14 ?_
    refine J_iconst dX1_give_16 ?_
    refine J_iadd dX1_give_17 ?_
    refine J_is5 dX1_give_18 (by decide) rfl ?_
    refine J_il3 dX1_give_20 ?_
    refine J_tsIn (off := 143) (tgt := 164) dX1_give_21 (by decide) (by decide) (by decide) rfl rfl ?_
    refine J_il2 dX1_give_164 ?_
    refine M_iret dX1_give_165 rfl ?_
    exact ⟨rfl, a1⟩
  · skip
    omega

theorem k_give21 {mem : ZMem} {r : Int → Int} {L : List Int} (hC : CB mem 16 r L) {man dp n : Int} (hm0 : 0 ≤ man) (hm1 : man < r 3) (h3 : r 3 ≤ 7) (hdp : 0 ≤ dp ∧ dp ≤ 34) (hn : mem 77 1 = n) (hn0 : 0 ≤ n ∧ n ≤ 10) : CI mX1_give 2 [zr 77, zr 16, zi man, zi 21, zi dp] mem (fun v mem' => v = (man + dn r man) ∧ AskP mem mem' n [21, 20]) := by
  refine CM.of (by decide +kernel) ([zr 77, zr 16, zi man, zi 21, zi dp, zu]) (zok_all rfl) (Nat.le_of_ble_eq_true rfl) rfl ?_
  refine J_il4 dX1_give_0 ?_
  refine J_bipush dX1_give_2 rfl ?_
  refine J_cle (tgt := 9) dX1_give_4 rfl (by omega) (fun c_4 => ?_) (fun c_4 => ?_)
  · skip
    refine J_al0 dX1_give_9 ?_
    refine J_il3 dX1_give_10 ?_
    refine M_cvV1 dX1_give_11 lk_X1_41 cw_X1_leaveInTrace sh_77 rfl rfl (k_leave hn (by omega)) (by decide) (Nat.le_of_ble_eq_true rfl) (fun mem_11 hq => ?_)
    have a1 := hq
    have hC1 := a1.cb hC
    have n1 := a1.1
    refine J_il4 dX1_give_14 ?_
    refine J_iconst dX1_give_16 ?_
    refine J_iadd dX1_give_17 ?_
    refine J_is5 dX1_give_18 (by decide) rfl ?_
    refine J_il3 dX1_give_20 ?_
    refine J_tsIn (off := 145) (tgt := 166) dX1_give_21 (by decide) (by decide) (by decide) rfl rfl ?_
    refine J_al0 dX1_give_166 ?_
    refine J_al1 dX1_give_167 ?_
    refine J_il2 dX1_give_168 ?_
    refine J_bipush dX1_give_169 rfl ?_
    refine J_il5 dX1_give_171 ?_
    refine M_cvI4 dX1_give_173 lk_X1_38 cw_X1_give sh_77 rfl rfl (k_give20 hC1 hm0 hm1 h3 (by omega) n1 (by show 0 ≤ n + 1 ∧ n + 1 ≤ _; omega)) (by decide) (Nat.le_of_ble_eq_true rfl) (fun v_173 mem_173 hq => ?_)
    obtain ⟨v2, a2⟩ := hq
    have hC2 := a2.cb hC1
    have n2 := a2.1
    refine J_al1 dX1_give_176 ?_
    refine M_getR dX1_give_177 fl_X1_48 sh_16 rfl ?_
    refine J_il2 dX1_give_180 ?_
    refine M_ald dX1_give_181 sh_18 (by decide) (by omega) ?_
    refine J_iadd dX1_give_182 ?_
    refine M_iret dX1_give_183 rfl ?_
    refine ⟨?_, a1.tr a2⟩
    rw [v2]; exact congrArg (man + ·) (hC2.2.2 man hm0 hm1).2.1
  · skip
    omega

theorem k_give22 {mem : ZMem} {r : Int → Int} {L : List Int} (hC : CB mem 16 r L) {man dp n : Int} (hm0 : 0 ≤ man) (hm1 : man < r 3) (h3 : r 3 ≤ 7) (hdp : 0 ≤ dp ∧ dp ≤ 32) (hn : mem 77 1 = n) (hn0 : 0 ≤ n ∧ n ≤ 9) : CI mX1_give 3 [zr 77, zr 16, zi man, zi 22, zi dp] mem (fun v mem' => v = ((man + dn r man) - 1000) ∧ AskP mem mem' n [22, 21, 20]) := by
  refine CM.of (by decide +kernel) ([zr 77, zr 16, zi man, zi 22, zi dp, zu]) (zok_all rfl) (Nat.le_of_ble_eq_true rfl) rfl ?_
  refine J_il4 dX1_give_0 ?_
  refine J_bipush dX1_give_2 rfl ?_
  refine J_cle (tgt := 9) dX1_give_4 rfl (by omega) (fun c_4 => ?_) (fun c_4 => ?_)
  · skip
    refine J_al0 dX1_give_9 ?_
    refine J_il3 dX1_give_10 ?_
    refine M_cvV1 dX1_give_11 lk_X1_41 cw_X1_leaveInTrace sh_77 rfl rfl (k_leave hn (by omega)) (by decide) (Nat.le_of_ble_eq_true rfl) (fun mem_11 hq => ?_)
    have a1 := hq
    have hC1 := a1.cb hC
    have n1 := a1.1
    refine J_il4 dX1_give_14 ?_
    refine J_iconst dX1_give_16 ?_
    refine J_iadd dX1_give_17 ?_
    refine J_is5 dX1_give_18 (by decide) rfl ?_
    refine J_il3 dX1_give_20 ?_
    refine J_tsIn (off := 163) (tgt := 184) dX1_give_21 (by decide) (by decide) (by decide) rfl rfl ?_
    refine J_al0 dX1_give_184 ?_
    refine J_al1 dX1_give_185 ?_
    refine J_il2 dX1_give_186 ?_
    refine J_bipush dX1_give_187 rfl ?_
    refine J_il5 dX1_give_189 ?_
    refine M_cvI4 dX1_give_191 lk_X1_38 cw_X1_give sh_77 rfl rfl (k_give21 hC1 hm0 hm1 h3 (by omega) n1 (by show 0 ≤ n + 1 ∧ n + 1 ≤ _; omega)) (by decide) (Nat.le_of_ble_eq_true rfl) (fun v_191 mem_191 hq => ?_)
    obtain ⟨v2, a2⟩ := hq
    have hC2 := a2.cb hC1
    have n2 := a2.1
    refine J_sipush dX1_give_194 rfl ?_
    refine J_isub dX1_give_197 ?_
    refine M_iret dX1_give_198 rfl ?_
    exact ⟨by rw [v2], a1.tr a2⟩
  · skip
    omega

theorem k_give24 {mem : ZMem} {r : Int → Int} {L : List Int} (hC : CB mem 16 r L) {man dp n : Int} (hm0 : 0 ≤ man) (hm1 : man < r 3) (h3 : r 3 ≤ 7) (hdp : 0 ≤ dp ∧ dp ≤ 32) (hn : mem 77 1 = n) (hn0 : 0 ≤ n ∧ n ≤ 9) : CI mX1_give 3 [zr 77, zr 16, zi man, zi 24, zi dp] mem (fun v mem' => v = ((man + dn r man) * 2) ∧ AskP mem mem' n [24, 21, 20]) := by
  refine CM.of (by decide +kernel) ([zr 77, zr 16, zi man, zi 24, zi dp, zu]) (zok_all rfl) (Nat.le_of_ble_eq_true rfl) rfl ?_
  refine J_il4 dX1_give_0 ?_
  refine J_bipush dX1_give_2 rfl ?_
  refine J_cle (tgt := 9) dX1_give_4 rfl (by omega) (fun c_4 => ?_) (fun c_4 => ?_)
  · skip
    refine J_al0 dX1_give_9 ?_
    refine J_il3 dX1_give_10 ?_
    refine M_cvV1 dX1_give_11 lk_X1_41 cw_X1_leaveInTrace sh_77 rfl rfl (k_leave hn (by omega)) (by decide) (Nat.le_of_ble_eq_true rfl) (fun mem_11 hq => ?_)
    have a1 := hq
    have hC1 := a1.cb hC
    have n1 := a1.1
    refine J_il4 dX1_give_14 ?_
    refine J_iconst dX1_give_16 ?_
    refine J_iadd dX1_give_17 ?_
    refine J_is5 dX1_give_18 (by decide) rfl ?_
    refine J_il3 dX1_give_20 ?_
    refine J_tsIn (off := 199) (tgt := 220) dX1_give_21 (by decide) (by decide) (by decide) rfl rfl ?_
    refine J_al0 dX1_give_220 ?_
    refine J_al1 dX1_give_221 ?_
    refine J_il2 dX1_give_222 ?_
    refine J_bipush dX1_give_223 rfl ?_
    refine J_il5 dX1_give_225 ?_
    refine M_cvI4 dX1_give_227 lk_X1_38 cw_X1_give sh_77 rfl rfl (k_give21 hC1 hm0 hm1 h3 (by omega) n1 (by show 0 ≤ n + 1 ∧ n + 1 ≤ _; omega)) (by decide) (Nat.le_of_ble_eq_true rfl) (fun v_227 mem_227 hq => ?_)
    obtain ⟨v2, a2⟩ := hq
    have hC2 := a2.cb hC1
    have n2 := a2.1
    refine J_iconst dX1_give_230 ?_
    refine J_imul dX1_give_231 ?_
    refine M_iret dX1_give_232 rfl ?_
    exact ⟨by rw [v2], a1.tr a2⟩
  · skip
    omega

theorem k_give13 {mem : ZMem} {r : Int → Int} {L : List Int} (hC : CB mem 16 r L) {man dp n : Int} (hm0 : 0 ≤ man) (hm1 : man < r 3) (h3 : r 3 ≤ 7) (hdp : 0 ≤ dp ∧ dp ≤ 34) (hn : mem 77 1 = n) (hn0 : 0 ≤ n ∧ n ≤ 10) : CI mX1_give 2 [zr 77, zr 16, zi man, zi 13, zi dp] mem (fun v mem' => v = (wm r man - 100) ∧ AskP mem mem' n [13, 10]) := by
  refine CM.of (by decide +kernel) ([zr 77, zr 16, zi man, zi 13, zi dp, zu]) (zok_all rfl) (Nat.le_of_ble_eq_true rfl) rfl ?_
  refine J_il4 dX1_give_0 ?_
  refine J_bipush dX1_give_2 rfl ?_
  refine J_cle (tgt := 9) dX1_give_4 rfl (by omega) (fun c_4 => ?_) (fun c_4 => ?_)
  · skip
    refine J_al0 dX1_give_9 ?_
    refine J_il3 dX1_give_10 ?_
    refine M_cvV1 dX1_give_11 lk_X1_41 cw_X1_leaveInTrace sh_77 rfl rfl (k_leave hn (by omega)) (by decide) (Nat.le_of_ble_eq_true rfl) (fun mem_11 hq => ?_)
    have a1 := hq
    have hC1 := a1.cb hC
    have n1 := a1.1
    refine J_il4 dX1_give_14 ?_
    refine J_iconst dX1_give_16 ?_
    refine J_iadd dX1_give_17 ?_
    refine J_is5 dX1_give_18 (by decide) rfl ?_
    refine J_il3 dX1_give_20 ?_
    refine J_tsIn (off := 116) (tgt := 137) dX1_give_21 (by decide) (by decide) (by decide) rfl rfl ?_
    refine J_al0 dX1_give_137 ?_
    refine J_al1 dX1_give_138 ?_
    refine J_il2 dX1_give_139 ?_
    refine J_bipush dX1_give_140 rfl ?_
    refine J_il5 dX1_give_142 ?_
    refine M_cvI4 dX1_give_144 lk_X1_38 cw_X1_give sh_77 rfl rfl (k_give10 hC1 hm0 hm1 h3 (by omega) n1 (by show 0 ≤ n + 1 ∧ n + 1 ≤ _; omega)) (by decide) (Nat.le_of_ble_eq_true rfl) (fun v_144 mem_144 hq => ?_)
    obtain ⟨v2, a2⟩ := hq
    have hC2 := a2.cb hC1
    have n2 := a2.1
    refine J_bipush dX1_give_147 rfl ?_
    refine J_isub dX1_give_149 ?_
    refine M_iret dX1_give_150 rfl ?_
    exact ⟨by rw [v2], a1.tr a2⟩
  · skip
    omega

theorem k_give14 {mem : ZMem} {r : Int → Int} {L : List Int} (hC : CB mem 16 r L) {man dp n : Int} (hm0 : 0 ≤ man) (hm1 : man < r 3) (h3 : r 3 ≤ 7) (hdp : 0 ≤ dp ∧ dp ≤ 32) (hn : mem 77 1 = n) (hn0 : 0 ≤ n ∧ n ≤ 9) : CI mX1_give 3 [zr 77, zr 16, zi man, zi 14, zi dp] mem (fun v mem' => v = ((wm r man - 100) * 2) ∧ AskP mem mem' n [14, 13, 10]) := by
  refine CM.of (by decide +kernel) ([zr 77, zr 16, zi man, zi 14, zi dp, zu]) (zok_all rfl) (Nat.le_of_ble_eq_true rfl) rfl ?_
  refine J_il4 dX1_give_0 ?_
  refine J_bipush dX1_give_2 rfl ?_
  refine J_cle (tgt := 9) dX1_give_4 rfl (by omega) (fun c_4 => ?_) (fun c_4 => ?_)
  · skip
    refine J_al0 dX1_give_9 ?_
    refine J_il3 dX1_give_10 ?_
    refine M_cvV1 dX1_give_11 lk_X1_41 cw_X1_leaveInTrace sh_77 rfl rfl (k_leave hn (by omega)) (by decide) (Nat.le_of_ble_eq_true rfl) (fun mem_11 hq => ?_)
    have a1 := hq
    have hC1 := a1.cb hC
    have n1 := a1.1
    refine J_il4 dX1_give_14 ?_
    refine J_iconst dX1_give_16 ?_
    refine J_iadd dX1_give_17 ?_
    refine J_is5 dX1_give_18 (by decide) rfl ?_
    refine J_il3 dX1_give_20 ?_
    refine J_tsIn (off := 130) (tgt := 151) dX1_give_21 (by decide) (by decide) (by decide) rfl rfl ?_
    refine J_al0 dX1_give_151 ?_
    refine J_al1 dX1_give_152 ?_
    refine J_il2 dX1_give_153 ?_
    refine J_bipush dX1_give_154 rfl ?_
    refine J_il5 dX1_give_156 ?_
    refine M_cvI4 dX1_give_158 lk_X1_38 cw_X1_give sh_77 rfl rfl (k_give13 hC1 hm0 hm1 h3 (by omega) n1 (by show 0 ≤ n + 1 ∧ n + 1 ≤ _; omega)) (by decide) (Nat.le_of_ble_eq_true rfl) (fun v_158 mem_158 hq => ?_)
    obtain ⟨v2, a2⟩ := hq
    have hC2 := a2.cb hC1
    have n2 := a2.1
    refine J_iconst dX1_give_161 ?_
    refine J_imul dX1_give_162 ?_
    refine M_iret dX1_give_163 rfl ?_
    exact ⟨by rw [v2], a1.tr a2⟩
  · skip
    omega

theorem k_ansS4 {mem : ZMem} {r : Int → Int} {L : List Int} (hC : CB mem 16 r L) {man dp n : Int} (hm0 : 0 ≤ man) (hm1 : man < r 3) (h3 : r 3 ≤ 7) (hdp : 0 ≤ dp ∧ dp ≤ 32) (hn : mem 77 1 = n) (hn0 : 0 ≤ n ∧ n ≤ 10) (hk : kd r man = 4) : CI mX1_answer 3 [zr 77, zr 16, zi man, zi 0, zi dp] mem (fun v mem' => v = (wm r man - 100) ∧ AskP mem mem' n [13, 10]) := by
  have hkk : mem 17 man = 4 := (hC.2.2 man hm0 hm1).1.trans hk
  refine CM.of (by decide +kernel) ([zr 77, zr 16, zi man, zi 0, zi dp, zu, zu, zu]) (zok_all rfl) (Nat.le_of_ble_eq_true rfl) rfl ?_
  refine J_al1 dX1_answer_0 ?_
  refine M_getR dX1_answer_1 fl_X1_21 sh_16 rfl ?_
  refine J_il2 dX1_answer_4 ?_
  refine M_ald dX1_answer_5 sh_17 (by decide) (by omega) ?_
  rw [hkk]
  refine J_is5 dX1_answer_6 (by decide) rfl ?_
  refine J_il3 dX1_answer_8 ?_
  refine J_ifne (tgt := 18) dX1_answer_9 rfl (by decide) (fun c => absurd c (by decide)) (fun _ => ?_)
  refine J_gets (v := zr 1001) dX1_answer_12 (List.mem_of_getElem? (i := 1) rfl) fk_X1_26 ?_
  refine J_goto (tgt := 21) dX1_answer_15 rfl ?_
  refine J_as6 dX1_answer_21 (by decide) rfl ?_
  refine J_iconst dX1_answer_23 ?_
  refine J_is7 dX1_answer_24 (by decide) rfl ?_
  skip
  refine J_il7 dX1_answer_26 ?_
  refine J_bipush dX1_answer_28 rfl ?_
  refine J_cge (tgt := 54) dX1_answer_30 rfl (by decide) (fun c => absurd c (by decide)) (fun _ => ?_)
  refine J_al6 dX1_answer_33 ?_
  refine J_il5 dX1_answer_35 ?_
  refine J_kald dX1_answer_37 rfl (by decide) (by decide) ?_
  refine J_st (st' := [zi 13]) rfl ?_
  refine J_ifne (tgt := 54) dX1_answer_38 rfl (by decide) (fun _ => ?_) (fun c => absurd c (by decide))
  refine J_al0 dX1_answer_54 ?_
  refine J_al1 dX1_answer_55 ?_
  refine J_il2 dX1_answer_56 ?_
  refine J_al6 dX1_answer_57 ?_
  refine J_il5 dX1_answer_59 ?_
  refine J_kald dX1_answer_61 rfl (by decide) (by decide) ?_
  refine J_st (st' := [zi 13, zi man, zr 16, zr 77]) rfl ?_
  refine J_il4 dX1_answer_62 ?_
  refine J_iconst dX1_answer_64 ?_
  refine J_iadd dX1_answer_65 ?_
  refine M_cvI4 dX1_answer_66 lk_X1_38 cw_X1_give sh_77 rfl rfl (k_give13 hC hm0 hm1 h3 (by omega) hn (by omega)) (by decide) (Nat.le_of_ble_eq_true rfl) (fun v_66 mem_66 hq => ?_)
  refine M_iret dX1_answer_69 rfl ?_
  exact hq

theorem k_ansS5 {mem : ZMem} {r : Int → Int} {L : List Int} (hC : CB mem 16 r L) {man dp n : Int} (hm0 : 0 ≤ man) (hm1 : man < r 3) (h3 : r 3 ≤ 7) (hdp : 0 ≤ dp ∧ dp ≤ 30) (hn : mem 77 1 = n) (hn0 : 0 ≤ n ∧ n ≤ 9) (hk : kd r man = 5) : CI mX1_answer 4 [zr 77, zr 16, zi man, zi 0, zi dp] mem (fun v mem' => v = ((wm r man - 100) * 2) ∧ AskP mem mem' n [14, 13, 10]) := by
  have hkk : mem 17 man = 5 := (hC.2.2 man hm0 hm1).1.trans hk
  refine CM.of (by decide +kernel) ([zr 77, zr 16, zi man, zi 0, zi dp, zu, zu, zu]) (zok_all rfl) (Nat.le_of_ble_eq_true rfl) rfl ?_
  refine J_al1 dX1_answer_0 ?_
  refine M_getR dX1_answer_1 fl_X1_21 sh_16 rfl ?_
  refine J_il2 dX1_answer_4 ?_
  refine M_ald dX1_answer_5 sh_17 (by decide) (by omega) ?_
  rw [hkk]
  refine J_is5 dX1_answer_6 (by decide) rfl ?_
  refine J_il3 dX1_answer_8 ?_
  refine J_ifne (tgt := 18) dX1_answer_9 rfl (by decide) (fun c => absurd c (by decide)) (fun _ => ?_)
  refine J_gets (v := zr 1001) dX1_answer_12 (List.mem_of_getElem? (i := 1) rfl) fk_X1_26 ?_
  refine J_goto (tgt := 21) dX1_answer_15 rfl ?_
  refine J_as6 dX1_answer_21 (by decide) rfl ?_
  refine J_iconst dX1_answer_23 ?_
  refine J_is7 dX1_answer_24 (by decide) rfl ?_
  skip
  refine J_il7 dX1_answer_26 ?_
  refine J_bipush dX1_answer_28 rfl ?_
  refine J_cge (tgt := 54) dX1_answer_30 rfl (by decide) (fun c => absurd c (by decide)) (fun _ => ?_)
  refine J_al6 dX1_answer_33 ?_
  refine J_il5 dX1_answer_35 ?_
  refine J_kald dX1_answer_37 rfl (by decide) (by decide) ?_
  refine J_st (st' := [zi 14]) rfl ?_
  refine J_ifne (tgt := 54) dX1_answer_38 rfl (by decide) (fun _ => ?_) (fun c => absurd c (by decide))
  refine J_al0 dX1_answer_54 ?_
  refine J_al1 dX1_answer_55 ?_
  refine J_il2 dX1_answer_56 ?_
  refine J_al6 dX1_answer_57 ?_
  refine J_il5 dX1_answer_59 ?_
  refine J_kald dX1_answer_61 rfl (by decide) (by decide) ?_
  refine J_st (st' := [zi 14, zi man, zr 16, zr 77]) rfl ?_
  refine J_il4 dX1_answer_62 ?_
  refine J_iconst dX1_answer_64 ?_
  refine J_iadd dX1_answer_65 ?_
  refine M_cvI4 dX1_answer_66 lk_X1_38 cw_X1_give sh_77 rfl rfl (k_give14 hC hm0 hm1 h3 (by omega) hn (by omega)) (by decide) (Nat.le_of_ble_eq_true rfl) (fun v_66 mem_66 hq => ?_)
  refine M_iret dX1_answer_69 rfl ?_
  exact hq

theorem k_give23_4 {mem : ZMem} {r : Int → Int} {L : List Int} (hC : CB mem 16 r L) {man dp n : Int} (hm0 : 0 ≤ man) (hm1 : man < r 3) (h3 : r 3 ≤ 7) (hdp : 0 ≤ dp ∧ dp ≤ 30) (hn : mem 77 1 = n) (hn0 : 0 ≤ n ∧ n ≤ 8) (hk : kd r man = 4) : CI mX1_give 4 [zr 77, zr 16, zi man, zi 23, zi dp] mem (fun v mem' => v = (man - (wm r man - 100)) ∧ AskP mem mem' n [23, 20, 13, 10]) := by
  refine CM.of (by decide +kernel) ([zr 77, zr 16, zi man, zi 23, zi dp, zu]) (zok_all rfl) (Nat.le_of_ble_eq_true rfl) rfl ?_
  refine J_il4 dX1_give_0 ?_
  refine J_bipush dX1_give_2 rfl ?_
  refine J_cle (tgt := 9) dX1_give_4 rfl (by omega) (fun c_4 => ?_) (fun c_4 => ?_)
  · skip
    refine J_al0 dX1_give_9 ?_
    refine J_il3 dX1_give_10 ?_
    refine M_cvV1 dX1_give_11 lk_X1_41 cw_X1_leaveInTrace sh_77 rfl rfl (k_leave hn (by omega)) (by decide) (Nat.le_of_ble_eq_true rfl) (fun mem_11 hq => ?_)
    have a1 := hq
    have hC1 := a1.cb hC
    have n1 := a1.1
    refine J_il4 dX1_give_14 ?_
    refine J_iconst dX1_give_16 ?_
    refine J_iadd dX1_give_17 ?_
    refine J_is5 dX1_give_18 (by decide) rfl ?_
    refine J_il3 dX1_give_20 ?_
    refine J_tsIn (off := 178) (tgt := 199) dX1_give_21 (by decide) (by decide) (by decide) rfl rfl ?_
    refine J_al0 dX1_give_199 ?_
    refine J_al1 dX1_give_200 ?_
    refine J_il2 dX1_give_201 ?_
    refine J_bipush dX1_give_202 rfl ?_
    refine J_il5 dX1_give_204 ?_
    refine M_cvI4 dX1_give_206 lk_X1_38 cw_X1_give sh_77 rfl rfl (k_give20 hC1 hm0 hm1 h3 (by omega) n1 (by show 0 ≤ n + 1 ∧ n + 1 ≤ _; omega)) (by decide) (Nat.le_of_ble_eq_true rfl) (fun v_206 mem_206 hq => ?_)
    obtain ⟨v2, a2⟩ := hq
    have hC2 := a2.cb hC1
    have n2 := a2.1
    refine J_al0 dX1_give_209 ?_
    refine J_al1 dX1_give_210 ?_
    refine J_il2 dX1_give_211 ?_
    refine J_iconst dX1_give_212 ?_
    refine J_il5 dX1_give_213 ?_
    refine M_cvI4 dX1_give_215 lk_X1_17 cw_X1_answer sh_77 rfl rfl (k_ansS4 hC2 hm0 hm1 h3 (by omega) (n := n + 2) (by rw [n2]; show n + 1 + 1 = n + 2; omega) (by omega) hk) (by decide) (Nat.le_of_ble_eq_true rfl) (fun v_215 mem_215 hq => ?_)
    obtain ⟨v3, a3⟩ := hq
    refine J_isub dX1_give_218 ?_
    refine M_iret dX1_give_219 rfl ?_
    refine ⟨by rw [v2, v3], ?_⟩
    exact (a1.tr a2).tr a3
  · skip
    omega

theorem k_give23_5 {mem : ZMem} {r : Int → Int} {L : List Int} (hC : CB mem 16 r L) {man dp n : Int} (hm0 : 0 ≤ man) (hm1 : man < r 3) (h3 : r 3 ≤ 7) (hdp : 0 ≤ dp ∧ dp ≤ 28) (hn : mem 77 1 = n) (hn0 : 0 ≤ n ∧ n ≤ 7) (hk : kd r man = 5) : CI mX1_give 5 [zr 77, zr 16, zi man, zi 23, zi dp] mem (fun v mem' => v = (man - ((wm r man - 100) * 2)) ∧ AskP mem mem' n [23, 20, 14, 13, 10]) := by
  refine CM.of (by decide +kernel) ([zr 77, zr 16, zi man, zi 23, zi dp, zu]) (zok_all rfl) (Nat.le_of_ble_eq_true rfl) rfl ?_
  refine J_il4 dX1_give_0 ?_
  refine J_bipush dX1_give_2 rfl ?_
  refine J_cle (tgt := 9) dX1_give_4 rfl (by omega) (fun c_4 => ?_) (fun c_4 => ?_)
  · skip
    refine J_al0 dX1_give_9 ?_
    refine J_il3 dX1_give_10 ?_
    refine M_cvV1 dX1_give_11 lk_X1_41 cw_X1_leaveInTrace sh_77 rfl rfl (k_leave hn (by omega)) (by decide) (Nat.le_of_ble_eq_true rfl) (fun mem_11 hq => ?_)
    have a1 := hq
    have hC1 := a1.cb hC
    have n1 := a1.1
    refine J_il4 dX1_give_14 ?_
    refine J_iconst dX1_give_16 ?_
    refine J_iadd dX1_give_17 ?_
    refine J_is5 dX1_give_18 (by decide) rfl ?_
    refine J_il3 dX1_give_20 ?_
    refine J_tsIn (off := 178) (tgt := 199) dX1_give_21 (by decide) (by decide) (by decide) rfl rfl ?_
    refine J_al0 dX1_give_199 ?_
    refine J_al1 dX1_give_200 ?_
    refine J_il2 dX1_give_201 ?_
    refine J_bipush dX1_give_202 rfl ?_
    refine J_il5 dX1_give_204 ?_
    refine M_cvI4 dX1_give_206 lk_X1_38 cw_X1_give sh_77 rfl rfl (k_give20 hC1 hm0 hm1 h3 (by omega) n1 (by show 0 ≤ n + 1 ∧ n + 1 ≤ _; omega)) (by decide) (Nat.le_of_ble_eq_true rfl) (fun v_206 mem_206 hq => ?_)
    obtain ⟨v2, a2⟩ := hq
    have hC2 := a2.cb hC1
    have n2 := a2.1
    refine J_al0 dX1_give_209 ?_
    refine J_al1 dX1_give_210 ?_
    refine J_il2 dX1_give_211 ?_
    refine J_iconst dX1_give_212 ?_
    refine J_il5 dX1_give_213 ?_
    refine M_cvI4 dX1_give_215 lk_X1_17 cw_X1_answer sh_77 rfl rfl (k_ansS5 hC2 hm0 hm1 h3 (by omega) (n := n + 2) (by rw [n2]; show n + 1 + 1 = n + 2; omega) (by omega) hk) (by decide) (Nat.le_of_ble_eq_true rfl) (fun v_215 mem_215 hq => ?_)
    obtain ⟨v3, a3⟩ := hq
    refine J_isub dX1_give_218 ?_
    refine M_iret dX1_give_219 rfl ?_
    refine ⟨by rw [v2, v3], ?_⟩
    exact (a1.tr a2).tr a3
  · skip
    omega

theorem k_ansM1 {mem : ZMem} {r : Int → Int} {L : List Int} (hC : CB mem 16 r L) {man dp n : Int} (hm0 : 0 ≤ man) (hm1 : man < r 3) (h3 : r 3 ≤ 7) (hdp : 0 ≤ dp ∧ dp ≤ 32) (hn : mem 77 1 = n) (hn0 : 0 ≤ n ∧ n ≤ 10) (hk : kd r man = 1) : CI mX1_answer 3 [zr 77, zr 16, zi man, zi 1, zi dp] mem (fun v mem' => v = (man + dn r man) ∧ AskP mem mem' n [21, 20]) := by
  have hkk : mem 17 man = 1 := (hC.2.2 man hm0 hm1).1.trans hk
  refine CM.of (by decide +kernel) ([zr 77, zr 16, zi man, zi 1, zi dp, zu, zu, zu]) (zok_all rfl) (Nat.le_of_ble_eq_true rfl) rfl ?_
  refine J_al1 dX1_answer_0 ?_
  refine M_getR dX1_answer_1 fl_X1_21 sh_16 rfl ?_
  refine J_il2 dX1_answer_4 ?_
  refine M_ald dX1_answer_5 sh_17 (by decide) (by omega) ?_
  rw [hkk]
  refine J_is5 dX1_answer_6 (by decide) rfl ?_
  refine J_il3 dX1_answer_8 ?_
  refine J_ifne (tgt := 18) dX1_answer_9 rfl (by decide) (fun _ => ?_) (fun c => absurd c (by decide))
  refine J_gets (v := zr 1002) dX1_answer_18 (List.mem_of_getElem? (i := 2) rfl) fk_X1_29 ?_
  refine J_as6 dX1_answer_21 (by decide) rfl ?_
  refine J_iconst dX1_answer_23 ?_
  refine J_is7 dX1_answer_24 (by decide) rfl ?_
  skip
  refine J_il7 dX1_answer_26 ?_
  refine J_bipush dX1_answer_28 rfl ?_
  refine J_cge (tgt := 54) dX1_answer_30 rfl (by decide) (fun c => absurd c (by decide)) (fun _ => ?_)
  refine J_al6 dX1_answer_33 ?_
  refine J_il5 dX1_answer_35 ?_
  refine J_kald dX1_answer_37 rfl (by decide) (by decide) ?_
  refine J_st (st' := [zi 21]) rfl ?_
  refine J_ifne (tgt := 54) dX1_answer_38 rfl (by decide) (fun _ => ?_) (fun c => absurd c (by decide))
  refine J_al0 dX1_answer_54 ?_
  refine J_al1 dX1_answer_55 ?_
  refine J_il2 dX1_answer_56 ?_
  refine J_al6 dX1_answer_57 ?_
  refine J_il5 dX1_answer_59 ?_
  refine J_kald dX1_answer_61 rfl (by decide) (by decide) ?_
  refine J_st (st' := [zi 21, zi man, zr 16, zr 77]) rfl ?_
  refine J_il4 dX1_answer_62 ?_
  refine J_iconst dX1_answer_64 ?_
  refine J_iadd dX1_answer_65 ?_
  refine M_cvI4 dX1_answer_66 lk_X1_38 cw_X1_give sh_77 rfl rfl (k_give21 hC hm0 hm1 h3 (by omega) hn (by omega)) (by decide) (Nat.le_of_ble_eq_true rfl) (fun v_66 mem_66 hq => ?_)
  refine M_iret dX1_answer_69 rfl ?_
  exact hq

theorem k_ansM2 {mem : ZMem} {r : Int → Int} {L : List Int} (hC : CB mem 16 r L) {man dp n : Int} (hm0 : 0 ≤ man) (hm1 : man < r 3) (h3 : r 3 ≤ 7) (hdp : 0 ≤ dp ∧ dp ≤ 30) (hn : mem 77 1 = n) (hn0 : 0 ≤ n ∧ n ≤ 9) (hk : kd r man = 2) : CI mX1_answer 4 [zr 77, zr 16, zi man, zi 1, zi dp] mem (fun v mem' => v = ((man + dn r man) * 2) ∧ AskP mem mem' n [24, 21, 20]) := by
  have hkk : mem 17 man = 2 := (hC.2.2 man hm0 hm1).1.trans hk
  refine CM.of (by decide +kernel) ([zr 77, zr 16, zi man, zi 1, zi dp, zu, zu, zu]) (zok_all rfl) (Nat.le_of_ble_eq_true rfl) rfl ?_
  refine J_al1 dX1_answer_0 ?_
  refine M_getR dX1_answer_1 fl_X1_21 sh_16 rfl ?_
  refine J_il2 dX1_answer_4 ?_
  refine M_ald dX1_answer_5 sh_17 (by decide) (by omega) ?_
  rw [hkk]
  refine J_is5 dX1_answer_6 (by decide) rfl ?_
  refine J_il3 dX1_answer_8 ?_
  refine J_ifne (tgt := 18) dX1_answer_9 rfl (by decide) (fun _ => ?_) (fun c => absurd c (by decide))
  refine J_gets (v := zr 1002) dX1_answer_18 (List.mem_of_getElem? (i := 2) rfl) fk_X1_29 ?_
  refine J_as6 dX1_answer_21 (by decide) rfl ?_
  refine J_iconst dX1_answer_23 ?_
  refine J_is7 dX1_answer_24 (by decide) rfl ?_
  skip
  refine J_il7 dX1_answer_26 ?_
  refine J_bipush dX1_answer_28 rfl ?_
  refine J_cge (tgt := 54) dX1_answer_30 rfl (by decide) (fun c => absurd c (by decide)) (fun _ => ?_)
  refine J_al6 dX1_answer_33 ?_
  refine J_il5 dX1_answer_35 ?_
  refine J_kald dX1_answer_37 rfl (by decide) (by decide) ?_
  refine J_st (st' := [zi 24]) rfl ?_
  refine J_ifne (tgt := 54) dX1_answer_38 rfl (by decide) (fun _ => ?_) (fun c => absurd c (by decide))
  refine J_al0 dX1_answer_54 ?_
  refine J_al1 dX1_answer_55 ?_
  refine J_il2 dX1_answer_56 ?_
  refine J_al6 dX1_answer_57 ?_
  refine J_il5 dX1_answer_59 ?_
  refine J_kald dX1_answer_61 rfl (by decide) (by decide) ?_
  refine J_st (st' := [zi 24, zi man, zr 16, zr 77]) rfl ?_
  refine J_il4 dX1_answer_62 ?_
  refine J_iconst dX1_answer_64 ?_
  refine J_iadd dX1_answer_65 ?_
  refine M_cvI4 dX1_answer_66 lk_X1_38 cw_X1_give sh_77 rfl rfl (k_give24 hC hm0 hm1 h3 (by omega) hn (by omega)) (by decide) (Nat.le_of_ble_eq_true rfl) (fun v_66 mem_66 hq => ?_)
  refine M_iret dX1_answer_69 rfl ?_
  exact hq

theorem k_ansM3 {mem : ZMem} {r : Int → Int} {L : List Int} (hC : CB mem 16 r L) {man dp n : Int} (hm0 : 0 ≤ man) (hm1 : man < r 3) (h3 : r 3 ≤ 7) (hdp : 0 ≤ dp ∧ dp ≤ 30) (hn : mem 77 1 = n) (hn0 : 0 ≤ n ∧ n ≤ 9) (hk : kd r man = 3) : CI mX1_answer 4 [zr 77, zr 16, zi man, zi 1, zi dp] mem (fun v mem' => v = ((man + dn r man) - 1000) ∧ AskP mem mem' n [22, 21, 20]) := by
  have hkk : mem 17 man = 3 := (hC.2.2 man hm0 hm1).1.trans hk
  refine CM.of (by decide +kernel) ([zr 77, zr 16, zi man, zi 1, zi dp, zu, zu, zu]) (zok_all rfl) (Nat.le_of_ble_eq_true rfl) rfl ?_
  refine J_al1 dX1_answer_0 ?_
  refine M_getR dX1_answer_1 fl_X1_21 sh_16 rfl ?_
  refine J_il2 dX1_answer_4 ?_
  refine M_ald dX1_answer_5 sh_17 (by decide) (by omega) ?_
  rw [hkk]
  refine J_is5 dX1_answer_6 (by decide) rfl ?_
  refine J_il3 dX1_answer_8 ?_
  refine J_ifne (tgt := 18) dX1_answer_9 rfl (by decide) (fun _ => ?_) (fun c => absurd c (by decide))
  refine J_gets (v := zr 1002) dX1_answer_18 (List.mem_of_getElem? (i := 2) rfl) fk_X1_29 ?_
  refine J_as6 dX1_answer_21 (by decide) rfl ?_
  refine J_iconst dX1_answer_23 ?_
  refine J_is7 dX1_answer_24 (by decide) rfl ?_
  skip
  refine J_il7 dX1_answer_26 ?_
  refine J_bipush dX1_answer_28 rfl ?_
  refine J_cge (tgt := 54) dX1_answer_30 rfl (by decide) (fun c => absurd c (by decide)) (fun _ => ?_)
  refine J_al6 dX1_answer_33 ?_
  refine J_il5 dX1_answer_35 ?_
  refine J_kald dX1_answer_37 rfl (by decide) (by decide) ?_
  refine J_st (st' := [zi 22]) rfl ?_
  refine J_ifne (tgt := 54) dX1_answer_38 rfl (by decide) (fun _ => ?_) (fun c => absurd c (by decide))
  refine J_al0 dX1_answer_54 ?_
  refine J_al1 dX1_answer_55 ?_
  refine J_il2 dX1_answer_56 ?_
  refine J_al6 dX1_answer_57 ?_
  refine J_il5 dX1_answer_59 ?_
  refine J_kald dX1_answer_61 rfl (by decide) (by decide) ?_
  refine J_st (st' := [zi 22, zi man, zr 16, zr 77]) rfl ?_
  refine J_il4 dX1_answer_62 ?_
  refine J_iconst dX1_answer_64 ?_
  refine J_iadd dX1_answer_65 ?_
  refine M_cvI4 dX1_answer_66 lk_X1_38 cw_X1_give sh_77 rfl rfl (k_give22 hC hm0 hm1 h3 (by omega) hn (by omega)) (by decide) (Nat.le_of_ble_eq_true rfl) (fun v_66 mem_66 hq => ?_)
  refine M_iret dX1_answer_69 rfl ?_
  exact hq

theorem k_ansM4 {mem : ZMem} {r : Int → Int} {L : List Int} (hC : CB mem 16 r L) {man dp n : Int} (hm0 : 0 ≤ man) (hm1 : man < r 3) (h3 : r 3 ≤ 7) (hdp : 0 ≤ dp ∧ dp ≤ 28) (hn : mem 77 1 = n) (hn0 : 0 ≤ n ∧ n ≤ 8) (hk : kd r man = 4) : CI mX1_answer 5 [zr 77, zr 16, zi man, zi 1, zi dp] mem (fun v mem' => v = (man - (wm r man - 100)) ∧ AskP mem mem' n [23, 20, 13, 10]) := by
  have hkk : mem 17 man = 4 := (hC.2.2 man hm0 hm1).1.trans hk
  refine CM.of (by decide +kernel) ([zr 77, zr 16, zi man, zi 1, zi dp, zu, zu, zu]) (zok_all rfl) (Nat.le_of_ble_eq_true rfl) rfl ?_
  refine J_al1 dX1_answer_0 ?_
  refine M_getR dX1_answer_1 fl_X1_21 sh_16 rfl ?_
  refine J_il2 dX1_answer_4 ?_
  refine M_ald dX1_answer_5 sh_17 (by decide) (by omega) ?_
  rw [hkk]
  refine J_is5 dX1_answer_6 (by decide) rfl ?_
  refine J_il3 dX1_answer_8 ?_
  refine J_ifne (tgt := 18) dX1_answer_9 rfl (by decide) (fun _ => ?_) (fun c => absurd c (by decide))
  refine J_gets (v := zr 1002) dX1_answer_18 (List.mem_of_getElem? (i := 2) rfl) fk_X1_29 ?_
  refine J_as6 dX1_answer_21 (by decide) rfl ?_
  refine J_iconst dX1_answer_23 ?_
  refine J_is7 dX1_answer_24 (by decide) rfl ?_
  skip
  refine J_il7 dX1_answer_26 ?_
  refine J_bipush dX1_answer_28 rfl ?_
  refine J_cge (tgt := 54) dX1_answer_30 rfl (by decide) (fun c => absurd c (by decide)) (fun _ => ?_)
  refine J_al6 dX1_answer_33 ?_
  refine J_il5 dX1_answer_35 ?_
  refine J_kald dX1_answer_37 rfl (by decide) (by decide) ?_
  refine J_st (st' := [zi 23]) rfl ?_
  refine J_ifne (tgt := 54) dX1_answer_38 rfl (by decide) (fun _ => ?_) (fun c => absurd c (by decide))
  refine J_al0 dX1_answer_54 ?_
  refine J_al1 dX1_answer_55 ?_
  refine J_il2 dX1_answer_56 ?_
  refine J_al6 dX1_answer_57 ?_
  refine J_il5 dX1_answer_59 ?_
  refine J_kald dX1_answer_61 rfl (by decide) (by decide) ?_
  refine J_st (st' := [zi 23, zi man, zr 16, zr 77]) rfl ?_
  refine J_il4 dX1_answer_62 ?_
  refine J_iconst dX1_answer_64 ?_
  refine J_iadd dX1_answer_65 ?_
  refine M_cvI4 dX1_answer_66 lk_X1_38 cw_X1_give sh_77 rfl rfl (k_give23_4 hC hm0 hm1 h3 (by omega) hn (by omega) hk) (by decide) (Nat.le_of_ble_eq_true rfl) (fun v_66 mem_66 hq => ?_)
  refine M_iret dX1_answer_69 rfl ?_
  exact hq

theorem k_ansM5 {mem : ZMem} {r : Int → Int} {L : List Int} (hC : CB mem 16 r L) {man dp n : Int} (hm0 : 0 ≤ man) (hm1 : man < r 3) (h3 : r 3 ≤ 7) (hdp : 0 ≤ dp ∧ dp ≤ 26) (hn : mem 77 1 = n) (hn0 : 0 ≤ n ∧ n ≤ 7) (hk : kd r man = 5) : CI mX1_answer 6 [zr 77, zr 16, zi man, zi 1, zi dp] mem (fun v mem' => v = (man - ((wm r man - 100) * 2)) ∧ AskP mem mem' n [23, 20, 14, 13, 10]) := by
  have hkk : mem 17 man = 5 := (hC.2.2 man hm0 hm1).1.trans hk
  refine CM.of (by decide +kernel) ([zr 77, zr 16, zi man, zi 1, zi dp, zu, zu, zu]) (zok_all rfl) (Nat.le_of_ble_eq_true rfl) rfl ?_
  refine J_al1 dX1_answer_0 ?_
  refine M_getR dX1_answer_1 fl_X1_21 sh_16 rfl ?_
  refine J_il2 dX1_answer_4 ?_
  refine M_ald dX1_answer_5 sh_17 (by decide) (by omega) ?_
  rw [hkk]
  refine J_is5 dX1_answer_6 (by decide) rfl ?_
  refine J_il3 dX1_answer_8 ?_
  refine J_ifne (tgt := 18) dX1_answer_9 rfl (by decide) (fun _ => ?_) (fun c => absurd c (by decide))
  refine J_gets (v := zr 1002) dX1_answer_18 (List.mem_of_getElem? (i := 2) rfl) fk_X1_29 ?_
  refine J_as6 dX1_answer_21 (by decide) rfl ?_
  refine J_iconst dX1_answer_23 ?_
  refine J_is7 dX1_answer_24 (by decide) rfl ?_
  skip
  refine J_il7 dX1_answer_26 ?_
  refine J_bipush dX1_answer_28 rfl ?_
  refine J_cge (tgt := 54) dX1_answer_30 rfl (by decide) (fun c => absurd c (by decide)) (fun _ => ?_)
  refine J_al6 dX1_answer_33 ?_
  refine J_il5 dX1_answer_35 ?_
  refine J_kald dX1_answer_37 rfl (by decide) (by decide) ?_
  refine J_st (st' := [zi 0]) rfl ?_
  refine J_ifne (tgt := 54) dX1_answer_38 rfl (by decide) (fun c => absurd c (by decide)) (fun _ => ?_)
  refine J_il5 dX1_answer_41 ?_
  refine M_csI1 dX1_answer_43 lk_X1_34 cw_X3_nearest (k_nearest (by decide)) (by decide) (Nat.le_of_ble_eq_true rfl) (fun v_43 mem_43 hq => ?_)
  obtain ⟨rfl, hq⟩ := hq; have hq := hq.symm; subst hq
  refine J_st (st' := [zi 4]) rfl ?_
  refine J_is5 dX1_answer_46 (by decide) rfl ?_
  refine J_inc7 dX1_answer_48 (by decide) rfl ?_
  refine J_goto (tgt := 26) dX1_answer_51 rfl ?_
  refine J_zs (zs' := [zr 77, zr 16, zi man, zi 1, zi dp, zi 4, zr 1002, zi 1]) rfl ?_
  refine J_il7 dX1_answer_26 ?_
  refine J_bipush dX1_answer_28 rfl ?_
  refine J_cge (tgt := 54) dX1_answer_30 rfl (by decide) (fun c => absurd c (by decide)) (fun _ => ?_)
  refine J_al6 dX1_answer_33 ?_
  refine J_il5 dX1_answer_35 ?_
  refine J_kald dX1_answer_37 rfl (by decide) (by decide) ?_
  refine J_st (st' := [zi 23]) rfl ?_
  refine J_ifne (tgt := 54) dX1_answer_38 rfl (by decide) (fun _ => ?_) (fun c => absurd c (by decide))
  refine J_al0 dX1_answer_54 ?_
  refine J_al1 dX1_answer_55 ?_
  refine J_il2 dX1_answer_56 ?_
  refine J_al6 dX1_answer_57 ?_
  refine J_il5 dX1_answer_59 ?_
  refine J_kald dX1_answer_61 rfl (by decide) (by decide) ?_
  refine J_st (st' := [zi 23, zi man, zr 16, zr 77]) rfl ?_
  refine J_il4 dX1_answer_62 ?_
  refine J_iconst dX1_answer_64 ?_
  refine J_iadd dX1_answer_65 ?_
  refine M_cvI4 dX1_answer_66 lk_X1_38 cw_X1_give sh_77 rfl rfl (k_give23_5 hC hm0 hm1 h3 (by omega) hn (by omega) hk) (by decide) (Nat.le_of_ble_eq_true rfl) (fun v_66 mem_66 hq => ?_)
  refine M_iret dX1_answer_69 rfl ?_
  exact hq

theorem k_give11_1 {mem : ZMem} {r : Int → Int} {L : List Int} (hC : CB mem 16 r L) {man dp n : Int} (hm0 : 0 ≤ man) (hm1 : man < r 3) (h3 : r 3 ≤ 7) (hdp : 0 ≤ dp ∧ dp ≤ 30) (hn : mem 77 1 = n) (hn0 : 0 ≤ n ∧ n ≤ 8) (hk : kd r man = 1) : CI mX1_give 4 [zr 77, zr 16, zi man, zi 11, zi dp] mem (fun v mem' => v = (wm r man + (man + dn r man)) ∧ AskP mem mem' n [11, 10, 21, 20]) := by
  refine CM.of (by decide +kernel) ([zr 77, zr 16, zi man, zi 11, zi dp, zu]) (zok_all rfl) (Nat.le_of_ble_eq_true rfl) rfl ?_
  refine J_il4 dX1_give_0 ?_
  refine J_bipush dX1_give_2 rfl ?_
  refine J_cle (tgt := 9) dX1_give_4 rfl (by omega) (fun c_4 => ?_) (fun c_4 => ?_)
  · skip
    refine J_al0 dX1_give_9 ?_
    refine J_il3 dX1_give_10 ?_
    refine M_cvV1 dX1_give_11 lk_X1_41 cw_X1_leaveInTrace sh_77 rfl rfl (k_leave hn (by omega)) (by decide) (Nat.le_of_ble_eq_true rfl) (fun mem_11 hq => ?_)
    have a1 := hq
    have hC1 := a1.cb hC
    have n1 := a1.1
    refine J_il4 dX1_give_14 ?_
    refine J_iconst dX1_give_16 ?_
    refine J_iadd dX1_give_17 ?_
    refine J_is5 dX1_give_18 (by decide) rfl ?_
    refine J_il3 dX1_give_20 ?_
    refine J_tsIn (off := 82) (tgt := 103) dX1_give_21 (by decide) (by decide) (by decide) rfl rfl ?_
    refine J_al0 dX1_give_103 ?_
    refine J_al1 dX1_give_104 ?_
    refine J_il2 dX1_give_105 ?_
    refine J_bipush dX1_give_106 rfl ?_
    refine J_il5 dX1_give_108 ?_
    refine M_cvI4 dX1_give_110 lk_X1_38 cw_X1_give sh_77 rfl rfl (k_give10 hC1 hm0 hm1 h3 (by omega) n1 (by show 0 ≤ n + 1 ∧ n + 1 ≤ _; omega)) (by decide) (Nat.le_of_ble_eq_true rfl) (fun v_110 mem_110 hq => ?_)
    obtain ⟨v2, a2⟩ := hq
    have hC2 := a2.cb hC1
    have n2 := a2.1
    refine J_al0 dX1_give_113 ?_
    refine J_al1 dX1_give_114 ?_
    refine J_il2 dX1_give_115 ?_
    refine J_iconst dX1_give_116 ?_
    refine J_il5 dX1_give_117 ?_
    refine M_cvI4 dX1_give_119 lk_X1_17 cw_X1_answer sh_77 rfl rfl (k_ansM1 hC2 hm0 hm1 h3 (by omega) (n := n + 2) (by rw [n2]; show n + 1 + 1 = n + 2; omega) (by omega) hk) (by decide) (Nat.le_of_ble_eq_true rfl) (fun v_119 mem_119 hq => ?_)
    obtain ⟨v3, a3⟩ := hq
    refine J_iadd dX1_give_122 ?_
    refine M_iret dX1_give_123 rfl ?_
    refine ⟨by rw [v2, v3], ?_⟩
    exact (a1.tr a2).tr a3
  · skip
    omega

theorem k_give11_2 {mem : ZMem} {r : Int → Int} {L : List Int} (hC : CB mem 16 r L) {man dp n : Int} (hm0 : 0 ≤ man) (hm1 : man < r 3) (h3 : r 3 ≤ 7) (hdp : 0 ≤ dp ∧ dp ≤ 28) (hn : mem 77 1 = n) (hn0 : 0 ≤ n ∧ n ≤ 7) (hk : kd r man = 2) : CI mX1_give 5 [zr 77, zr 16, zi man, zi 11, zi dp] mem (fun v mem' => v = (wm r man + ((man + dn r man) * 2)) ∧ AskP mem mem' n [11, 10, 24, 21, 20]) := by
  refine CM.of (by decide +kernel) ([zr 77, zr 16, zi man, zi 11, zi dp, zu]) (zok_all rfl) (Nat.le_of_ble_eq_true rfl) rfl ?_
  refine J_il4 dX1_give_0 ?_
  refine J_bipush dX1_give_2 rfl ?_
  refine J_cle (tgt := 9) dX1_give_4 rfl (by omega) (fun c_4 => ?_) (fun c_4 => ?_)
  · skip
    refine J_al0 dX1_give_9 ?_
    refine J_il3 dX1_give_10 ?_
    refine M_cvV1 dX1_give_11 lk_X1_41 cw_X1_leaveInTrace sh_77 rfl rfl (k_leave hn (by omega)) (by decide) (Nat.le_of_ble_eq_true rfl) (fun mem_11 hq => ?_)
    have a1 := hq
    have hC1 := a1.cb hC
    have n1 := a1.1
    refine J_il4 dX1_give_14 ?_
    refine J_iconst dX1_give_16 ?_
    refine J_iadd dX1_give_17 ?_
    refine J_is5 dX1_give_18 (by decide) rfl ?_
    refine J_il3 dX1_give_20 ?_
    refine J_tsIn (off := 82) (tgt := 103) dX1_give_21 (by decide) (by decide) (by decide) rfl rfl ?_
    refine J_al0 dX1_give_103 ?_
    refine J_al1 dX1_give_104 ?_
    refine J_il2 dX1_give_105 ?_
    refine J_bipush dX1_give_106 rfl ?_
    refine J_il5 dX1_give_108 ?_
    refine M_cvI4 dX1_give_110 lk_X1_38 cw_X1_give sh_77 rfl rfl (k_give10 hC1 hm0 hm1 h3 (by omega) n1 (by show 0 ≤ n + 1 ∧ n + 1 ≤ _; omega)) (by decide) (Nat.le_of_ble_eq_true rfl) (fun v_110 mem_110 hq => ?_)
    obtain ⟨v2, a2⟩ := hq
    have hC2 := a2.cb hC1
    have n2 := a2.1
    refine J_al0 dX1_give_113 ?_
    refine J_al1 dX1_give_114 ?_
    refine J_il2 dX1_give_115 ?_
    refine J_iconst dX1_give_116 ?_
    refine J_il5 dX1_give_117 ?_
    refine M_cvI4 dX1_give_119 lk_X1_17 cw_X1_answer sh_77 rfl rfl (k_ansM2 hC2 hm0 hm1 h3 (by omega) (n := n + 2) (by rw [n2]; show n + 1 + 1 = n + 2; omega) (by omega) hk) (by decide) (Nat.le_of_ble_eq_true rfl) (fun v_119 mem_119 hq => ?_)
    obtain ⟨v3, a3⟩ := hq
    refine J_iadd dX1_give_122 ?_
    refine M_iret dX1_give_123 rfl ?_
    refine ⟨by rw [v2, v3], ?_⟩
    exact (a1.tr a2).tr a3
  · skip
    omega

theorem k_give11_3 {mem : ZMem} {r : Int → Int} {L : List Int} (hC : CB mem 16 r L) {man dp n : Int} (hm0 : 0 ≤ man) (hm1 : man < r 3) (h3 : r 3 ≤ 7) (hdp : 0 ≤ dp ∧ dp ≤ 28) (hn : mem 77 1 = n) (hn0 : 0 ≤ n ∧ n ≤ 7) (hk : kd r man = 3) : CI mX1_give 5 [zr 77, zr 16, zi man, zi 11, zi dp] mem (fun v mem' => v = (wm r man + ((man + dn r man) - 1000)) ∧ AskP mem mem' n [11, 10, 22, 21, 20]) := by
  refine CM.of (by decide +kernel) ([zr 77, zr 16, zi man, zi 11, zi dp, zu]) (zok_all rfl) (Nat.le_of_ble_eq_true rfl) rfl ?_
  refine J_il4 dX1_give_0 ?_
  refine J_bipush dX1_give_2 rfl ?_
  refine J_cle (tgt := 9) dX1_give_4 rfl (by omega) (fun c_4 => ?_) (fun c_4 => ?_)
  · skip
    refine J_al0 dX1_give_9 ?_
    refine J_il3 dX1_give_10 ?_
    refine M_cvV1 dX1_give_11 lk_X1_41 cw_X1_leaveInTrace sh_77 rfl rfl (k_leave hn (by omega)) (by decide) (Nat.le_of_ble_eq_true rfl) (fun mem_11 hq => ?_)
    have a1 := hq
    have hC1 := a1.cb hC
    have n1 := a1.1
    refine J_il4 dX1_give_14 ?_
    refine J_iconst dX1_give_16 ?_
    refine J_iadd dX1_give_17 ?_
    refine J_is5 dX1_give_18 (by decide) rfl ?_
    refine J_il3 dX1_give_20 ?_
    refine J_tsIn (off := 82) (tgt := 103) dX1_give_21 (by decide) (by decide) (by decide) rfl rfl ?_
    refine J_al0 dX1_give_103 ?_
    refine J_al1 dX1_give_104 ?_
    refine J_il2 dX1_give_105 ?_
    refine J_bipush dX1_give_106 rfl ?_
    refine J_il5 dX1_give_108 ?_
    refine M_cvI4 dX1_give_110 lk_X1_38 cw_X1_give sh_77 rfl rfl (k_give10 hC1 hm0 hm1 h3 (by omega) n1 (by show 0 ≤ n + 1 ∧ n + 1 ≤ _; omega)) (by decide) (Nat.le_of_ble_eq_true rfl) (fun v_110 mem_110 hq => ?_)
    obtain ⟨v2, a2⟩ := hq
    have hC2 := a2.cb hC1
    have n2 := a2.1
    refine J_al0 dX1_give_113 ?_
    refine J_al1 dX1_give_114 ?_
    refine J_il2 dX1_give_115 ?_
    refine J_iconst dX1_give_116 ?_
    refine J_il5 dX1_give_117 ?_
    refine M_cvI4 dX1_give_119 lk_X1_17 cw_X1_answer sh_77 rfl rfl (k_ansM3 hC2 hm0 hm1 h3 (by omega) (n := n + 2) (by rw [n2]; show n + 1 + 1 = n + 2; omega) (by omega) hk) (by decide) (Nat.le_of_ble_eq_true rfl) (fun v_119 mem_119 hq => ?_)
    obtain ⟨v3, a3⟩ := hq
    refine J_iadd dX1_give_122 ?_
    refine M_iret dX1_give_123 rfl ?_
    refine ⟨by rw [v2, v3], ?_⟩
    exact (a1.tr a2).tr a3
  · skip
    omega

theorem k_give12 {mem : ZMem} {r : Int → Int} {L : List Int} (hC : CB mem 16 r L) {man dp n : Int} (hm0 : 0 ≤ man) (hm1 : man < r 3) (h3 : r 3 ≤ 7) (hdp : 0 ≤ dp ∧ dp ≤ 26) (hn : mem 77 1 = n) (hn0 : 0 ≤ n ∧ n ≤ 6) (hk : kd r man = 2) : CI mX1_give 6 [zr 77, zr 16, zi man, zi 12, zi dp] mem (fun v mem' => v = (0 - (wm r man + ((man + dn r man) * 2))) ∧ AskP mem mem' n [12, 11, 10, 24, 21, 20]) := by
  refine CM.of (by decide +kernel) ([zr 77, zr 16, zi man, zi 12, zi dp, zu]) (zok_all rfl) (Nat.le_of_ble_eq_true rfl) rfl ?_
  refine J_il4 dX1_give_0 ?_
  refine J_bipush dX1_give_2 rfl ?_
  refine J_cle (tgt := 9) dX1_give_4 rfl (by omega) (fun c_4 => ?_) (fun c_4 => ?_)
  · skip
    refine J_al0 dX1_give_9 ?_
    refine J_il3 dX1_give_10 ?_
    refine M_cvV1 dX1_give_11 lk_X1_41 cw_X1_leaveInTrace sh_77 rfl rfl (k_leave hn (by omega)) (by decide) (Nat.le_of_ble_eq_true rfl) (fun mem_11 hq => ?_)
    have a1 := hq
    have hC1 := a1.cb hC
    have n1 := a1.1
    refine J_il4 dX1_give_14 ?_
    refine J_iconst dX1_give_16 ?_
    refine J_iadd dX1_give_17 ?_
    refine J_is5 dX1_give_18 (by decide) rfl ?_
    refine J_il3 dX1_give_20 ?_
    refine J_tsIn (off := 103) (tgt := 124) dX1_give_21 (by decide) (by decide) (by decide) rfl rfl ?_
    refine J_iconst dX1_give_124 ?_
    refine J_al0 dX1_give_125 ?_
    refine J_al1 dX1_give_126 ?_
    refine J_il2 dX1_give_127 ?_
    refine J_bipush dX1_give_128 rfl ?_
    refine J_il5 dX1_give_130 ?_
    refine M_cvI4 dX1_give_132 lk_X1_38 cw_X1_give sh_77 rfl rfl (k_give11_2 hC1 hm0 hm1 h3 (by omega) n1 (by show 0 ≤ n + 1 ∧ n + 1 ≤ _; omega) hk) (by decide) (Nat.le_of_ble_eq_true rfl) (fun v_132 mem_132 hq => ?_)
    obtain ⟨v2, a2⟩ := hq
    have hC2 := a2.cb hC1
    have n2 := a2.1
    refine J_isub dX1_give_135 ?_
    refine M_iret dX1_give_136 rfl ?_
    exact ⟨by rw [v2], a1.tr a2⟩
  · skip
    omega

theorem k_ansS1 {mem : ZMem} {r : Int → Int} {L : List Int} (hC : CB mem 16 r L) {man dp n : Int} (hm0 : 0 ≤ man) (hm1 : man < r 3) (h3 : r 3 ≤ 7) (hdp : 0 ≤ dp ∧ dp ≤ 28) (hn : mem 77 1 = n) (hn0 : 0 ≤ n ∧ n ≤ 8) (hk : kd r man = 1) : CI mX1_answer 5 [zr 77, zr 16, zi man, zi 0, zi dp] mem (fun v mem' => v = (wm r man + (man + dn r man)) ∧ AskP mem mem' n [11, 10, 21, 20]) := by
  have hkk : mem 17 man = 1 := (hC.2.2 man hm0 hm1).1.trans hk
  refine CM.of (by decide +kernel) ([zr 77, zr 16, zi man, zi 0, zi dp, zu, zu, zu]) (zok_all rfl) (Nat.le_of_ble_eq_true rfl) rfl ?_
  refine J_al1 dX1_answer_0 ?_
  refine M_getR dX1_answer_1 fl_X1_21 sh_16 rfl ?_
  refine J_il2 dX1_answer_4 ?_
  refine M_ald dX1_answer_5 sh_17 (by decide) (by omega) ?_
  rw [hkk]
  refine J_is5 dX1_answer_6 (by decide) rfl ?_
  refine J_il3 dX1_answer_8 ?_
  refine J_ifne (tgt := 18) dX1_answer_9 rfl (by decide) (fun c => absurd c (by decide)) (fun _ => ?_)
  refine J_gets (v := zr 1001) dX1_answer_12 (List.mem_of_getElem? (i := 1) rfl) fk_X1_26 ?_
  refine J_goto (tgt := 21) dX1_answer_15 rfl ?_
  refine J_as6 dX1_answer_21 (by decide) rfl ?_
  refine J_iconst dX1_answer_23 ?_
  refine J_is7 dX1_answer_24 (by decide) rfl ?_
  skip
  refine J_il7 dX1_answer_26 ?_
  refine J_bipush dX1_answer_28 rfl ?_
  refine J_cge (tgt := 54) dX1_answer_30 rfl (by decide) (fun c => absurd c (by decide)) (fun _ => ?_)
  refine J_al6 dX1_answer_33 ?_
  refine J_il5 dX1_answer_35 ?_
  refine J_kald dX1_answer_37 rfl (by decide) (by decide) ?_
  refine J_st (st' := [zi 11]) rfl ?_
  refine J_ifne (tgt := 54) dX1_answer_38 rfl (by decide) (fun _ => ?_) (fun c => absurd c (by decide))
  refine J_al0 dX1_answer_54 ?_
  refine J_al1 dX1_answer_55 ?_
  refine J_il2 dX1_answer_56 ?_
  refine J_al6 dX1_answer_57 ?_
  refine J_il5 dX1_answer_59 ?_
  refine J_kald dX1_answer_61 rfl (by decide) (by decide) ?_
  refine J_st (st' := [zi 11, zi man, zr 16, zr 77]) rfl ?_
  refine J_il4 dX1_answer_62 ?_
  refine J_iconst dX1_answer_64 ?_
  refine J_iadd dX1_answer_65 ?_
  refine M_cvI4 dX1_answer_66 lk_X1_38 cw_X1_give sh_77 rfl rfl (k_give11_1 hC hm0 hm1 h3 (by omega) hn (by omega) hk) (by decide) (Nat.le_of_ble_eq_true rfl) (fun v_66 mem_66 hq => ?_)
  refine M_iret dX1_answer_69 rfl ?_
  exact hq

theorem k_ansS2 {mem : ZMem} {r : Int → Int} {L : List Int} (hC : CB mem 16 r L) {man dp n : Int} (hm0 : 0 ≤ man) (hm1 : man < r 3) (h3 : r 3 ≤ 7) (hdp : 0 ≤ dp ∧ dp ≤ 24) (hn : mem 77 1 = n) (hn0 : 0 ≤ n ∧ n ≤ 6) (hk : kd r man = 2) : CI mX1_answer 7 [zr 77, zr 16, zi man, zi 0, zi dp] mem (fun v mem' => v = (0 - (wm r man + ((man + dn r man) * 2))) ∧ AskP mem mem' n [12, 11, 10, 24, 21, 20]) := by
  have hkk : mem 17 man = 2 := (hC.2.2 man hm0 hm1).1.trans hk
  refine CM.of (by decide +kernel) ([zr 77, zr 16, zi man, zi 0, zi dp, zu, zu, zu]) (zok_all rfl) (Nat.le_of_ble_eq_true rfl) rfl ?_
  refine J_al1 dX1_answer_0 ?_
  refine M_getR dX1_answer_1 fl_X1_21 sh_16 rfl ?_
  refine J_il2 dX1_answer_4 ?_
  refine M_ald dX1_answer_5 sh_17 (by decide) (by omega) ?_
  rw [hkk]
  refine J_is5 dX1_answer_6 (by decide) rfl ?_
  refine J_il3 dX1_answer_8 ?_
  refine J_ifne (tgt := 18) dX1_answer_9 rfl (by decide) (fun c => absurd c (by decide)) (fun _ => ?_)
  refine J_gets (v := zr 1001) dX1_answer_12 (List.mem_of_getElem? (i := 1) rfl) fk_X1_26 ?_
  refine J_goto (tgt := 21) dX1_answer_15 rfl ?_
  refine J_as6 dX1_answer_21 (by decide) rfl ?_
  refine J_iconst dX1_answer_23 ?_
  refine J_is7 dX1_answer_24 (by decide) rfl ?_
  skip
  refine J_il7 dX1_answer_26 ?_
  refine J_bipush dX1_answer_28 rfl ?_
  refine J_cge (tgt := 54) dX1_answer_30 rfl (by decide) (fun c => absurd c (by decide)) (fun _ => ?_)
  refine J_al6 dX1_answer_33 ?_
  refine J_il5 dX1_answer_35 ?_
  refine J_kald dX1_answer_37 rfl (by decide) (by decide) ?_
  refine J_st (st' := [zi 12]) rfl ?_
  refine J_ifne (tgt := 54) dX1_answer_38 rfl (by decide) (fun _ => ?_) (fun c => absurd c (by decide))
  refine J_al0 dX1_answer_54 ?_
  refine J_al1 dX1_answer_55 ?_
  refine J_il2 dX1_answer_56 ?_
  refine J_al6 dX1_answer_57 ?_
  refine J_il5 dX1_answer_59 ?_
  refine J_kald dX1_answer_61 rfl (by decide) (by decide) ?_
  refine J_st (st' := [zi 12, zi man, zr 16, zr 77]) rfl ?_
  refine J_il4 dX1_answer_62 ?_
  refine J_iconst dX1_answer_64 ?_
  refine J_iadd dX1_answer_65 ?_
  refine M_cvI4 dX1_answer_66 lk_X1_38 cw_X1_give sh_77 rfl rfl (k_give12 hC hm0 hm1 h3 (by omega) hn (by omega) hk) (by decide) (Nat.le_of_ble_eq_true rfl) (fun v_66 mem_66 hq => ?_)
  refine M_iret dX1_answer_69 rfl ?_
  exact hq

theorem k_ansS3 {mem : ZMem} {r : Int → Int} {L : List Int} (hC : CB mem 16 r L) {man dp n : Int} (hm0 : 0 ≤ man) (hm1 : man < r 3) (h3 : r 3 ≤ 7) (hdp : 0 ≤ dp ∧ dp ≤ 26) (hn : mem 77 1 = n) (hn0 : 0 ≤ n ∧ n ≤ 7) (hk : kd r man = 3) : CI mX1_answer 6 [zr 77, zr 16, zi man, zi 0, zi dp] mem (fun v mem' => v = (wm r man + ((man + dn r man) - 1000)) ∧ AskP mem mem' n [11, 10, 22, 21, 20]) := by
  have hkk : mem 17 man = 3 := (hC.2.2 man hm0 hm1).1.trans hk
  refine CM.of (by decide +kernel) ([zr 77, zr 16, zi man, zi 0, zi dp, zu, zu, zu]) (zok_all rfl) (Nat.le_of_ble_eq_true rfl) rfl ?_
  refine J_al1 dX1_answer_0 ?_
  refine M_getR dX1_answer_1 fl_X1_21 sh_16 rfl ?_
  refine J_il2 dX1_answer_4 ?_
  refine M_ald dX1_answer_5 sh_17 (by decide) (by omega) ?_
  rw [hkk]
  refine J_is5 dX1_answer_6 (by decide) rfl ?_
  refine J_il3 dX1_answer_8 ?_
  refine J_ifne (tgt := 18) dX1_answer_9 rfl (by decide) (fun c => absurd c (by decide)) (fun _ => ?_)
  refine J_gets (v := zr 1001) dX1_answer_12 (List.mem_of_getElem? (i := 1) rfl) fk_X1_26 ?_
  refine J_goto (tgt := 21) dX1_answer_15 rfl ?_
  refine J_as6 dX1_answer_21 (by decide) rfl ?_
  refine J_iconst dX1_answer_23 ?_
  refine J_is7 dX1_answer_24 (by decide) rfl ?_
  skip
  refine J_il7 dX1_answer_26 ?_
  refine J_bipush dX1_answer_28 rfl ?_
  refine J_cge (tgt := 54) dX1_answer_30 rfl (by decide) (fun c => absurd c (by decide)) (fun _ => ?_)
  refine J_al6 dX1_answer_33 ?_
  refine J_il5 dX1_answer_35 ?_
  refine J_kald dX1_answer_37 rfl (by decide) (by decide) ?_
  refine J_st (st' := [zi 0]) rfl ?_
  refine J_ifne (tgt := 54) dX1_answer_38 rfl (by decide) (fun c => absurd c (by decide)) (fun _ => ?_)
  refine J_il5 dX1_answer_41 ?_
  refine M_csI1 dX1_answer_43 lk_X1_34 cw_X3_nearest (k_nearest (by decide)) (by decide) (Nat.le_of_ble_eq_true rfl) (fun v_43 mem_43 hq => ?_)
  obtain ⟨rfl, hq⟩ := hq; have hq := hq.symm; subst hq
  refine J_st (st' := [zi 1]) rfl ?_
  refine J_is5 dX1_answer_46 (by decide) rfl ?_
  refine J_inc7 dX1_answer_48 (by decide) rfl ?_
  refine J_goto (tgt := 26) dX1_answer_51 rfl ?_
  refine J_zs (zs' := [zr 77, zr 16, zi man, zi 0, zi dp, zi 1, zr 1001, zi 1]) rfl ?_
  refine J_il7 dX1_answer_26 ?_
  refine J_bipush dX1_answer_28 rfl ?_
  refine J_cge (tgt := 54) dX1_answer_30 rfl (by decide) (fun c => absurd c (by decide)) (fun _ => ?_)
  refine J_al6 dX1_answer_33 ?_
  refine J_il5 dX1_answer_35 ?_
  refine J_kald dX1_answer_37 rfl (by decide) (by decide) ?_
  refine J_st (st' := [zi 11]) rfl ?_
  refine J_ifne (tgt := 54) dX1_answer_38 rfl (by decide) (fun _ => ?_) (fun c => absurd c (by decide))
  refine J_al0 dX1_answer_54 ?_
  refine J_al1 dX1_answer_55 ?_
  refine J_il2 dX1_answer_56 ?_
  refine J_al6 dX1_answer_57 ?_
  refine J_il5 dX1_answer_59 ?_
  refine J_kald dX1_answer_61 rfl (by decide) (by decide) ?_
  refine J_st (st' := [zi 11, zi man, zr 16, zr 77]) rfl ?_
  refine J_il4 dX1_answer_62 ?_
  refine J_iconst dX1_answer_64 ?_
  refine J_iadd dX1_answer_65 ?_
  refine M_cvI4 dX1_answer_66 lk_X1_38 cw_X1_give sh_77 rfl rfl (k_give11_3 hC hm0 hm1 h3 (by omega) hn (by omega) hk) (by decide) (Nat.le_of_ble_eq_true rfl) (fun v_66 mem_66 hq => ?_)
  refine M_iret dX1_answer_69 rfl ?_
  exact hq
