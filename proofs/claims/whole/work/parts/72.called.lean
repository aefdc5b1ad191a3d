/-! WHO IS CALLED, AND HOW THE REFERENCE LETS THEM GO -/
noncomputable def clL (F : Int → Prop) (r : Int → Int) : List Int → List Int
  | [] => []
  | m :: rest => cif (dn r m = r 4 % 24 ∧ F m) (m :: clL F r rest) (clL F r rest)
theorem clL_app (F : Int → Prop) (r : Int → Int) : ∀ A B : List Int, clL F r (A ++ B) = clL F r A ++ clL F r B
  | [], B => rfl
  | m :: A, B => by
    have e : ∀ X : List Int, clL F r (m :: X) = cif (dn r m = r 4 % 24 ∧ F m) (m :: clL F r X) (clL F r X) := fun X => rfl
    show clL F r (m :: (A ++ B)) = _
    rw [e, e]
    by_cases c : dn r m = r 4 % 24 ∧ F m
    · rw [cif_t c, cif_t c, clL_app F r A B]; rfl
    · rw [cif_f c, cif_f c, clL_app F r A B]
theorem clL_len (F : Int → Prop) (r : Int → Int) : ∀ A : List Int, (clL F r A).length ≤ A.length
  | [] => Nat.le_refl _
  | m :: A => by
    have := clL_len F r A
    unfold clL
    by_cases c : dn r m = r 4 % 24 ∧ F m
    · rw [cif_t c, List.length_cons, List.length_cons]; omega
    · rw [cif_f c, List.length_cons]; omega
theorem clL_mem {F : Int → Prop} {r : Int → Int} {x : Int} : ∀ {A : List Int}, x ∈ clL F r A → x ∈ A
  | [], h => h
  | m :: A, h => by
    unfold clL at h
    by_cases c : dn r m = r 4 % 24 ∧ F m
    · rw [cif_t c] at h
      rcases List.mem_cons.mp h with rfl | h
      · exact List.mem_cons_self
      · exact List.mem_cons_of_mem _ (clL_mem h)
    · rw [cif_f c] at h
      exact List.mem_cons_of_mem _ (clL_mem h)
theorem clL_congr {F : Int → Prop} {r r' : Int → Int} : ∀ A : List Int, (∀ m ∈ A, dn r' m = dn r m) → r' 4 = r 4 → clL F r' A = clL F r A
  | [], _, _ => rfl
  | m :: A, h, h4 => by
    unfold clL
    rw [clL_congr A (fun x hx => h x (List.mem_cons_of_mem _ hx)) h4, h m List.mem_cons_self, h4]
theorem take_s {L : List Int} {k : Nat} (h : k < L.length) : L.take (k + 1) = L.take k ++ [lget L k] := by
  rw [List.take_succ, List.getElem?_eq_getElem h]
  unfold lget
  rw [List.getD_eq_getElem?_getD, Int.toNat_natCast, List.getElem?_eq_getElem h]
  rfl
/-- those called go, one after another -/
noncomputable def gcN : BN → List Int → BN × Int
  | b, [] => (b, 0)
  | b, m :: C => cif (goesR b.1 b.2.length m (plc b.2 m)) ((gcN (goneR b m (b.1 4 + lg b.1 m)) C).1, (gcN (goneR b m (b.1 4 + lg b.1 m)) C).2 + 1) (gcN b C)
theorem gc_call (F : Int → Prop) : ∀ (rest : List Int) (r : Int → Int) (pre : List Int), BInv r (pre ++ rest) → gcN (r, pre ++ rest) (clL F r rest) = (((callR F r pre rest).1, (callR F r pre rest).2.1), (callR F r pre rest).2.2)
  | [], r, pre, _ => by
    show ((r, pre ++ []), (0 : Int)) = ((r, pre), 0)
    rw [List.append_nil]
  | m :: rest, r, pre, h => by
    have hm : m ∈ pre ++ m :: rest := List.mem_append_right _ List.mem_cons_self
    obtain ⟨m0, m1⟩ := h.2.2.1 m hm
    have hpl : plc (pre ++ m :: rest) m = pre.length := by
      have e : lget (pre ++ m :: rest) (pre.length : Int) = m := by
        rw [lget_app_r (by omega), show (pre.length : Int) - pre.length = 0 by omega, lget_c0]
      have := plc_nodup h.2.1 (p := (pre.length : Int)) (by omega) (by rw [List.length_append, List.length_cons]; omega)
      rwa [e] at this
    have hlen : ((pre ++ m :: rest).length : Int) = (pre.length : Int) + 1 + rest.length := by rw [List.length_append, List.length_cons]; omega
    have hrem : remL (pre ++ m :: rest) m = pre ++ rest := by
      unfold remL
      rw [if_pos (by omega), hpl, era_mid]
    have hng := (h.2.2.2.2.1 m m0 m1).2.2.1
    have ih2 := gc_call F rest r (pre ++ [m]) (by rw [List.append_assoc]; exact h)
    rw [List.append_assoc] at ih2
    have ih2 : gcN (r, pre ++ m :: rest) (clL F r rest) = _ := ih2
    by_cases c : dn r m = r 4 % 24 ∧ F m
    · have e1 : clL F r (m :: rest) = m :: clL F r rest := by
        show cif (dn r m = r 4 % 24 ∧ F m) (m :: clL F r rest) (clL F r rest) = _
        rw [cif_t c]
      by_cases g : goesR r ((pre.length : Int) + 1 + rest.length) m pre.length
      · have hI2 : BInv (zup r (15 + 5 * m + 4) (r 4 + lg r m)) (pre ++ rest) := by
          have := goneR_inv (b := (r, pre ++ m :: rest)) h (g := r 4 + lg r m) m0 m1 ⟨by have := h.2.2.2.1; omega, by show r 4 + lg r m ≤ r 4 + 9; omega, by have := h.2.2.2.1; omega⟩
          unfold goneR at this
          have this : BInv (zup r (15 + 5 * m + 4) (r 4 + lg r m)) (remL (pre ++ m :: rest) m) := this
          rwa [hrem] at this
        have ih := gc_call F rest _ pre hI2
        rw [clL_congr (r := r) rest (fun x hx => dn_up) (zup_n (by omega))] at ih
        have e2 : callR F r pre (m :: rest) = ((callR F (zup r (15 + 5 * m + 4) (r 4 + lg r m)) pre rest).1, (callR F (zup r (15 + 5 * m + 4) (r 4 + lg r m)) pre rest).2.1, (callR F (zup r (15 + 5 * m + 4) (r 4 + lg r m)) pre rest).2.2 + 1) := by
          rw [callR, cif_t ⟨c.1, c.2, g⟩]
        rw [e1, e2]
        have e3 : gcN (r, pre ++ m :: rest) (m :: clL F r rest) = ((gcN (goneR (r, pre ++ m :: rest) m (r 4 + lg r m)) (clL F r rest)).1, (gcN (goneR (r, pre ++ m :: rest) m (r 4 + lg r m)) (clL F r rest)).2 + 1) := by
          rw [gcN, cif_t (by show goesR r ((pre ++ m :: rest).length : Int) m (plc (pre ++ m :: rest) m); rw [hlen, hpl]; exact g)]
        have e4 : goneR (r, pre ++ m :: rest) m (r 4 + lg r m) = (zup r (15 + 5 * m + 4) (r 4 + lg r m), pre ++ rest) := by
          unfold goneR
          rw [hrem]
        rw [e3, e4, ih]
      · have e2 : callR F r pre (m :: rest) = callR F r (pre ++ [m]) rest := by
          rw [callR, cif_f (fun q => g q.2.2)]
        have e3 : gcN (r, pre ++ m :: rest) (m :: clL F r rest) = gcN (r, pre ++ m :: rest) (clL F r rest) := by
          rw [gcN, cif_f (by show ¬ goesR r ((pre ++ m :: rest).length : Int) m (plc (pre ++ m :: rest) m); rw [hlen, hpl]; exact g)]
        rw [e1, e2, e3, ih2]
    · have e1 : clL F r (m :: rest) = clL F r rest := by
        show cif (dn r m = r 4 % 24 ∧ F m) (m :: clL F r rest) (clL F r rest) = _
        rw [cif_f c]
      have e2 : callR F r pre (m :: rest) = callR F r (pre ++ [m]) rest := by
        rw [callR, cif_f (fun q => c ⟨q.1, q.2.1⟩)]
      rw [e1, e2, ih2]
theorem gcN_inv : ∀ (C : List Int) (b : BN), BInv b.1 b.2 → C.Nodup → (∀ m ∈ C, m ∈ b.2) → BInv (gcN b C).1.1 (gcN b C).1.2
  | [], b, h, _, _ => h
  | m :: C, b, h, hn, hs => by
    obtain ⟨n1, n2⟩ := List.nodup_cons.mp hn
    obtain ⟨m0, m1⟩ := h.2.2.1 m (hs m List.mem_cons_self)
    have hng := (h.2.2.2.2.1 m m0 m1).2.2.1
    have h4 := h.2.2.2.1
    unfold gcN
    by_cases c : goesR b.1 b.2.length m (plc b.2 m)
    · rw [cif_t c]
      refine gcN_inv C _ (goneR_inv h m0 m1 ⟨by omega, by omega, by omega⟩) n2 (fun x hx => ?_)
      have hx2 := hs x (List.mem_cons_of_mem _ hx)
      have hxm : x ≠ m := fun e => n1 (e ▸ hx)
      show x ∈ remL b.2 m
      obtain ⟨A, B, e1, e2, -⟩ := remL_split (hs m List.mem_cons_self)
      rw [e2]
      rw [e1] at hx2
      rcases List.mem_append.mp hx2 with q | q
      · exact List.mem_append_left _ q
      · rcases List.mem_cons.mp q with q | q
        · exact absurd q hxm
        · exact List.mem_append_right _ q
    · rw [cif_f c]
      exact gcN_inv C b h n2 (fun x hx => hs x (List.mem_cons_of_mem _ hx))
theorem clL_nodup {F : Int → Prop} {r : Int → Int} : ∀ {A : List Int}, A.Nodup → (clL F r A).Nodup
  | [], _ => List.nodup_nil
  | m :: A, h => by
    obtain ⟨n1, n2⟩ := List.nodup_cons.mp h
    unfold clL
    by_cases c : dn r m = r 4 % 24 ∧ F m
    · rw [cif_t c]; exact List.nodup_cons.mpr ⟨fun q => n1 (clL_mem q), clL_nodup n2⟩
    · rw [cif_f c]; exact clL_nodup n2
