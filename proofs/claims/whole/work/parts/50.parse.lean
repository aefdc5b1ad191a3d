/-! READING A TEXT: where it is, the fault (0 none), the fault's place -/
abbrev fg (t : Int → Int) (n p : Int) : Prop := p < n ∧ 48 ≤ t p ∧ t p ≤ 57
def nlen (t : Int → Int) (n p : Int) : Int := if fg t n p then (if fg t n (p + 1) then (if fg t n (p + 2) then 3 else 2) else 1) else 0
def nval (t : Int → Int) (n p : Int) : Int := if fg t n (p + 1) then (t p - 48) * 10 + (t (p + 1) - 48) else t p - 48
abbrev PS : Type := Int × Int × Int
def pSgn (t : Int → Int) (n c : Int) (s : PS) : PS := if s.2.1 ≠ 0 then s else if s.1 < n ∧ t s.1 = c then (s.1 + 1, 0, s.2.2) else (s.1, 1, s.1)
def pNum (t : Int → Int) (n lo hi : Int) (s : PS) : PS := if s.2.1 ≠ 0 then s else if nlen t n s.1 = 0 ∨ nlen t n s.1 = 3 then (s.1, 1, s.1) else if nval t n s.1 < lo ∨ hi < nval t n s.1 then (s.1, 2, s.1) else (s.1 + nlen t n s.1, 0, s.2.2)
def PInv (n : Int) (s : PS) : Prop := (0 ≤ s.1 ∧ s.1 ≤ n) ∧ (0 ≤ s.2.1 ∧ s.2.1 ≤ 3)
theorem nlen_of {t : Int → Int} {n p k : Int} (h0 : 0 ≤ k ∧ k ≤ 3) (h1 : ∀ i, 0 ≤ i → i < k → fg t n (p + i)) (h2 : k = 3 ∨ ¬ fg t n (p + k)) : nlen t n p = k := by
  unfold nlen
  have hk : k = 0 ∨ k = 1 ∨ k = 2 ∨ k = 3 := by omega
  rcases hk with rfl | rfl | rfl | rfl
  · rw [if_neg (by rcases h2 with q | q; · omega
                   · simpa using q)]
  · have a0 := h1 0 (by omega) (by omega)
    rw [Int.add_zero] at a0
    rw [if_pos a0, if_neg (by rcases h2 with q | q; · omega
                              · exact q)]
  · have a0 := h1 0 (by omega) (by omega)
    rw [Int.add_zero] at a0
    rw [if_pos a0, if_pos (h1 1 (by omega) (by omega)), if_neg (by rcases h2 with q | q; · omega
                                                                   · exact q)]
  · have a0 := h1 0 (by omega) (by omega)
    rw [Int.add_zero] at a0
    rw [if_pos a0, if_pos (h1 1 (by omega) (by omega)), if_pos (h1 2 (by omega) (by omega))]
theorem nlen_range (t : Int → Int) (n p : Int) : 0 ≤ nlen t n p ∧ nlen t n p ≤ 3 := by
  unfold nlen
  repeat' split
  all_goals omega
theorem nlen_fit {t : Int → Int} {n p : Int} (h : 1 ≤ nlen t n p) (h3 : nlen t n p ≤ 2) : p + nlen t n p ≤ n ∧ fg t n p ∧ (nlen t n p = 2 ↔ fg t n (p + 1)) ∧ (nlen t n p = 2 → ¬ fg t n (p + 2)) := by
  unfold nlen at h h3 ⊢
  by_cases a : fg t n p
  · by_cases b : fg t n (p + 1)
    · by_cases c : fg t n (p + 2)
      · simp only [if_pos a, if_pos b, if_pos c] at h3; omega
      · simp only [if_pos a, if_pos b, if_neg c] at h h3 ⊢
        exact ⟨by have := b.1; omega, a, ⟨fun _ => b, fun _ => by simp⟩, fun _ => c⟩
    · simp only [if_pos a, if_neg b] at h h3 ⊢
      exact ⟨by have := a.1; omega, a, ⟨fun q => by omega, fun q => absurd q b⟩, fun q => by omega⟩
  · simp only [if_neg a] at h; omega
theorem nval_range {t : Int → Int} {n p : Int} (h : 1 ≤ nlen t n p) (h3 : nlen t n p ≤ 2) : 0 ≤ nval t n p ∧ nval t n p ≤ 99 := by
  obtain ⟨-, a, b, -⟩ := nlen_fit h h3
  unfold nval
  split
  · rename_i q; have := a.2; have := q.2; omega
  · have := a.2; omega
theorem pSgn_inv {t : Int → Int} {n c : Int} {s : PS} (h : PInv n s) : PInv n (pSgn t n c s) := by
  obtain ⟨h1, h2⟩ := h
  unfold pSgn PInv
  repeat' split
  all_goals (first | exact ⟨h1, h2⟩ | (constructor <;> constructor <;> simp <;> omega))
theorem pNum_inv {t : Int → Int} {n lo hi : Int} {s : PS} (h : PInv n s) : PInv n (pNum t n lo hi s) := by
  obtain ⟨h1, h2⟩ := h
  have hr := nlen_range t n s.1
  unfold pNum PInv
  split
  · exact ⟨h1, h2⟩
  · split
    · exact ⟨h1, by simp⟩
    · split
      · exact ⟨h1, by simp⟩
      · rename_i q1 q2 q3
        have hf := (nlen_fit (t := t) (n := n) (p := s.1) (by omega) (by omega)).1
        refine ⟨⟨?_, hf⟩, by simp⟩
        show 0 ≤ s.1 + nlen t n s.1
        omega
theorem pSgn_f {t : Int → Int} {n c : Int} {s : PS} (h : (pSgn t n c s).2.1 = 0) : s.2.1 = 0 ∧ s.1 < n ∧ t s.1 = c ∧ (pSgn t n c s).1 = s.1 + 1 := by
  unfold pSgn at h ⊢
  by_cases a : s.2.1 ≠ 0
  · rw [if_pos a] at h; exact absurd h a
  · rw [if_neg a] at h ⊢
    by_cases b : s.1 < n ∧ t s.1 = c
    · rw [if_pos b] at h ⊢; exact ⟨by omega, b.1, b.2, rfl⟩
    · rw [if_neg b] at h; exact absurd (show (1 : Int) = 0 from h) (by decide)
theorem pNum_f {t : Int → Int} {n lo hi : Int} {s : PS} (h : (pNum t n lo hi s).2.1 = 0) : s.2.1 = 0 ∧ 1 ≤ nlen t n s.1 ∧ nlen t n s.1 ≤ 2 ∧ lo ≤ nval t n s.1 ∧ nval t n s.1 ≤ hi ∧ (pNum t n lo hi s).1 = s.1 + nlen t n s.1 := by
  have hr := nlen_range t n s.1
  unfold pNum at h ⊢
  by_cases a : s.2.1 ≠ 0
  · rw [if_pos a] at h; exact absurd h a
  · rw [if_neg a] at h ⊢
    by_cases b : nlen t n s.1 = 0 ∨ nlen t n s.1 = 3
    · rw [if_pos b] at h; exact absurd (show (1 : Int) = 0 from h) (by decide)
    · rw [if_neg b] at h ⊢
      by_cases c : nval t n s.1 < lo ∨ hi < nval t n s.1
      · rw [if_pos c] at h; exact absurd (show (2 : Int) = 0 from h) (by decide)
      · rw [if_neg c] at h ⊢; exact ⟨by omega, by omega, by omega, by omega, by omega, rfl⟩
/-- the law -/
def pL1 (t : Int → Int) (n : Int) (s : PS) : PS := pSgn t n 98 s
def pL3 (t : Int → Int) (n : Int) (s : PS) : PS := pSgn t n 44 (pNum t n 0 23 (pL1 t n s))
def pLaw (t : Int → Int) (n : Int) (s : PS) : PS := pSgn t n 59 (pNum t n 0 9 (pL3 t n s))
/-- a man, k being told -/
def pM3 (t : Int → Int) (n : Int) (s : PS) : PS := pSgn t n 44 (pNum t n 0 23 (s.1 + 1, 0, s.2.2))
def pMan (t : Int → Int) (n k : Int) (s : PS) : PS := if n ≤ s.1 ∨ kOf (t s.1) = 0 then (s.1, 1, s.1) else if 7 ≤ k then (s.1, 3, s.1) else pSgn t n 59 (pNum t n 1 9 (pM3 t n s))
/-- the men: at most fuel of them are looked at -/
def pMen (t : Int → Int) (n : Int) : Nat → Nat → PS → (Int → Int) → PS × (Int → Int) × Nat
  | 0, k, s, r => (s, r, k)
  | f + 1, k, s, r => if s.2.1 = 0 ∧ (k = 0 ∨ s.1 < n) then (if (pMan t n k s).2.1 = 0 then pMen t n f (k + 1) (pMan t n k s) (addR r k (kOf (t s.1)) (nval t n (s.1 + 1)) (nval t n (pM3 t n s).1)) else (pMan t n k s, r, k)) else (s, r, k)
def lawR (t : Int → Int) (n : Int) : Int → Int := fun x => if x = 1 then nval t n (pL1 t n (0, 0, 0)).1 else if x = 2 then nval t n (pL3 t n (0, 0, 0)).1 else 0
/-- the whole text: fault, place; the bench, if there is none -/
def pAll (t : Int → Int) (n : Int) : PS × (Int → Int) × Nat := pMen t n 8 0 (pLaw t n (0, 0, 0)) (lawR t n)
theorem kOf_range (c : Int) : 0 ≤ kOf c ∧ kOf c ≤ 5 := by unfold kOf; (repeat' split) <;> omega
theorem pMan_inv {t : Int → Int} {n k : Int} {s : PS} (h : PInv n s) : PInv n (pMan t n k s) := by
  unfold pMan
  split
  · exact ⟨h.1, by simp⟩
  · split
    · exact ⟨h.1, by simp⟩
    · rename_i q _
      unfold pM3
      refine pSgn_inv (pNum_inv (pSgn_inv (pNum_inv ⟨?_, by simp⟩)))
      have := h.1
      show 0 ≤ s.1 + 1 ∧ s.1 + 1 ≤ n
      omega
