/-! WHAT A BENCH IS: a row of numbers (1 noon, 2 wide, 3 men, 4 hour, 5 june, 6 snuff; 15 + 5 m + 0 .. 4: kind, dinner, long, warm, gone of man m) and who sits, by places -/
abbrev BN : Type := (Int → Int) × List Int
def kd (r : Int → Int) (m : Int) : Int := r (15 + 5 * m)
def dn (r : Int → Int) (m : Int) : Int := r (15 + 5 * m + 1)
def lg (r : Int → Int) (m : Int) : Int := r (15 + 5 * m + 2)
def wm (r : Int → Int) (m : Int) : Int := r (15 + 5 * m + 3)
def gn (r : Int → Int) (m : Int) : Int := r (15 + 5 * m + 4)
def zpos (x : Int) : Int := if 0 < x then x else 0
def sunR (r : Int → Int) (h : Int) : Int := if r 1 < h then (if 12 < h - r 1 then zpos (r 2 - (24 - (h - r 1))) else zpos (r 2 - (h - r 1))) else (if 12 < r 1 - h then zpos (r 2 - (24 - (r 1 - h))) else zpos (r 2 - (r 1 - h)))
/-- has a place sun, with n who sit -/
def snyR (r : Int → Int) (n p : Int) : Prop := (r 5 = 1 ∧ n - sunR r (r 4 % 24) ≤ p) ∨ (¬ r 5 = 1 ∧ p < sunR r (r 4 % 24))
def goesR (r : Int → Int) (n m p : Int) : Prop := kd r m = 1 ∨ kd r m = 3 ∨ (kd r m = 2 ∧ ¬ snyR r n p) ∨ (kd r m = 5 ∧ snyR r n p)
def BInv (r : Int → Int) (L : List Int) : Prop :=
  (0 ≤ r 3 ∧ r 3 ≤ 7) ∧ L.Nodup ∧ (∀ m ∈ L, 0 ≤ m ∧ m < r 3) ∧ 0 ≤ r 4 ∧
  (∀ m, 0 ≤ m → m < r 3 → (1 ≤ kd r m ∧ kd r m ≤ 5) ∧ (0 ≤ dn r m ∧ dn r m ≤ 23) ∧ (1 ≤ lg r m ∧ lg r m ≤ 9) ∧ (0 ≤ wm r m ∧ wm r m ≤ r 4) ∧ (-1 ≤ gn r m ∧ gn r m ≤ r 4 + 9) ∧ (gn r m = 0 ↔ m ∈ L)) ∧
  (0 ≤ r 1 ∧ r 1 ≤ 23) ∧ (-1 ≤ r 2 ∧ r 2 ≤ 9) ∧ (r 5 = 0 ∨ r 5 = 1)
theorem BInv.len {r : Int → Int} {L : List Int} (h : BInv r L) : (L.length : Int) ≤ r 3 := by
  have h1 := nodup_len (r 3).toNat L h.2.1 (fun m hm => by have := h.2.2.1 m hm; omega)
  have := h.1
  omega
theorem BInv.len1 {r : Int → Int} {L : List Int} (h : BInv r L) {m : Int} (h0 : 0 ≤ m) (h1 : m < r 3) (hm : m ∉ L) : (L.length : Int) + 1 ≤ r 3 := by
  have h2 := nodup_len (r 3).toNat (m :: L) (List.nodup_cons.mpr ⟨hm, h.2.1⟩) (fun x hx => by
    rcases List.mem_cons.mp hx with rfl | hx
    · omega
    · have := h.2.2.1 x hx; omega)
  rw [List.length_cons] at h2
  have := h.1
  omega
/-- what the sun rests on -/
def BLt (r : Int → Int) (L : List Int) : Prop := (0 ≤ r 3 ∧ r 3 ≤ 7) ∧ (L.length : Int) ≤ 7 ∧ 0 ≤ r 4 ∧ (0 ≤ r 1 ∧ r 1 ≤ 23) ∧ (-1 ≤ r 2 ∧ r 2 ≤ 9) ∧ (r 5 = 0 ∨ r 5 = 1)
theorem BInv.lt {r : Int → Int} {L : List Int} (h : BInv r L) : BLt r L := by
  have hl := h.len
  obtain ⟨i1, i2, i3, i4, i5, i6, i7, i8⟩ := h
  exact ⟨i1, by omega, i4, i6, i7, i8⟩
theorem sunR_range {r : Int → Int} (h2 : -1 ≤ r 2 ∧ r 2 ≤ 9) (h1 : 0 ≤ r 1 ∧ r 1 ≤ 23) {h : Int} (hh : 0 ≤ h ∧ h ≤ 23) : 0 ≤ sunR r h ∧ sunR r h ≤ 9 := by
  unfold sunR zpos
  repeat' split
  all_goals omega
/-- what the class holds in 'back' -/
def bk (g : Int) : Int := if g = 0 then -1 else if g < 0 then -2 else g
/-- a bench of the class at place j is (r, L) -/
def CB (mem : ZMem) (j : Nat) (r : Int → Int) (L : List Int) : Prop :=
  (mem j 0 = r 1 ∧ mem j 1 = r 2 ∧ mem j 2 = r 3 ∧ mem j 6 = r 4 ∧ mem j 7 = r 6 ∧ mem j 8 = r 5 ∧ mem j 9 = (L.length : Int)) ∧
  (∀ p : Int, 0 ≤ p → p < L.length → mem (j + 4) p = lget L p) ∧
  (∀ m : Int, 0 ≤ m → m < r 3 → mem (j + 1) m = kd r m ∧ mem (j + 2) m = dn r m ∧ mem (j + 3) m = lg r m ∧ mem (j + 5) m = wm r m ∧ mem (j + 6) m = bk (gn r m))
/-- nothing else has changed -/
def FrB (j : Nat) (mem mem' : ZMem) : Prop := ∀ q : Nat, q < j ∨ j + 6 < q → mem' q = mem q
theorem FrB.rf {j : Nat} {mem : ZMem} : FrB j mem mem := fun _ _ => rfl
theorem FrB.tr {j : Nat} {a b c : ZMem} (h : FrB j a b) (g : FrB j b c) : FrB j a c := fun q hq => (g q hq).trans (h q hq)
theorem FrB.set {j q : Nat} {a b : ZMem} {i v : Int} (h : FrB j a b) (h1 : j ≤ q) (h2 : q ≤ j + 6) : FrB j a (mset b q i v) := fun x hx => by
  rw [mset_n (by omega)]; exact h x hx
/-- a bench is seen in its seven cells alone -/
theorem CB.ext {mem mem' : ZMem} {j : Nat} {r : Int → Int} {L : List Int} (h : CB mem j r L) (e : ∀ q : Nat, j ≤ q → q ≤ j + 6 → mem' q = mem q) : CB mem' j r L := by
  unfold CB at h ⊢
  rw [e j (by omega) (by omega), e (j + 1) (by omega) (by omega), e (j + 2) (by omega) (by omega), e (j + 3) (by omega) (by omega), e (j + 4) (by omega) (by omega), e (j + 5) (by omega) (by omega), e (j + 6) (by omega) (by omega)]
  exact h
theorem kd_up {r : Int → Int} {m x v : Int} : kd (zup r (15 + 5 * m + 4) v) x = kd r x := by unfold kd; rw [zup_n (by omega)]
theorem dn_up {r : Int → Int} {m x v : Int} : dn (zup r (15 + 5 * m + 4) v) x = dn r x := by unfold dn; rw [zup_n (by omega)]
theorem lg_up {r : Int → Int} {m x v : Int} : lg (zup r (15 + 5 * m + 4) v) x = lg r x := by unfold lg; rw [zup_n (by omega)]
theorem wm_up {r : Int → Int} {m x v : Int} : wm (zup r (15 + 5 * m + 4) v) x = wm r x := by unfold wm; rw [zup_n (by omega)]
theorem gn_up_s {r : Int → Int} {m v : Int} : gn (zup r (15 + 5 * m + 4) v) m = v := by unfold gn; rw [zup_s]
theorem gn_up_n {r : Int → Int} {m x v : Int} (h : x ≠ m) : gn (zup r (15 + 5 * m + 4) v) x = gn r x := by unfold gn; rw [zup_n (by omega)]
theorem up_lo {r : Int → Int} {m v k : Int} (h0 : 0 ≤ m) (h : k < 15) {c : Int} (hc : 0 ≤ c) : zup r (15 + 5 * m + c) v k = r k := zup_n (by omega)
theorem bk_neg {g : Int} (h : -1 ≤ g) : bk g < 0 ↔ ¬ 0 < g := by unfold bk; (repeat' split) <;> omega
theorem bk_away {g : Int} (h : -1 ≤ g) : bk g = -2 ↔ g < 0 := by unfold bk; (repeat' split) <;> omega
theorem bk_pos {g : Int} (h : 0 < g) : bk g = g := by unfold bk; rw [if_neg (by omega), if_neg (by omega)]
theorem bk_range {g : Int} (h : -1 ≤ g) (h2 : g ≤ 100000) : -2 ≤ bk g ∧ bk g ≤ 100000 := by unfold bk; (repeat' split) <;> omega
