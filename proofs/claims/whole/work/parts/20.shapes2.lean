/-! the shape, place by place -/
theorem sh_0 : shl[0]? = some (.inl (6, [some 1, some 14, some 16, some 23, some 49, some 56, some 63, some 70, some 77, none, none])) := rfl
theorem sh_1 : shl[1]? = some (.inl (4, [some 2, some 3, some 4, some 5])) := rfl
theorem sh_2 : shl[2]? = some (.inr (1, 8, 0)) := rfl
theorem sh_3 : shl[3]? = some (.inr (0, 8, 0)) := rfl
theorem sh_4 : shl[4]? = some (.inr (0, 8, 0)) := rfl
theorem sh_5 : shl[5]? = some (.inr (2, 8, 6)) := rfl
theorem sh_6 : shl[6]? = some (.inr (0, 40, 0)) := rfl
theorem sh_7 : shl[7]? = some (.inr (0, 40, 0)) := rfl
theorem sh_8 : shl[8]? = some (.inr (0, 40, 0)) := rfl
theorem sh_9 : shl[9]? = some (.inr (0, 40, 0)) := rfl
theorem sh_10 : shl[10]? = some (.inr (0, 40, 0)) := rfl
theorem sh_11 : shl[11]? = some (.inr (0, 40, 0)) := rfl
theorem sh_12 : shl[12]? = some (.inr (0, 40, 0)) := rfl
theorem sh_13 : shl[13]? = some (.inr (0, 40, 0)) := rfl
theorem sh_14 : shl[14]? = some (.inl (5, [some 15, none, none, none, none])) := rfl
theorem sh_15 : shl[15]? = some (.inr (0, 100, 0)) := rfl
theorem sh_16 : shl[16]? = some (.inl (2, [none, none, none, some 17, some 18, some 19, none, none, none, none, some 20, some 21, some 22])) := rfl
theorem sh_17 : shl[17]? = some (.inr (0, 7, 0)) := rfl
theorem sh_18 : shl[18]? = some (.inr (0, 7, 0)) := rfl
theorem sh_19 : shl[19]? = some (.inr (0, 7, 0)) := rfl
theorem sh_20 : shl[20]? = some (.inr (0, 7, 0)) := rfl
theorem sh_21 : shl[21]? = some (.inr (0, 7, 0)) := rfl
theorem sh_22 : shl[22]? = some (.inr (0, 7, 0)) := rfl
theorem sh_23 : shl[23]? = some (.inl (0, [some 24, none, none])) := rfl
theorem sh_24 : shl[24]? = some (.inr (2, 24, 25)) := rfl
theorem sh_25 : shl[25]? = some (.inr (0, 25, 0)) := rfl
theorem sh_26 : shl[26]? = some (.inr (0, 25, 0)) := rfl
theorem sh_27 : shl[27]? = some (.inr (0, 25, 0)) := rfl
theorem sh_28 : shl[28]? = some (.inr (0, 25, 0)) := rfl
theorem sh_29 : shl[29]? = some (.inr (0, 25, 0)) := rfl
theorem sh_30 : shl[30]? = some (.inr (0, 25, 0)) := rfl
theorem sh_31 : shl[31]? = some (.inr (0, 25, 0)) := rfl
theorem sh_32 : shl[32]? = some (.inr (0, 25, 0)) := rfl
theorem sh_33 : shl[33]? = some (.inr (0, 25, 0)) := rfl
theorem sh_34 : shl[34]? = some (.inr (0, 25, 0)) := rfl
theorem sh_35 : shl[35]? = some (.inr (0, 25, 0)) := rfl
theorem sh_36 : shl[36]? = some (.inr (0, 25, 0)) := rfl
theorem sh_37 : shl[37]? = some (.inr (0, 25, 0)) := rfl
theorem sh_38 : shl[38]? = some (.inr (0, 25, 0)) := rfl
theorem sh_39 : shl[39]? = some (.inr (0, 25, 0)) := rfl
theorem sh_40 : shl[40]? = some (.inr (0, 25, 0)) := rfl
theorem sh_41 : shl[41]? = some (.inr (0, 25, 0)) := rfl
theorem sh_42 : shl[42]? = some (.inr (0, 25, 0)) := rfl
theorem sh_43 : shl[43]? = some (.inr (0, 25, 0)) := rfl
theorem sh_44 : shl[44]? = some (.inr (0, 25, 0)) := rfl
theorem sh_45 : shl[45]? = some (.inr (0, 25, 0)) := rfl
theorem sh_46 : shl[46]? = some (.inr (0, 25, 0)) := rfl
theorem sh_47 : shl[47]? = some (.inr (0, 25, 0)) := rfl
theorem sh_48 : shl[48]? = some (.inr (0, 25, 0)) := rfl
theorem sh_49 : shl[49]? = some (.inl (2, [none, none, none, some 50, some 51, some 52, none, none, none, none, some 53, some 54, some 55])) := rfl
theorem sh_50 : shl[50]? = some (.inr (0, 7, 0)) := rfl
theorem sh_51 : shl[51]? = some (.inr (0, 7, 0)) := rfl
theorem sh_52 : shl[52]? = some (.inr (0, 7, 0)) := rfl
theorem sh_53 : shl[53]? = some (.inr (0, 7, 0)) := rfl
theorem sh_54 : shl[54]? = some (.inr (0, 7, 0)) := rfl
theorem sh_55 : shl[55]? = some (.inr (0, 7, 0)) := rfl
theorem sh_56 : shl[56]? = some (.inl (2, [none, none, none, some 57, some 58, some 59, none, none, none, none, some 60, some 61, some 62])) := rfl
theorem sh_57 : shl[57]? = some (.inr (0, 7, 0)) := rfl
theorem sh_58 : shl[58]? = some (.inr (0, 7, 0)) := rfl
theorem sh_59 : shl[59]? = some (.inr (0, 7, 0)) := rfl
theorem sh_60 : shl[60]? = some (.inr (0, 7, 0)) := rfl
theorem sh_61 : shl[61]? = some (.inr (0, 7, 0)) := rfl
theorem sh_62 : shl[62]? = some (.inr (0, 7, 0)) := rfl
theorem sh_63 : shl[63]? = some (.inl (2, [none, none, none, some 64, some 65, some 66, none, none, none, none, some 67, some 68, some 69])) := rfl
theorem sh_64 : shl[64]? = some (.inr (0, 7, 0)) := rfl
theorem sh_65 : shl[65]? = some (.inr (0, 7, 0)) := rfl
theorem sh_66 : shl[66]? = some (.inr (0, 7, 0)) := rfl
theorem sh_67 : shl[67]? = some (.inr (0, 7, 0)) := rfl
theorem sh_68 : shl[68]? = some (.inr (0, 7, 0)) := rfl
theorem sh_69 : shl[69]? = some (.inr (0, 7, 0)) := rfl
theorem sh_70 : shl[70]? = some (.inl (2, [none, none, none, some 71, some 72, some 73, none, none, none, none, some 74, some 75, some 76])) := rfl
theorem sh_71 : shl[71]? = some (.inr (0, 7, 0)) := rfl
theorem sh_72 : shl[72]? = some (.inr (0, 7, 0)) := rfl
theorem sh_73 : shl[73]? = some (.inr (0, 7, 0)) := rfl
theorem sh_74 : shl[74]? = some (.inr (0, 7, 0)) := rfl
theorem sh_75 : shl[75]? = some (.inr (0, 7, 0)) := rfl
theorem sh_76 : shl[76]? = some (.inr (0, 7, 0)) := rfl
theorem sh_77 : shl[77]? = some (.inl (1, [some 78, none])) := rfl
theorem sh_78 : shl[78]? = some (.inr (0, 16, 0)) := rfl
theorem sh_79 : shl[79]? = some (.inl (7, [none, none, some 80, some 81, some 82, some 83, some 84, some 85, some 86, none, some 87, none, none, none, none, none, none, none, none, some 88, some 89, some 90, some 91, some 92, none])) := rfl
theorem sh_80 : shl[80]? = some (.inr (0, 8, 0)) := rfl
theorem sh_81 : shl[81]? = some (.inr (0, 8, 0)) := rfl
theorem sh_82 : shl[82]? = some (.inr (0, 320, 0)) := rfl
theorem sh_83 : shl[83]? = some (.inr (0, 50, 0)) := rfl
theorem sh_84 : shl[84]? = some (.inr (0, 50, 0)) := rfl
theorem sh_85 : shl[85]? = some (.inr (0, 50, 0)) := rfl
theorem sh_86 : shl[86]? = some (.inr (0, 1200, 0)) := rfl
theorem sh_87 : shl[87]? = some (.inr (0, 100, 0)) := rfl
theorem sh_88 : shl[88]? = some (.inr (0, 7, 0)) := rfl
theorem sh_89 : shl[89]? = some (.inr (0, 7, 0)) := rfl
theorem sh_90 : shl[90]? = some (.inr (1, 2, 0)) := rfl
theorem sh_91 : shl[91]? = some (.inr (0, 100, 0)) := rfl
theorem sh_92 : shl[92]? = some (.inr (0, 16, 0)) := rfl
/-- the five benches -/
def isB (j : Nat) : Prop := j = 16 ∨ j = 49 ∨ j = 56 ∨ j = 63 ∨ j = 70
def bsl (j : Nat) : List (Option Nat) := [none, none, none, some (j + 1), some (j + 2), some (j + 3), none, none, none, none, some (j + 4), some (j + 5), some (j + 6)]
theorem isB_sh {j : Nat} (h : isB j) : shl[j]? = some (.inl (2, bsl j)) := by rcases h with rfl | rfl | rfl | rfl | rfl <;> rfl
theorem isB_a1 {j : Nat} (h : isB j) : shl[j + 1]? = some (.inr (0, 7, 0)) := by rcases h with rfl | rfl | rfl | rfl | rfl <;> rfl
theorem isB_a2 {j : Nat} (h : isB j) : shl[j + 2]? = some (.inr (0, 7, 0)) := by rcases h with rfl | rfl | rfl | rfl | rfl <;> rfl
theorem isB_a3 {j : Nat} (h : isB j) : shl[j + 3]? = some (.inr (0, 7, 0)) := by rcases h with rfl | rfl | rfl | rfl | rfl <;> rfl
theorem isB_a4 {j : Nat} (h : isB j) : shl[j + 4]? = some (.inr (0, 7, 0)) := by rcases h with rfl | rfl | rfl | rfl | rfl <;> rfl
theorem isB_a5 {j : Nat} (h : isB j) : shl[j + 5]? = some (.inr (0, 7, 0)) := by rcases h with rfl | rfl | rfl | rfl | rfl <;> rfl
theorem isB_a6 {j : Nat} (h : isB j) : shl[j + 6]? = some (.inr (0, 7, 0)) := by rcases h with rfl | rfl | rfl | rfl | rfl <;> rfl
/-- the rows of the reference that hold a bench: bench, fresh, then -/
def isW (q : Nat) : Prop := q = 83 ∨ q = 84 ∨ q = 85
theorem isW_sh {q : Nat} (h : isW q) : shl[q]? = some (.inr (0, 50, 0)) := by rcases h with rfl | rfl | rfl <;> rfl
theorem items_sh {a : Int} (h : 0 ≤ a ∧ a < 8) : shl[(6 + a).toNat]? = some (.inr (0, 40, 0)) := by
  have : a = 0 ∨ a = 1 ∨ a = 2 ∨ a = 3 ∨ a = 4 ∨ a = 5 ∨ a = 6 ∨ a = 7 := by omega
  rcases this with rfl | rfl | rfl | rfl | rfl | rfl | rfl | rfl <;> rfl
theorem pages_sh {a : Int} (h : 0 ≤ a ∧ a < 24) : shl[(25 + a).toNat]? = some (.inr (0, 25, 0)) := by
  have : a = 0 ∨ a = 1 ∨ a = 2 ∨ a = 3 ∨ a = 4 ∨ a = 5 ∨ a = 6 ∨ a = 7 ∨ a = 8 ∨ a = 9 ∨ a = 10 ∨ a = 11 ∨ a = 12 ∨ a = 13 ∨ a = 14 ∨ a = 15 ∨ a = 16 ∨ a = 17 ∨ a = 18 ∨ a = 19 ∨ a = 20 ∨ a = 21 ∨ a = 22 ∨ a = 23 := by omega
  rcases this with rfl | rfl | rfl | rfl | rfl | rfl | rfl | rfl | rfl | rfl | rfl | rfl | rfl | rfl | rfl | rfl | rfl | rfl | rfl | rfl | rfl | rfl | rfl | rfl <;> rfl
def zok : ZV → Bool
  | .inr (.inr (.inr _)) => false
  | _ => true
theorem zok_all {za : List ZV} (h : za.all zok = true) : ∀ v ∈ za, v ≠ zu := by
  intro v hv e
  have := List.all_eq_true.mp h v hv
  rw [e] at this
  cases this
