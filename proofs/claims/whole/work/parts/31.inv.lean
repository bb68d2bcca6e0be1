/-- the two states stand for the same book, images and, if it is laid, laying -/
def Inv (xk xl : Int32) (bK bZ bL bM : Nat → Int32) (bi bg bh : Int32) (lI lC lT lR : Nat → Int32) (lth lro lsp lle lex lco lou : Int32) (iK iZ iL iM : Nat → Int32) (ii ig ih : Int32) (jK jZ jL jM : Nat → Int32) (ji jg jh : Int32) (gS gI gK : Nat → Int32) : Prop := ∃ (P Pi Pj : Pb) (a b : Nat), VB P ∧ RB P bK bZ bL bM bi bg bh ∧ RG P 0 gS ∧ a ≤ 1 ∧ b ≤ 1 ∧ xk = nI (a + 2 * b) ∧ gK 0 = nI a ∧ gK 1 = nI b ∧ (a = 1 → VB Pi ∧ RB Pi iK iZ iL iM ii ig ih ∧ RG Pi 0 gI) ∧ (b = 1 → VB Pj ∧ RB Pj jK jZ jL jM ji jg jh ∧ RG Pj 51 gI) ∧ (xl = 0 ∨ xl = 1 ∧ LD P lI lC lT lR lth lro lsp lle lex lco lou)
theorem bd1_s {α β : Type} {a : α} {K : α → Option β} : bd1 (some a) K = K a := rfl
theorem bd2_s {α1 α2 β : Type} {a1 : α1} {a2 : α2} {K : α1 → α2 → Option β} : bd2 (some (a1, a2)) K = K a1 a2 := rfl
theorem bd3_s {α1 α2 α3 β : Type} {a1 : α1} {a2 : α2} {a3 : α3} {K : α1 → α2 → α3 → Option β} : bd3 (some (a1, a2, a3)) K = K a1 a2 a3 := rfl
theorem bd4_s {α1 α2 α3 α4 β : Type} {a1 : α1} {a2 : α2} {a3 : α3} {a4 : α4} {K : α1 → α2 → α3 → α4 → Option β} : bd4 (some (a1, a2, a3, a4)) K = K a1 a2 a3 a4 := rfl
theorem bd5_s {α1 α2 α3 α4 α5 β : Type} {a1 : α1} {a2 : α2} {a3 : α3} {a4 : α4} {a5 : α5} {K : α1 → α2 → α3 → α4 → α5 → Option β} : bd5 (some (a1, a2, a3, a4, a5)) K = K a1 a2 a3 a4 a5 := rfl
theorem bd6_s {α1 α2 α3 α4 α5 α6 β : Type} {a1 : α1} {a2 : α2} {a3 : α3} {a4 : α4} {a5 : α5} {a6 : α6} {K : α1 → α2 → α3 → α4 → α5 → α6 → Option β} : bd6 (some (a1, a2, a3, a4, a5, a6)) K = K a1 a2 a3 a4 a5 a6 := rfl
theorem bd7_s {α1 α2 α3 α4 α5 α6 α7 β : Type} {a1 : α1} {a2 : α2} {a3 : α3} {a4 : α4} {a5 : α5} {a6 : α6} {a7 : α7} {K : α1 → α2 → α3 → α4 → α5 → α6 → α7 → Option β} : bd7 (some (a1, a2, a3, a4, a5, a6, a7)) K = K a1 a2 a3 a4 a5 a6 a7 := rfl
theorem bd8_s {α1 α2 α3 α4 α5 α6 α7 α8 β : Type} {a1 : α1} {a2 : α2} {a3 : α3} {a4 : α4} {a5 : α5} {a6 : α6} {a7 : α7} {a8 : α8} {K : α1 → α2 → α3 → α4 → α5 → α6 → α7 → α8 → Option β} : bd8 (some (a1, a2, a3, a4, a5, a6, a7, a8)) K = K a1 a2 a3 a4 a5 a6 a7 a8 := rfl
theorem bd9_s {α1 α2 α3 α4 α5 α6 α7 α8 α9 β : Type} {a1 : α1} {a2 : α2} {a3 : α3} {a4 : α4} {a5 : α5} {a6 : α6} {a7 : α7} {a8 : α8} {a9 : α9} {K : α1 → α2 → α3 → α4 → α5 → α6 → α7 → α8 → α9 → Option β} : bd9 (some (a1, a2, a3, a4, a5, a6, a7, a8, a9)) K = K a1 a2 a3 a4 a5 a6 a7 a8 a9 := rfl
theorem bd10_s {α1 α2 α3 α4 α5 α6 α7 α8 α9 α10 β : Type} {a1 : α1} {a2 : α2} {a3 : α3} {a4 : α4} {a5 : α5} {a6 : α6} {a7 : α7} {a8 : α8} {a9 : α9} {a10 : α10} {K : α1 → α2 → α3 → α4 → α5 → α6 → α7 → α8 → α9 → α10 → Option β} : bd10 (some (a1, a2, a3, a4, a5, a6, a7, a8, a9, a10)) K = K a1 a2 a3 a4 a5 a6 a7 a8 a9 a10 := rfl
theorem bd11_s {α1 α2 α3 α4 α5 α6 α7 α8 α9 α10 α11 β : Type} {a1 : α1} {a2 : α2} {a3 : α3} {a4 : α4} {a5 : α5} {a6 : α6} {a7 : α7} {a8 : α8} {a9 : α9} {a10 : α10} {a11 : α11} {K : α1 → α2 → α3 → α4 → α5 → α6 → α7 → α8 → α9 → α10 → α11 → Option β} : bd11 (some (a1, a2, a3, a4, a5, a6, a7, a8, a9, a10, a11)) K = K a1 a2 a3 a4 a5 a6 a7 a8 a9 a10 a11 := rfl
theorem bd12_s {α1 α2 α3 α4 α5 α6 α7 α8 α9 α10 α11 α12 β : Type} {a1 : α1} {a2 : α2} {a3 : α3} {a4 : α4} {a5 : α5} {a6 : α6} {a7 : α7} {a8 : α8} {a9 : α9} {a10 : α10} {a11 : α11} {a12 : α12} {K : α1 → α2 → α3 → α4 → α5 → α6 → α7 → α8 → α9 → α10 → α11 → α12 → Option β} : bd12 (some (a1, a2, a3, a4, a5, a6, a7, a8, a9, a10, a11, a12)) K = K a1 a2 a3 a4 a5 a6 a7 a8 a9 a10 a11 a12 := rfl
theorem bd13_s {α1 α2 α3 α4 α5 α6 α7 α8 α9 α10 α11 α12 α13 β : Type} {a1 : α1} {a2 : α2} {a3 : α3} {a4 : α4} {a5 : α5} {a6 : α6} {a7 : α7} {a8 : α8} {a9 : α9} {a10 : α10} {a11 : α11} {a12 : α12} {a13 : α13} {K : α1 → α2 → α3 → α4 → α5 → α6 → α7 → α8 → α9 → α10 → α11 → α12 → α13 → Option β} : bd13 (some (a1, a2, a3, a4, a5, a6, a7, a8, a9, a10, a11, a12, a13)) K = K a1 a2 a3 a4 a5 a6 a7 a8 a9 a10 a11 a12 a13 := rfl
theorem bd14_s {α1 α2 α3 α4 α5 α6 α7 α8 α9 α10 α11 α12 α13 α14 β : Type} {a1 : α1} {a2 : α2} {a3 : α3} {a4 : α4} {a5 : α5} {a6 : α6} {a7 : α7} {a8 : α8} {a9 : α9} {a10 : α10} {a11 : α11} {a12 : α12} {a13 : α13} {a14 : α14} {K : α1 → α2 → α3 → α4 → α5 → α6 → α7 → α8 → α9 → α10 → α11 → α12 → α13 → α14 → Option β} : bd14 (some (a1, a2, a3, a4, a5, a6, a7, a8, a9, a10, a11, a12, a13, a14)) K = K a1 a2 a3 a4 a5 a6 a7 a8 a9 a10 a11 a12 a13 a14 := rfl
theorem bd15_s {α1 α2 α3 α4 α5 α6 α7 α8 α9 α10 α11 α12 α13 α14 α15 β : Type} {a1 : α1} {a2 : α2} {a3 : α3} {a4 : α4} {a5 : α5} {a6 : α6} {a7 : α7} {a8 : α8} {a9 : α9} {a10 : α10} {a11 : α11} {a12 : α12} {a13 : α13} {a14 : α14} {a15 : α15} {K : α1 → α2 → α3 → α4 → α5 → α6 → α7 → α8 → α9 → α10 → α11 → α12 → α13 → α14 → α15 → Option β} : bd15 (some (a1, a2, a3, a4, a5, a6, a7, a8, a9, a10, a11, a12, a13, a14, a15)) K = K a1 a2 a3 a4 a5 a6 a7 a8 a9 a10 a11 a12 a13 a14 a15 := rfl
theorem bd16_s {α1 α2 α3 α4 α5 α6 α7 α8 α9 α10 α11 α12 α13 α14 α15 α16 β : Type} {a1 : α1} {a2 : α2} {a3 : α3} {a4 : α4} {a5 : α5} {a6 : α6} {a7 : α7} {a8 : α8} {a9 : α9} {a10 : α10} {a11 : α11} {a12 : α12} {a13 : α13} {a14 : α14} {a15 : α15} {a16 : α16} {K : α1 → α2 → α3 → α4 → α5 → α6 → α7 → α8 → α9 → α10 → α11 → α12 → α13 → α14 → α15 → α16 → Option β} : bd16 (some (a1, a2, a3, a4, a5, a6, a7, a8, a9, a10, a11, a12, a13, a14, a15, a16)) K = K a1 a2 a3 a4 a5 a6 a7 a8 a9 a10 a11 a12 a13 a14 a15 a16 := rfl
theorem bd17_s {α1 α2 α3 α4 α5 α6 α7 α8 α9 α10 α11 α12 α13 α14 α15 α16 α17 β : Type} {a1 : α1} {a2 : α2} {a3 : α3} {a4 : α4} {a5 : α5} {a6 : α6} {a7 : α7} {a8 : α8} {a9 : α9} {a10 : α10} {a11 : α11} {a12 : α12} {a13 : α13} {a14 : α14} {a15 : α15} {a16 : α16} {a17 : α17} {K : α1 → α2 → α3 → α4 → α5 → α6 → α7 → α8 → α9 → α10 → α11 → α12 → α13 → α14 → α15 → α16 → α17 → Option β} : bd17 (some (a1, a2, a3, a4, a5, a6, a7, a8, a9, a10, a11, a12, a13, a14, a15, a16, a17)) K = K a1 a2 a3 a4 a5 a6 a7 a8 a9 a10 a11 a12 a13 a14 a15 a16 a17 := rfl
theorem bd18_s {α1 α2 α3 α4 α5 α6 α7 α8 α9 α10 α11 α12 α13 α14 α15 α16 α17 α18 β : Type} {a1 : α1} {a2 : α2} {a3 : α3} {a4 : α4} {a5 : α5} {a6 : α6} {a7 : α7} {a8 : α8} {a9 : α9} {a10 : α10} {a11 : α11} {a12 : α12} {a13 : α13} {a14 : α14} {a15 : α15} {a16 : α16} {a17 : α17} {a18 : α18} {K : α1 → α2 → α3 → α4 → α5 → α6 → α7 → α8 → α9 → α10 → α11 → α12 → α13 → α14 → α15 → α16 → α17 → α18 → Option β} : bd18 (some (a1, a2, a3, a4, a5, a6, a7, a8, a9, a10, a11, a12, a13, a14, a15, a16, a17, a18)) K = K a1 a2 a3 a4 a5 a6 a7 a8 a9 a10 a11 a12 a13 a14 a15 a16 a17 a18 := rfl
theorem bd19_s {α1 α2 α3 α4 α5 α6 α7 α8 α9 α10 α11 α12 α13 α14 α15 α16 α17 α18 α19 β : Type} {a1 : α1} {a2 : α2} {a3 : α3} {a4 : α4} {a5 : α5} {a6 : α6} {a7 : α7} {a8 : α8} {a9 : α9} {a10 : α10} {a11 : α11} {a12 : α12} {a13 : α13} {a14 : α14} {a15 : α15} {a16 : α16} {a17 : α17} {a18 : α18} {a19 : α19} {K : α1 → α2 → α3 → α4 → α5 → α6 → α7 → α8 → α9 → α10 → α11 → α12 → α13 → α14 → α15 → α16 → α17 → α18 → α19 → Option β} : bd19 (some (a1, a2, a3, a4, a5, a6, a7, a8, a9, a10, a11, a12, a13, a14, a15, a16, a17, a18, a19)) K = K a1 a2 a3 a4 a5 a6 a7 a8 a9 a10 a11 a12 a13 a14 a15 a16 a17 a18 a19 := rfl
theorem bd20_s {α1 α2 α3 α4 α5 α6 α7 α8 α9 α10 α11 α12 α13 α14 α15 α16 α17 α18 α19 α20 β : Type} {a1 : α1} {a2 : α2} {a3 : α3} {a4 : α4} {a5 : α5} {a6 : α6} {a7 : α7} {a8 : α8} {a9 : α9} {a10 : α10} {a11 : α11} {a12 : α12} {a13 : α13} {a14 : α14} {a15 : α15} {a16 : α16} {a17 : α17} {a18 : α18} {a19 : α19} {a20 : α20} {K : α1 → α2 → α3 → α4 → α5 → α6 → α7 → α8 → α9 → α10 → α11 → α12 → α13 → α14 → α15 → α16 → α17 → α18 → α19 → α20 → Option β} : bd20 (some (a1, a2, a3, a4, a5, a6, a7, a8, a9, a10, a11, a12, a13, a14, a15, a16, a17, a18, a19, a20)) K = K a1 a2 a3 a4 a5 a6 a7 a8 a9 a10 a11 a12 a13 a14 a15 a16 a17 a18 a19 a20 := rfl
theorem ln_0 : (0 : Int32) = nI 0 := by decide +kernel
theorem ln_1 : (1 : Int32) = nI 1 := by decide +kernel
theorem ln_2 : (2 : Int32) = nI 2 := by decide +kernel
theorem ln_3 : (3 : Int32) = nI 3 := by decide +kernel
theorem ln_4 : (4 : Int32) = nI 4 := by decide +kernel
theorem ln_5 : (5 : Int32) = nI 5 := by decide +kernel
theorem ln_10 : (10 : Int32) = nI 10 := by decide +kernel
theorem ln_11 : (11 : Int32) = nI 11 := by decide +kernel
theorem ln_12 : (12 : Int32) = nI 12 := by decide +kernel
theorem ln_20 : (20 : Int32) = nI 20 := by decide +kernel
theorem ln_24 : (24 : Int32) = nI 24 := by decide +kernel
theorem ln_30 : (30 : Int32) = nI 30 := by decide +kernel
theorem ln_31 : (31 : Int32) = nI 31 := by decide +kernel
theorem ln_36 : (36 : Int32) = nI 36 := by decide +kernel
theorem ln_48 : (48 : Int32) = nI 48 := by decide +kernel
theorem ln_49 : (49 : Int32) = nI 49 := by decide +kernel
theorem ln_50 : (50 : Int32) = nI 50 := by decide +kernel
theorem ln_51 : (51 : Int32) = nI 51 := by decide +kernel
theorem ln_72 : (72 : Int32) = nI 72 := by decide +kernel
theorem ln_80 : (80 : Int32) = nI 80 := by decide +kernel
theorem ln_120 : (120 : Int32) = nI 120 := by decide +kernel
theorem ln_128 : (128 : Int32) = nI 128 := by decide +kernel
theorem ln_144 : (144 : Int32) = nI 144 := by decide +kernel
theorem ln_150 : (150 : Int32) = nI 150 := by decide +kernel
theorem ln_200 : (200 : Int32) = nI 200 := by decide +kernel
theorem ln_201 : (201 : Int32) = nI 201 := by decide +kernel
theorem ln_603 : (603 : Int32) = nI 603 := by decide +kernel
theorem ln_1000 : (1000 : Int32) = nI 1000 := by decide +kernel
theorem ln_1024 : (1024 : Int32) = nI 1024 := by decide +kernel
theorem ln_1000000 : (1000000 : Int32) = nI 1000000 := by decide +kernel
theorem ln_1048576 : (1048576 : Int32) = nI 1048576 := by decide +kernel
theorem ln_268435456 : (268435456 : Int32) = nI 268435456 := by decide +kernel
theorem ig_f {α : Type} {i N : Nat} (h : i < N) (hN : N < 2 ^ 31) {A B : α} : (if nI i < 0 ∨ N ≤ (nI i).toNatClampNeg then A else B) = B := if_neg (vp_in_nI h hN)
theorem it_z {n : Nat} (h : n < 2 ^ 31) {α : Type} {A B : α} : (if nI n < 0 then A else B) = B := if_neg (nI_pos h)
theorem in_range {x : Int32} {n : Nat} (hn : n < 2 ^ 31) (h1 : ¬ x < 0) (h2 : ¬ nI n ≤ x) : ∃ j, j < n ∧ x = nI j := by
  rcases pk_ix x hn with h | h | h
  · exact absurd h h1
  · exact absurd h h2
  · exact h
theorem i_lt (x y : Int32) : x < y ↔ x.toInt < y.toInt := Int32.lt_iff_toInt_lt
theorem i_le (x y : Int32) : x ≤ y ↔ x.toInt ≤ y.toInt := Int32.le_iff_toInt_le
theorem i_eq (x y : Int32) : x = y ↔ x.toInt = y.toInt := Int32.toInt_inj.symm
theorem nt {n : Nat} (h : n < 2 ^ 31) : (nI n).toInt = (n : Int) := nI_toInt h
theorem hs_eq {p : Int32} {n : Nat} : fB_has p (nI n) = some (if p < 0 then 0 else if nI n ≤ p then 0 else 1) := by
  unfold fB_has fB_has_b16 fB_has_b17
  split <;> simp
  split <;> simp
theorem mi_eq {a b c : Int32} : fM_in a b c = some (if a < b then 0 else if c < a then 0 else 1) := by
  unfold fM_in fM_in_b14 fM_in_b15
  split <;> simp
  split <;> simp
theorem n1_le {p : Int32} {n : Nat} (hn : n < 2 ^ 30) : nI n - 1 < p ↔ nI n ≤ p := by
  have h1 : (nI n - 1).toInt = (n : Int) - 1 := by
    rw [ln_1]
    exact pk_sub_toInt (a := n) (b := 1) hn (by omega)
  rw [i_lt, i_le, h1, nt (by omega)]
  omega
theorem ms_eq {p : Int32} {gS : Nat → Int32} {n : Nat} (hn : n < 2 ^ 30) (h : gS 50 = nI n) : fM_isItem p gS = some (if p < 0 then 0 else if nI n ≤ p then 0 else 1) := by
  unfold fM_isItem
  rw [mi_eq, bd1_s, h]
  simp only [n1_le hn]
  split
  · simp
  · split <;> simp
