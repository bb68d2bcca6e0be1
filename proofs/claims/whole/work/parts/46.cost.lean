/-! COSTS: the class counts columns, lines out and rooms in other weights -/
def cvt (v : Nat) : Nat := v / 1000000 * 1048576 + v / 1000 % 1000 * 1024 + v % 1000
def cN : Option Nat → Nat
  | none => 268435456
  | some v => cvt v
theorem cvt_mk {c o x : Nat} (ho : o < 1000) (hx : x < 1000) : cvt (c * 1000000 + o * 1000 + x) = c * 1048576 + o * 1024 + x := by
  unfold cvt
  have h1 : (c * 1000000 + o * 1000 + x) / 1000000 = c := by omega
  have h2 : (c * 1000000 + o * 1000 + x) / 1000 % 1000 = o := by omega
  have h3 : (c * 1000000 + o * 1000 + x) % 1000 = x := by omega
  rw [h1, h2, h3]
/-- the digits of a cost: columns, lines out, rooms, each within its bound -/
def Dg (v C O X : Nat) : Prop := ∃ c o x, v = c * 1000000 + o * 1000 + x ∧ c ≤ C ∧ o ≤ O ∧ x ≤ X
theorem Dg_col {v C O X : Nat} (h : Dg v C O X) : Dg (v + 1000000) (C + 1) O X := by
  obtain ⟨c, o, x, h1, h2, h3, h4⟩ := h
  exact ⟨c + 1, o, x, by omega, by omega, h3, h4⟩
theorem Dg_le {v C O X C' O' X' : Nat} (h : Dg v C O X) (h1 : C ≤ C') (h2 : O ≤ O') (h3 : X ≤ X') : Dg v C' O' X' := by
  obtain ⟨c, o, x, a1, a2, a3, a4⟩ := h
  exact ⟨c, o, x, a1, by omega, by omega, by omega⟩
theorem nx_i {P : Pb} {i k : Nat} : (nx P i k).1 = i ∨ ((nx P i k).1 = i + 1 ∧ (nx P i k).2 = 0) := by
  unfold nx
  by_cases c : k + 1 < tn P i
  · rw [if_pos c]; exact Or.inl rfl
  · rw [if_neg c]; exact Or.inr ⟨rfl, rfl⟩
theorem oz_or (P : Pb) (i t : Nat) : oz P i t = 0 ∨ oz P i t = 1000 := by
  unfold oz
  by_cases e : pK P i = 0 ∧ ¬ t % pg P = 0
  · rw [if_pos e]; exact Or.inr rfl
  · rw [if_neg e]; exact Or.inl rfl
theorem V_dg {P : Pb} (hV : VB P) : ∀ (r i k e c v : Nat), At P r i k → V P r i k e c = some v → Dg v r r (30 * (pn P - i))
  | 0, i, k, e, c, v, _, h => by
    have : v = 0 := (Option.some.inj h).symm
    exact ⟨0, 0, 0, by omega, by omega, by omega, by omega⟩
  | r + 1, i, k, e, c, v, ha, h => by
    have hn := At_nx hV ha
    obtain ⟨hi, hk⟩ := ha.2.resolve_left (by omega)
    have hm := VI_of hV hi
    have hI := hV.2.2.2.2.2 i hi
    rw [V] at h
    have hle : ∀ {z C O}, Dg z C O (30 * (pn P - (nx P i k).1)) → Dg z C O (30 * (pn P - i)) := fun hz => Dg_le hz (Nat.le_refl _) (Nat.le_refl _) (by
      rcases nx_i (P := P) (i := i) (k := k) with q | q <;> omega)
    rcases (om_le h).1 with h1 | h1
    · by_cases c1 : mB P i k c
      · rw [if_pos c1] at h1
        obtain ⟨z, z1, z2⟩ := oa_some h1
        have := hle (V_dg hV r _ _ _ _ z hn z1)
        rw [z2]
        exact Dg_le (Dg_col this) (Nat.le_refl _) (by omega) (Nat.le_refl _)
      · rw [if_neg c1] at h1; cases h1
    · obtain ⟨⟨j, j1, j2, j3⟩, -⟩ := rm_some h1
      unfold wi at j3
      by_cases c1 : e + j + ta P i ≤ ph P
      · rw [if_pos c1] at j3
        obtain ⟨z, z1, z2⟩ := oa_some j3
        have hd := V_dg hV r _ _ _ _ z hn z1
        by_cases ek : pK P i = 0
        · have j0 : j = 0 := by have := hI.2.1 ek; omega
          obtain ⟨cc, o, x, a1, a2, a3, a4⟩ := hle hd
          rcases oz_or P i (e + j) with q | q
          · exact ⟨cc, o, x, by omega, by omega, by omega, a4⟩
          · exact ⟨cc, o + 1, x, by omega, by omega, by omega, a4⟩
        · have q : oz P i (e + j) = 0 := by unfold oz; rw [if_neg (fun q => ek q.1)]
          have e1 : (nx P i k).1 = i + 1 := by
            have : tn P i = 1 := by unfold tn; rw [if_neg ek]
            unfold nx
            rw [if_neg (by omega)]
          rw [e1] at hd
          obtain ⟨cc, o, x, a1, a2, a3, a4⟩ := hd
          exact ⟨cc, o, x + j, by omega, by omega, by omega, by omega⟩
      · rw [if_neg c1] at j3; cases j3
theorem cvt_lt {a b : Nat} : cvt a < cvt b ↔ a < b := by
  have ea : a / 1000 / 1000 = a / 1000000 := by rw [Nat.div_div_eq_div_mul]
  have eb : b / 1000 / 1000 = b / 1000000 := by rw [Nat.div_div_eq_div_mul]
  unfold cvt
  omega
theorem cvt_inj {a b : Nat} : cvt a = cvt b ↔ a = b := by
  have h1 := cvt_lt (a := a) (b := b)
  have h2 := cvt_lt (a := b) (b := a)
  omega
theorem cvt_col {a : Nat} : cvt (a + 1000000) = cvt a + 1048576 := by
  unfold cvt
  omega
theorem Dg_cvt {v C O X : Nat} (h : Dg v C O X) (hO : O < 1000) (hX : X < 1000) : cvt v ≤ C * 1048576 + O * 1024 + X := by
  obtain ⟨c, o, x, h1, h2, h3, h4⟩ := h
  rw [h1, cvt_mk (by omega) (by omega)]
  omega
theorem cN_om {a b : Option Nat} (ha : cN a ≤ 268435456) (hb : cN b ≤ 268435456) : cN (om a b) = if cN b < cN a then cN b else cN a := by
  cases a with
  | none =>
    cases b with
    | none => rw [if_neg (Nat.lt_irrefl _)]; rfl
    | some b =>
      show cvt b = if cvt b < 268435456 then cvt b else 268435456
      have hb : cvt b ≤ 268435456 := hb
      by_cases c : cvt b < 268435456
      · rw [if_pos c]
      · rw [if_neg c]; omega
  | some a =>
    have ha : cvt a ≤ 268435456 := ha
    cases b with
    | none =>
      show cvt a = if 268435456 < cvt a then 268435456 else cvt a
      rw [if_neg (by omega)]
    | some b =>
      show cvt (if b < a then b else a) = if cvt b < cvt a then cvt b else cvt a
      by_cases c : b < a
      · rw [if_pos c, if_pos (cvt_lt.mpr c)]
      · rw [if_neg c, if_neg (fun q => c (cvt_lt.mp q))]
theorem cN_le {a b : Option Nat} (ha : cN a ≤ 268435455 ∨ a = none) (hb : cN b ≤ 268435455 ∨ b = none) : cN a = cN b ↔ a = b := by
  constructor
  · intro h
    cases a with
    | none =>
      cases b with
      | none => rfl
      | some b =>
        have h : 268435456 = cvt b := h
        rcases hb with q | q
        · have q : cvt b ≤ 268435455 := q; omega
        · cases q
    | some a =>
      cases b with
      | none =>
        have h : cvt a = 268435456 := h
        rcases ha with q | q
        · have q : cvt a ≤ 268435455 := q; omega
        · cases q
      | some b => exact congrArg some (cvt_inj.mp h)
  · intro h; rw [h]
/-- what thing k of item i and all behind it come to, where it stands at a top, the first line of its text in its column -/
def Fq (P : Pb) (r i k top : Nat) : Option Nat := if top + ta P i ≤ ph P then oa (V P r (nx P i k).1 (nx P i k).2 (top + ta P i) (fc P i)) (oz P i top) else none
/-- the same, where it opens a column -/
def Tq (P : Pb) (r i k : Nat) : Option Nat := oa (Fq P r i k 0) 1000000
/-- where things k to j - 1 stand in one column; x: what follows them -/
def Uq (P : Pb) (i k top j : Nat) (x : Option Nat) : Option Nat := if top + (j - k) * ta P i ≤ ph P then oa x ((j - k) * oz P i top) else none
theorem oz_add {P : Pb} (hg : 0 < pg P) {i : Nat} (e m : Nat) : oz P i (e + m * pg P) = oz P i e := by
  unfold oz
  rw [Nat.add_mul_mod_self_right]
theorem oa_oa (x : Option Nat) (a b : Nat) : oa (oa x a) b = oa x (a + b) := by
  cases x with
  | none => rfl
  | some x => show some (x + a + b) = some (x + (a + b)); rw [Nat.add_assoc]
theorem oa_om (x y : Option Nat) (a : Nat) : oa (om x y) a = om (oa x a) (oa y a) := by
  cases x with
  | none => rfl
  | some x =>
    cases y with
    | none => rfl
    | some y =>
      show some ((if y < x then y else x) + a) = some (if y + a < x + a then y + a else x + a)
      congr 1
      by_cases c : y < x
      · rw [if_pos c, if_pos (by omega)]
      · rw [if_neg c, if_neg (by omega)]
theorem om_n (b : Option Nat) : om none b = b := by cases b <;> rfl
theorem oa_0 (x : Option Nat) : oa x 0 = x := by cases x <;> rfl
theorem om_comm (a b : Option Nat) : om a b = om b a := by
  cases a with
  | none => rw [om_none]; rfl
  | some a =>
    cases b with
    | none => rfl
    | some b =>
      show some (if b < a then b else a) = some (if a < b then a else b)
      congr 1
      by_cases c : b < a
      · rw [if_pos c, if_neg (by omega)]
      · rw [if_neg c]
        by_cases d : a < b
        · rw [if_pos d]
        · rw [if_neg d]; omega
/-- the rooms of a text: none but 0 -/
theorem rm_1 (f : Nat → Option Nat) (x : Nat) : rm f x 1 = f x := om_none _
section TX
variable {P : Pb} {i : Nat}
theorem tx_f (hV : VB P) (hi : i < pn P) (hk0 : pK P i = 0) : tn P i = pZ P i ∧ ta P i = pg P ∧ pL P i = 0 ∧ pM P i = 0 ∧ fc P i = 1 ∧ 3 ≤ pg P := by
  have h := (hV.2.2.2.2.2 i hi).2.1 hk0
  exact ⟨by unfold tn; rw [if_pos hk0], by unfold ta; rw [if_pos hk0], h.2.2.1, h.2.2.2, by unfold fc; rw [if_pos hk0], hV.2.1⟩
theorem oz_0 (P : Pb) (i : Nat) : oz P i 0 = 0 := by
  unfold oz
  rw [if_neg (fun q => q.2 (Nat.zero_mod _))]
/-- a line behind at least two others of its text -/
theorem V_tx2 (hV : VB P) {r q e : Nat} (hi : i < pn P) (hk0 : pK P i = 0) (hq0 : 0 < q) : V P (r + 1) i q e 2 = om (if q + 1 < pZ P i then Tq P r i q else none) (if e + pg P ≤ ph P then oa (V P r (nx P i q).1 (nx P i q).2 (e + pg P) 2) (oz P i e) else none) := by
  obtain ⟨h1, h2, h3, h4, h5, h6⟩ := tx_f hV hi hk0
  have hn : nc P i q 2 = 2 := by
    unfold nc
    rw [if_neg (fun q => q hk0), if_neg (by omega)]
  rw [V, h3, h4, rm_1]
  congr 1
  · unfold Tq Fq
    by_cases c1 : q + 1 < pZ P i
    · rw [if_pos c1]
      by_cases c2 : ta P i ≤ ph P
      · have c3 : mB P i q 2 := ⟨c2, fun w => by omega, Or.inr (Or.inr ⟨rfl, c1⟩)⟩
        rw [if_pos c3, if_pos (by omega), oz_0, oa_0, Nat.zero_add]
      · rw [if_neg (fun w : mB P i q 2 => c2 w.1), if_neg (by omega)]; rfl
    · rw [if_neg c1, if_neg (fun w : mB P i q 2 => by
        rcases w.2.2 with w | w | w
        · exact w hk0
        · omega
        · omega)]
  · unfold wi
    rw [hn, Nat.add_zero, h2, Nat.zero_add]
theorem V_tx1 (hV : VB P) {r q e : Nat} (hi : i < pn P) (hk0 : pK P i = 0) (hq0 : 0 < q) : V P (r + 1) i q e 1 = if e + pg P ≤ ph P then oa (V P r (nx P i q).1 (nx P i q).2 (e + pg P) 2) (oz P i e) else none := by
  obtain ⟨h1, h2, h3, h4, h5, h6⟩ := tx_f hV hi hk0
  have hn : nc P i q 1 = 2 := by
    unfold nc
    rw [if_neg (fun q => q hk0), if_neg (by omega)]
  rw [V, h3, h4, rm_1, if_neg (fun w : mB P i q 1 => by
        rcases w.2.2 with w | w | w
        · exact w hk0
        · omega
        · omega)]
  rw [om_n]
  unfold wi
  rw [hn, Nat.add_zero, h2, Nat.zero_add]
end TX
