/-! THE CLASS'S SCALE: its costs are those of the book that it weighs -/
abbrev CBT : Type := Int32 → Int32 → (Nat → Int32) → (Nat → Int32) → Int32 → Int32 → Int32 → (Nat → Int32) → (Nat → Int32) → (Nat → Int32) → (Nat → Int32) → Int32 → Int32 → Option (Int32 × (Nat → Int32) × (Nat → Int32))
/-- the cells that a scale reads stand for the book E (its MOST and HIGH being those that are weighed) -/
def RS (E : Pb) (sh sw sr : Int32) (bK bZ bL bM : Nat → Int32) (bi bg : Int32) : Prop := bi = nI (pn E) ∧ bg = nI (pg E) ∧ sh = nI (ph E) ∧ (sr = 0 ∨ sr = 1) ∧ ∀ i, i < pn E → bK i = nI (pK E i) ∧ bZ i = nI (pZ E i) ∧ bL i = nI (pL E i) ∧ (if sr = 0 then (if nI i = sw then 30 else bM i) else bL i) = nI (pM E i)
theorem rs_RB {E : Pb} {sh sw sr : Int32} {bK bZ bL bM : Nat → Int32} {bi bg : Int32} (h : RS E sh sw sr bK bZ bL bM bi bg) : RB E bK bZ bL (fun i => nI (pM E i)) bi bg (nI (ph E)) := ⟨h.1, h.2.1, rfl, fun i hi => ⟨(h.2.2.2.2 i hi).1, (h.2.2.2.2 i hi).2.1, (h.2.2.2.2 i hi).2.2.1, rfl⟩⟩
def Bd (x : Option Nat) : Prop := ∀ v, x = some v → Dg v 146 146 360
theorem Bd_lt {x : Option Nat} (h : Bd x) : cN x ≤ 153500000 ∨ x = none := by
  cases x with
  | none => exact Or.inr rfl
  | some v =>
    left
    have := Dg_cvt (h v rfl) (by omega) (by omega)
    show cvt v ≤ _
    omega
theorem Bd_le {x : Option Nat} (h : Bd x) : cN x ≤ 268435456 := by
  rcases Bd_lt h with q | q
  · omega
  · rw [q]; exact Nat.le_refl _
theorem Bd_V {E : Pb} (hV : VB E) {r i k e c : Nat} (ha : At E r i k) : Bd (V E r i k e c) := fun v hv => by
  have h1 := V_dg hV r i k e c v ha hv
  have h2 := tt_le hV
  have h3 := ha.1
  have h4 := hV.1
  exact Dg_le h1 (by omega) (by omega) (by omega)
theorem Bd_F {E : Pb} (hV : VB E) {r i k top : Nat} (ha : At E (r + 1) i k) : ∀ v, Fq E r i k top = some v → Dg v (r) (r + 1) 360 := fun v hv => by
  unfold Fq at hv
  have h2 := tt_le hV
  have h3 := ha.1
  have h4 := hV.1
  by_cases c1 : top + ta E i ≤ ph E
  · rw [if_pos c1] at hv
    obtain ⟨z, z1, z2⟩ := oa_some hv
    obtain ⟨c, o, x, a1, a2, a3, a4⟩ := V_dg hV r _ _ _ _ z (At_nx hV ha) z1
    rcases oz_or E i top with q | q
    · exact ⟨c, o, x, by omega, by omega, by omega, by omega⟩
    · exact ⟨c, o + 1, x, by omega, by omega, by omega, by omega⟩
  · rw [if_neg c1] at hv; cases hv
theorem Bd_Fq {E : Pb} (hV : VB E) {r i k top : Nat} (ha : At E (r + 1) i k) : Bd (Fq E r i k top) := fun v hv => by
  have h2 := tt_le hV
  have h3 := ha.1
  exact Dg_le (Bd_F hV ha v hv) (by omega) (by omega) (by omega)
theorem Bd_Tq {E : Pb} (hV : VB E) {r i k : Nat} (ha : At E (r + 1) i k) : Bd (Tq E r i k) := fun v hv => by
  unfold Tq at hv
  obtain ⟨z, z1, z2⟩ := oa_some hv
  have h2 := tt_le hV
  have h3 := ha.1
  rw [z2]
  exact Dg_le (Dg_col (Bd_F hV ha z z1)) (by omega) (by omega) (by omega)
theorem cN_oa {x : Option Nat} (h : Bd x) {m : Nat} (hm : m ≤ 12) : cN (oa x (m * 1000)) = if m * 1024 + cN x < 268435456 then m * 1024 + cN x else 268435456 := by
  cases x with
  | none =>
    show 268435456 = if m * 1024 + 268435456 < 268435456 then _ else _
    rw [if_neg (by omega)]
  | some v =>
    obtain ⟨c, o, x, h1, h2, h3, h4⟩ := h v rfl
    show cvt (v + m * 1000) = if m * 1024 + cvt v < 268435456 then m * 1024 + cvt v else 268435456
    have e1 : v + m * 1000 = c * 1000000 + (o + m) * 1000 + x := by omega
    rw [e1, h1, cvt_mk (by omega) (by omega), cvt_mk (by omega) (by omega), if_pos (by omega)]
    omega
theorem cN_0 {x : Option Nat} (h : Bd x) : cN x = if 0 + cN x < 268435456 then 0 + cN x else 268435456 := by
  have := cN_oa h (m := 0) (by omega)
  rwa [Nat.zero_mul, oa_0] at this
theorem cN_col {x : Option Nat} (h : Bd x) : cN (oa x 1000000) = if 1048576 + cN x < 268435456 then 1048576 + cN x else 268435456 := by
  cases x with
  | none =>
    have e : cN none = 268435456 := rfl
    rw [e, if_neg (by omega)]
    rfl
  | some v =>
    have h1 := Dg_cvt (h v rfl) (by omega) (by omega)
    show cvt (v + 1000000) = if 1048576 + cvt v < 268435456 then 1048576 + cvt v else 268435456
    rw [cvt_col, if_pos (by omega)]
    omega
theorem cN_room {x : Option Nat} (h : ∀ v, x = some v → Dg v 146 146 330) {m : Nat} (hm : m ≤ 30) : cN (oa x m) = if m + cN x < 268435456 then m + cN x else 268435456 := by
  cases x with
  | none =>
    show 268435456 = if m + 268435456 < 268435456 then _ else _
    rw [if_neg (by omega)]
  | some v =>
    obtain ⟨c, o, x, h1, h2, h3, h4⟩ := h v rfl
    show cvt (v + m) = if m + cvt v < 268435456 then m + cvt v else 268435456
    have e1 : v + m = c * 1000000 + o * 1000 + (x + m) := by omega
    rw [e1, h1, cvt_mk (by omega) (by omega), cvt_mk (by omega) (by omega), if_pos (by omega)]
    omega
/-- the tops of item i have been weighed -/
def OT (E : Pb) (sO : Nat → Int32) (i : Nat) : Prop := ∀ k, k = 0 ∨ k + 2 ≤ tn E i → sO (i * 12 + k) = nI (cN (Tq E (tt E - (pr E i + k + 1)) i k))
/-- what the scale remembers of items m and on is right -/
def MM (E : Pb) (sB sO : Nat → Int32) (m : Nat) : Prop := ∀ i, m ≤ i → i < pn E → (∀ e, e ≤ 200 → sB (i * 201 + e) = -1 ∨ (sB (i * 201 + e) = nI (cN (V E (tt E - pr E i) i 0 e 2)) ∧ OT E sO i)) ∧ (sO (i * 12) = -1 ∨ OT E sO i)
/-- the answer is v, and what is remembered is right, nothing before item m being changed -/
def Ok3 (E : Pb) (m : Nat) (sB sO : Nat → Int32) (x : Option (Int32 × (Nat → Int32) × (Nat → Int32))) (v : Nat) : Prop := ∃ sB' sO', x = some (nI v, sB', sO') ∧ MM E sB' sO' m ∧ (∀ q, q < m * 201 → sB' q = sB q) ∧ (∀ q, q < m * 12 → sO' q = sO q)
section SCL
variable {E : Pb} {sh sw sr : Int32} {bK bZ bL bM : Nat → Int32} {bi bg : Int32}
def Bh (E : Pb) (sh sw sr : Int32) (bK bZ bL bM : Nat → Int32) (bi bg : Int32) (CB : CBT) (m : Nat) : Prop := ∀ (i e : Nat) (sB sO : Nat → Int32), m ≤ i → i ≤ pn E → e ≤ ph E → MM E sB sO i → Ok3 E i sB sO (CB (nI i) (nI e) sB sO sh sw sr bK bZ bL bM bi bg) (cN (V E (tt E - pr E i) i 0 e 2))
theorem At_i (hV : VB E) {i : Nat} (hi : i ≤ pn E) : At E (tt E - pr E i) i 0 := by
  have h := pr_mono (P := E) hi
  refine ⟨by unfold tt; omega, ?_⟩
  by_cases e : i < pn E
  · exact Or.inr ⟨e, (tn_b hV e).1⟩
  · left
    have : i = pn E := by omega
    unfold tt
    rw [this]; omega
theorem At_ik (hV : VB E) {i k : Nat} (hi : i < pn E) (hk : k < tn E i) : At E (tt E - (pr E i + k + 1) + 1) i k := by
  have h := pr_lt (P := E) hi hk
  exact ⟨by unfold tt; omega, Or.inr ⟨hi, hk⟩⟩
theorem b_out (hV : VB E) (h : RS E sh sw sr bK bZ bL bM bi bg) {i top : Nat} (hi : i < pn E) (ht : top ≤ 2000) : fB_isOut (nI i) (nI top) bK bg = some (if oz E i top = 0 then 0 else 1) := by
  have h12 := hV.1
  have hg : 3 ≤ pg E ∧ pg E ≤ 20 := ⟨hV.2.1, hV.2.2.1⟩
  obtain ⟨e1, -, -, -⟩ := h.2.2.2.2 i hi
  unfold fB_isOut fB_isOut_b30 fB_isOut_b31 oz
  simp (disch := omega) only [ig_f, nI_clamp, ig_g, e1]
  by_cases ek : pK E i = 0
  · rw [if_pos ((rb_kz hV hi).mpr ek), h.2.1, if_neg (by rw [ln_3, nI_ltI (by omega) (by omega)]; omega), if_neg (nI_ne0 (by omega) (by omega)), pk_rem (by omega) (by omega) (by omega)]
    have hm := Nat.mod_lt top (show pg E > 0 by omega)
    by_cases em : top % pg E = 0
    · have e3 : ¬ (pK E i = 0 ∧ ¬ top % pg E = 0) := fun q => q.2 em
      rw [if_pos (by rw [em, nI_0]), if_neg e3]; simp
    · have e3 : pK E i = 0 ∧ ¬ top % pg E = 0 := ⟨ek, em⟩
      rw [if_neg (nI_ne0 (by omega) (by omega)), if_pos e3]; simp
  · have e3 : ¬ (pK E i = 0 ∧ ¬ top % pg E = 0) := fun q => ek q.1
    rw [if_neg (fun q => ek ((rb_kz hV hi).mp q)), if_neg e3]; simp
theorem n_min {a : Nat} (ha : a < 2 ^ 31) : (if nI a < 268435456 then nI a else 268435456) = nI (if a < 268435456 then a else 268435456) := by
  rw [ln_268435456]
  by_cases c : a < 268435456
  · rw [if_pos ((nI_ltI ha (by omega)).mpr c), if_pos c]
  · rw [if_neg (fun q => c ((nI_ltI ha (by omega)).mp q)), if_neg c]
theorem up_tail (hV : VB E) (h : RS E sh sw sr bK bZ bL bM bi bg) {CB : CBT} {i j en out : Nat} {sB sO : Nat → Int32} (hi : i < pn E) (hB : Bh E sh sw sr bK bZ bL bM bi bg CB (i + 1)) (hM : MM E sB sO (i + 1)) (hen : en ≤ ph E) (hout : out ≤ 12288) (hj : j = tn E i ∨ (j + 2 ≤ tn E i ∧ sO (i * 12 + j) = nI (cN (Tq E (tt E - (pr E i + j + 1)) i j)))) :
    Ok3 E (i + 1) sB sO (fS_costUpTo_b53 CB (nI i) (nI j) (nI en) (nI out) sB sO sh sw sr bK bZ bL bM bi bg) (if out + cN (if j = tn E i then V E (tt E - pr E (i + 1)) (i + 1) 0 en 2 else Tq E (tt E - (pr E i + j + 1)) i j) < 268435456 then out + cN (if j = tn E i then V E (tt E - pr E (i + 1)) (i + 1) 0 en 2 else Tq E (tt E - (pr E i + j + 1)) i j) else 268435456) := by
  have h12 := hV.1
  have htb := tn_b hV hi
  unfold fS_costUpTo_b53 fS_costUpTo_b92
  rw [b_things hV (rs_RB h) hi, bd1_s]
  by_cases c1 : j = tn E i
  · obtain ⟨sB', sO', k1, k2, k3, k4⟩ := hB (i + 1) en sB sO (Nat.le_refl _) (by omega) hen hM
    have hb := Bd_le (Bd_V hV (At_i hV (i := i + 1) (by omega)) (e := en) (c := 2))
    refine ⟨sB', sO', ?_, k2, k3, k4⟩
    rw [if_pos (by rw [c1]), nI_1, k1, bd3_s, nI_add, n_min (by omega), if_pos c1]
  · obtain ⟨j2, j3⟩ := hj.resolve_left c1
    have hb := Bd_le (Bd_Tq hV (At_ik hV hi (show j < tn E i by omega)))
    refine ⟨sB, sO, ?_, hM, fun _ _ => rfl, fun _ _ => rfl⟩
    rw [if_neg (by rw [nI_eq (by omega) (by omega)]; exact c1), ln_12, pk_mul, nI_add, ig_f (show i * 12 + j < 144 by omega) (by omega), nI_clamp (by omega), j3, nI_add, n_min (by omega), if_neg c1]
theorem up_eq (hV : VB E) (h : RS E sh sw sr bK bZ bL bM bi bg) {CB : CBT} {i k top j : Nat} {sB sO : Nat → Int32} (hi : i < pn E) (hB : Bh E sh sw sr bK bZ bL bM bi bg CB (i + 1)) (hM : MM E sB sO (i + 1)) (hk : k < j) (hjt : j ≤ tn E i) (htop : top ≤ 200) (hj : j = tn E i ∨ (j + 2 ≤ tn E i ∧ sO (i * 12 + j) = nI (cN (Tq E (tt E - (pr E i + j + 1)) i j)))) :
    Ok3 E (i + 1) sB sO (fS_costUpTo CB (nI i) (nI k) (nI top) (nI j) sB sO sh sw sr bK bZ bL bM bi bg) (cN (Uq E i k top j (if j = tn E i then V E (tt E - pr E (i + 1)) (i + 1) 0 (top + (j - k) * ta E i) 2 else Tq E (tt E - (pr E i + j + 1)) i j))) := by
  have h12 := hV.1
  have htb := tn_b hV hi
  have hta := ta_b hV hi
  have hph := hV.2.2.2.2.1
  have hmul : (j - k) * ta E i ≤ 12 * 80 := Nat.mul_le_mul (by omega) hta.2
  unfold fS_costUpTo
  rw [b_tall hV (rs_RB h) hi, bd1_s, pk_sub (by omega), pk_mul, nI_add, h.2.2.1]
  by_cases c1 : top + (j - k) * ta E i ≤ ph E
  · rw [if_pos (by rw [nI_leI (by omega) (by omega)]; exact c1), b_out hV h hi (by omega), bd1_s]
    have hbx : Bd (if j = tn E i then V E (tt E - pr E (i + 1)) (i + 1) 0 (top + (j - k) * ta E i) 2 else Tq E (tt E - (pr E i + j + 1)) i j) := by
      by_cases c2 : j = tn E i
      · rw [if_pos c2]; exact Bd_V hV (At_i hV (by omega))
      · rw [if_neg c2]; exact Bd_Tq hV (At_ik hV hi (show j < tn E i by omega))
    unfold Uq
    rw [if_pos c1, ← h.2.2.1]
    rcases oz_or E i top with q | q
    · rw [q, show (if (0 : Nat) = 0 then (0 : Int32) else 1) = 0 from rfl, if_pos rfl, Nat.mul_zero, oa_0, cN_0 hbx, ln_0]
      exact up_tail hV h hi hB hM c1 (by omega) hj
    · rw [q, show (if (1000 : Nat) = 0 then (0 : Int32) else 1) = 1 from rfl, if_neg one_ne, cN_oa hbx (by omega), ln_1024, pk_mul]
      exact up_tail hV h hi hB hM c1 (by omega) hj
  · refine ⟨sB, sO, ?_, hM, fun _ _ => rfl, fun _ _ => rfl⟩
    unfold Uq
    rw [if_neg (by rw [nI_leI (by omega) (by omega)]; exact c1), if_neg c1, ln_268435456]
    rfl
end SCL
