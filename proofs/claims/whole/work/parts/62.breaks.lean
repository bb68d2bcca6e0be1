/-! WHERE A TEXT BREAKS: the class's choice by place is the laying's line by line -/
section BK
variable {P : Pb} {i : Nat}
theorem ch_tx (hV : VB P) {r q e c : Nat} (hi : i < pn P) (hk0 : pK P i = 0) : ch P (r + 1) i q e c = if wi P i e (fun e' => V P r (nx P i q).1 (nx P i q).2 e' (nc P i q c)) 0 = V P (r + 1) i q e c then some 0 else none := by
  obtain ⟨h1, h2, h3, h4, h5, h6⟩ := tx_f hV hi hk0
  show fd _ _ (pL P i) (pM P i + 1 - pL P i) = _
  rw [h3, h4]
  rfl
theorem wi_tx (hV : VB P) {r q e c : Nat} (hi : i < pn P) (hk0 : pK P i = 0) (hq : 0 < q) (hc : 0 < c) : wi P i e (fun e' => V P r (nx P i q).1 (nx P i q).2 e' (nc P i q c)) 0 = if e + pg P ≤ ph P then oa (V P r (nx P i q).1 (nx P i q).2 (e + pg P) 2) (oz P i e) else none := by
  obtain ⟨h1, h2, h3, h4, h5, h6⟩ := tx_f hV hi hk0
  have hn : nc P i q c = 2 := by
    unfold nc
    rw [if_neg (fun q => q hk0), if_neg (by omega)]
  unfold wi
  rw [hn, Nat.add_zero, h2, Nat.zero_add]
def Wk (P : Pb) (i k T q : Nat) : Option Nat := Wq P i k T (tt P - pr P (i + 1)) q (pZ P i - 1 - q)
theorem Wk_s {k T q : Nat} (hq : q + 1 < pZ P i) : Wk P i k T q = om (Uq P i k T q (Tq P (tt P - pr P (i + 1) + (pZ P i - 1 - q)) i q)) (Wk P i k T (q + 1)) := by
  unfold Wk
  have e : pZ P i - 1 - q = pZ P i - 1 - (q + 1) + 1 := by omega
  rw [e, Wq, ← e]
theorem Wk_mono {k T : Nat} : ∀ (d q q' x : Nat), q' - q ≤ d → q ≤ q' → q' + 1 ≤ pZ P i → Wk P i k T q' = some x → ∃ y, Wk P i k T q = some y ∧ y ≤ x
  | 0, q, q', x, h1, h2, h3, h4 => by
    have : q = q' := by omega
    subst this
    exact ⟨x, h4, Nat.le_refl _⟩
  | d + 1, q, q', x, h1, h2, h3, h4 => by
    by_cases e : q = q'
    · subst e; exact ⟨x, h4, Nat.le_refl _⟩
    · obtain ⟨y, y1, y2⟩ := Wk_mono d (q + 1) q' x (by omega) (by omega) h3 h4
      rw [Wk_s (by omega)]
      obtain ⟨z, z1, z2⟩ := om_r (a := Uq P i k T q (Tq P (tt P - pr P (i + 1) + (pZ P i - 1 - q)) i q)) y1
      exact ⟨z, z1, by omega⟩
theorem Wk_up {k T v b : Nat} (h0 : Wk P i k T b = some v) {q' : Nat} (h1 : q' + 1 ≤ pZ P i) (h2 : ∃ y, Wk P i k T q' = some y ∧ y ≤ v) : ∀ d, b + d ≤ q' → Wk P i k T (b + d) = some v
  | 0, _ => h0
  | d + 1, h => by
    have ih := Wk_up h0 h1 h2 d (by omega)
    rw [Wk_s (by omega)] at ih
    obtain ⟨y, y1, y2⟩ := h2
    obtain ⟨z, z1, z2⟩ := Wk_mono (P := P) (i := i) (k := k) (T := T) (q' - (b + d + 1)) (b + d + 1) q' y (by omega) (by omega) h1 y1
    have := (om_le ih).2.2 z z1
    show Wk P i k T (b + d + 1) = _
    rw [z1]
    congr 1
    omega
theorem Wk_V (hV : VB P) {k T q v : Nat} (hi : i < pn P) (hk0 : pK P i = 0) (hkq : k < q) (hq : q + 1 ≤ pZ P i) : Wk P i k T q = some v ↔ (T + (q - k) * pg P ≤ ph P ∧ ∃ w, V P (tt P - (pr P i + q)) i q (T + (q - k) * pg P) 2 = some w ∧ v = w + (q - k) * oz P i T) := by
  obtain ⟨t1, t2, -, -, -, -⟩ := tx_f hV hi hk0
  have hp := pr_mono (P := P) (show i + 1 ≤ pn P by omega)
  rw [pr_s, t1] at hp
  have e1 : tt P - pr P (i + 1) + (pZ P i - q) = tt P - (pr P i + q) := by rw [pr_s, t1]; unfold tt; omega
  unfold Wk
  rw [Wq_eq hV hi hk0 _ q (by omega) hkq, e1]
  constructor
  · intro h
    by_cases c : T + (q - k) * pg P ≤ ph P
    · rw [if_pos c] at h
      obtain ⟨z, z1, z2⟩ := oa_some h
      exact ⟨c, z, z1, z2⟩
    · rw [if_neg c] at h; cases h
  · rintro ⟨c, w, h1, h2⟩
    rw [if_pos c, h1, h2]; rfl
/-- the way goes on within the column just if what is behind the next line comes to as little -/
theorem ch_W (hV : VB P) {k T q v : Nat} (hi : i < pn P) (hk0 : pK P i = 0) (hkq : k < q) (hq : q + 1 < pZ P i) (h : Wk P i k T q = some v) : ch P (tt P - (pr P i + q)) i q (T + (q - k) * pg P) 2 = if Wk P i k T (q + 1) = some v then some 0 else none := by
  obtain ⟨t1, t2, -, -, -, -⟩ := tx_f hV hi hk0
  have hp := pr_mono (P := P) (show i + 1 ≤ pn P by omega)
  rw [pr_s, t1] at hp
  have hpt : pr P i + pZ P i ≤ tt P := hp
  obtain ⟨c1, w, w1, w2⟩ := (Wk_V hV hi hk0 hkq (by omega)).mp h
  obtain ⟨r, hr⟩ : ∃ r, tt P - (pr P i + q) = r + 1 := ⟨tt P - (pr P i + q) - 1, by omega⟩
  have hr2 : tt P - (pr P i + (q + 1)) = r := by omega
  rw [hr] at w1 ⊢
  rw [ch_tx hV hi hk0, w1, wi_tx hV hi hk0 (by omega) (by omega), nx_in (by rw [t1]; exact hq)]
  have e2 : T + (q + 1 - k) * pg P = T + (q - k) * pg P + pg P := by rw [show q + 1 - k = q - k + 1 by omega, Nat.add_mul]; omega
  have eo : oz P i (T + (q - k) * pg P) = oz P i T := oz_add (by have := hV.2.1; omega) T (q - k)
  have e3 : (q + 1 - k) * oz P i T = (q - k) * oz P i T + oz P i T := by rw [show q + 1 - k = q - k + 1 by omega, Nat.add_mul]; omega
  have key : (if T + (q - k) * pg P + pg P ≤ ph P then oa (V P r i (q + 1) (T + (q - k) * pg P + pg P) 2) (oz P i (T + (q - k) * pg P)) else none) = some w ↔ Wk P i k T (q + 1) = some v := by
    rw [Wk_V hV hi hk0 (show k < q + 1 by omega) (by omega), hr2, e2, eo, e3]
    constructor
    · intro h9
      by_cases c2 : T + (q - k) * pg P + pg P ≤ ph P
      · rw [if_pos c2] at h9
        obtain ⟨z, z1, z2⟩ := oa_some h9
        exact ⟨c2, z, z1, by omega⟩
      · rw [if_neg c2] at h9; cases h9
    · rintro ⟨c2, z, z1, z2⟩
      rw [if_pos c2, z1]
      show some (z + oz P i T) = some w
      congr 1
      omega
  by_cases c3 : Wk P i k T (q + 1) = some v
  · rw [if_pos c3, if_pos (key.mpr c3)]
  · rw [if_neg c3, if_neg (fun x => c3 (key.mp x))]
theorem ch_last (hV : VB P) {q e v : Nat} (hi : i < pn P) (hk0 : pK P i = 0) (hq0 : 0 < q) (hq : q + 1 = pZ P i) (h : V P (tt P - (pr P i + q)) i q e 2 = some v) : ch P (tt P - (pr P i + q)) i q e 2 = some 0 := by
  obtain ⟨t1, t2, -, -, -, -⟩ := tx_f hV hi hk0
  have hp := pr_mono (P := P) (show i + 1 ≤ pn P by omega)
  rw [pr_s, t1] at hp
  have hpt : pr P i + pZ P i ≤ tt P := hp
  obtain ⟨r, hr⟩ : ∃ r, tt P - (pr P i + q) = r + 1 := ⟨tt P - (pr P i + q) - 1, by omega⟩
  rw [hr]
  rw [ch_tx hV hi hk0, wi_tx hV hi hk0 (by omega) (by omega), V_tx2 hV hi hk0 hq0, if_neg (show ¬ q + 1 < pZ P i by omega), om_n, if_pos rfl]
theorem ch_second (hV : VB P) {q e : Nat} (hi : i < pn P) (hk0 : pK P i = 0) (hq0 : 0 < q) (hq : q < pZ P i) : ch P (tt P - (pr P i + q)) i q e 1 = some 0 := by
  obtain ⟨t1, t2, -, -, -, -⟩ := tx_f hV hi hk0
  have hp := pr_mono (P := P) (show i + 1 ≤ pn P by omega)
  rw [pr_s, t1] at hp
  have hpt : pr P i + pZ P i ≤ tt P := hp
  obtain ⟨r, hr⟩ : ∃ r, tt P - (pr P i + q) = r + 1 := ⟨tt P - (pr P i + q) - 1, by omega⟩
  rw [hr]
  rw [ch_tx hV hi hk0, wi_tx hV hi hk0 (by omega) (by omega), V_tx1 hV hi hk0 hq0, if_pos rfl]
/-- the column that line k of item i stands in, at top T, ends before line j of its text, or goes beyond it -/
def BR (P : Pb) (i k T j : Nat) : Prop := k < j ∧ j ≤ tn P i ∧ (∀ q, k < q → q < j → ch P (tt P - (pr P i + q)) i q (T + (q - k) * ta P i) (if q = k + 1 then 1 else 2) = some 0) ∧ (j < tn P i → k + 1 < j ∧ ch P (tt P - (pr P i + j)) i j (T + (j - k) * ta P i) 2 = none)
theorem BR_one {k T : Nat} (hk : k + 1 = tn P i) : BR P i k T (tn P i) := ⟨by omega, Nat.le_refl _, fun q a b => by omega, fun h => by omega⟩
/-- no break -/
theorem BR_end (hV : VB P) {k T v : Nat} (hi : i < pn P) (hk0 : pK P i = 0) (hk : k + 2 < pZ P i) (h : Wk P i k T (k + 2) = some v) (he : Wk P i k T (pZ P i - 1) = some v) : BR P i k T (tn P i) := by
  obtain ⟨t1, t2, -, -, -, -⟩ := tx_f hV hi hk0
  refine ⟨by omega, Nat.le_refl _, fun q a b => ?_, fun h => by omega⟩
  rw [t2]
  rw [t1] at b
  by_cases e : q = k + 1
  · rw [if_pos e]
    exact ch_second hV hi hk0 (by omega) b
  · rw [if_neg e]
    have hup : ∀ q, k + 2 ≤ q → q ≤ pZ P i - 1 → Wk P i k T q = some v := fun q a b => by
      have := Wk_up h (q' := pZ P i - 1) (by omega) ⟨v, he, Nat.le_refl _⟩ (q - (k + 2)) (by omega)
      rwa [show k + 2 + (q - (k + 2)) = q by omega] at this
    by_cases e2 : q + 1 < pZ P i
    · rw [ch_W hV hi hk0 (by omega) e2 (hup q (by omega) (by omega)), if_pos (hup (q + 1) (by omega) (by omega))]
    · obtain ⟨-, w, w1, -⟩ := (Wk_V hV hi hk0 (by omega) (by omega)).mp (hup q (by omega) (by omega))
      exact ch_last hV hi hk0 (by omega) (by omega) w1
theorem BR_two (hV : VB P) {k T : Nat} (hi : i < pn P) (hk0 : pK P i = 0) (hk : k < pZ P i) (hk2 : ¬ k + 2 < pZ P i) : BR P i k T (tn P i) := by
  obtain ⟨t1, t2, -, -, -, -⟩ := tx_f hV hi hk0
  refine ⟨by omega, Nat.le_refl _, fun q a b => ?_, fun h => by omega⟩
  rw [t2]
  rw [t1] at b
  have e : q = k + 1 := by omega
  rw [if_pos e]
  exact ch_second hV hi hk0 (by omega) b
/-- a break -/
theorem BR_at (hV : VB P) {k T v j : Nat} (hi : i < pn P) (hk0 : pK P i = 0) (hj : k + 2 ≤ j) (hj2 : j + 2 ≤ pZ P i) (h : Wk P i k T (k + 2) = some v) (hU : Uq P i k T j (Tq P (tt P - (pr P i + j + 1)) i j) = some v) (hn : ¬ Wk P i k T (j + 1) = some v) : BR P i k T j := by
  obtain ⟨t1, t2, -, -, -, -⟩ := tx_f hV hi hk0
  have hp := pr_mono (P := P) (show i + 1 ≤ pn P by omega)
  rw [pr_s, t1] at hp
  have e1 : tt P - pr P (i + 1) + (pZ P i - 1 - j) = tt P - (pr P i + j + 1) := by rw [pr_s, t1]; unfold tt; omega
  have hWj : ∃ y, Wk P i k T j = some y ∧ y ≤ v := by
    rw [Wk_s (by omega), e1]
    exact om_l hU
  have hup : ∀ q, k + 2 ≤ q → q ≤ j → Wk P i k T q = some v := fun q a b => by
    have := Wk_up h (q' := j) (by omega) hWj (q - (k + 2)) (by omega)
    rwa [show k + 2 + (q - (k + 2)) = q by omega] at this
  refine ⟨by omega, by omega, fun q a b => ?_, fun _ => ⟨by omega, ?_⟩⟩
  · rw [t2]
    by_cases e : q = k + 1
    · rw [if_pos e]
      exact ch_second hV hi hk0 (by omega) (by omega)
    · rw [if_neg e, ch_W hV hi hk0 (by omega) (by omega) (hup q (by omega) (by omega)), if_pos (hup (q + 1) (by omega) (by omega))]
  · rw [t2, ch_W hV hi hk0 (by omega) (by omega) (hup j (by omega) (by omega)), if_neg hn]
end BK
