/-! WHAT HEIGHT AND MOST DO TO THE BEST COST -/
def sMH (P : Pb) (M : Nat → Nat) (h : Nat) : Pb := (pK P, pZ P, pL P, M, pn P, pg P, h)
section MO
variable {P : Pb} {M M' : Nat → Nat} {h h' : Nat}
theorem nx_M (i k : Nat) : nx (sMH P M h) i k = nx (sMH P M' h') i k := rfl
theorem ta_M (i : Nat) : ta (sMH P M h) i = ta (sMH P M' h') i := rfl
theorem fc_M (i : Nat) : fc (sMH P M h) i = fc (sMH P M' h') i := rfl
theorem nc_M (i k c : Nat) : nc (sMH P M h) i k c = nc (sMH P M' h') i k c := rfl
theorem oz_M (i t : Nat) : oz (sMH P M h) i t = oz (sMH P M' h') i t := rfl
theorem pr_M : ∀ i : Nat, pr (sMH P M h) i = pr (sMH P M' h') i
  | 0 => rfl
  | i + 1 => by rw [pr, pr, pr_M i]; rfl
theorem tt_M : tt (sMH P M h) = tt (sMH P M' h') := pr_M _
theorem At_M {r i k : Nat} (ha : At (sMH P M h) r i k) : At (sMH P M' h') r i k := by
  unfold At at ha ⊢
  rw [← tt_M (M := M) (h := h), ← pr_M (M := M) (h := h)]; exact ha
theorem oa_cg {a : Option Nat} {x : Nat} (ha : a = some x) (k : Nat) : oa a k = some (x + k) := by subst ha; rfl
theorem om_l {a b : Option Nat} {x : Nat} (ha : a = some x) : ∃ y, om a b = some y ∧ y ≤ x := by
  subst ha
  cases b with
  | none => exact ⟨x, rfl, Nat.le_refl _⟩
  | some b =>
    refine ⟨if b < x then b else x, rfl, ?_⟩
    by_cases c : b < x
    · rw [if_pos c]; omega
    · rw [if_neg c]; exact Nat.le_refl _
theorem om_r {a b : Option Nat} {x : Nat} (hb : b = some x) : ∃ y, om a b = some y ∧ y ≤ x := by
  rw [om_comm]; exact om_l hb
theorem rm_l {f : Nat → Option Nat} : ∀ {m lo j x : Nat}, lo ≤ j → j < lo + m → f j = some x → ∃ y, rm f lo m = some y ∧ y ≤ x
  | 0, lo, j, x, h1, h2, _ => by omega
  | m + 1, lo, j, x, h1, h2, h3 => by
    by_cases e : j = lo
    · subst e; exact om_l h3
    · obtain ⟨y, y1, y2⟩ := rm_l (m := m) (lo := lo + 1) (by omega) (by omega) h3
      obtain ⟨z, z1, z2⟩ := om_r (a := f lo) y1
      exact ⟨z, z1, by omega⟩
/-- columns never grow with the height, or with a lesser end; rooms are no matter for them -/
theorem col_le (hA : VB (sMH P M h)) (hB : VB (sMH P M' h')) (hh : h ≤ h') : ∀ (r i k e e' c v : Nat), At (sMH P M h) r i k → e' ≤ e → V (sMH P M h) r i k e c = some v → ∃ v', V (sMH P M' h') r i k e' c = some v' ∧ v' / 1000000 ≤ v / 1000000
  | 0, i, k, e, e', c, v, _, _, hv => ⟨0, V_0 _ _ _ _ _, Nat.zero_le _⟩
  | r + 1, i, k, e, e', c, v, ha, he, hv => by
    have haB : At (sMH P M' h') (r + 1) i k := At_M ha
    have hn := At_nx hA ha
    have hnB := At_nx hB haB
    obtain ⟨hi, hk⟩ := ha.2.resolve_left (by omega)
    have hiB : i < pn (sMH P M' h') := hi
    have hmB := VI_of hB hiB
    rw [V] at hv
    rcases (om_le hv).1 with q | q
    · by_cases c1 : mB (sMH P M h) i k c
      · rw [if_pos c1] at q
        obtain ⟨z, z1, z2⟩ := oa_some q
        obtain ⟨z', y1, y2⟩ := col_le hA hB hh r _ _ _ (ta (sMH P M h) i) _ z hn (Nat.le_refl _) z1
        have c2 : mB (sMH P M' h') i k c := ⟨Nat.le_trans c1.1 hh, c1.2.1, c1.2.2⟩
        have y3 : oa (V (sMH P M' h') r (nx (sMH P M' h') i k).1 (nx (sMH P M' h') i k).2 (ta (sMH P M' h') i) (fc (sMH P M' h') i)) 1000000 = some (z' + 1000000) := by
          have : V (sMH P M' h') r (nx (sMH P M' h') i k).1 (nx (sMH P M' h') i k).2 (ta (sMH P M' h') i) (fc (sMH P M' h') i) = some z' := y1
          rw [this]; rfl
        obtain ⟨w, w1, w2⟩ := om_l (b := rm (wi (sMH P M' h') i e' (fun e'' => V (sMH P M' h') r (nx (sMH P M' h') i k).1 (nx (sMH P M' h') i k).2 e'' (nc (sMH P M' h') i k c))) (pL (sMH P M' h') i) (pM (sMH P M' h') i + 1 - pL (sMH P M' h') i)) y3
        refine ⟨w, by rw [V, if_pos c2]; exact w1, ?_⟩
        omega
      · rw [if_neg c1] at q; cases q
    · obtain ⟨⟨x, x1, x2, x3⟩, -⟩ := rm_some q
      unfold wi at x3
      by_cases c1 : e + x + ta (sMH P M h) i ≤ ph (sMH P M h)
      · rw [if_pos c1] at x3
        obtain ⟨z, z1, z2⟩ := oa_some x3
        have eL : pL (sMH P M' h') i = pL (sMH P M h) i := rfl
        have eT : ta (sMH P M' h') i = ta (sMH P M h) i := rfl
        have eh : ph (sMH P M h) = h := rfl
        have eh' : ph (sMH P M' h') = h' := rfl
        obtain ⟨z', y1, y2⟩ := col_le hA hB hh r _ _ _ (e' + pL (sMH P M' h') i + ta (sMH P M' h') i) _ z hn (by rw [eL, eT]; omega) z1
        have y0 : V (sMH P M' h') r (nx (sMH P M' h') i k).1 (nx (sMH P M' h') i k).2 (e' + pL (sMH P M' h') i + ta (sMH P M' h') i) (nc (sMH P M' h') i k c) = some z' := y1
        have hd := V_dg hB r _ _ _ _ z' hnB y0
        have htt := tt_le hB
        have hr := haB.1
        have hpn := hB.1
        have y3 : wi (sMH P M' h') i e' (fun e'' => V (sMH P M' h') r (nx (sMH P M' h') i k).1 (nx (sMH P M' h') i k).2 e'' (nc (sMH P M' h') i k c)) (pL (sMH P M' h') i) = some (z' + (pL (sMH P M' h') i + oz (sMH P M' h') i (e' + pL (sMH P M' h') i))) := by
          unfold wi
          rw [if_pos (by rw [eL, eT, eh']; omega)]; exact oa_cg y0 _
        obtain ⟨w, w1, w2⟩ := rm_l (f := wi (sMH P M' h') i e' (fun e'' => V (sMH P M' h') r (nx (sMH P M' h') i k).1 (nx (sMH P M' h') i k).2 e'' (nc (sMH P M' h') i k c))) (lo := pL (sMH P M' h') i) (m := pM (sMH P M' h') i + 1 - pL (sMH P M' h') i) (Nat.le_refl _) (by omega) y3
        obtain ⟨u, u1, u2⟩ := om_r (a := if mB (sMH P M' h') i k c then oa (V (sMH P M' h') r (nx (sMH P M' h') i k).1 (nx (sMH P M' h') i k).2 (ta (sMH P M' h') i) (fc (sMH P M' h') i)) 1000000 else none) w1
        refine ⟨u, by rw [V]; exact u1, ?_⟩
        obtain ⟨cc, o, xx, a1, a2, a3, a4⟩ := hd
        have hoz := oz_le (sMH P M' h') i (e' + pL (sMH P M' h') i)
        omega
      · rw [if_neg c1] at x3; cases x3
/-- more room above an item never costs more -/
theorem most_le (hA : VB (sMH P M h)) (hB : VB (sMH P M' h)) (hM : ∀ i, M i ≤ M' i) : ∀ (r i k e c v : Nat), V (sMH P M h) r i k e c = some v → ∃ v', V (sMH P M' h) r i k e c = some v' ∧ v' ≤ v
  | 0, i, k, e, c, v, hv => ⟨0, V_0 _ _ _ _ _, Nat.zero_le _⟩
  | r + 1, i, k, e, c, v, hv => by
    rw [V] at hv
    rcases (om_le hv).1 with q | q
    · by_cases c1 : mB (sMH P M h) i k c
      · rw [if_pos c1] at q
        obtain ⟨z, z1, z2⟩ := oa_some q
        obtain ⟨z', y1, y2⟩ := most_le hA hB hM r _ _ _ _ z z1
        have c2 : mB (sMH P M' h) i k c := c1
        have y3 : oa (V (sMH P M' h) r (nx (sMH P M' h) i k).1 (nx (sMH P M' h) i k).2 (ta (sMH P M' h) i) (fc (sMH P M' h) i)) 1000000 = some (z' + 1000000) := by
          have : V (sMH P M' h) r (nx (sMH P M' h) i k).1 (nx (sMH P M' h) i k).2 (ta (sMH P M' h) i) (fc (sMH P M' h) i) = some z' := y1
          rw [this]; rfl
        obtain ⟨w, w1, w2⟩ := om_l (b := rm (wi (sMH P M' h) i e (fun e'' => V (sMH P M' h) r (nx (sMH P M' h) i k).1 (nx (sMH P M' h) i k).2 e'' (nc (sMH P M' h) i k c))) (pL (sMH P M' h) i) (pM (sMH P M' h) i + 1 - pL (sMH P M' h) i)) y3
        exact ⟨w, by rw [V, if_pos c2]; exact w1, by omega⟩
      · rw [if_neg c1] at q; cases q
    · obtain ⟨⟨x, x1, x2, x3⟩, -⟩ := rm_some q
      unfold wi at x3
      by_cases c1 : e + x + ta (sMH P M h) i ≤ ph (sMH P M h)
      · rw [if_pos c1] at x3
        obtain ⟨z, z1, z2⟩ := oa_some x3
        obtain ⟨z', y1, y2⟩ := most_le hA hB hM r _ _ _ _ z z1
        have y0 : V (sMH P M' h) r (nx (sMH P M' h) i k).1 (nx (sMH P M' h) i k).2 (e + x + ta (sMH P M' h) i) (nc (sMH P M' h) i k c) = some z' := y1
        have c2 : e + x + ta (sMH P M' h) i ≤ ph (sMH P M' h) := c1
        have y3 : wi (sMH P M' h) i e (fun e'' => V (sMH P M' h) r (nx (sMH P M' h) i k).1 (nx (sMH P M' h) i k).2 e'' (nc (sMH P M' h) i k c)) x = some (z' + (x + oz (sMH P M' h) i (e + x))) := by
          unfold wi
          rw [if_pos c2]; exact oa_cg y0 _
        have eo : oz (sMH P M' h) i (e + x) = oz (sMH P M h) i (e + x) := rfl
        have eL : pL (sMH P M' h) i = pL (sMH P M h) i := rfl
        have eM : pM (sMH P M h) i = M i := rfl
        have eM' : pM (sMH P M' h) i = M' i := rfl
        have hMi := hM i
        obtain ⟨w, w1, w2⟩ := rm_l (f := wi (sMH P M' h) i e (fun e'' => V (sMH P M' h) r (nx (sMH P M' h) i k).1 (nx (sMH P M' h) i k).2 e'' (nc (sMH P M' h) i k c))) (lo := pL (sMH P M' h) i) (m := pM (sMH P M' h) i + 1 - pL (sMH P M' h) i) (by omega) (by omega) y3
        obtain ⟨u, u1, u2⟩ := om_r (a := if mB (sMH P M' h) i k c then oa (V (sMH P M' h) r (nx (sMH P M' h) i k).1 (nx (sMH P M' h) i k).2 (ta (sMH P M' h) i) (fc (sMH P M' h) i)) 1000000 else none) w1
        exact ⟨u, by rw [V]; exact u1, by omega⟩
      · rw [if_neg c1] at x3; cases x3
theorem colT_le (hA : VB (sMH P M h)) (hB : VB (sMH P M' h')) (hh : h ≤ h') {v : Nat} (hv : VT (sMH P M h) = some v) : ∃ v', VT (sMH P M' h') = some v' ∧ v' / 1000000 ≤ v / 1000000 := by
  unfold VT at hv ⊢
  by_cases c0 : tt (sMH P M h) = 0
  · have c0' : tt (sMH P M' h') = 0 := tt_M.trans c0
    rw [if_pos c0']
    exact ⟨0, rfl, Nat.zero_le _⟩
  · have c0' : ¬ tt (sMH P M' h') = 0 := fun q => c0 (tt_M.trans q)
    rw [if_neg c0] at hv
    rw [if_neg c0']
    by_cases c1 : ta (sMH P M h) 0 ≤ ph (sMH P M h)
    · have c1' : ta (sMH P M' h') 0 ≤ ph (sMH P M' h') := Nat.le_trans c1 hh
      rw [if_pos c1] at hv
      rw [if_pos c1']
      obtain ⟨z, z1, z2⟩ := oa_some hv
      have a0 : At (sMH P M h) (tt (sMH P M h) - 1 + 1) 0 0 := by rw [show tt (sMH P M h) - 1 + 1 = tt (sMH P M h) by omega]; exact At_0 hA
      obtain ⟨z', y1, y2⟩ := col_le hA hB hh _ _ _ _ (ta (sMH P M h) 0) _ z (At_nx hA a0) (Nat.le_refl _) z1
      refine ⟨z' + 1000000, ?_, by omega⟩
      have : V (sMH P M' h') (tt (sMH P M' h') - 1) (nx (sMH P M' h') 0 0).1 (nx (sMH P M' h') 0 0).2 (ta (sMH P M' h') 0) (fc (sMH P M' h') 0) = some z' := by rw [tt_M (M := M') (h := h') (M' := M) (h' := h)]; exact y1
      rw [this]; rfl
    · rw [if_neg c1] at hv; cases hv
theorem mostT_le (hA : VB (sMH P M h)) (hB : VB (sMH P M' h)) (hM : ∀ i, M i ≤ M' i) {v : Nat} (hv : VT (sMH P M h) = some v) : ∃ v', VT (sMH P M' h) = some v' ∧ v' ≤ v := by
  unfold VT at hv ⊢
  by_cases c0 : tt (sMH P M h) = 0
  · have c0' : tt (sMH P M' h) = 0 := tt_M.trans c0
    rw [if_pos c0']
    exact ⟨0, rfl, Nat.zero_le _⟩
  · have c0' : ¬ tt (sMH P M' h) = 0 := fun q => c0 (tt_M.trans q)
    rw [if_neg c0] at hv
    rw [if_neg c0']
    by_cases c1 : ta (sMH P M h) 0 ≤ ph (sMH P M h)
    · have c1' : ta (sMH P M' h) 0 ≤ ph (sMH P M' h) := c1
      rw [if_pos c1] at hv
      rw [if_pos c1']
      obtain ⟨z, z1, z2⟩ := oa_some hv
      obtain ⟨z', y1, y2⟩ := most_le hA hB hM _ _ _ _ _ z z1
      refine ⟨z' + 1000000, ?_, by omega⟩
      have : V (sMH P M' h) (tt (sMH P M' h) - 1) (nx (sMH P M' h) 0 0).1 (nx (sMH P M' h) 0 0).2 (ta (sMH P M' h) 0) (fc (sMH P M' h) 0) = some z' := by rw [tt_M (M := M') (h := h) (M' := M) (h' := h)]; exact y1
      rw [this]; rfl
    · rw [if_neg c1] at hv; cases hv
end MO
