set_option maxHeartbeats 4000000 in
set_option maxRecDepth 100000 in
/-- THE LAW, from its entry -/
theorem whole_start {p : Program} {e : Env} {s : State} {m : MethodId} {below : List Frame} {meth : Method} {c : Code} (l : Launch) (hflags : l.flags = flags0) {b L : Nat} {xs : Nat → Int32} (hL : L ≤ 2560) (C0 : lw_At p s m meth c b L xs) : W p l e room_1 s m #[Value.ref b] below meth c s.heap [] 0 0 (lw_Z below #[Value.ref b] s) (entryFrame m ([Value.ref b] : List Value).toArray 4) := by
  obtain ⟨hx, hb, hr, hml, hown, hts, hX, hbl, hlocks, hgv⟩ := id C0
  have hg : ∀ w ∈ gw, w.before #[Value.ref b] s = true := fun w h => hts w (List.mem_filter.mp h).1
  have hbA : ¬ (fun q : Nat => s.heap.size ≤ q) b := Nat.not_le.mpr hbl
  obtain ⟨c0, iS0, hKn0⟩ := u_known (C := nB_R) (T := nB_T) (N := 7) (n := 7) hts (fun w h => (nB_in0 w h).1) (hg _ wd_51)
  obtain ⟨c1, iS1, hKn1⟩ := u_known (C := nL_R) (T := nL_T) (N := 12) (n := 12) hts (fun w h => (nL_in0 w h).1) (hg _ wd_120)
  obtain ⟨c2, iS2, hKn2⟩ := u_known (C := nS_R) (T := nS_T) (N := 6) (n := 6) hts (fun w h => (nS_in0 w h).1) (hg _ wd_95)
  obtain ⟨c3, iS3, hKn3⟩ := u_known (C := nX_R) (T := nX_T) (N := 6) (n := 6) hts (fun w h => (nX_in0 w h).1) (hg _ wd_43)
  obtain ⟨c4, iS4, hKn4⟩ := u_known (C := nM_R) (T := nM_T) (N := 12) (n := 12) hts (fun w h => (nM_in0 w h).1) (hg _ wd_429)
  obtain ⟨cI, kI, oI, fI1, fI2, fI3⟩ := Cond.arrayClass_spec (hg _ wd_93)
  obtain ⟨cZ, kZ, oZ, fZ1, fZ2, fZ3⟩ := Cond.arrayClass_spec (hg _ wd_472)
  have hao := hts (.arrayOver (.object "StepColumns$Book")) (List.mem_of_getElem? (i := 165) (by decide +kernel))
  have hnw := hts (.methodLinkNest "StepColumns" 11 ⟨"StepColumns$Book", "<init>", "()V"⟩ "StepColumns") (List.mem_of_getElem? (i := 52) (by decide +kernel))
  obtain ⟨oB, cB, kB, fB1, fB2, fB3, fB4, fB5⟩ := Cond.arrayOver_spec hao
  obtain ⟨dC, dI, hKc⟩ : ∃ (dC : Nat → ClassId) (dI : Nat → Nat → Nat), ∀ (k : Nat) (q : vw_C), cl_all[k]? = some q → u_Kn s q.1 q.2.1 q.2.2 (dC k) (dI k) := by
    refine ⟨fun k => if k = 0 then c0 else if k = 1 then c1 else if k = 2 then c2 else if k = 3 then c3 else c4, fun k => if k = 0 then iS0 else if k = 1 then iS1 else if k = 2 then iS2 else if k = 3 then iS3 else iS4, ?_⟩
    intro k q hq
    match k, hq with
    | 0, hq => cases hq; exact hKn0
    | 1, hq => cases hq; exact hKn1
    | 2, hq => cases hq; exact hKn2
    | 3, hq => cases hq; exact hKn3
    | 4, hq => cases hq; exact hKn4
    | k + 5, hq => simp [cl_all] at hq
  have hK : va_K (dC, dI) cl_all (tyl cI cZ cB) s := by
    refine ⟨hKc, ?_⟩
    intro k q hq
    match k, hq with
    | 0, hq => cases hq; exact ⟨fun n z => ⟨fun k h => (by cases h), kI, fI2, oI, fI3⟩, fI1⟩
    | 1, hq => cases hq; exact ⟨fun n z => ⟨fun k h => (by cases h), kZ, fZ2, oZ, fZ3⟩, fZ1⟩
    | 2, hq => cases hq; exact ⟨fun n z => ⟨fun k h => (by cases h), kB, fB3, oB, fB4⟩, kB, oB, fB3, fB4, fB1, fB5⟩
    | k + 3, hq => simp [tyl] at hq
  have C : SC p s m #[Value.ref b] c code 4 "StepColumnsLaw" (fun q : Nat => s.heap.size ≤ q) (dC, dI) (tyl cI cZ cB) := ⟨hx, hb, hml, hown, hg, fun _ h => h, hK⟩
  have hl := lv_entry ([.ref b]) (n := 4) (Nat.le_of_ble_eq_true rfl)
  rw [lg_entry_eq]
  suffices hh : SN p l e room_1 s m #[Value.ref b] below meth c (fun q : Nat => s.heap.size ≤ q) (dC, dI) 4 (lw_Z below #[Value.ref b] s) 0 0 [] [(0, .ref b)] 0 [] from hh s.heap [] _ (fun k q h => by simp at h) ⟨fun i j p q h => by simp at h, fun k q h => by simp at h⟩ va_S.rf hl
  refine sn_new (fs := [.null, .null, .null, .null, .int 0, .int 0]) C nX_in nX_ty nX_ok wd_42 wd_43 wd_35 (ci := 3) rfl (fun j hj => by rcases (show j = 0 ∨ j = 1 ∨ j = 2 ∨ j = 3 ∨ j = 4 ∨ j = 5 by omega) with rfl | rfl | rfl | rfl | rfl | rfl <;> rfl) (Nat.le_of_ble_eq_true rfl) (Nat.le_of_ble_eq_true rfl) dW_law_0 (fun x0 => ?_)
  change SN p l e _ s m _ below meth c _ _ _ _ _ _ [(x0, .inr (3, [.null, .null, .null, .null, .int 0, .int 0]))] _ _ _
  refine sn_dup C dW_law_3 rfl ?_
  refine sn_callI (wr := []) C "StepColumns" (cX_init l dC dI cI cZ cB x0) (fun U hW => ⟨va_Nw.warmM hW (va_Nw.of rfl hnw), va_AO.moved hW.alike (va_AO.of hao)⟩) (fun a U g mk h => h) wd_44 wd_45 wd_35 wd_46 hX_init rfl rfl rfl ⟨Nat.le_of_ble_eq_true rfl, Nat.le_of_ble_eq_true rfl⟩ [0] [] rfl rfl rfl rfl (by decide) rfl rfl (Nat.le_of_ble_eq_true rfl) dW_law_4 ⟨Nat.le_of_ble_eq_true rfl, Nat.le_of_ble_eq_true rfl⟩ (fun u => ?_)
  generalize u 0 = x1
  generalize u 1 = b0
  generalize u 2 = b1
  generalize u 3 = b2
  generalize u 4 = b3
  generalize u 5 = b4
  generalize u 6 = s0
  generalize u 7 = s1
  generalize u 8 = s2
  generalize u 9 = l0
  generalize u 10 = l1
  generalize u 11 = l2
  generalize u 12 = l3
  generalize u 13 = l4
  generalize u 14 = i0
  generalize u 15 = i1
  generalize u 16 = i2
  generalize u 17 = i3
  generalize u 18 = i4
  generalize u 19 = j0
  generalize u 20 = j1
  generalize u 21 = j2
  generalize u 22 = j3
  generalize u 23 = j4
  change SN p l e _ s m _ below meth c _ _ _ _ _ _ (wdX cI cZ cB x0 x1 b0 b1 b2 b3 b4 s0 s1 s2 l0 l1 l2 l3 l4 0 0 (fun _ => 0) (fun _ => 0) (fun _ => 0) (fun _ => 0) 0 10 120 (fun _ => 0) (fun _ => 0) 120 (-1) 0 (fun _ => 0) (fun _ => 0) (fun _ => 0) (fun _ => 0) 0 0 0 0 0 0 0 ++ wdR cI cZ cB x1 i0 i1 i2 i3 i4 j0 j1 j2 j3 j4 (fun _ => 0) (fun _ => 0) (fun _ => 0) (fun _ => 0) 0 10 120 (fun _ => 0) (fun _ => 0) (fun _ => 0) (fun _ => 0) 0 10 120) _ _ _
  refine sn_astore_n (lv' := [(1, .ref x0), (0, .ref b)]) C dW_law_7 rfl (by decide) rfl ?_
  refine sn_new (fs := [.null, .null, .null, .null, .null, .null, .int 0, .null, .null, .null, .null, .null]) C nM_in nM_ty nM_ok wd_428 wd_429 wd_39 (ci := 4) rfl (fun j hj => by rcases (show j = 0 ∨ j = 1 ∨ j = 2 ∨ j = 3 ∨ j = 4 ∨ j = 5 ∨ j = 6 ∨ j = 7 ∨ j = 8 ∨ j = 9 ∨ j = 10 ∨ j = 11 by omega) with rfl | rfl | rfl | rfl | rfl | rfl | rfl | rfl | rfl | rfl | rfl | rfl <;> rfl) (Nat.le_of_ble_eq_true rfl) (Nat.le_of_ble_eq_true rfl) dW_law_8 (fun g0 => ?_)
  refine sn_dup C dW_law_11 rfl ?_
  refine sn_callI (wr := (wdX cI cZ cB x0 x1 b0 b1 b2 b3 b4 s0 s1 s2 l0 l1 l2 l3 l4 0 0 (fun _ => 0) (fun _ => 0) (fun _ => 0) (fun _ => 0) 0 10 120 (fun _ => 0) (fun _ => 0) 120 (-1) 0 (fun _ => 0) (fun _ => 0) (fun _ => 0) (fun _ => 0) 0 0 0 0 0 0 0 ++ wdR cI cZ cB x1 i0 i1 i2 i3 i4 j0 j1 j2 j3 j4 (fun _ => 0) (fun _ => 0) (fun _ => 0) (fun _ => 0) 0 10 120 (fun _ => 0) (fun _ => 0) (fun _ => 0) (fun _ => 0) 0 10 120)) C "StepColumnsModel" (cM_init l dC dI cI cZ cB g0) (fun _ _ => trivial) (fun _ _ _ _ _ => trivial) wd_430 wd_431 wd_39 wd_432 hM_init rfl rfl rfl ⟨Nat.le_of_ble_eq_true rfl, Nat.le_of_ble_eq_true rfl⟩ [25] [0, 1, 2, 3, 4, 5, 6, 7, 8, 9, 10, 11, 12, 13, 14, 15, 16, 17, 18, 19, 20, 21, 22, 23, 24] rfl rfl rfl rfl (by decide) rfl rfl (Nat.le_of_ble_eq_true rfl) dW_law_12 ⟨Nat.le_of_ble_eq_true rfl, Nat.le_of_ble_eq_true rfl⟩ (fun u => ?_)
  obtain ⟨g1, g2, g3, g4, g5, g6, g7, g8, g9, g10, g11⟩ := u
  change SN p l e _ s m _ below meth c _ _ _ _ _ _ (wdW cI cZ cB x0 x1 b0 b1 b2 b3 b4 s0 s1 s2 l0 l1 l2 l3 l4 i0 i1 i2 i3 i4 j0 j1 j2 j3 j4 g0 g1 g2 g3 g4 g5 g6 g7 g8 g9 g10 g11 0 0 (fun _ => 0) (fun _ => 0) (fun _ => 0) (fun _ => 0) 0 10 120 (fun _ => 0) (fun _ => 0) 120 (-1) 0 (fun _ => 0) (fun _ => 0) (fun _ => 0) (fun _ => 0) 0 0 0 0 0 0 0 (fun _ => 0) (fun _ => 0) (fun _ => 0) (fun _ => 0) 0 10 120 (fun _ => 0) (fun _ => 0) (fun _ => 0) (fun _ => 0) 0 10 120 (upd (upd (fun _ => 0) 48 10) 49 120) (fun _ => 0) (fun _ => 0) (fun _ => 0) (fun _ => 0) (fun _ => 0) (fun _ => 0) (fun _ => 0) (fun _ => 0) (fun _ => 0) (fun _ => 0) 0) _ _ _
  refine sn_widen (ck' := 600000) (sl' := 7302250) (Nat.le_of_ble_eq_true rfl) (Nat.le_of_ble_eq_true rfl) ?_
  refine sn_astore_n (lv' := [(2, .ref g0), (1, .ref x0), (0, .ref b)]) C dW_law_15 rfl (by decide) rfl ?_
  refine sn_iconst C dW_law_16 ki_0 ?_
  refine sn_istore_n (lv' := [(3, .int 0), (2, .ref g0), (1, .ref x0), (0, .ref b)]) C dW_law_17 rfl (by decide) rfl ?_
  exact sn_lv [3, 2, 1, 0] rfl (law_loop hr hlocks C hX hbl hbA hL x0 x1 b0 b1 b2 b3 b4 s0 s1 s2 l0 l1 l2 l3 l4 i0 i1 i2 i3 i4 j0 j1 j2 j3 j4 g0 g1 g2 g3 g4 g5 g6 g7 g8 g9 g10 g11 (L + 6) 0 (by omega) (by omega) 0 0 (fun _ => 0) (fun _ => 0) (fun _ => 0) (fun _ => 0) 0 10 120 (fun _ => 0) (fun _ => 0) 120 (-1) 0 (fun _ => 0) (fun _ => 0) (fun _ => 0) (fun _ => 0) 0 0 0 0 0 0 0 (fun _ => 0) (fun _ => 0) (fun _ => 0) (fun _ => 0) 0 10 120 (fun _ => 0) (fun _ => 0) (fun _ => 0) (fun _ => 0) 0 10 120 (upd (upd (fun _ => 0) 48 10) 49 120) (fun _ => 0) (fun _ => 0) (fun _ => 0) (fun _ => 0) (fun _ => 0) (fun _ => 0) (fun _ => 0) (fun _ => 0) (fun _ => 0) (fun _ => 0) 0 inv_start)
