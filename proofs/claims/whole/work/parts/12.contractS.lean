abbrev rS_costUpTo (fB lB : Nat) : Room := { frames := fB + 2, cells := 0, slots := 0, locals := lB + 40 }
set_option maxHeartbeats 4000000 in
set_option maxRecDepth 100000 in
theorem cS_costUpTo (l : Launch) (dC : Nat → ClassId) (dI : Nat → Nat → Nat) (cI cZ cB : ClassId) (s0 s1 s2 b0 b1 b2 b3 b4 : Nat) (sB sO : Nat → Int32) (sh sw sr : Int32) (bK bZ bL bM : Nat → Int32) (bi bg bh : Int32) (p1 p2 p3 p4 : Int32) (fB lB : Nat) (CB : Int32 → Int32 → (Nat → Int32) → (Nat → Int32) → Int32 → Int32 → Int32 → (Nat → Int32) → (Nat → Int32) → (Nat → Int32) → (Nat → Int32) → Int32 → Int32 → Option (Int32 × (Nat → Int32) × (Nat → Int32))) (hCB : ∀ (q1 q2 : Int32) (wsB wsO : Nat → Int32) (qr : Int32) (usB usO : Nat → Int32), CB q1 q2 wsB wsO sh sw sr bK bZ bL bM bi bg = some (qr, usB, usO) → MI l yS_costBehind wS_costBehind { frames := fB, cells := 0, slots := 0, locals := lB } (dC, dI) (tyl cI cZ cB) [Value.ref s0, Value.int q1, Value.int q2] (wdS cI cZ cB s0 s1 s2 b0 b1 b2 b3 b4 wsB wsO sh sw sr bK bZ bL bM bi bg bh) (wdS cI cZ cB s0 s1 s2 b0 b1 b2 b3 b4 usB usO sh sw sr bK bZ bL bM bi bg bh) qr) (r : Int32) (sB' : Nat → Int32) (sO' : Nat → Int32) (hf : fS_costUpTo CB p1 p2 p3 p4 sB sO sh sw sr bK bZ bL bM bi bg = some (r, sB', sO')) : MI l yS_costUpTo wS_costUpTo (rS_costUpTo fB lB) (dC, dI) (tyl cI cZ cB) [Value.ref s0, Value.int p1, Value.int p2, Value.int p3, Value.int p4] (wdS cI cZ cB s0 s1 s2 b0 b1 b2 b3 b4 sB sO sh sw sr bK bZ bL bM bi bg bh) (wdS cI cZ cB s0 s1 s2 b0 b1 b2 b3 b4 sB' sO' sh sw sr bK bZ bL bM bi bg bh) r := by
  refine MI_of "StepColumns$Scale" rfl (by decide) (Nat.le_of_ble_eq_true rfl) ?_
  intro p e s m below meth c A Q C hQ
  have hb_92 : ∀ (v6 t0 : Int32) (sB sO : Nat → Int32), fS_costUpTo_b92 CB v6 t0 sB sO sh sw sr bK bZ bL bM bi bg = some (r, sB', sO') → SJ p l e (rS_costUpTo fB lB) s m (List.toArray [Value.ref s0, Value.int p1, Value.int p2, Value.int p3, Value.int p4]) below meth c A (dC, dI) 8 Q (wdS cI cZ cB s0 s1 s2 b0 b1 b2 b3 b4 sB sO sh sw sr bK bZ bL bM bi bg bh) [(6, .int v6)] 92 [.int t0] := by
    intro v6 t0 sB sO hf
    unfold fS_costUpTo_b92 at hf
    refine sj_istore (lv' := [(7, .int t0), (6, .int v6)]) C dS_costUpTo_92 (by decide) rfl ?_
    refine sj_ldc C wd_272 dS_costUpTo_94 ?_
    refine sj_iload C dS_costUpTo_96 1 rfl ?_
    refine sj_iload C dS_costUpTo_98 0 rfl ?_
    refine sj_iadd C dS_costUpTo_100 ?_
    refine sj_mmin C wd_302 wd_303 wd_41 wd_304 (by show 1 ≤ fB + 2; omega) (by show 0 + 13 ≤ lB + 40; omega) dS_costUpTo_101 ?_
    cases hf
    exact hQ 104 _ dS_costUpTo_104
  have hb_53 : ∀ (v1 v4 v5 t0 : Int32) (sB sO : Nat → Int32), fS_costUpTo_b53 CB v1 v4 v5 t0 sB sO sh sw sr bK bZ bL bM bi bg = some (r, sB', sO') → SJ p l e (rS_costUpTo fB lB) s m (List.toArray [Value.ref s0, Value.int p1, Value.int p2, Value.int p3, Value.int p4]) below meth c A (dC, dI) 8 Q (wdS cI cZ cB s0 s1 s2 b0 b1 b2 b3 b4 sB sO sh sw sr bK bZ bL bM bi bg bh) [(0, .ref s0), (1, .int v1), (4, .int v4), (5, .int v5)] 53 [.int t0] := by
    intro v1 v4 v5 t0 sB sO hf
    unfold fS_costUpTo_b53 at hf
    refine sj_istore (lv' := [(6, .int t0), (0, .ref s0), (1, .int v1), (4, .int v4), (5, .int v5)]) C dS_costUpTo_53 (by decide) rfl ?_
    refine sj_iload C dS_costUpTo_55 3 rfl ?_
    refine sj_aload_n C dS_costUpTo_57 1 rfl rfl ?_
    refine sj_get C nS_in 0 rfl rfl 0 (by decide) wd_100 rfl rfl dS_costUpTo_58 ?_
    refine sj_iload_n C dS_costUpTo_61 2 rfl rfl ?_
    obtain ⟨r_62, hq_62, hf⟩ := bd1_some hf
    refine sj_callVi (w1 := (wdS cI cZ cB s0 s1 s2 b0 b1 b2 b3 b4 sB sO sh sw sr bK bZ bL bM bi bg bh)) (q0 := 0) C "StepColumns$Book" (cB_thingsOf l dC dI cI cZ cB b0 b1 b2 b3 b4 bK bZ bL bM bi bg bh v1 r_62 hq_62) wd_265 wd_266 wd_267 wd_36 wd_268 hB_thingsOf rfl rfl ⟨by show 0 + 1 ≤ fB + 2; omega, by show 8 + (2 + 11) + (0) ≤ lB + 40; omega⟩ [3, 4, 5, 6, 7] [0, 1, 2] ⟨rfl, rfl, rfl, rfl, rfl, rfl, kv_8_3_4_5_6_7⟩ rfl rfl rfl rfl rfl (Nat.le_of_ble_eq_true rfl) dS_costUpTo_62 ?_
    refine sj_icmp_ne C 80 dS_costUpTo_65 (by decide) (fun c_65 => ?_) (fun c_65 => ?_)
    · have hf := (if_neg c_65).symm.trans hf
      refine sj_aload_n C dS_costUpTo_80 1 rfl rfl ?_
      refine sj_get C nS_in 0 rfl rfl 2 (by decide) wd_102 rfl rfl dS_costUpTo_81 ?_
      refine sj_iload_n C dS_costUpTo_84 2 rfl rfl ?_
      refine sj_bipush C dS_costUpTo_85 kb_12 ?_
      refine sj_imul C dS_costUpTo_87 ?_
      refine sj_iload C dS_costUpTo_88 3 rfl ?_
      refine sj_iadd C dS_costUpTo_90 ?_
      obtain ⟨h_91, hf⟩ := in_some hf
      refine sj_iald C 2 0 rfl rfl h_91 rfl dS_costUpTo_91 ?_
      exact sj_lv [0] rfl (hb_92 t0 (sO ((v1 * 12) + v4).toNatClampNeg) sB sO hf)
    · have hf := (if_pos c_65).symm.trans hf
      refine sj_aload_n C dS_costUpTo_68 1 rfl rfl ?_
      refine sj_iload_n C dS_costUpTo_69 2 rfl rfl ?_
      refine sj_iconst C dS_costUpTo_70 ki_1 ?_
      refine sj_iadd C dS_costUpTo_71 ?_
      refine sj_iload C dS_costUpTo_72 4 rfl ?_
      obtain ⟨r_74, sB_74, sO_74, hq_74, hf⟩ := bd3_some hf
      refine sj_callVi (w1 := (wdS cI cZ cB s0 s1 s2 b0 b1 b2 b3 b4 sB_74 sO_74 sh sw sr bK bZ bL bM bi bg bh)) (q0 := 0) C "StepColumns$Scale" (hCB (v1 + 1) v5 sB sO r_74 sB_74 sO_74 hq_74) wd_290 wd_292 wd_6 wd_37 wd_293 hS_costBehind rfl rfl ⟨by show fB + 1 ≤ fB + 2; omega, by show 8 + (5 + 11) + (lB) ≤ lB + 40; omega⟩ [0, 1, 2, 3, 4, 5, 6, 7] [] ⟨rfl, rfl, rfl, rfl, rfl, rfl, kv_8_0_1_2_3_4_5_6_7⟩ rfl rfl rfl rfl rfl (Nat.le_of_ble_eq_true rfl) dS_costUpTo_74 ?_
      refine sj_goto C 92 dS_costUpTo_77 (by decide) ?_
      exact sj_lv [0] rfl (hb_92 t0 r_74 sB_74 sO_74 hf)
  unfold fS_costUpTo at hf
  change SJ p l e (rS_costUpTo fB lB) s m (List.toArray [Value.ref s0, Value.int p1, Value.int p2, Value.int p3, Value.int p4]) below meth c A (dC, dI) 8 Q (wdS cI cZ cB s0 s1 s2 b0 b1 b2 b3 b4 sB sO sh sw sr bK bZ bL bM bi bg bh) [(0, .ref s0), (1, .int p1), (2, .int p2), (3, .int p3), (4, .int p4)] 0 []
  refine sj_iload_n C dS_costUpTo_0 3 rfl rfl ?_
  refine sj_iload C dS_costUpTo_1 4 rfl ?_
  refine sj_iload_n C dS_costUpTo_3 2 rfl rfl ?_
  refine sj_isub C dS_costUpTo_4 ?_
  refine sj_aload_n C dS_costUpTo_5 0 rfl rfl ?_
  refine sj_get C nS_in 0 rfl rfl 0 (by decide) wd_100 rfl rfl dS_costUpTo_6 ?_
  refine sj_iload_n C dS_costUpTo_9 1 rfl rfl ?_
  obtain ⟨r_10, hq_10, hf⟩ := bd1_some hf
  refine sj_callVi (w1 := (wdS cI cZ cB s0 s1 s2 b0 b1 b2 b3 b4 sB sO sh sw sr bK bZ bL bM bi bg bh)) (q0 := 0) C "StepColumns$Book" (cB_tall l dC dI cI cZ cB b0 b1 b2 b3 b4 bK bZ bL bM bi bg bh p1 r_10 hq_10) wd_282 wd_283 wd_284 wd_36 wd_285 hB_tall rfl rfl ⟨by show 0 + 1 ≤ fB + 2; omega, by show 8 + (2 + 11) + (0) ≤ lB + 40; omega⟩ [3, 4, 5, 6, 7] [0, 1, 2] ⟨rfl, rfl, rfl, rfl, rfl, rfl, kv_8_3_4_5_6_7⟩ rfl rfl rfl rfl rfl (Nat.le_of_ble_eq_true rfl) dS_costUpTo_10 ?_
  refine sj_imul C dS_costUpTo_13 ?_
  refine sj_iadd C dS_costUpTo_14 ?_
  refine sj_istore (lv' := [(5, .int (p3 + ((p4 - p2) * r_10))), (0, .ref s0), (1, .int p1), (2, .int p2), (3, .int p3), (4, .int p4)]) C dS_costUpTo_15 (by decide) rfl ?_
  refine sj_iload C dS_costUpTo_17 0 rfl ?_
  refine sj_aload_n C dS_costUpTo_19 1 rfl rfl ?_
  refine sj_get C nS_in 0 rfl rfl 3 (by decide) wd_103 rfl rfl dS_costUpTo_20 ?_
  refine sj_icmp_le C 29 dS_costUpTo_23 (by decide) (fun c_23 => ?_) (fun c_23 => ?_)
  · have hf := (if_pos c_23).symm.trans hf
    refine sj_aload_n C dS_costUpTo_29 1 rfl rfl ?_
    refine sj_get C nS_in 0 rfl rfl 0 (by decide) wd_100 rfl rfl dS_costUpTo_30 ?_
    refine sj_iload_n C dS_costUpTo_33 2 rfl rfl ?_
    refine sj_iload_n C dS_costUpTo_34 4 rfl rfl ?_
    obtain ⟨r_35, hq_35, hf⟩ := bd1_some hf
    refine sj_callVi (w1 := (wdS cI cZ cB s0 s1 s2 b0 b1 b2 b3 b4 sB sO sh sw sr bK bZ bL bM bi bg bh)) (q0 := 0) C "StepColumns$Book" (cB_isOut l dC dI cI cZ cB b0 b1 b2 b3 b4 bK bZ bL bM bi bg bh p1 p3 r_35 hq_35) wd_286 wd_287 wd_288 wd_36 wd_289 hB_isOut rfl rfl ⟨by show 0 + 1 ≤ fB + 2; omega, by show 8 + (3 + 11) + (0) ≤ lB + 40; omega⟩ [3, 4, 5, 6, 7] [0, 1, 2] ⟨rfl, rfl, rfl, rfl, rfl, rfl, kv_8_3_4_5_6_7⟩ rfl rfl rfl rfl rfl (Nat.le_of_ble_eq_true rfl) dS_costUpTo_35 ?_
    refine sj_if_eq C 52 dS_costUpTo_38 (by decide) (fun c_38 => ?_) (fun c_38 => ?_)
    · have hf := (if_pos c_38).symm.trans hf
      refine sj_iconst C dS_costUpTo_52 ki_0 ?_
      exact sj_lv [1, 2, 5, 0] rfl (hb_53 p1 p4 (p3 + ((p4 - p2) * r_10)) 0 sB sO hf)
    · have hf := (if_neg c_38).symm.trans hf
      refine sj_iload C dS_costUpTo_41 5 rfl ?_
      refine sj_iload_n C dS_costUpTo_43 3 rfl rfl ?_
      refine sj_isub C dS_costUpTo_44 ?_
      refine sj_sipush C dS_costUpTo_45 ks_1024 ?_
      refine sj_imul C dS_costUpTo_48 ?_
      refine sj_goto C 53 dS_costUpTo_49 (by decide) ?_
      exact sj_lv [1, 2, 5, 0] rfl (hb_53 p1 p4 (p3 + ((p4 - p2) * r_10)) ((p4 - p2) * 1024) sB sO hf)
  · have hf := (if_neg c_23).symm.trans hf
    refine sj_ldc C wd_272 dS_costUpTo_26 ?_
    cases hf
    exact hQ 28 _ dS_costUpTo_28
abbrev rS_costFrom (fB lB : Nat) : Room := { frames := fB + 4, cells := 0, slots := 0, locals := lB + 80 }
set_option maxHeartbeats 4000000 in
set_option maxRecDepth 100000 in
theorem cS_costFrom (l : Launch) (dC : Nat → ClassId) (dI : Nat → Nat → Nat) (cI cZ cB : ClassId) (s0 s1 s2 b0 b1 b2 b3 b4 : Nat) (sB sO : Nat → Int32) (sh sw sr : Int32) (bK bZ bL bM : Nat → Int32) (bi bg bh : Int32) (p1 p2 p3 : Int32) (fB lB : Nat) (CB : Int32 → Int32 → (Nat → Int32) → (Nat → Int32) → Int32 → Int32 → Int32 → (Nat → Int32) → (Nat → Int32) → (Nat → Int32) → (Nat → Int32) → Int32 → Int32 → Option (Int32 × (Nat → Int32) × (Nat → Int32))) (hCB : ∀ (q1 q2 : Int32) (wsB wsO : Nat → Int32) (qr : Int32) (usB usO : Nat → Int32), CB q1 q2 wsB wsO sh sw sr bK bZ bL bM bi bg = some (qr, usB, usO) → MI l yS_costBehind wS_costBehind { frames := fB, cells := 0, slots := 0, locals := lB } (dC, dI) (tyl cI cZ cB) [Value.ref s0, Value.int q1, Value.int q2] (wdS cI cZ cB s0 s1 s2 b0 b1 b2 b3 b4 wsB wsO sh sw sr bK bZ bL bM bi bg bh) (wdS cI cZ cB s0 s1 s2 b0 b1 b2 b3 b4 usB usO sh sw sr bK bZ bL bM bi bg bh) qr) (r : Int32) (sB' : Nat → Int32) (sO' : Nat → Int32) (hf : fS_costFrom CB p1 p2 p3 sB sO sh sw sr bK bZ bL bM bi bg = some (r, sB', sO')) : MI l yS_costFrom wS_costFrom (rS_costFrom fB lB) (dC, dI) (tyl cI cZ cB) [Value.ref s0, Value.int p1, Value.int p2, Value.int p3] (wdS cI cZ cB s0 s1 s2 b0 b1 b2 b3 b4 sB sO sh sw sr bK bZ bL bM bi bg bh) (wdS cI cZ cB s0 s1 s2 b0 b1 b2 b3 b4 sB' sO' sh sw sr bK bZ bL bM bi bg bh) r := by
  refine MI_of "StepColumns$Scale" rfl (by decide) (Nat.le_of_ble_eq_true rfl) ?_
  intro p e s m below meth c A Q C hQ
  have hb_27 : ∀ (n : Nat) (v1 v2 v3 v5 v6 : Int32) (sB sO : Nat → Int32), fS_costFrom_b27 CB n v1 v2 v3 v5 v6 sB sO sh sw sr bK bZ bL bM bi bg = some (r, sB', sO') → SJ p l e (rS_costFrom fB lB) s m (List.toArray [Value.ref s0, Value.int p1, Value.int p2, Value.int p3]) below meth c A (dC, dI) 7 Q (wdS cI cZ cB s0 s1 s2 b0 b1 b2 b3 b4 sB sO sh sw sr bK bZ bL bM bi bg bh) [(0, .ref s0), (1, .int v1), (2, .int v2), (3, .int v3), (5, .int v5), (6, .int v6)] 27 [] := by
    intro n
    induction n with
    | zero => intro v1 v2 v3 v5 v6 sB sO hf; cases hf
    | succ n IH =>
      intro v1 v2 v3 v5 v6 sB sO hf
      unfold fS_costFrom_b27 at hf
      refine sj_iload C dS_costFrom_27 5 rfl ?_
      refine sj_iload_n C dS_costFrom_29 2 rfl rfl ?_
      refine sj_iconst C dS_costFrom_30 ki_2 ?_
      refine sj_iadd C dS_costFrom_31 ?_
      refine sj_icmp_lt C 57 dS_costFrom_32 (by decide) (fun c_32 => ?_) (fun c_32 => ?_)
      · have hf := (if_pos c_32).symm.trans hf
        refine sj_iload C dS_costFrom_57 4 rfl ?_
        cases hf
        exact hQ 59 _ dS_costFrom_59
      · have hf := (if_neg c_32).symm.trans hf
        refine sj_iload C dS_costFrom_35 4 rfl ?_
        refine sj_aload_n C dS_costFrom_37 0 rfl rfl ?_
        refine sj_iload_n C dS_costFrom_38 1 rfl rfl ?_
        refine sj_iload_n C dS_costFrom_39 2 rfl rfl ?_
        refine sj_iload_n C dS_costFrom_40 3 rfl rfl ?_
        refine sj_iload C dS_costFrom_41 5 rfl ?_
        obtain ⟨r_43, sB_43, sO_43, hq_43, hf⟩ := bd3_some hf
        refine sj_callVi (w1 := (wdS cI cZ cB s0 s1 s2 b0 b1 b2 b3 b4 sB_43 sO_43 sh sw sr bK bZ bL bM bi bg bh)) (q0 := 0) C "StepColumns$Scale" (cS_costUpTo l dC dI cI cZ cB s0 s1 s2 b0 b1 b2 b3 b4 sB sO sh sw sr bK bZ bL bM bi bg bh v1 v2 v3 v6 fB lB CB hCB r_43 sB_43 sO_43 hq_43) wd_278 wd_280 wd_5 wd_37 wd_281 hS_costUpTo rfl rfl ⟨by show fB + 2 + 1 ≤ fB + 4; omega, by show 8 + (8 + 11) + (lB + 40) ≤ lB + 80; omega⟩ [0, 1, 2, 3, 4, 5, 6, 7] [] ⟨rfl, rfl, rfl, rfl, rfl, rfl, kv_8_0_1_2_3_4_5_6_7⟩ rfl rfl rfl rfl rfl (Nat.le_of_ble_eq_true rfl) dS_costFrom_43 ?_
        refine sj_mmin C wd_302 wd_303 wd_41 wd_304 (by show 1 ≤ fB + 4; omega) (by show 0 + 13 ≤ lB + 80; omega) dS_costFrom_46 ?_
        refine sj_istore (lv' := [(5, .int (if r_43 < v5 then r_43 else v5)), (0, .ref s0), (1, .int v1), (2, .int v2), (3, .int v3), (6, .int v6)]) C dS_costFrom_49 (by decide) rfl ?_
        refine sj_iinc (v := (v6 + (-1))) (lv' := [(6, .int (v6 + (-1))), (5, .int (if r_43 < v5 then r_43 else v5)), (0, .ref s0), (1, .int v1), (2, .int v2), (3, .int v3)]) C dS_costFrom_51 5 rfl (by rw [ki_m1]) (by decide) rfl ?_
        refine sj_goto C 27 dS_costFrom_54 (by decide) ?_
        exact sj_lv [2, 3, 4, 5, 1, 0] rfl (IH v1 v2 v3 (if r_43 < v5 then r_43 else v5) (v6 + (-1)) sB_43 sO_43 hf)
  unfold fS_costFrom at hf
  change SJ p l e (rS_costFrom fB lB) s m (List.toArray [Value.ref s0, Value.int p1, Value.int p2, Value.int p3]) below meth c A (dC, dI) 7 Q (wdS cI cZ cB s0 s1 s2 b0 b1 b2 b3 b4 sB sO sh sw sr bK bZ bL bM bi bg bh) [(0, .ref s0), (1, .int p1), (2, .int p2), (3, .int p3)] 0 []
  refine sj_aload_n C dS_costFrom_0 0 rfl rfl ?_
  refine sj_get C nS_in 0 rfl rfl 0 (by decide) wd_100 rfl rfl dS_costFrom_1 ?_
  refine sj_iload_n C dS_costFrom_4 1 rfl rfl ?_
  obtain ⟨r_5, hq_5, hf⟩ := bd1_some hf
  refine sj_callVi (w1 := (wdS cI cZ cB s0 s1 s2 b0 b1 b2 b3 b4 sB sO sh sw sr bK bZ bL bM bi bg bh)) (q0 := 0) C "StepColumns$Book" (cB_thingsOf l dC dI cI cZ cB b0 b1 b2 b3 b4 bK bZ bL bM bi bg bh p1 r_5 hq_5) wd_265 wd_266 wd_267 wd_36 wd_268 hB_thingsOf rfl rfl ⟨by show 0 + 1 ≤ fB + 4; omega, by show 8 + (2 + 11) + (0) ≤ lB + 80; omega⟩ [3, 4, 5, 6, 7] [0, 1, 2] ⟨rfl, rfl, rfl, rfl, rfl, rfl, kv_8_3_4_5_6_7⟩ rfl rfl rfl rfl rfl (Nat.le_of_ble_eq_true rfl) dS_costFrom_5 ?_
  refine sj_istore (lv' := [(4, .int r_5), (0, .ref s0), (1, .int p1), (2, .int p2), (3, .int p3)]) C dS_costFrom_8 (by decide) rfl ?_
  refine sj_aload_n C dS_costFrom_10 1 rfl rfl ?_
  refine sj_iload_n C dS_costFrom_11 2 rfl rfl ?_
  refine sj_iload_n C dS_costFrom_12 3 rfl rfl ?_
  refine sj_iload_n C dS_costFrom_13 4 rfl rfl ?_
  refine sj_iload C dS_costFrom_14 0 rfl ?_
  obtain ⟨r_16, sB_16, sO_16, hq_16, hf⟩ := bd3_some hf
  refine sj_callVi (w1 := (wdS cI cZ cB s0 s1 s2 b0 b1 b2 b3 b4 sB_16 sO_16 sh sw sr bK bZ bL bM bi bg bh)) (q0 := 0) C "StepColumns$Scale" (cS_costUpTo l dC dI cI cZ cB s0 s1 s2 b0 b1 b2 b3 b4 sB sO sh sw sr bK bZ bL bM bi bg bh p1 p2 p3 r_5 fB lB CB hCB r_16 sB_16 sO_16 hq_16) wd_278 wd_280 wd_5 wd_37 wd_281 hS_costUpTo rfl rfl ⟨by show fB + 2 + 1 ≤ fB + 4; omega, by show 8 + (8 + 11) + (lB + 40) ≤ lB + 80; omega⟩ [0, 1, 2, 3, 4, 5, 6, 7] [] ⟨rfl, rfl, rfl, rfl, rfl, rfl, kv_8_0_1_2_3_4_5_6_7⟩ rfl rfl rfl rfl rfl (Nat.le_of_ble_eq_true rfl) dS_costFrom_16 ?_
  refine sj_istore (lv' := [(5, .int r_16), (4, .int r_5), (0, .ref s0), (1, .int p1), (2, .int p2), (3, .int p3)]) C dS_costFrom_19 (by decide) rfl ?_
  refine sj_iload C dS_costFrom_21 1 rfl ?_
  refine sj_iconst C dS_costFrom_23 ki_2 ?_
  refine sj_isub C dS_costFrom_24 ?_
  refine sj_istore (lv' := [(6, .int (r_5 - 2)), (5, .int r_16), (4, .int r_5), (0, .ref s0), (1, .int p1), (2, .int p2), (3, .int p3)]) C dS_costFrom_25 (by decide) rfl ?_
  exact sj_lv [3, 4, 5, 6, 1, 0] rfl (hb_27 fu p1 p2 p3 r_16 (r_5 - 2) sB_16 sO_16 hf)
abbrev rS_weighOnTop (fB lB : Nat) : Room := { frames := fB + 6, cells := 0, slots := 0, locals := lB + 120 }
set_option maxHeartbeats 4000000 in
set_option maxRecDepth 100000 in
theorem cS_weighOnTop (l : Launch) (dC : Nat → ClassId) (dI : Nat → Nat → Nat) (cI cZ cB : ClassId) (s0 s1 s2 b0 b1 b2 b3 b4 : Nat) (sB sO : Nat → Int32) (sh sw sr : Int32) (bK bZ bL bM : Nat → Int32) (bi bg bh : Int32) (p1 : Int32) (fB lB : Nat) (CB : Int32 → Int32 → (Nat → Int32) → (Nat → Int32) → Int32 → Int32 → Int32 → (Nat → Int32) → (Nat → Int32) → (Nat → Int32) → (Nat → Int32) → Int32 → Int32 → Option (Int32 × (Nat → Int32) × (Nat → Int32))) (hCB : ∀ (q1 q2 : Int32) (wsB wsO : Nat → Int32) (qr : Int32) (usB usO : Nat → Int32), CB q1 q2 wsB wsO sh sw sr bK bZ bL bM bi bg = some (qr, usB, usO) → MI l yS_costBehind wS_costBehind { frames := fB, cells := 0, slots := 0, locals := lB } (dC, dI) (tyl cI cZ cB) [Value.ref s0, Value.int q1, Value.int q2] (wdS cI cZ cB s0 s1 s2 b0 b1 b2 b3 b4 wsB wsO sh sw sr bK bZ bL bM bi bg bh) (wdS cI cZ cB s0 s1 s2 b0 b1 b2 b3 b4 usB usO sh sw sr bK bZ bL bM bi bg bh) qr) (sB' : Nat → Int32) (sO' : Nat → Int32) (hf : fS_weighOnTop CB p1 sB sO sh sw sr bK bZ bL bM bi bg = some (sB', sO')) : MV l yS_weighOnTop wS_weighOnTop (rS_weighOnTop fB lB) (dC, dI) (tyl cI cZ cB) [Value.ref s0, Value.int p1] (wdS cI cZ cB s0 s1 s2 b0 b1 b2 b3 b4 sB sO sh sw sr bK bZ bL bM bi bg bh) (wdS cI cZ cB s0 s1 s2 b0 b1 b2 b3 b4 sB' sO' sh sw sr bK bZ bL bM bi bg bh) := by
  refine MV_of "StepColumns$Scale" rfl (by decide) (Nat.le_of_ble_eq_true rfl) ?_
  intro p e s m below meth c A Q C hQ
  have hb_29 : ∀ (n : Nat) (v1 v2 : Int32) (sB sO : Nat → Int32), fS_weighOnTop_b29 CB n v1 v2 sB sO sh sw sr bK bZ bL bM bi bg = some (sB', sO') → SJ p l e (rS_weighOnTop fB lB) s m (List.toArray [Value.ref s0, Value.int p1]) below meth c A (dC, dI) 3 Q (wdS cI cZ cB s0 s1 s2 b0 b1 b2 b3 b4 sB sO sh sw sr bK bZ bL bM bi bg bh) [(0, .ref s0), (1, .int v1), (2, .int v2)] 29 [] := by
    intro n
    induction n with
    | zero => intro v1 v2 sB sO hf; cases hf
    | succ n IH =>
      intro v1 v2 sB sO hf
      unfold fS_weighOnTop_b29 at hf
      refine sj_iload_n C dS_weighOnTop_29 2 rfl rfl ?_
      refine sj_if_lt C 65 dS_weighOnTop_30 (by decide) (fun c_30 => ?_) (fun c_30 => ?_)
      · have hf := (if_pos c_30).symm.trans hf
        cases hf
        exact hQ 65 _ dS_weighOnTop_65
      · have hf := (if_neg c_30).symm.trans hf
        refine sj_aload_n C dS_weighOnTop_33 0 rfl rfl ?_
        refine sj_get C nS_in 0 rfl rfl 2 (by decide) wd_102 rfl rfl dS_weighOnTop_34 ?_
        refine sj_iload_n C dS_weighOnTop_37 1 rfl rfl ?_
        refine sj_bipush C dS_weighOnTop_38 kb_12 ?_
        refine sj_imul C dS_weighOnTop_40 ?_
        refine sj_iload_n C dS_weighOnTop_41 2 rfl rfl ?_
        refine sj_iadd C dS_weighOnTop_42 ?_
        refine sj_ldc C wd_272 dS_weighOnTop_43 ?_
        refine sj_ldc C wd_273 dS_weighOnTop_45 ?_
        refine sj_aload_n C dS_weighOnTop_47 0 rfl rfl ?_
        refine sj_iload_n C dS_weighOnTop_48 1 rfl rfl ?_
        refine sj_iload_n C dS_weighOnTop_49 2 rfl rfl ?_
        refine sj_iconst C dS_weighOnTop_50 ki_0 ?_
        obtain ⟨r_51, sB_51, sO_51, hq_51, hf⟩ := bd3_some hf
        refine sj_callVi (w1 := (wdS cI cZ cB s0 s1 s2 b0 b1 b2 b3 b4 sB_51 sO_51 sh sw sr bK bZ bL bM bi bg bh)) (q0 := 0) C "StepColumns$Scale" (cS_costFrom l dC dI cI cZ cB s0 s1 s2 b0 b1 b2 b3 b4 sB sO sh sw sr bK bZ bL bM bi bg bh v1 v2 0 fB lB CB hCB r_51 sB_51 sO_51 hq_51) wd_274 wd_276 wd_4 wd_37 wd_277 hS_costFrom rfl rfl ⟨by show fB + 4 + 1 ≤ fB + 6; omega, by show 8 + (7 + 11) + (lB + 80) ≤ lB + 120; omega⟩ [0, 1, 2, 3, 4, 5, 6, 7] [] ⟨rfl, rfl, rfl, rfl, rfl, rfl, kv_8_0_1_2_3_4_5_6_7⟩ rfl rfl rfl rfl rfl (Nat.le_of_ble_eq_true rfl) dS_weighOnTop_51 ?_
        refine sj_iadd C dS_weighOnTop_54 ?_
        refine sj_mmin C wd_302 wd_303 wd_41 wd_304 (by show 1 ≤ fB + 6; omega) (by show 2 + 13 ≤ lB + 120; omega) dS_weighOnTop_55 ?_
        obtain ⟨h_58, hf⟩ := in_some hf
        refine sj_iast (w' := (wdS cI cZ cB s0 s1 s2 b0 b1 b2 b3 b4 sB_51 ((upd sO_51 ((v1 * 12) + v2).toNatClampNeg (if (1048576 + r_51) < 268435456 then (1048576 + r_51) else 268435456))) sh sw sr bK bZ bL bM bi bg bh)) C 2 0 rfl rfl h_58 rfl dS_weighOnTop_58 rfl ?_
        refine sj_iinc (v := (v2 + (-1))) (lv' := [(2, .int (v2 + (-1))), (0, .ref s0), (1, .int v1)]) C dS_weighOnTop_59 2 rfl (by rw [ki_m1]) (by decide) rfl ?_
        refine sj_goto C 29 dS_weighOnTop_62 (by decide) ?_
        exact sj_lv [1, 2, 0] rfl (IH v1 (v2 + (-1)) sB_51 (upd sO_51 ((v1 * 12) + v2).toNatClampNeg (if (1048576 + r_51) < 268435456 then (1048576 + r_51) else 268435456)) hf)
  unfold fS_weighOnTop at hf
  change SJ p l e (rS_weighOnTop fB lB) s m (List.toArray [Value.ref s0, Value.int p1]) below meth c A (dC, dI) 3 Q (wdS cI cZ cB s0 s1 s2 b0 b1 b2 b3 b4 sB sO sh sw sr bK bZ bL bM bi bg bh) [(0, .ref s0), (1, .int p1)] 0 []
  refine sj_aload_n C dS_weighOnTop_0 0 rfl rfl ?_
  refine sj_get C nS_in 0 rfl rfl 2 (by decide) wd_102 rfl rfl dS_weighOnTop_1 ?_
  refine sj_iload_n C dS_weighOnTop_4 1 rfl rfl ?_
  refine sj_bipush C dS_weighOnTop_5 kb_12 ?_
  refine sj_imul C dS_weighOnTop_7 ?_
  obtain ⟨h_8, hf⟩ := in_some hf
  refine sj_iald C 2 0 rfl rfl h_8 rfl dS_weighOnTop_8 ?_
  refine sj_iconst C dS_weighOnTop_9 ki_m1 ?_
  refine sj_icmp_eq C 14 dS_weighOnTop_10 (by decide) (fun c_10 => ?_) (fun c_10 => ?_)
  · have hf := (if_pos c_10).symm.trans hf
    refine sj_iconst C dS_weighOnTop_14 ki_0 ?_
    refine sj_aload_n C dS_weighOnTop_15 0 rfl rfl ?_
    refine sj_get C nS_in 0 rfl rfl 0 (by decide) wd_100 rfl rfl dS_weighOnTop_16 ?_
    refine sj_iload_n C dS_weighOnTop_19 1 rfl rfl ?_
    obtain ⟨r_20, hq_20, hf⟩ := bd1_some hf
    refine sj_callVi (w1 := (wdS cI cZ cB s0 s1 s2 b0 b1 b2 b3 b4 sB sO sh sw sr bK bZ bL bM bi bg bh)) (q0 := 0) C "StepColumns$Book" (cB_thingsOf l dC dI cI cZ cB b0 b1 b2 b3 b4 bK bZ bL bM bi bg bh p1 r_20 hq_20) wd_265 wd_266 wd_267 wd_36 wd_268 hB_thingsOf rfl rfl ⟨by show 0 + 1 ≤ fB + 6; omega, by show 8 + (2 + 11) + (0) ≤ lB + 120; omega⟩ [3, 4, 5, 6, 7] [0, 1, 2] ⟨rfl, rfl, rfl, rfl, rfl, rfl, kv_8_3_4_5_6_7⟩ rfl rfl rfl rfl rfl (Nat.le_of_ble_eq_true rfl) dS_weighOnTop_20 ?_
    refine sj_iconst C dS_weighOnTop_23 ki_2 ?_
    refine sj_isub C dS_weighOnTop_24 ?_
    refine sj_mmax C wd_269 wd_270 wd_41 wd_271 (by show 1 ≤ fB + 6; omega) (by show 0 + 13 ≤ lB + 120; omega) dS_weighOnTop_25 ?_
    refine sj_istore_n (lv' := [(2, .int (if 0 < (r_20 - 2) then (r_20 - 2) else 0)), (0, .ref s0), (1, .int p1)]) C dS_weighOnTop_28 rfl (by decide) rfl ?_
    exact sj_lv [1, 2, 0] rfl (hb_29 fu p1 (if 0 < (r_20 - 2) then (r_20 - 2) else 0) sB sO hf)
  · have hf := (if_neg c_10).symm.trans hf
    cases hf
    exact hQ 13 _ dS_weighOnTop_13
abbrev rS_mostRoom : Room := { frames := 1, cells := 0, slots := 0, locals := 21 }
set_option maxHeartbeats 4000000 in
set_option maxRecDepth 100000 in
theorem cS_mostRoom (l : Launch) (dC : Nat → ClassId) (dI : Nat → Nat → Nat) (cI cZ cB : ClassId) (s0 s1 s2 b0 b1 b2 b3 b4 : Nat) (sB sO : Nat → Int32) (sh sw sr : Int32) (bK bZ bL bM : Nat → Int32) (bi bg bh : Int32) (p1 p2 : Int32) (r : Int32)  (hf : fS_mostRoom p1 p2 sh sw sr bK bZ bL bM bg = some r) : MI l yS_mostRoom wS_mostRoom rS_mostRoom (dC, dI) (tyl cI cZ cB) [Value.ref s0, Value.int p1, Value.int p2] (wdS cI cZ cB s0 s1 s2 b0 b1 b2 b3 b4 sB sO sh sw sr bK bZ bL bM bi bg bh) (wdS cI cZ cB s0 s1 s2 b0 b1 b2 b3 b4 sB sO sh sw sr bK bZ bL bM bi bg bh) r := by
  refine MI_of "StepColumns$Scale" rfl (by decide) (Nat.le_of_ble_eq_true rfl) ?_
  intro p e s m below meth c A Q C hQ
  have hb_40 : ∀ (v1 v2 v3 : Int32), fS_mostRoom_b40 v1 v2 v3 sh sw sr bK bZ bL bM bg = some r → SJ p l e rS_mostRoom s m (List.toArray [Value.ref s0, Value.int p1, Value.int p2]) below meth c A (dC, dI) 4 Q (wdS cI cZ cB s0 s1 s2 b0 b1 b2 b3 b4 sB sO sh sw sr bK bZ bL bM bi bg bh) [(0, .ref s0), (1, .int v1), (2, .int v2), (3, .int v3)] 40 [] := by
    intro v1 v2 v3 hf
    unfold fS_mostRoom_b40 at hf
    refine sj_iload_n C dS_mostRoom_40 3 rfl rfl ?_
    refine sj_aload_n C dS_mostRoom_41 0 rfl rfl ?_
    refine sj_get C nS_in 0 rfl rfl 3 (by decide) wd_103 rfl rfl dS_mostRoom_42 ?_
    refine sj_aload_n C dS_mostRoom_45 0 rfl rfl ?_
    refine sj_get C nS_in 0 rfl rfl 0 (by decide) wd_100 rfl rfl dS_mostRoom_46 ?_
    refine sj_iload_n C dS_mostRoom_49 1 rfl rfl ?_
    obtain ⟨r_50, hq_50, hf⟩ := bd1_some hf
    refine sj_callVi (w1 := (wdS cI cZ cB s0 s1 s2 b0 b1 b2 b3 b4 sB sO sh sw sr bK bZ bL bM bi bg bh)) (q0 := 0) C "StepColumns$Book" (cB_tall l dC dI cI cZ cB b0 b1 b2 b3 b4 bK bZ bL bM bi bg bh v1 r_50 hq_50) wd_282 wd_283 wd_284 wd_36 wd_285 hB_tall rfl rfl ⟨Nat.le_of_ble_eq_true rfl, Nat.le_of_ble_eq_true rfl⟩ [3, 4, 5, 6, 7] [0, 1, 2] ⟨rfl, rfl, rfl, rfl, rfl, rfl, kv_8_3_4_5_6_7⟩ rfl rfl rfl rfl rfl (Nat.le_of_ble_eq_true rfl) dS_mostRoom_50 ?_
    refine sj_isub C dS_mostRoom_53 ?_
    refine sj_iload_n C dS_mostRoom_54 2 rfl rfl ?_
    refine sj_isub C dS_mostRoom_55 ?_
    refine sj_mmin C wd_302 wd_303 wd_41 wd_304 (Nat.le_of_ble_eq_true rfl) (Nat.le_of_ble_eq_true rfl) dS_mostRoom_56 ?_
    cases hf
    exact hQ 59 _ dS_mostRoom_59
  have hb_22 : ∀ (v1 v2 t0 : Int32), fS_mostRoom_b22 v1 v2 t0 sh sw sr bK bZ bL bM bg = some r → SJ p l e rS_mostRoom s m (List.toArray [Value.ref s0, Value.int p1, Value.int p2]) below meth c A (dC, dI) 4 Q (wdS cI cZ cB s0 s1 s2 b0 b1 b2 b3 b4 sB sO sh sw sr bK bZ bL bM bi bg bh) [(0, .ref s0), (1, .int v1), (2, .int v2)] 22 [.int t0] := by
    intro v1 v2 t0 hf
    unfold fS_mostRoom_b22 at hf
    refine sj_istore_n (lv' := [(3, .int t0), (0, .ref s0), (1, .int v1), (2, .int v2)]) C dS_mostRoom_22 rfl (by decide) rfl ?_
    refine sj_aload_n C dS_mostRoom_23 1 rfl rfl ?_
    refine sj_get C nS_in 0 rfl rfl 5 (by decide) wd_105 rfl rfl dS_mostRoom_24 ?_
    refine sj_if_eq C 40 dS_mostRoom_27 (by decide) (fun c_27 => ?_) (fun c_27 => ?_)
    · have hf := (if_pos c_27).symm.trans hf
      exact sj_lv [1, 2, 3, 0] rfl (hb_40 v1 v2 t0 hf)
    · have hf := (if_neg c_27).symm.trans hf
      refine sj_aload_n C dS_mostRoom_30 1 rfl rfl ?_
      refine sj_get C nS_in 0 rfl rfl 0 (by decide) wd_100 rfl rfl dS_mostRoom_31 ?_
      refine sj_get C nB_in 3 rfl rfl 2 (by decide) wd_63 rfl rfl dS_mostRoom_34 ?_
      refine sj_iload_n C dS_mostRoom_37 2 rfl rfl ?_
      obtain ⟨h_38, hf⟩ := in_some hf
      refine sj_iald C 6 0 rfl rfl h_38 rfl dS_mostRoom_38 ?_
      refine sj_istore_n (lv' := [(3, .int (bL v1.toNatClampNeg)), (0, .ref s0), (1, .int v1), (2, .int v2)]) C dS_mostRoom_39 rfl (by decide) rfl ?_
      exact sj_lv [1, 2, 3, 0] rfl (hb_40 v1 v2 (bL v1.toNatClampNeg) hf)
  unfold fS_mostRoom at hf
  change SJ p l e rS_mostRoom s m (List.toArray [Value.ref s0, Value.int p1, Value.int p2]) below meth c A (dC, dI) 4 Q (wdS cI cZ cB s0 s1 s2 b0 b1 b2 b3 b4 sB sO sh sw sr bK bZ bL bM bi bg bh) [(0, .ref s0), (1, .int p1), (2, .int p2)] 0 []
  refine sj_iload_n C dS_mostRoom_0 1 rfl rfl ?_
  refine sj_aload_n C dS_mostRoom_1 0 rfl rfl ?_
  refine sj_get C nS_in 0 rfl rfl 4 (by decide) wd_104 rfl rfl dS_mostRoom_2 ?_
  refine sj_icmp_ne C 13 dS_mostRoom_5 (by decide) (fun c_5 => ?_) (fun c_5 => ?_)
  · have hf := (if_neg c_5).symm.trans hf
    refine sj_aload_n C dS_mostRoom_13 0 rfl rfl ?_
    refine sj_get C nS_in 0 rfl rfl 0 (by decide) wd_100 rfl rfl dS_mostRoom_14 ?_
    refine sj_get C nB_in 3 rfl rfl 3 (by decide) wd_66 rfl rfl dS_mostRoom_17 ?_
    refine sj_iload_n C dS_mostRoom_20 1 rfl rfl ?_
    obtain ⟨h_21, hf⟩ := in_some hf
    refine sj_iald C 7 0 rfl rfl h_21 rfl dS_mostRoom_21 ?_
    exact sj_lv [0, 1, 2] rfl (hb_22 p1 p2 (bM p1.toNatClampNeg) hf)
  · have hf := (if_pos c_5).symm.trans hf
    refine sj_bipush C dS_mostRoom_8 kb_30 ?_
    refine sj_goto C 22 dS_mostRoom_10 (by decide) ?_
    exact sj_lv [0, 1, 2] rfl (hb_22 p1 p2 30 hf)
abbrev rS_costWithin (fB lB : Nat) : Room := { frames := fB + 6, cells := 0, slots := 0, locals := lB + 120 }
set_option maxHeartbeats 4000000 in
set_option maxRecDepth 100000 in
theorem cS_costWithin (l : Launch) (dC : Nat → ClassId) (dI : Nat → Nat → Nat) (cI cZ cB : ClassId) (s0 s1 s2 b0 b1 b2 b3 b4 : Nat) (sB sO : Nat → Int32) (sh sw sr : Int32) (bK bZ bL bM : Nat → Int32) (bi bg bh : Int32) (p1 p2 : Int32) (fB lB : Nat) (CB : Int32 → Int32 → (Nat → Int32) → (Nat → Int32) → Int32 → Int32 → Int32 → (Nat → Int32) → (Nat → Int32) → (Nat → Int32) → (Nat → Int32) → Int32 → Int32 → Option (Int32 × (Nat → Int32) × (Nat → Int32))) (hCB : ∀ (q1 q2 : Int32) (wsB wsO : Nat → Int32) (qr : Int32) (usB usO : Nat → Int32), CB q1 q2 wsB wsO sh sw sr bK bZ bL bM bi bg = some (qr, usB, usO) → MI l yS_costBehind wS_costBehind { frames := fB, cells := 0, slots := 0, locals := lB } (dC, dI) (tyl cI cZ cB) [Value.ref s0, Value.int q1, Value.int q2] (wdS cI cZ cB s0 s1 s2 b0 b1 b2 b3 b4 wsB wsO sh sw sr bK bZ bL bM bi bg bh) (wdS cI cZ cB s0 s1 s2 b0 b1 b2 b3 b4 usB usO sh sw sr bK bZ bL bM bi bg bh) qr) (r : Int32) (sB' : Nat → Int32) (sO' : Nat → Int32) (hf : fS_costWithin CB p1 p2 sB sO sh sw sr bK bZ bL bM bi bg = some (r, sB', sO')) : MI l yS_costWithin wS_costWithin (rS_costWithin fB lB) (dC, dI) (tyl cI cZ cB) [Value.ref s0, Value.int p1, Value.int p2] (wdS cI cZ cB s0 s1 s2 b0 b1 b2 b3 b4 sB sO sh sw sr bK bZ bL bM bi bg bh) (wdS cI cZ cB s0 s1 s2 b0 b1 b2 b3 b4 sB' sO' sh sw sr bK bZ bL bM bi bg bh) r := by
  refine MI_of "StepColumns$Scale" rfl (by decide) (Nat.le_of_ble_eq_true rfl) ?_
  intro p e s m below meth c A Q C hQ
  have hb_55 : ∀ (n : Nat) (v1 v3 v4 v5 v6 : Int32) (sB sO : Nat → Int32), fS_costWithin_b55 CB n v1 v3 v4 v5 v6 sB sO sh sw sr bK bZ bL bM bi bg = some (r, sB', sO') → SJ p l e (rS_costWithin fB lB) s m (List.toArray [Value.ref s0, Value.int p1, Value.int p2]) below meth c A (dC, dI) 7 Q (wdS cI cZ cB s0 s1 s2 b0 b1 b2 b3 b4 sB sO sh sw sr bK bZ bL bM bi bg bh) [(0, .ref s0), (1, .int v1), (3, .int v3), (4, .int v4), (5, .int v5), (6, .int v6)] 55 [] := by
    intro n
    induction n with
    | zero => intro v1 v3 v4 v5 v6 sB sO hf; cases hf
    | succ n IH =>
      intro v1 v3 v4 v5 v6 sB sO hf
      unfold fS_costWithin_b55 at hf
      refine sj_iload C dS_costWithin_55 5 rfl ?_
      refine sj_iload C dS_costWithin_57 3 rfl ?_
      refine sj_icmp_gt C 88 dS_costWithin_59 (by decide) (fun c_59 => ?_) (fun c_59 => ?_)
      · have hf := (if_pos c_59).symm.trans hf
        refine sj_iload_n C dS_costWithin_88 2 rfl rfl ?_
        cases hf
        exact hQ 89 _ dS_costWithin_89
      · have hf := (if_neg c_59).symm.trans hf
        refine sj_iload_n C dS_costWithin_62 2 rfl rfl ?_
        refine sj_iload C dS_costWithin_63 5 rfl ?_
        refine sj_aload_n C dS_costWithin_65 0 rfl rfl ?_
        refine sj_iload_n C dS_costWithin_66 1 rfl rfl ?_
        refine sj_iconst C dS_costWithin_67 ki_1 ?_
        refine sj_iadd C dS_costWithin_68 ?_
        refine sj_iload C dS_costWithin_69 4 rfl ?_
        refine sj_iload C dS_costWithin_71 5 rfl ?_
        refine sj_iadd C dS_costWithin_73 ?_
        obtain ⟨r_74, sB_74, sO_74, hq_74, hf⟩ := bd3_some hf
        refine sj_callVi (w1 := (wdS cI cZ cB s0 s1 s2 b0 b1 b2 b3 b4 sB_74 sO_74 sh sw sr bK bZ bL bM bi bg bh)) (q0 := 0) C "StepColumns$Scale" (hCB (v1 + 1) (v5 + v6) sB sO r_74 sB_74 sO_74 hq_74) wd_290 wd_292 wd_6 wd_37 wd_293 hS_costBehind rfl rfl ⟨by show fB + 1 ≤ fB + 6; omega, by show 8 + (5 + 11) + (lB) ≤ lB + 120; omega⟩ [0, 1, 2, 3, 4, 5, 6, 7] [] ⟨rfl, rfl, rfl, rfl, rfl, rfl, kv_8_0_1_2_3_4_5_6_7⟩ rfl rfl rfl rfl rfl (Nat.le_of_ble_eq_true rfl) dS_costWithin_74 ?_
        refine sj_iadd C dS_costWithin_77 ?_
        refine sj_mmin C wd_302 wd_303 wd_41 wd_304 (by show 1 ≤ fB + 6; omega) (by show 0 + 13 ≤ lB + 120; omega) dS_costWithin_78 ?_
        refine sj_istore_n (lv' := [(3, .int (if (v6 + r_74) < v3 then (v6 + r_74) else v3)), (0, .ref s0), (1, .int v1), (4, .int v4), (5, .int v5), (6, .int v6)]) C dS_costWithin_81 rfl (by decide) rfl ?_
        refine sj_iinc (v := (v6 + 1)) (lv' := [(6, .int (v6 + 1)), (3, .int (if (v6 + r_74) < v3 then (v6 + r_74) else v3)), (0, .ref s0), (1, .int v1), (4, .int v4), (5, .int v5)]) C dS_costWithin_82 5 rfl (by rw [ki_1]) (by decide) rfl ?_
        refine sj_goto C 55 dS_costWithin_85 (by decide) ?_
        exact sj_lv [2, 3, 1, 4, 5, 0] rfl (IH v1 (if (v6 + r_74) < v3 then (v6 + r_74) else v3) v4 v5 (v6 + 1) sB_74 sO_74 hf)
  unfold fS_costWithin at hf
  change SJ p l e (rS_costWithin fB lB) s m (List.toArray [Value.ref s0, Value.int p1, Value.int p2]) below meth c A (dC, dI) 7 Q (wdS cI cZ cB s0 s1 s2 b0 b1 b2 b3 b4 sB sO sh sw sr bK bZ bL bM bi bg bh) [(0, .ref s0), (1, .int p1), (2, .int p2)] 0 []
  refine sj_aload_n C dS_costWithin_0 0 rfl rfl ?_
  refine sj_get C nS_in 0 rfl rfl 0 (by decide) wd_100 rfl rfl dS_costWithin_1 ?_
  refine sj_get C nB_in 3 rfl rfl 0 (by decide) wd_57 rfl rfl dS_costWithin_4 ?_
  refine sj_iload_n C dS_costWithin_7 1 rfl rfl ?_
  obtain ⟨h_8, hf⟩ := in_some hf
  refine sj_iald C 4 0 rfl rfl h_8 rfl dS_costWithin_8 ?_
  refine sj_if_ne C 20 dS_costWithin_9 (by decide) (fun c_9 => ?_) (fun c_9 => ?_)
  · have hf := (if_neg c_9).symm.trans hf
    refine sj_ldc C wd_272 dS_costWithin_20 ?_
    refine sj_istore_n (lv' := [(3, .int 268435456), (0, .ref s0), (1, .int p1), (2, .int p2)]) C dS_costWithin_22 rfl (by decide) rfl ?_
    refine sj_aload_n C dS_costWithin_23 1 rfl rfl ?_
    refine sj_iload_n C dS_costWithin_24 2 rfl rfl ?_
    refine sj_iload_n C dS_costWithin_25 3 rfl rfl ?_
    obtain ⟨r_26, hq_26, hf⟩ := bd1_some hf
    refine sj_callVi (w1 := (wdS cI cZ cB s0 s1 s2 b0 b1 b2 b3 b4 sB sO sh sw sr bK bZ bL bM bi bg bh)) (q0 := 0) C "StepColumns$Scale" (cS_mostRoom l dC dI cI cZ cB s0 s1 s2 b0 b1 b2 b3 b4 sB sO sh sw sr bK bZ bL bM bi bg bh p1 p2 r_26 hq_26) wd_298 wd_300 wd_8 wd_37 wd_301 hS_mostRoom rfl rfl ⟨by show 1 + 1 ≤ fB + 6; omega, by show 8 + (4 + 11) + (21) ≤ lB + 120; omega⟩ [0, 1, 2, 3, 4, 5, 6, 7] [] ⟨rfl, rfl, rfl, rfl, rfl, rfl, kv_8_0_1_2_3_4_5_6_7⟩ rfl rfl rfl rfl rfl (Nat.le_of_ble_eq_true rfl) dS_costWithin_26 ?_
    refine sj_istore (lv' := [(4, .int r_26), (3, .int 268435456), (0, .ref s0), (1, .int p1), (2, .int p2)]) C dS_costWithin_29 (by decide) rfl ?_
    refine sj_iload_n C dS_costWithin_31 4 rfl rfl ?_
    refine sj_aload_n C dS_costWithin_32 2 rfl rfl ?_
    refine sj_get C nS_in 0 rfl rfl 0 (by decide) wd_100 rfl rfl dS_costWithin_33 ?_
    refine sj_get C nB_in 3 rfl rfl 1 (by decide) wd_61 rfl rfl dS_costWithin_36 ?_
    refine sj_iload_n C dS_costWithin_39 3 rfl rfl ?_
    obtain ⟨h_40, hf⟩ := in_some hf
    refine sj_iald C 5 0 rfl rfl h_40 rfl dS_costWithin_40 ?_
    refine sj_iadd C dS_costWithin_41 ?_
    refine sj_istore (lv' := [(5, .int (p2 + (bZ p1.toNatClampNeg))), (4, .int r_26), (3, .int 268435456), (0, .ref s0), (1, .int p1), (2, .int p2)]) C dS_costWithin_42 (by decide) rfl ?_
    refine sj_aload_n C dS_costWithin_44 3 rfl rfl ?_
    refine sj_get C nS_in 0 rfl rfl 0 (by decide) wd_100 rfl rfl dS_costWithin_45 ?_
    refine sj_get C nB_in 3 rfl rfl 2 (by decide) wd_63 rfl rfl dS_costWithin_48 ?_
    refine sj_iload_n C dS_costWithin_51 4 rfl rfl ?_
    obtain ⟨h_52, hf⟩ := in_some hf
    refine sj_iald C 6 0 rfl rfl h_52 rfl dS_costWithin_52 ?_
    refine sj_istore (lv' := [(6, .int (bL p1.toNatClampNeg)), (5, .int (p2 + (bZ p1.toNatClampNeg))), (4, .int r_26), (3, .int 268435456), (0, .ref s0), (1, .int p1), (2, .int p2)]) C dS_costWithin_53 (by decide) rfl ?_
    exact sj_lv [4, 5, 3, 2, 1, 0] rfl (hb_55 fu p1 268435456 r_26 (p2 + (bZ p1.toNatClampNeg)) (bL p1.toNatClampNeg) sB sO hf)
  · have hf := (if_pos c_9).symm.trans hf
    refine sj_aload_n C dS_costWithin_12 0 rfl rfl ?_
    refine sj_iload_n C dS_costWithin_13 1 rfl rfl ?_
    refine sj_iconst C dS_costWithin_14 ki_0 ?_
    refine sj_iload_n C dS_costWithin_15 2 rfl rfl ?_
    obtain ⟨r_16, sB_16, sO_16, hq_16, hf⟩ := bd3_some hf
    refine sj_callVi (w1 := (wdS cI cZ cB s0 s1 s2 b0 b1 b2 b3 b4 sB_16 sO_16 sh sw sr bK bZ bL bM bi bg bh)) (q0 := 0) C "StepColumns$Scale" (cS_costFrom l dC dI cI cZ cB s0 s1 s2 b0 b1 b2 b3 b4 sB sO sh sw sr bK bZ bL bM bi bg bh p1 0 p2 fB lB CB hCB r_16 sB_16 sO_16 hq_16) wd_274 wd_276 wd_4 wd_37 wd_277 hS_costFrom rfl rfl ⟨by show fB + 4 + 1 ≤ fB + 6; omega, by show 8 + (7 + 11) + (lB + 80) ≤ lB + 120; omega⟩ [0, 1, 2, 3, 4, 5, 6, 7] [] ⟨rfl, rfl, rfl, rfl, rfl, rfl, kv_8_0_1_2_3_4_5_6_7⟩ rfl rfl rfl rfl rfl (Nat.le_of_ble_eq_true rfl) dS_costWithin_16 ?_
    cases hf
    exact hQ 19 _ dS_costWithin_19
abbrev rS_costBehind (fB lB : Nat) : Room := { frames := fB + 8, cells := 0, slots := 0, locals := lB + 160 }
set_option maxHeartbeats 4000000 in
set_option maxRecDepth 100000 in
theorem cS_costBehindB (l : Launch) (dC : Nat → ClassId) (dI : Nat → Nat → Nat) (cI cZ cB : ClassId) (s0 s1 s2 b0 b1 b2 b3 b4 : Nat) (sB sO : Nat → Int32) (sh sw sr : Int32) (bK bZ bL bM : Nat → Int32) (bi bg bh : Int32) (p1 p2 : Int32) (fB lB : Nat) (CB : Int32 → Int32 → (Nat → Int32) → (Nat → Int32) → Int32 → Int32 → Int32 → (Nat → Int32) → (Nat → Int32) → (Nat → Int32) → (Nat → Int32) → Int32 → Int32 → Option (Int32 × (Nat → Int32) × (Nat → Int32))) (hCB : ∀ (q1 q2 : Int32) (wsB wsO : Nat → Int32) (qr : Int32) (usB usO : Nat → Int32), CB q1 q2 wsB wsO sh sw sr bK bZ bL bM bi bg = some (qr, usB, usO) → MI l yS_costBehind wS_costBehind { frames := fB, cells := 0, slots := 0, locals := lB } (dC, dI) (tyl cI cZ cB) [Value.ref s0, Value.int q1, Value.int q2] (wdS cI cZ cB s0 s1 s2 b0 b1 b2 b3 b4 wsB wsO sh sw sr bK bZ bL bM bi bg bh) (wdS cI cZ cB s0 s1 s2 b0 b1 b2 b3 b4 usB usO sh sw sr bK bZ bL bM bi bg bh) qr) (r : Int32) (sB' : Nat → Int32) (sO' : Nat → Int32) (hf : fS_costBehindB CB p1 p2 sB sO sh sw sr bK bZ bL bM bi bg = some (r, sB', sO')) : MI l yS_costBehind wS_costBehind (rS_costBehind fB lB) (dC, dI) (tyl cI cZ cB) [Value.ref s0, Value.int p1, Value.int p2] (wdS cI cZ cB s0 s1 s2 b0 b1 b2 b3 b4 sB sO sh sw sr bK bZ bL bM bi bg bh) (wdS cI cZ cB s0 s1 s2 b0 b1 b2 b3 b4 sB' sO' sh sw sr bK bZ bL bM bi bg bh) r := by
  refine MI_of "StepColumns$Scale" rfl (by decide) (Nat.le_of_ble_eq_true rfl) ?_
  intro p e s m below meth c A Q C hQ
  have hb_87 : ∀ (v3 : Int32) (sB sO : Nat → Int32), fS_costBehind_b87 CB v3 sB sO sh sw sr bK bZ bL bM bi bg = some (r, sB', sO') → SJ p l e (rS_costBehind fB lB) s m (List.toArray [Value.ref s0, Value.int p1, Value.int p2]) below meth c A (dC, dI) 5 Q (wdS cI cZ cB s0 s1 s2 b0 b1 b2 b3 b4 sB sO sh sw sr bK bZ bL bM bi bg bh) [(0, .ref s0), (3, .int v3)] 87 [] := by
    intro v3 sB sO hf
    unfold fS_costBehind_b87 at hf
    refine sj_aload_n C dS_costBehind_87 0 rfl rfl ?_
    refine sj_get C nS_in 0 rfl rfl 1 (by decide) wd_101 rfl rfl dS_costBehind_88 ?_
    refine sj_iload_n C dS_costBehind_91 1 rfl rfl ?_
    obtain ⟨h_92, hf⟩ := in_some hf
    refine sj_iald C 1 0 rfl rfl h_92 rfl dS_costBehind_92 ?_
    cases hf
    exact hQ 93 _ dS_costBehind_93
  have hb_79 : ∀ (v3 v4 : Int32) (sB sO : Nat → Int32), fS_costBehind_b79 CB v3 v4 sB sO sh sw sr bK bZ bL bM bi bg = some (r, sB', sO') → SJ p l e (rS_costBehind fB lB) s m (List.toArray [Value.ref s0, Value.int p1, Value.int p2]) below meth c A (dC, dI) 5 Q (wdS cI cZ cB s0 s1 s2 b0 b1 b2 b3 b4 sB sO sh sw sr bK bZ bL bM bi bg bh) [(0, .ref s0), (3, .int v3), (4, .int v4)] 79 [] := by
    intro v3 v4 sB sO hf
    unfold fS_costBehind_b79 at hf
    refine sj_aload_n C dS_costBehind_79 0 rfl rfl ?_
    refine sj_get C nS_in 0 rfl rfl 1 (by decide) wd_101 rfl rfl dS_costBehind_80 ?_
    refine sj_iload_n C dS_costBehind_83 1 rfl rfl ?_
    refine sj_iload C dS_costBehind_84 2 rfl ?_
    obtain ⟨h_86, hf⟩ := in_some hf
    refine sj_iast (w' := (wdS cI cZ cB s0 s1 s2 b0 b1 b2 b3 b4 ((upd sB v3.toNatClampNeg v4)) sO sh sw sr bK bZ bL bM bi bg bh)) C 1 0 rfl rfl h_86 rfl dS_costBehind_86 rfl ?_
    exact sj_lv [0, 1] rfl (hb_87 v3 (upd sB v3.toNatClampNeg v4) sO hf)
  have hb_63 : ∀ (v1 v3 v4 : Int32) (sB sO : Nat → Int32), fS_costBehind_b63 CB v1 v3 v4 sB sO sh sw sr bK bZ bL bM bi bg = some (r, sB', sO') → SJ p l e (rS_costBehind fB lB) s m (List.toArray [Value.ref s0, Value.int p1, Value.int p2]) below meth c A (dC, dI) 5 Q (wdS cI cZ cB s0 s1 s2 b0 b1 b2 b3 b4 sB sO sh sw sr bK bZ bL bM bi bg bh) [(0, .ref s0), (1, .int v1), (3, .int v3), (4, .int v4)] 63 [] := by
    intro v1 v3 v4 sB sO hf
    unfold fS_costBehind_b63 at hf
    refine sj_iload C dS_costBehind_63 3 rfl ?_
    refine sj_aload_n C dS_costBehind_65 0 rfl rfl ?_
    refine sj_get C nS_in 0 rfl rfl 2 (by decide) wd_102 rfl rfl dS_costBehind_66 ?_
    refine sj_iload_n C dS_costBehind_69 1 rfl rfl ?_
    refine sj_bipush C dS_costBehind_70 kb_12 ?_
    refine sj_imul C dS_costBehind_72 ?_
    obtain ⟨h_73, hf⟩ := in_some hf
    refine sj_iald C 2 0 rfl rfl h_73 rfl dS_costBehind_73 ?_
    refine sj_mmin C wd_302 wd_303 wd_41 wd_304 (by show 1 ≤ fB + 8; omega) (by show 0 + 13 ≤ lB + 160; omega) dS_costBehind_74 ?_
    refine sj_istore (lv' := [(4, .int (if (sO (v1 * 12).toNatClampNeg) < v4 then (sO (v1 * 12).toNatClampNeg) else v4)), (0, .ref s0), (1, .int v1), (3, .int v3)]) C dS_costBehind_77 (by decide) rfl ?_
    exact sj_lv [1, 3, 0] rfl (hb_79 v3 (if (sO (v1 * 12).toNatClampNeg) < v4 then (sO (v1 * 12).toNatClampNeg) else v4) sB sO hf)
  unfold fS_costBehindB at hf
  change SJ p l e (rS_costBehind fB lB) s m (List.toArray [Value.ref s0, Value.int p1, Value.int p2]) below meth c A (dC, dI) 5 Q (wdS cI cZ cB s0 s1 s2 b0 b1 b2 b3 b4 sB sO sh sw sr bK bZ bL bM bi bg bh) [(0, .ref s0), (1, .int p1), (2, .int p2)] 0 []
  refine sj_iload_n C dS_costBehind_0 1 rfl rfl ?_
  refine sj_aload_n C dS_costBehind_1 0 rfl rfl ?_
  refine sj_get C nS_in 0 rfl rfl 0 (by decide) wd_100 rfl rfl dS_costBehind_2 ?_
  refine sj_get C nB_in 3 rfl rfl 4 (by decide) wd_71 rfl rfl dS_costBehind_5 ?_
  refine sj_icmp_lt C 13 dS_costBehind_8 (by decide) (fun c_8 => ?_) (fun c_8 => ?_)
  · have hf := (if_pos c_8).symm.trans hf
    refine sj_iload_n C dS_costBehind_13 1 rfl rfl ?_
    refine sj_sipush C dS_costBehind_14 ks_201 ?_
    refine sj_imul C dS_costBehind_17 ?_
    refine sj_iload_n C dS_costBehind_18 2 rfl rfl ?_
    refine sj_iadd C dS_costBehind_19 ?_
    refine sj_istore_n (lv' := [(3, .int ((p1 * 201) + p2)), (0, .ref s0), (1, .int p1), (2, .int p2)]) C dS_costBehind_20 rfl (by decide) rfl ?_
    refine sj_aload_n C dS_costBehind_21 1 rfl rfl ?_
    refine sj_get C nS_in 0 rfl rfl 1 (by decide) wd_101 rfl rfl dS_costBehind_22 ?_
    refine sj_iload_n C dS_costBehind_25 0 rfl rfl ?_
    obtain ⟨h_26, hf⟩ := in_some hf
    refine sj_iald C 1 0 rfl rfl h_26 rfl dS_costBehind_26 ?_
    refine sj_iconst C dS_costBehind_27 ki_m1 ?_
    refine sj_icmp_ne C 87 dS_costBehind_28 (by decide) (fun c_28 => ?_) (fun c_28 => ?_)
    · have hf := (if_neg c_28).symm.trans hf
      exact sj_lv [1, 0] rfl (hb_87 ((p1 * 201) + p2) sB sO hf)
    · have hf := (if_pos c_28).symm.trans hf
      refine sj_aload_n C dS_costBehind_31 1 rfl rfl ?_
      refine sj_iload_n C dS_costBehind_32 2 rfl rfl ?_
      obtain ⟨sB_33, sO_33, hq_33, hf⟩ := bd2_some hf
      refine sj_callVv (w1 := (wdS cI cZ cB s0 s1 s2 b0 b1 b2 b3 b4 sB_33 sO_33 sh sw sr bK bZ bL bM bi bg bh)) (q0 := 0) C "StepColumns$Scale" (cS_weighOnTop l dC dI cI cZ cB s0 s1 s2 b0 b1 b2 b3 b4 sB sO sh sw sr bK bZ bL bM bi bg bh p1 fB lB CB hCB sB_33 sO_33 hq_33) wd_261 wd_263 wd_3 wd_37 wd_264 hS_weighOnTop rfl rfl ⟨by show fB + 6 + 1 ≤ fB + 8; omega, by show 8 + (3 + 11) + (lB + 120) ≤ lB + 160; omega⟩ [0, 1, 2, 3, 4, 5, 6, 7] [] ⟨rfl, rfl, rfl, rfl, rfl, rfl, kv_8_0_1_2_3_4_5_6_7⟩ rfl rfl rfl rfl rfl (Nat.le_of_ble_eq_true rfl) dS_costBehind_33 ?_
      refine sj_aload_n C dS_costBehind_36 1 rfl rfl ?_
      refine sj_iload_n C dS_costBehind_37 2 rfl rfl ?_
      refine sj_iload_n C dS_costBehind_38 3 rfl rfl ?_
      obtain ⟨r_39, sB_39, sO_39, hq_39, hf⟩ := bd3_some hf
      refine sj_callVi (w1 := (wdS cI cZ cB s0 s1 s2 b0 b1 b2 b3 b4 sB_39 sO_39 sh sw sr bK bZ bL bM bi bg bh)) (q0 := 0) C "StepColumns$Scale" (cS_costWithin l dC dI cI cZ cB s0 s1 s2 b0 b1 b2 b3 b4 sB_33 sO_33 sh sw sr bK bZ bL bM bi bg bh p1 p2 fB lB CB hCB r_39 sB_39 sO_39 hq_39) wd_294 wd_296 wd_7 wd_37 wd_297 hS_costWithin rfl rfl ⟨by show fB + 6 + 1 ≤ fB + 8; omega, by show 8 + (7 + 11) + (lB + 120) ≤ lB + 160; omega⟩ [0, 1, 2, 3, 4, 5, 6, 7] [] ⟨rfl, rfl, rfl, rfl, rfl, rfl, kv_8_0_1_2_3_4_5_6_7⟩ rfl rfl rfl rfl rfl (Nat.le_of_ble_eq_true rfl) dS_costBehind_39 ?_
      refine sj_istore (lv' := [(4, .int r_39), (3, .int ((p1 * 201) + p2)), (0, .ref s0), (1, .int p1), (2, .int p2)]) C dS_costBehind_42 (by decide) rfl ?_
      refine sj_iload_n C dS_costBehind_44 3 rfl rfl ?_
      refine sj_if_eq C 63 dS_costBehind_45 (by decide) (fun c_45 => ?_) (fun c_45 => ?_)
      · have hf := (if_pos c_45).symm.trans hf
        exact sj_lv [2, 3, 1, 0] rfl (hb_63 p1 ((p1 * 201) + p2) r_39 sB_39 sO_39 hf)
      · have hf := (if_neg c_45).symm.trans hf
        refine sj_aload_n C dS_costBehind_48 2 rfl rfl ?_
        refine sj_get C nS_in 0 rfl rfl 0 (by decide) wd_100 rfl rfl dS_costBehind_49 ?_
        refine sj_get C nB_in 3 rfl rfl 0 (by decide) wd_57 rfl rfl dS_costBehind_52 ?_
        refine sj_iload_n C dS_costBehind_55 3 rfl rfl ?_
        refine sj_iconst C dS_costBehind_56 ki_1 ?_
        refine sj_isub C dS_costBehind_57 ?_
        obtain ⟨h_58, hf⟩ := in_some hf
        refine sj_iald C 4 0 rfl rfl h_58 rfl dS_costBehind_58 ?_
        refine sj_iconst C dS_costBehind_59 ki_1 ?_
        refine sj_icmp_eq C 79 dS_costBehind_60 (by decide) (fun c_60 => ?_) (fun c_60 => ?_)
        · have hf := (if_pos c_60).symm.trans hf
          exact sj_lv [2, 1, 0] rfl (hb_79 ((p1 * 201) + p2) r_39 sB_39 sO_39 hf)
        · have hf := (if_neg c_60).symm.trans hf
          exact sj_lv [2, 3, 1, 0] rfl (hb_63 p1 ((p1 * 201) + p2) r_39 sB_39 sO_39 hf)
  · have hf := (if_neg c_8).symm.trans hf
    refine sj_iconst C dS_costBehind_11 ki_0 ?_
    cases hf
    exact hQ 12 _ dS_costBehind_12
abbrev rS_cb (d : Nat) : Room := { frames := 8 * d, cells := 0, slots := 0, locals := 160 * d }
theorem rS_cb_s (d : Nat) : rS_costBehind (8 * d) (160 * d) = rS_cb (d + 1) := by
  show (Room.mk _ _ _ _) = Room.mk _ _ _ _
  congr 1
theorem cS_costBehind (d : Nat) : ∀ (l : Launch) (dC : Nat → ClassId) (dI : Nat → Nat → Nat) (cI cZ cB : ClassId) (s0 s1 s2 b0 b1 b2 b3 b4 : Nat) (sB sO : Nat → Int32) (sh sw sr : Int32) (bK bZ bL bM : Nat → Int32) (bi bg bh : Int32) (p1 p2 : Int32) (r : Int32) (sB' : Nat → Int32) (sO' : Nat → Int32) (hf : fS_costBehind d p1 p2 sB sO sh sw sr bK bZ bL bM bi bg = some (r, sB', sO')), MI l yS_costBehind wS_costBehind (rS_cb d) (dC, dI) (tyl cI cZ cB) [Value.ref s0, Value.int p1, Value.int p2] (wdS cI cZ cB s0 s1 s2 b0 b1 b2 b3 b4 sB sO sh sw sr bK bZ bL bM bi bg bh) (wdS cI cZ cB s0 s1 s2 b0 b1 b2 b3 b4 sB' sO' sh sw sr bK bZ bL bM bi bg bh) r := by
  induction d with
  | zero => intro l dC dI cI cZ cB s0 s1 s2 b0 b1 b2 b3 b4 sB sO sh sw sr bK bZ bL bM bi bg bh p1 p2 r sB' sO' hf; cases hf
  | succ d ih =>
    intro l dC dI cI cZ cB s0 s1 s2 b0 b1 b2 b3 b4 sB sO sh sw sr bK bZ bL bM bi bg bh p1 p2 r sB' sO' hf
    rw [← rS_cb_s]
    exact cS_costBehindB l dC dI cI cZ cB s0 s1 s2 b0 b1 b2 b3 b4 sB sO sh sw sr bK bZ bL bM bi bg bh p1 p2 (8 * d) (160 * d) (fS_costBehind d) (fun q1 q2 wsB wsO => ih l dC dI cI cZ cB s0 s1 s2 b0 b1 b2 b3 b4 wsB wsO sh sw sr bK bZ bL bM bi bg bh q1 q2) r sB' sO' hf
abbrev rS_costOfAll : Room := { frames := 111, cells := 0, slots := 0, locals := 2222 }
set_option maxHeartbeats 4000000 in
set_option maxRecDepth 100000 in
theorem cS_costOfAll (l : Launch) (dC : Nat → ClassId) (dI : Nat → Nat → Nat) (cI cZ cB : ClassId) (s0 s1 s2 b0 b1 b2 b3 b4 : Nat) (sB sO : Nat → Int32) (sh sw sr : Int32) (bK bZ bL bM : Nat → Int32) (bi bg bh : Int32) (r : Int32) (sB' : Nat → Int32) (sO' : Nat → Int32) (hf : fS_costOfAll sB sO sh sw sr bK bZ bL bM bi bg = some (r, sB', sO')) : MI l yS_costOfAll wS_costOfAll rS_costOfAll (dC, dI) (tyl cI cZ cB) [Value.ref s0] (wdS cI cZ cB s0 s1 s2 b0 b1 b2 b3 b4 sB sO sh sw sr bK bZ bL bM bi bg bh) (wdS cI cZ cB s0 s1 s2 b0 b1 b2 b3 b4 sB' sO' sh sw sr bK bZ bL bM bi bg bh) r := by
  refine MI_of "StepColumns$Scale" rfl (by decide) (Nat.le_of_ble_eq_true rfl) ?_
  intro p e s m below meth c A Q C hQ
  unfold fS_costOfAll at hf
  change SJ p l e rS_costOfAll s m (List.toArray [Value.ref s0]) below meth c A (dC, dI) 1 Q (wdS cI cZ cB s0 s1 s2 b0 b1 b2 b3 b4 sB sO sh sw sr bK bZ bL bM bi bg bh) [(0, .ref s0)] 0 []
  refine sj_aload_n C dS_costOfAll_0 0 rfl rfl ?_
  refine sj_get C nS_in 0 rfl rfl 0 (by decide) wd_100 rfl rfl dS_costOfAll_1 ?_
  refine sj_get C nB_in 3 rfl rfl 4 (by decide) wd_71 rfl rfl dS_costOfAll_4 ?_
  refine sj_if_ne C 12 dS_costOfAll_7 (by decide) (fun c_7 => ?_) (fun c_7 => ?_)
  · have hf := (if_neg c_7).symm.trans hf
    refine sj_aload_n C dS_costOfAll_12 0 rfl rfl ?_
    refine sj_get C nS_in 0 rfl rfl 1 (by decide) wd_101 rfl rfl dS_costOfAll_13 ?_
    refine sj_iconst C dS_costOfAll_16 ki_m1 ?_
    obtain ⟨sB_17, hq_17, hf⟩ := bd1_some hf
    refine sj_callSv (w1 := (wdS cI cZ cB s0 s1 s2 b0 b1 b2 b3 b4 sB_17 sO sh sw sr bK bZ bL bM bi bg bh)) C "java/util/Arrays" (cJ_fill l dC dI cI cZ cB s1 2412 sB (-1) sB_17 hq_17) wd_258 wd_259 wd_40 wd_260 hJ_fill rfl rfl ⟨Nat.le_of_ble_eq_true rfl, Nat.le_of_ble_eq_true rfl⟩ [1] [0, 2, 3, 4, 5, 6, 7] ⟨rfl, rfl, rfl, rfl, rfl, rfl, kv_8_1⟩ rfl rfl (Nat.le_of_ble_eq_true rfl) dS_costOfAll_17 ?_
    refine sj_aload_n C dS_costOfAll_20 0 rfl rfl ?_
    refine sj_get C nS_in 0 rfl rfl 2 (by decide) wd_102 rfl rfl dS_costOfAll_21 ?_
    refine sj_iconst C dS_costOfAll_24 ki_m1 ?_
    obtain ⟨sO_25, hq_25, hf⟩ := bd1_some hf
    refine sj_callSv (w1 := (wdS cI cZ cB s0 s1 s2 b0 b1 b2 b3 b4 sB_17 sO_25 sh sw sr bK bZ bL bM bi bg bh)) C "java/util/Arrays" (cJ_fill l dC dI cI cZ cB s2 144 sO (-1) sO_25 hq_25) wd_258 wd_259 wd_40 wd_260 hJ_fill rfl rfl ⟨Nat.le_of_ble_eq_true rfl, Nat.le_of_ble_eq_true rfl⟩ [2] [0, 1, 3, 4, 5, 6, 7] ⟨rfl, rfl, rfl, rfl, rfl, rfl, kv_8_2⟩ rfl rfl (Nat.le_of_ble_eq_true rfl) dS_costOfAll_25 ?_
    refine sj_aload_n C dS_costOfAll_28 0 rfl rfl ?_
    refine sj_iconst C dS_costOfAll_29 ki_0 ?_
    obtain ⟨sB_30, sO_30, hq_30, hf⟩ := bd2_some hf
    refine sj_callVv (w1 := (wdS cI cZ cB s0 s1 s2 b0 b1 b2 b3 b4 sB_30 sO_30 sh sw sr bK bZ bL bM bi bg bh)) (q0 := 0) C "StepColumns$Scale" (cS_weighOnTop l dC dI cI cZ cB s0 s1 s2 b0 b1 b2 b3 b4 sB_17 sO_25 sh sw sr bK bZ bL bM bi bg bh 0 104 2080 (fS_costBehind 13) (fun q1 q2 wsB wsO => cS_costBehind 13 l dC dI cI cZ cB s0 s1 s2 b0 b1 b2 b3 b4 wsB wsO sh sw sr bK bZ bL bM bi bg bh q1 q2) sB_30 sO_30 hq_30) wd_261 wd_263 wd_3 wd_37 wd_264 hS_weighOnTop rfl rfl ⟨Nat.le_of_ble_eq_true rfl, Nat.le_of_ble_eq_true rfl⟩ [0, 1, 2, 3, 4, 5, 6, 7] [] ⟨rfl, rfl, rfl, rfl, rfl, rfl, kv_8_0_1_2_3_4_5_6_7⟩ rfl rfl rfl rfl rfl (Nat.le_of_ble_eq_true rfl) dS_costOfAll_30 ?_
    refine sj_aload_n C dS_costOfAll_33 0 rfl rfl ?_
    refine sj_get C nS_in 0 rfl rfl 2 (by decide) wd_102 rfl rfl dS_costOfAll_34 ?_
    refine sj_iconst C dS_costOfAll_37 ki_0 ?_
    refine sj_iald C 2 0 rfl rfl kn_0_144 kc_0 dS_costOfAll_38 ?_
    cases hf
    exact hQ 39 _ dS_costOfAll_39
  · have hf := (if_pos c_7).symm.trans hf
    refine sj_iconst C dS_costOfAll_10 ki_0 ?_
    cases hf
    exact hQ 11 _ dS_costOfAll_11
abbrev rS_weigh : Room := { frames := 112, cells := 0, slots := 0, locals := 2242 }
set_option maxHeartbeats 4000000 in
set_option maxRecDepth 100000 in
theorem cS_weigh (l : Launch) (dC : Nat → ClassId) (dI : Nat → Nat → Nat) (cI cZ cB : ClassId) (s0 s1 s2 b0 b1 b2 b3 b4 : Nat) (sB sO : Nat → Int32) (sh sw sr : Int32) (bK bZ bL bM : Nat → Int32) (bi bg bh : Int32) (p1 : Int32) (r : Int32) (sB' : Nat → Int32) (sO' : Nat → Int32) (sh' : Int32) (sw' : Int32) (sr' : Int32) (hf : fS_weigh p1 sB sO sh sw sr bK bZ bL bM bi bg bh = some (r, sB', sO', sh', sw', sr')) : MI l yS_weigh wS_weigh rS_weigh (dC, dI) (tyl cI cZ cB) [Value.ref s0, Value.int p1] (wdS cI cZ cB s0 s1 s2 b0 b1 b2 b3 b4 sB sO sh sw sr bK bZ bL bM bi bg bh) (wdS cI cZ cB s0 s1 s2 b0 b1 b2 b3 b4 sB' sO' sh' sw' sr' bK bZ bL bM bi bg bh) r := by
  refine MI_of "StepColumns$Scale" rfl (by decide) (Nat.le_of_ble_eq_true rfl) ?_
  intro p e s m below meth c A Q C hQ
  unfold fS_weigh at hf
  change SJ p l e rS_weigh s m (List.toArray [Value.ref s0, Value.int p1]) below meth c A (dC, dI) 2 Q (wdS cI cZ cB s0 s1 s2 b0 b1 b2 b3 b4 sB sO sh sw sr bK bZ bL bM bi bg bh) [(0, .ref s0), (1, .int p1)] 0 []
  refine sj_aload_n C dS_weigh_0 0 rfl rfl ?_
  refine sj_aload_n C dS_weigh_1 0 rfl rfl ?_
  refine sj_get C nS_in 0 rfl rfl 0 (by decide) wd_100 rfl rfl dS_weigh_2 ?_
  refine sj_get C nB_in 3 rfl rfl 6 (by decide) wd_75 rfl rfl dS_weigh_5 ?_
  refine sj_put (w' := (wdS cI cZ cB s0 s1 s2 b0 b1 b2 b3 b4 sB sO bh sw sr bK bZ bL bM bi bg bh)) C nS_in nS_ty nS_ok nS_nm 0 rfl rfl 3 (by decide) wd_103 rfl rfl rfl rfl (Nat.le_of_ble_eq_true rfl) dS_weigh_8 rfl ?_
  refine sj_aload_n C dS_weigh_11 0 rfl rfl ?_
  refine sj_iload_n C dS_weigh_12 1 rfl rfl ?_
  refine sj_put (w' := (wdS cI cZ cB s0 s1 s2 b0 b1 b2 b3 b4 sB sO bh p1 sr bK bZ bL bM bi bg bh)) C nS_in nS_ty nS_ok nS_nm 0 rfl rfl 4 (by decide) wd_104 rfl rfl rfl rfl (Nat.le_of_ble_eq_true rfl) dS_weigh_13 rfl ?_
  refine sj_aload_n C dS_weigh_16 0 rfl rfl ?_
  refine sj_iconst C dS_weigh_17 ki_0 ?_
  refine sj_put (w' := (wdS cI cZ cB s0 s1 s2 b0 b1 b2 b3 b4 sB sO bh p1 0 bK bZ bL bM bi bg bh)) C nS_in nS_ty nS_ok nS_nm 0 rfl rfl 5 (by decide) wd_105 rfl rfl (z01_nar (Or.inl rfl)) (z01_fit (Or.inl rfl)) (Nat.le_of_ble_eq_true rfl) dS_weigh_18 rfl ?_
  refine sj_aload_n C dS_weigh_21 0 rfl rfl ?_
  obtain ⟨r_22, sB_22, sO_22, hq_22, hf⟩ := bd3_some hf
  refine sj_callVi (w1 := (wdS cI cZ cB s0 s1 s2 b0 b1 b2 b3 b4 sB_22 sO_22 bh p1 0 bK bZ bL bM bi bg bh)) (q0 := 0) C "StepColumns$Scale" (cS_costOfAll l dC dI cI cZ cB s0 s1 s2 b0 b1 b2 b3 b4 sB sO bh p1 0 bK bZ bL bM bi bg bh  r_22 sB_22 sO_22 hq_22) wd_254 wd_256 wd_2 wd_37 wd_257 hS_costOfAll rfl rfl ⟨Nat.le_of_ble_eq_true rfl, Nat.le_of_ble_eq_true rfl⟩ [0, 1, 2, 3, 4, 5, 6, 7] [] ⟨rfl, rfl, rfl, rfl, rfl, rfl, kv_8_0_1_2_3_4_5_6_7⟩ rfl rfl rfl rfl rfl (Nat.le_of_ble_eq_true rfl) dS_weigh_22 ?_
  cases hf
  exact hQ 25 _ dS_weigh_25
abbrev rS_opens : Room := { frames := 111, cells := 0, slots := 0, locals := 2226 }
set_option maxHeartbeats 4000000 in
set_option maxRecDepth 100000 in
theorem cS_opens (l : Launch) (dC : Nat → ClassId) (dI : Nat → Nat → Nat) (cI cZ cB : ClassId) (s0 s1 s2 b0 b1 b2 b3 b4 : Nat) (sB sO : Nat → Int32) (sh sw sr : Int32) (bK bZ bL bM : Nat → Int32) (bi bg bh : Int32) (p1 p2 : Int32) (r : Int32) (sB' : Nat → Int32) (sO' : Nat → Int32) (hf : fS_opens p1 p2 sB sO sh sw sr bK bZ bL bM bi bg = some (r, sB', sO')) : MI l yS_opens wS_opens rS_opens (dC, dI) (tyl cI cZ cB) [Value.ref s0, Value.int p1, Value.int p2] (wdS cI cZ cB s0 s1 s2 b0 b1 b2 b3 b4 sB sO sh sw sr bK bZ bL bM bi bg bh) (wdS cI cZ cB s0 s1 s2 b0 b1 b2 b3 b4 sB' sO' sh sw sr bK bZ bL bM bi bg bh) r := by
  refine MZ_of "StepColumns$Scale" rfl (by decide) (Nat.le_of_ble_eq_true rfl) ?_
  intro p e s m below meth c A Q C hQ
  have hb_24 : ∀ (t0 : Int32) (sB sO : Nat → Int32), fS_opens_b24 t0 sB sO sh sw sr bK bZ bL bM bi bg = some (r, sB', sO') → SJ p l e rS_opens s m (List.toArray [Value.ref s0, Value.int p1, Value.int p2]) below meth c A (dC, dI) 3 Q (wdS cI cZ cB s0 s1 s2 b0 b1 b2 b3 b4 sB sO sh sw sr bK bZ bL bM bi bg bh) [] 24 [.int t0] := by
    intro t0 sB sO hf
    unfold fS_opens_b24 at hf
    obtain ⟨h_24, hf⟩ := in_some hf
    cases hf
    exact hQ 24 _ (Decidable.not_not.mp h_24) dS_opens_24
  have hb_19 : ∀ (sB sO : Nat → Int32), fS_opens_b19 sB sO sh sw sr bK bZ bL bM bi bg = some (r, sB', sO') → SJ p l e rS_opens s m (List.toArray [Value.ref s0, Value.int p1, Value.int p2]) below meth c A (dC, dI) 3 Q (wdS cI cZ cB s0 s1 s2 b0 b1 b2 b3 b4 sB sO sh sw sr bK bZ bL bM bi bg bh) [] 19 [] := by
    intro sB sO hf
    unfold fS_opens_b19 at hf
    refine sj_iconst C dS_opens_19 ki_1 ?_
    refine sj_goto C 24 dS_opens_20 (by decide) ?_
    exact sj_lv [] rfl (hb_24 1 sB sO hf)
  unfold fS_opens at hf
  change SJ p l e rS_opens s m (List.toArray [Value.ref s0, Value.int p1, Value.int p2]) below meth c A (dC, dI) 3 Q (wdS cI cZ cB s0 s1 s2 b0 b1 b2 b3 b4 sB sO sh sw sr bK bZ bL bM bi bg bh) [(0, .ref s0), (1, .int p1), (2, .int p2)] 0 []
  refine sj_iload_n C dS_opens_0 1 rfl rfl ?_
  refine sj_if_eq C 19 dS_opens_1 (by decide) (fun c_1 => ?_) (fun c_1 => ?_)
  · have hf := (if_pos c_1).symm.trans hf
    exact sj_lv [] rfl (hb_19 sB sO hf)
  · have hf := (if_neg c_1).symm.trans hf
    refine sj_aload_n C dS_opens_4 0 rfl rfl ?_
    refine sj_iload_n C dS_opens_5 1 rfl rfl ?_
    refine sj_iload_n C dS_opens_6 2 rfl rfl ?_
    obtain ⟨r_7, sB_7, sO_7, hq_7, hf⟩ := bd3_some hf
    refine sj_callVi (w1 := (wdS cI cZ cB s0 s1 s2 b0 b1 b2 b3 b4 sB_7 sO_7 sh sw sr bK bZ bL bM bi bg bh)) (q0 := 0) C "StepColumns$Scale" (cS_costBehind 13 l dC dI cI cZ cB s0 s1 s2 b0 b1 b2 b3 b4 sB sO sh sw sr bK bZ bL bM bi bg bh p1 p2 r_7 sB_7 sO_7 hq_7) wd_290 wd_292 wd_6 wd_37 wd_293 hS_costBehind rfl rfl ⟨Nat.le_of_ble_eq_true rfl, Nat.le_of_ble_eq_true rfl⟩ [0, 1, 2, 3, 4, 5, 6, 7] [] ⟨rfl, rfl, rfl, rfl, rfl, rfl, kv_8_0_1_2_3_4_5_6_7⟩ rfl rfl rfl rfl rfl (Nat.le_of_ble_eq_true rfl) dS_opens_7 ?_
    refine sj_aload_n C dS_opens_10 0 rfl rfl ?_
    refine sj_iload_n C dS_opens_11 1 rfl rfl ?_
    refine sj_iload_n C dS_opens_12 2 rfl rfl ?_
    obtain ⟨r_13, sB_13, sO_13, hq_13, hf⟩ := bd3_some hf
    refine sj_callVi (w1 := (wdS cI cZ cB s0 s1 s2 b0 b1 b2 b3 b4 sB_13 sO_13 sh sw sr bK bZ bL bM bi bg bh)) (q0 := 0) C "StepColumns$Scale" (cS_costWithin l dC dI cI cZ cB s0 s1 s2 b0 b1 b2 b3 b4 sB_7 sO_7 sh sw sr bK bZ bL bM bi bg bh p1 p2 104 2080 (fS_costBehind 13) (fun q1 q2 wsB wsO => cS_costBehind 13 l dC dI cI cZ cB s0 s1 s2 b0 b1 b2 b3 b4 wsB wsO sh sw sr bK bZ bL bM bi bg bh q1 q2) r_13 sB_13 sO_13 hq_13) wd_294 wd_296 wd_7 wd_37 wd_297 hS_costWithin rfl rfl ⟨Nat.le_of_ble_eq_true rfl, Nat.le_of_ble_eq_true rfl⟩ [0, 1, 2, 3, 4, 5, 6, 7] [] ⟨rfl, rfl, rfl, rfl, rfl, rfl, kv_8_0_1_2_3_4_5_6_7⟩ rfl rfl rfl rfl rfl (Nat.le_of_ble_eq_true rfl) dS_opens_13 ?_
    refine sj_icmp_ge C 23 dS_opens_16 (by decide) (fun c_16 => ?_) (fun c_16 => ?_)
    · have hf := (if_pos c_16).symm.trans hf
      refine sj_iconst C dS_opens_23 ki_0 ?_
      exact sj_lv [] rfl (hb_24 0 sB_13 sO_13 hf)
    · have hf := (if_neg c_16).symm.trans hf
      exact sj_lv [] rfl (hb_19 sB_13 sO_13 hf)
abbrev rS_breakBehind : Room := { frames := 109, cells := 0, slots := 0, locals := 2186 }
set_option maxHeartbeats 4000000 in
set_option maxRecDepth 100000 in
theorem cS_breakBehind (l : Launch) (dC : Nat → ClassId) (dI : Nat → Nat → Nat) (cI cZ cB : ClassId) (s0 s1 s2 b0 b1 b2 b3 b4 : Nat) (sB sO : Nat → Int32) (sh sw sr : Int32) (bK bZ bL bM : Nat → Int32) (bi bg bh : Int32) (p1 p2 p3 : Int32) (r : Int32) (sB' : Nat → Int32) (sO' : Nat → Int32) (hf : fS_breakBehind p1 p2 p3 sB sO sh sw sr bK bZ bL bM bi bg = some (r, sB', sO')) : MI l yS_breakBehind wS_breakBehind rS_breakBehind (dC, dI) (tyl cI cZ cB) [Value.ref s0, Value.int p1, Value.int p2, Value.int p3] (wdS cI cZ cB s0 s1 s2 b0 b1 b2 b3 b4 sB sO sh sw sr bK bZ bL bM bi bg bh) (wdS cI cZ cB s0 s1 s2 b0 b1 b2 b3 b4 sB' sO' sh sw sr bK bZ bL bM bi bg bh) r := by
  refine MI_of "StepColumns$Scale" rfl (by decide) (Nat.le_of_ble_eq_true rfl) ?_
  intro p e s m below meth c A Q C hQ
  have hb_42 : ∀ (n : Nat) (v1 v2 v3 v4 v5 v6 : Int32) (sB sO : Nat → Int32), fS_breakBehind_b42 n v1 v2 v3 v4 v5 v6 sB sO sh sw sr bK bZ bL bM bi bg = some (r, sB', sO') → SJ p l e rS_breakBehind s m (List.toArray [Value.ref s0, Value.int p1, Value.int p2, Value.int p3]) below meth c A (dC, dI) 7 Q (wdS cI cZ cB s0 s1 s2 b0 b1 b2 b3 b4 sB sO sh sw sr bK bZ bL bM bi bg bh) [(0, .ref s0), (1, .int v1), (2, .int v2), (3, .int v3), (4, .int v4), (5, .int v5), (6, .int v6)] 42 [] := by
    intro n
    induction n with
    | zero => intro v1 v2 v3 v4 v5 v6 sB sO hf; cases hf
    | succ n IH =>
      intro v1 v2 v3 v4 v5 v6 sB sO hf
      unfold fS_breakBehind_b42 at hf
      refine sj_iload C dS_breakBehind_42 6 rfl ?_
      refine sj_iload_n C dS_breakBehind_44 2 rfl rfl ?_
      refine sj_iconst C dS_breakBehind_45 ki_2 ?_
      refine sj_iadd C dS_breakBehind_46 ?_
      refine sj_icmp_lt C 73 dS_breakBehind_47 (by decide) (fun c_47 => ?_) (fun c_47 => ?_)
      · have hf := (if_pos c_47).symm.trans hf
        refine sj_iload C dS_breakBehind_73 4 rfl ?_
        cases hf
        exact hQ 75 _ dS_breakBehind_75
      · have hf := (if_neg c_47).symm.trans hf
        refine sj_aload_n C dS_breakBehind_50 0 rfl rfl ?_
        refine sj_iload_n C dS_breakBehind_51 1 rfl rfl ?_
        refine sj_iload_n C dS_breakBehind_52 2 rfl rfl ?_
        refine sj_iload_n C dS_breakBehind_53 3 rfl rfl ?_
        refine sj_iload C dS_breakBehind_54 6 rfl ?_
        obtain ⟨r_56, sB_56, sO_56, hq_56, hf⟩ := bd3_some hf
        refine sj_callVi (w1 := (wdS cI cZ cB s0 s1 s2 b0 b1 b2 b3 b4 sB_56 sO_56 sh sw sr bK bZ bL bM bi bg bh)) (q0 := 0) C "StepColumns$Scale" (cS_costUpTo l dC dI cI cZ cB s0 s1 s2 b0 b1 b2 b3 b4 sB sO sh sw sr bK bZ bL bM bi bg bh v1 v2 v3 v6 104 2080 (fS_costBehind 13) (fun q1 q2 wsB wsO => cS_costBehind 13 l dC dI cI cZ cB s0 s1 s2 b0 b1 b2 b3 b4 wsB wsO sh sw sr bK bZ bL bM bi bg bh q1 q2) r_56 sB_56 sO_56 hq_56) wd_278 wd_280 wd_5 wd_37 wd_281 hS_costUpTo rfl rfl ⟨Nat.le_of_ble_eq_true rfl, Nat.le_of_ble_eq_true rfl⟩ [0, 1, 2, 3, 4, 5, 6, 7] [] ⟨rfl, rfl, rfl, rfl, rfl, rfl, kv_8_0_1_2_3_4_5_6_7⟩ rfl rfl rfl rfl rfl (Nat.le_of_ble_eq_true rfl) dS_breakBehind_56 ?_
        refine sj_iload C dS_breakBehind_59 5 rfl ?_
        refine sj_icmp_ne C 67 dS_breakBehind_61 (by decide) (fun c_61 => ?_) (fun c_61 => ?_)
        · have hf := (if_neg c_61).symm.trans hf
          refine sj_iinc (v := (v6 + (-1))) (lv' := [(6, .int (v6 + (-1))), (0, .ref s0), (1, .int v1), (2, .int v2), (3, .int v3), (4, .int v4), (5, .int v5)]) C dS_breakBehind_67 6 rfl (by rw [ki_m1]) (by decide) rfl ?_
          refine sj_goto C 42 dS_breakBehind_70 (by decide) ?_
          exact sj_lv [1, 2, 3, 4, 5, 6, 0] rfl (IH v1 v2 v3 v4 v5 (v6 + (-1)) sB_56 sO_56 hf)
        · have hf := (if_pos c_61).symm.trans hf
          refine sj_iload C dS_breakBehind_64 6 rfl ?_
          cases hf
          exact hQ 66 _ dS_breakBehind_66
  unfold fS_breakBehind at hf
  change SJ p l e rS_breakBehind s m (List.toArray [Value.ref s0, Value.int p1, Value.int p2, Value.int p3]) below meth c A (dC, dI) 7 Q (wdS cI cZ cB s0 s1 s2 b0 b1 b2 b3 b4 sB sO sh sw sr bK bZ bL bM bi bg bh) [(0, .ref s0), (1, .int p1), (2, .int p2), (3, .int p3)] 0 []
  refine sj_aload_n C dS_breakBehind_0 0 rfl rfl ?_
  refine sj_get C nS_in 0 rfl rfl 0 (by decide) wd_100 rfl rfl dS_breakBehind_1 ?_
  refine sj_iload_n C dS_breakBehind_4 1 rfl rfl ?_
  obtain ⟨r_5, hq_5, hf⟩ := bd1_some hf
  refine sj_callVi (w1 := (wdS cI cZ cB s0 s1 s2 b0 b1 b2 b3 b4 sB sO sh sw sr bK bZ bL bM bi bg bh)) (q0 := 0) C "StepColumns$Book" (cB_thingsOf l dC dI cI cZ cB b0 b1 b2 b3 b4 bK bZ bL bM bi bg bh p1 r_5 hq_5) wd_265 wd_266 wd_267 wd_36 wd_268 hB_thingsOf rfl rfl ⟨Nat.le_of_ble_eq_true rfl, Nat.le_of_ble_eq_true rfl⟩ [3, 4, 5, 6, 7] [0, 1, 2] ⟨rfl, rfl, rfl, rfl, rfl, rfl, kv_8_3_4_5_6_7⟩ rfl rfl rfl rfl rfl (Nat.le_of_ble_eq_true rfl) dS_breakBehind_5 ?_
  refine sj_istore (lv' := [(4, .int r_5), (0, .ref s0), (1, .int p1), (2, .int p2), (3, .int p3)]) C dS_breakBehind_8 (by decide) rfl ?_
  refine sj_aload_n C dS_breakBehind_10 1 rfl rfl ?_
  refine sj_iload_n C dS_breakBehind_11 2 rfl rfl ?_
  refine sj_iload_n C dS_breakBehind_12 3 rfl rfl ?_
  refine sj_iload_n C dS_breakBehind_13 4 rfl rfl ?_
  obtain ⟨r_14, sB_14, sO_14, hq_14, hf⟩ := bd3_some hf
  refine sj_callVi (w1 := (wdS cI cZ cB s0 s1 s2 b0 b1 b2 b3 b4 sB_14 sO_14 sh sw sr bK bZ bL bM bi bg bh)) (q0 := 0) C "StepColumns$Scale" (cS_costFrom l dC dI cI cZ cB s0 s1 s2 b0 b1 b2 b3 b4 sB sO sh sw sr bK bZ bL bM bi bg bh p1 p2 p3 104 2080 (fS_costBehind 13) (fun q1 q2 wsB wsO => cS_costBehind 13 l dC dI cI cZ cB s0 s1 s2 b0 b1 b2 b3 b4 wsB wsO sh sw sr bK bZ bL bM bi bg bh q1 q2) r_14 sB_14 sO_14 hq_14) wd_274 wd_276 wd_4 wd_37 wd_277 hS_costFrom rfl rfl ⟨Nat.le_of_ble_eq_true rfl, Nat.le_of_ble_eq_true rfl⟩ [0, 1, 2, 3, 4, 5, 6, 7] [] ⟨rfl, rfl, rfl, rfl, rfl, rfl, kv_8_0_1_2_3_4_5_6_7⟩ rfl rfl rfl rfl rfl (Nat.le_of_ble_eq_true rfl) dS_breakBehind_14 ?_
  refine sj_istore (lv' := [(5, .int r_14), (4, .int r_5), (0, .ref s0), (1, .int p1), (2, .int p2), (3, .int p3)]) C dS_breakBehind_17 (by decide) rfl ?_
  refine sj_aload_n C dS_breakBehind_19 2 rfl rfl ?_
  refine sj_iload_n C dS_breakBehind_20 3 rfl rfl ?_
  refine sj_iload_n C dS_breakBehind_21 4 rfl rfl ?_
  refine sj_iload_n C dS_breakBehind_22 5 rfl rfl ?_
  refine sj_iload C dS_breakBehind_23 1 rfl ?_
  obtain ⟨r_25, sB_25, sO_25, hq_25, hf⟩ := bd3_some hf
  refine sj_callVi (w1 := (wdS cI cZ cB s0 s1 s2 b0 b1 b2 b3 b4 sB_25 sO_25 sh sw sr bK bZ bL bM bi bg bh)) (q0 := 0) C "StepColumns$Scale" (cS_costUpTo l dC dI cI cZ cB s0 s1 s2 b0 b1 b2 b3 b4 sB_14 sO_14 sh sw sr bK bZ bL bM bi bg bh p1 p2 p3 r_5 104 2080 (fS_costBehind 13) (fun q1 q2 wsB wsO => cS_costBehind 13 l dC dI cI cZ cB s0 s1 s2 b0 b1 b2 b3 b4 wsB wsO sh sw sr bK bZ bL bM bi bg bh q1 q2) r_25 sB_25 sO_25 hq_25) wd_278 wd_280 wd_5 wd_37 wd_281 hS_costUpTo rfl rfl ⟨Nat.le_of_ble_eq_true rfl, Nat.le_of_ble_eq_true rfl⟩ [0, 1, 2, 3, 4, 5, 6, 7] [] ⟨rfl, rfl, rfl, rfl, rfl, rfl, kv_8_0_1_2_3_4_5_6_7⟩ rfl rfl rfl rfl rfl (Nat.le_of_ble_eq_true rfl) dS_breakBehind_25 ?_
  refine sj_iload C dS_breakBehind_28 0 rfl ?_
  refine sj_icmp_ne C 36 dS_breakBehind_30 (by decide) (fun c_30 => ?_) (fun c_30 => ?_)
  · have hf := (if_neg c_30).symm.trans hf
    refine sj_iload C dS_breakBehind_36 1 rfl ?_
    refine sj_iconst C dS_breakBehind_38 ki_2 ?_
    refine sj_isub C dS_breakBehind_39 ?_
    refine sj_istore (lv' := [(6, .int (r_5 - 2)), (5, .int r_14), (4, .int r_5), (0, .ref s0), (1, .int p1), (2, .int p2), (3, .int p3)]) C dS_breakBehind_40 (by decide) rfl ?_
    exact sj_lv [3, 4, 5, 6, 2, 1, 0] rfl (hb_42 fu p1 p2 p3 r_5 r_14 (r_5 - 2) sB_25 sO_25 hf)
  · have hf := (if_pos c_30).symm.trans hf
    refine sj_iload C dS_breakBehind_33 1 rfl ?_
    cases hf
    exact hQ 35 _ dS_breakBehind_35
abbrev rS_roomBehind : Room := { frames := 111, cells := 0, slots := 0, locals := 2226 }
set_option maxHeartbeats 4000000 in
set_option maxRecDepth 100000 in
theorem cS_roomBehind (l : Launch) (dC : Nat → ClassId) (dI : Nat → Nat → Nat) (cI cZ cB : ClassId) (s0 s1 s2 b0 b1 b2 b3 b4 : Nat) (sB sO : Nat → Int32) (sh sw sr : Int32) (bK bZ bL bM : Nat → Int32) (bi bg bh : Int32) (p1 p2 : Int32) (r : Int32) (sB' : Nat → Int32) (sO' : Nat → Int32) (hf : fS_roomBehind p1 p2 sB sO sh sw sr bK bZ bL bM bi bg = some (r, sB', sO')) : MI l yS_roomBehind wS_roomBehind rS_roomBehind (dC, dI) (tyl cI cZ cB) [Value.ref s0, Value.int p1, Value.int p2] (wdS cI cZ cB s0 s1 s2 b0 b1 b2 b3 b4 sB sO sh sw sr bK bZ bL bM bi bg bh) (wdS cI cZ cB s0 s1 s2 b0 b1 b2 b3 b4 sB' sO' sh sw sr bK bZ bL bM bi bg bh) r := by
  refine MI_of "StepColumns$Scale" rfl (by decide) (Nat.le_of_ble_eq_true rfl) ?_
  intro p e s m below meth c A Q C hQ
  have hb_26 : ∀ (n : Nat) (v1 v2 v3 v4 v5 : Int32) (sB sO : Nat → Int32), fS_roomBehind_b26 n v1 v2 v3 v4 v5 sB sO sh sw sr bK bZ bL bM bi bg = some (r, sB', sO') → SJ p l e rS_roomBehind s m (List.toArray [Value.ref s0, Value.int p1, Value.int p2]) below meth c A (dC, dI) 6 Q (wdS cI cZ cB s0 s1 s2 b0 b1 b2 b3 b4 sB sO sh sw sr bK bZ bL bM bi bg bh) [(0, .ref s0), (1, .int v1), (2, .int v2), (3, .int v3), (4, .int v4), (5, .int v5)] 26 [] := by
    intro n
    induction n with
    | zero => intro v1 v2 v3 v4 v5 sB sO hf; cases hf
    | succ n IH =>
      intro v1 v2 v3 v4 v5 sB sO hf
      unfold fS_roomBehind_b26 at hf
      refine sj_iload C dS_roomBehind_26 5 rfl ?_
      refine sj_iload C dS_roomBehind_28 4 rfl ?_
      refine sj_icmp_ge C 59 dS_roomBehind_30 (by decide) (fun c_30 => ?_) (fun c_30 => ?_)
      · have hf := (if_pos c_30).symm.trans hf
        refine sj_iload C dS_roomBehind_59 4 rfl ?_
        cases hf
        exact hQ 61 _ dS_roomBehind_61
      · have hf := (if_neg c_30).symm.trans hf
        refine sj_iload C dS_roomBehind_33 5 rfl ?_
        refine sj_aload_n C dS_roomBehind_35 0 rfl rfl ?_
        refine sj_iload_n C dS_roomBehind_36 1 rfl rfl ?_
        refine sj_iconst C dS_roomBehind_37 ki_0 ?_
        refine sj_iload_n C dS_roomBehind_38 2 rfl rfl ?_
        refine sj_iload C dS_roomBehind_39 5 rfl ?_
        refine sj_iadd C dS_roomBehind_41 ?_
        obtain ⟨r_42, sB_42, sO_42, hq_42, hf⟩ := bd3_some hf
        refine sj_callVi (w1 := (wdS cI cZ cB s0 s1 s2 b0 b1 b2 b3 b4 sB_42 sO_42 sh sw sr bK bZ bL bM bi bg bh)) (q0 := 0) C "StepColumns$Scale" (cS_costFrom l dC dI cI cZ cB s0 s1 s2 b0 b1 b2 b3 b4 sB sO sh sw sr bK bZ bL bM bi bg bh v1 0 (v2 + v5) 104 2080 (fS_costBehind 13) (fun q1 q2 wsB wsO => cS_costBehind 13 l dC dI cI cZ cB s0 s1 s2 b0 b1 b2 b3 b4 wsB wsO sh sw sr bK bZ bL bM bi bg bh q1 q2) r_42 sB_42 sO_42 hq_42) wd_274 wd_276 wd_4 wd_37 wd_277 hS_costFrom rfl rfl ⟨Nat.le_of_ble_eq_true rfl, Nat.le_of_ble_eq_true rfl⟩ [0, 1, 2, 3, 4, 5, 6, 7] [] ⟨rfl, rfl, rfl, rfl, rfl, rfl, kv_8_0_1_2_3_4_5_6_7⟩ rfl rfl rfl rfl rfl (Nat.le_of_ble_eq_true rfl) dS_roomBehind_42 ?_
        refine sj_iadd C dS_roomBehind_45 ?_
        refine sj_iload_n C dS_roomBehind_46 3 rfl rfl ?_
        refine sj_icmp_ne C 53 dS_roomBehind_47 (by decide) (fun c_47 => ?_) (fun c_47 => ?_)
        · have hf := (if_neg c_47).symm.trans hf
          refine sj_iinc (v := (v5 + 1)) (lv' := [(5, .int (v5 + 1)), (0, .ref s0), (1, .int v1), (2, .int v2), (3, .int v3), (4, .int v4)]) C dS_roomBehind_53 5 rfl (by rw [ki_1]) (by decide) rfl ?_
          refine sj_goto C 26 dS_roomBehind_56 (by decide) ?_
          exact sj_lv [1, 2, 3, 4, 5, 0] rfl (IH v1 v2 v3 v4 (v5 + 1) sB_42 sO_42 hf)
        · have hf := (if_pos c_47).symm.trans hf
          refine sj_iload C dS_roomBehind_50 5 rfl ?_
          cases hf
          exact hQ 52 _ dS_roomBehind_52
  unfold fS_roomBehind at hf
  change SJ p l e rS_roomBehind s m (List.toArray [Value.ref s0, Value.int p1, Value.int p2]) below meth c A (dC, dI) 6 Q (wdS cI cZ cB s0 s1 s2 b0 b1 b2 b3 b4 sB sO sh sw sr bK bZ bL bM bi bg bh) [(0, .ref s0), (1, .int p1), (2, .int p2)] 0 []
  refine sj_aload_n C dS_roomBehind_0 0 rfl rfl ?_
  refine sj_iload_n C dS_roomBehind_1 1 rfl rfl ?_
  refine sj_iload_n C dS_roomBehind_2 2 rfl rfl ?_
  obtain ⟨r_3, sB_3, sO_3, hq_3, hf⟩ := bd3_some hf
  refine sj_callVi (w1 := (wdS cI cZ cB s0 s1 s2 b0 b1 b2 b3 b4 sB_3 sO_3 sh sw sr bK bZ bL bM bi bg bh)) (q0 := 0) C "StepColumns$Scale" (cS_costWithin l dC dI cI cZ cB s0 s1 s2 b0 b1 b2 b3 b4 sB sO sh sw sr bK bZ bL bM bi bg bh p1 p2 104 2080 (fS_costBehind 13) (fun q1 q2 wsB wsO => cS_costBehind 13 l dC dI cI cZ cB s0 s1 s2 b0 b1 b2 b3 b4 wsB wsO sh sw sr bK bZ bL bM bi bg bh q1 q2) r_3 sB_3 sO_3 hq_3) wd_294 wd_296 wd_7 wd_37 wd_297 hS_costWithin rfl rfl ⟨Nat.le_of_ble_eq_true rfl, Nat.le_of_ble_eq_true rfl⟩ [0, 1, 2, 3, 4, 5, 6, 7] [] ⟨rfl, rfl, rfl, rfl, rfl, rfl, kv_8_0_1_2_3_4_5_6_7⟩ rfl rfl rfl rfl rfl (Nat.le_of_ble_eq_true rfl) dS_roomBehind_3 ?_
  refine sj_istore_n (lv' := [(3, .int r_3), (0, .ref s0), (1, .int p1), (2, .int p2)]) C dS_roomBehind_6 rfl (by decide) rfl ?_
  refine sj_aload_n C dS_roomBehind_7 1 rfl rfl ?_
  refine sj_iload_n C dS_roomBehind_8 2 rfl rfl ?_
  refine sj_iload_n C dS_roomBehind_9 3 rfl rfl ?_
  obtain ⟨r_10, hq_10, hf⟩ := bd1_some hf
  refine sj_callVi (w1 := (wdS cI cZ cB s0 s1 s2 b0 b1 b2 b3 b4 sB_3 sO_3 sh sw sr bK bZ bL bM bi bg bh)) (q0 := 0) C "StepColumns$Scale" (cS_mostRoom l dC dI cI cZ cB s0 s1 s2 b0 b1 b2 b3 b4 sB_3 sO_3 sh sw sr bK bZ bL bM bi bg bh p1 p2 r_10 hq_10) wd_298 wd_300 wd_8 wd_37 wd_301 hS_mostRoom rfl rfl ⟨Nat.le_of_ble_eq_true rfl, Nat.le_of_ble_eq_true rfl⟩ [0, 1, 2, 3, 4, 5, 6, 7] [] ⟨rfl, rfl, rfl, rfl, rfl, rfl, kv_8_0_1_2_3_4_5_6_7⟩ rfl rfl rfl rfl rfl (Nat.le_of_ble_eq_true rfl) dS_roomBehind_10 ?_
  refine sj_istore (lv' := [(4, .int r_10), (3, .int r_3), (0, .ref s0), (1, .int p1), (2, .int p2)]) C dS_roomBehind_13 (by decide) rfl ?_
  refine sj_aload_n C dS_roomBehind_15 2 rfl rfl ?_
  refine sj_get C nS_in 0 rfl rfl 0 (by decide) wd_100 rfl rfl dS_roomBehind_16 ?_
  refine sj_get C nB_in 3 rfl rfl 2 (by decide) wd_63 rfl rfl dS_roomBehind_19 ?_
  refine sj_iload_n C dS_roomBehind_22 3 rfl rfl ?_
  obtain ⟨h_23, hf⟩ := in_some hf
  refine sj_iald C 6 0 rfl rfl h_23 rfl dS_roomBehind_23 ?_
  refine sj_istore (lv' := [(5, .int (bL p1.toNatClampNeg)), (4, .int r_10), (3, .int r_3), (0, .ref s0), (1, .int p1), (2, .int p2)]) C dS_roomBehind_24 (by decide) rfl ?_
  exact sj_lv [3, 4, 5, 2, 1, 0] rfl (hb_26 fu p1 p2 r_3 r_10 (bL p1.toNatClampNeg) sB_3 sO_3 hf)
abbrev rS_fewestColumns : Room := { frames := 112, cells := 0, slots := 0, locals := 2242 }
set_option maxHeartbeats 4000000 in
set_option maxRecDepth 100000 in
theorem cS_fewestColumns (l : Launch) (dC : Nat → ClassId) (dI : Nat → Nat → Nat) (cI cZ cB : ClassId) (s0 s1 s2 b0 b1 b2 b3 b4 : Nat) (sB sO : Nat → Int32) (sh sw sr : Int32) (bK bZ bL bM : Nat → Int32) (bi bg bh : Int32) (p1 : Int32) (r : Int32) (sB' : Nat → Int32) (sO' : Nat → Int32) (sh' : Int32) (sw' : Int32) (sr' : Int32) (hf : fS_fewestColumns p1 sB sO sh sw sr bK bZ bL bM bi bg = some (r, sB', sO', sh', sw', sr')) : MI l yS_fewestColumns wS_fewestColumns rS_fewestColumns (dC, dI) (tyl cI cZ cB) [Value.ref s0, Value.int p1] (wdS cI cZ cB s0 s1 s2 b0 b1 b2 b3 b4 sB sO sh sw sr bK bZ bL bM bi bg bh) (wdS cI cZ cB s0 s1 s2 b0 b1 b2 b3 b4 sB' sO' sh' sw' sr' bK bZ bL bM bi bg bh) r := by
  refine MI_of "StepColumns$Scale" rfl (by decide) (Nat.le_of_ble_eq_true rfl) ?_
  intro p e s m below meth c A Q C hQ
  unfold fS_fewestColumns at hf
  change SJ p l e rS_fewestColumns s m (List.toArray [Value.ref s0, Value.int p1]) below meth c A (dC, dI) 2 Q (wdS cI cZ cB s0 s1 s2 b0 b1 b2 b3 b4 sB sO sh sw sr bK bZ bL bM bi bg bh) [(0, .ref s0), (1, .int p1)] 0 []
  refine sj_aload_n C dS_fewestColumns_0 0 rfl rfl ?_
  refine sj_iload_n C dS_fewestColumns_1 1 rfl rfl ?_
  refine sj_put (w' := (wdS cI cZ cB s0 s1 s2 b0 b1 b2 b3 b4 sB sO p1 sw sr bK bZ bL bM bi bg bh)) C nS_in nS_ty nS_ok nS_nm 0 rfl rfl 3 (by decide) wd_103 rfl rfl rfl rfl (Nat.le_of_ble_eq_true rfl) dS_fewestColumns_2 rfl ?_
  refine sj_aload_n C dS_fewestColumns_5 0 rfl rfl ?_
  refine sj_iconst C dS_fewestColumns_6 ki_m1 ?_
  refine sj_put (w' := (wdS cI cZ cB s0 s1 s2 b0 b1 b2 b3 b4 sB sO p1 ((-1)) sr bK bZ bL bM bi bg bh)) C nS_in nS_ty nS_ok nS_nm 0 rfl rfl 4 (by decide) wd_104 rfl rfl rfl rfl (Nat.le_of_ble_eq_true rfl) dS_fewestColumns_7 rfl ?_
  refine sj_aload_n C dS_fewestColumns_10 0 rfl rfl ?_
  refine sj_iconst C dS_fewestColumns_11 ki_1 ?_
  refine sj_put (w' := (wdS cI cZ cB s0 s1 s2 b0 b1 b2 b3 b4 sB sO p1 ((-1)) 1 bK bZ bL bM bi bg bh)) C nS_in nS_ty nS_ok nS_nm 0 rfl rfl 5 (by decide) wd_105 rfl rfl (z01_nar (Or.inr rfl)) (z01_fit (Or.inr rfl)) (Nat.le_of_ble_eq_true rfl) dS_fewestColumns_12 rfl ?_
  refine sj_aload_n C dS_fewestColumns_15 0 rfl rfl ?_
  obtain ⟨r_16, sB_16, sO_16, hq_16, hf⟩ := bd3_some hf
  refine sj_callVi (w1 := (wdS cI cZ cB s0 s1 s2 b0 b1 b2 b3 b4 sB_16 sO_16 p1 ((-1)) 1 bK bZ bL bM bi bg bh)) (q0 := 0) C "StepColumns$Scale" (cS_costOfAll l dC dI cI cZ cB s0 s1 s2 b0 b1 b2 b3 b4 sB sO p1 (-1) 1 bK bZ bL bM bi bg bh  r_16 sB_16 sO_16 hq_16) wd_254 wd_256 wd_2 wd_37 wd_257 hS_costOfAll rfl rfl ⟨Nat.le_of_ble_eq_true rfl, Nat.le_of_ble_eq_true rfl⟩ [0, 1, 2, 3, 4, 5, 6, 7] [] ⟨rfl, rfl, rfl, rfl, rfl, rfl, kv_8_0_1_2_3_4_5_6_7⟩ rfl rfl rfl rfl rfl (Nat.le_of_ble_eq_true rfl) dS_fewestColumns_16 ?_
  refine sj_ldc C wd_273 dS_fewestColumns_19 ?_
  refine sj_idiv C dS_fewestColumns_21 kz_1048576 ?_
  cases hf
  exact hQ 22 _ dS_fewestColumns_22
