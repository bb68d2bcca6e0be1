abbrev rB_append : Room := { frames := 0, cells := 0, slots := 0, locals := 0 }
set_option maxHeartbeats 4000000 in
set_option maxRecDepth 100000 in
theorem cB_append (l : Launch) (dC : Nat → ClassId) (dI : Nat → Nat → Nat) (cI cZ cB : ClassId) (b0 b1 b2 b3 b4 : Nat) (bK bZ bL bM : Nat → Int32) (bi bg bh : Int32) (p1 p2 p3 p4 : Int32) (r : Int32) (bK' : Nat → Int32) (bZ' : Nat → Int32) (bL' : Nat → Int32) (bM' : Nat → Int32) (bi' : Int32) (hf : fB_append p1 p2 p3 p4 bK bZ bL bM bi = some (r, bK', bZ', bL', bM', bi')) : MI l yB_append wB_append rB_append (dC, dI) (tyl cI cZ cB) [Value.ref b0, Value.int p1, Value.int p2, Value.int p3, Value.int p4] (wdB cI cZ cB b0 b1 b2 b3 b4 bK bZ bL bM bi bg bh) (wdB cI cZ cB b0 b1 b2 b3 b4 bK' bZ' bL' bM' bi' bg bh) r := by
  refine MI_of "StepColumns$Book" rfl (by decide) (Nat.le_of_ble_eq_true rfl) ?_
  intro p e s m below meth c A Q C hQ
  unfold fB_append at hf
  change SJ p l e rB_append s m (List.toArray [Value.ref b0, Value.int p1, Value.int p2, Value.int p3, Value.int p4]) below meth c A (dC, dI) 6 Q (wdB cI cZ cB b0 b1 b2 b3 b4 bK bZ bL bM bi bg bh) [(0, .ref b0), (1, .int p1), (2, .int p2), (3, .int p3), (4, .int p4)] 0 []
  refine sj_aload_n C dB_append_0 0 rfl rfl ?_
  refine sj_get C nB_in 0 rfl rfl 4 (by decide) wd_68 rfl rfl dB_append_1 ?_
  refine sj_istore (lv' := [(5, .int bi), (0, .ref b0), (1, .int p1), (2, .int p2), (3, .int p3), (4, .int p4)]) C dB_append_4 (by decide) rfl ?_
  refine sj_iload C dB_append_6 0 rfl ?_
  refine sj_bipush C dB_append_8 kb_12 ?_
  refine sj_icmp_lt C 16 dB_append_10 (by decide) (fun c_10 => ?_) (fun c_10 => ?_)
  · have hf := (if_pos c_10).symm.trans hf
    refine sj_aload_n C dB_append_16 1 rfl rfl ?_
    refine sj_get C nB_in 0 rfl rfl 0 (by decide) wd_56 rfl rfl dB_append_17 ?_
    refine sj_iload C dB_append_20 0 rfl ?_
    refine sj_iload_n C dB_append_22 2 rfl rfl ?_
    obtain ⟨h_23, hf⟩ := in_some hf
    refine sj_iast (w' := (wdB cI cZ cB b0 b1 b2 b3 b4 ((upd bK bi.toNatClampNeg p1)) bZ bL bM bi bg bh)) C 1 0 rfl rfl h_23 rfl dB_append_23 rfl ?_
    refine sj_aload_n C dB_append_24 1 rfl rfl ?_
    refine sj_get C nB_in 0 rfl rfl 1 (by decide) wd_60 rfl rfl dB_append_25 ?_
    refine sj_iload C dB_append_28 0 rfl ?_
    refine sj_iload_n C dB_append_30 3 rfl rfl ?_
    obtain ⟨h_31, hf⟩ := in_some hf
    refine sj_iast (w' := (wdB cI cZ cB b0 b1 b2 b3 b4 ((upd bK bi.toNatClampNeg p1)) ((upd bZ bi.toNatClampNeg p2)) bL bM bi bg bh)) C 2 0 rfl rfl h_31 rfl dB_append_31 rfl ?_
    refine sj_aload_n C dB_append_32 1 rfl rfl ?_
    refine sj_get C nB_in 0 rfl rfl 2 (by decide) wd_62 rfl rfl dB_append_33 ?_
    refine sj_iload C dB_append_36 0 rfl ?_
    refine sj_iload_n C dB_append_38 4 rfl rfl ?_
    obtain ⟨h_39, hf⟩ := in_some hf
    refine sj_iast (w' := (wdB cI cZ cB b0 b1 b2 b3 b4 ((upd bK bi.toNatClampNeg p1)) ((upd bZ bi.toNatClampNeg p2)) ((upd bL bi.toNatClampNeg p3)) bM bi bg bh)) C 3 0 rfl rfl h_39 rfl dB_append_39 rfl ?_
    refine sj_aload_n C dB_append_40 1 rfl rfl ?_
    refine sj_get C nB_in 0 rfl rfl 3 (by decide) wd_65 rfl rfl dB_append_41 ?_
    refine sj_iload C dB_append_44 0 rfl ?_
    refine sj_iload C dB_append_46 5 rfl ?_
    obtain ⟨h_48, hf⟩ := in_some hf
    refine sj_iast (w' := (wdB cI cZ cB b0 b1 b2 b3 b4 ((upd bK bi.toNatClampNeg p1)) ((upd bZ bi.toNatClampNeg p2)) ((upd bL bi.toNatClampNeg p3)) ((upd bM bi.toNatClampNeg p4)) bi bg bh)) C 4 0 rfl rfl h_48 rfl dB_append_48 rfl ?_
    refine sj_aload_n C dB_append_49 1 rfl rfl ?_
    refine sj_dup C dB_append_50 rfl ?_
    refine sj_get C nB_in 0 rfl rfl 4 (by decide) wd_68 rfl rfl dB_append_51 ?_
    refine sj_iconst C dB_append_54 ki_1 ?_
    refine sj_iadd C dB_append_55 ?_
    refine sj_put (w' := (wdB cI cZ cB b0 b1 b2 b3 b4 ((upd bK bi.toNatClampNeg p1)) ((upd bZ bi.toNatClampNeg p2)) ((upd bL bi.toNatClampNeg p3)) ((upd bM bi.toNatClampNeg p4)) ((bi + 1)) bg bh)) C nB_in nB_ty nB_ok nB_nm 0 rfl rfl 4 (by decide) wd_68 rfl rfl rfl rfl (Nat.le_of_ble_eq_true rfl) dB_append_56 rfl ?_
    refine sj_iload C dB_append_59 0 rfl ?_
    cases hf
    exact hQ 61 _ dB_append_61
  · have hf := (if_neg c_10).symm.trans hf
    refine sj_bipush C dB_append_13 kb_m4 ?_
    cases hf
    exact hQ 15 _ dB_append_15
abbrev rB_has : Room := { frames := 0, cells := 0, slots := 0, locals := 0 }
set_option maxHeartbeats 4000000 in
set_option maxRecDepth 100000 in
theorem cB_has (l : Launch) (dC : Nat → ClassId) (dI : Nat → Nat → Nat) (cI cZ cB : ClassId) (b0 b1 b2 b3 b4 : Nat) (bK bZ bL bM : Nat → Int32) (bi bg bh : Int32) (p1 : Int32) (r : Int32)  (hf : fB_has p1 bi = some r) : MI l yB_has wB_has rB_has (dC, dI) (tyl cI cZ cB) [Value.ref b0, Value.int p1] (wdB cI cZ cB b0 b1 b2 b3 b4 bK bZ bL bM bi bg bh) (wdB cI cZ cB b0 b1 b2 b3 b4 bK bZ bL bM bi bg bh) r := by
  refine MZ_of "StepColumns$Book" rfl (by decide) (Nat.le_of_ble_eq_true rfl) ?_
  intro p e s m below meth c A Q C hQ
  have hb_17 : ∀ (t0 : Int32), fB_has_b17 t0 bi = some r → SJ p l e rB_has s m (List.toArray [Value.ref b0, Value.int p1]) below meth c A (dC, dI) 2 Q (wdB cI cZ cB b0 b1 b2 b3 b4 bK bZ bL bM bi bg bh) [] 17 [.int t0] := by
    intro t0 hf
    unfold fB_has_b17 at hf
    obtain ⟨h_17, hf⟩ := in_some hf
    cases hf
    exact hQ 17 _ (Decidable.not_not.mp h_17) dB_has_17
  have hb_16 : fB_has_b16 bi = some r → SJ p l e rB_has s m (List.toArray [Value.ref b0, Value.int p1]) below meth c A (dC, dI) 2 Q (wdB cI cZ cB b0 b1 b2 b3 b4 bK bZ bL bM bi bg bh) [] 16 [] := by
    intro  hf
    unfold fB_has_b16 at hf
    refine sj_iconst C dB_has_16 ki_0 ?_
    exact sj_lv [] rfl (hb_17 0 hf)
  unfold fB_has at hf
  change SJ p l e rB_has s m (List.toArray [Value.ref b0, Value.int p1]) below meth c A (dC, dI) 2 Q (wdB cI cZ cB b0 b1 b2 b3 b4 bK bZ bL bM bi bg bh) [(0, .ref b0), (1, .int p1)] 0 []
  refine sj_iload_n C dB_has_0 1 rfl rfl ?_
  refine sj_if_lt C 16 dB_has_1 (by decide) (fun c_1 => ?_) (fun c_1 => ?_)
  · have hf := (if_pos c_1).symm.trans hf
    exact sj_lv [] rfl (hb_16 hf)
  · have hf := (if_neg c_1).symm.trans hf
    refine sj_iload_n C dB_has_4 1 rfl rfl ?_
    refine sj_aload_n C dB_has_5 0 rfl rfl ?_
    refine sj_get C nB_in 0 rfl rfl 4 (by decide) wd_68 rfl rfl dB_has_6 ?_
    refine sj_icmp_ge C 16 dB_has_9 (by decide) (fun c_9 => ?_) (fun c_9 => ?_)
    · have hf := (if_pos c_9).symm.trans hf
      exact sj_lv [] rfl (hb_16 hf)
    · have hf := (if_neg c_9).symm.trans hf
      refine sj_iconst C dB_has_12 ki_1 ?_
      refine sj_goto C 17 dB_has_13 (by decide) ?_
      exact sj_lv [] rfl (hb_17 1 hf)
abbrev rB_number : Room := { frames := 0, cells := 0, slots := 0, locals := 0 }
set_option maxHeartbeats 4000000 in
set_option maxRecDepth 100000 in
theorem cB_number (l : Launch) (dC : Nat → ClassId) (dI : Nat → Nat → Nat) (cI cZ cB : ClassId) (b0 b1 b2 b3 b4 : Nat) (bK bZ bL bM : Nat → Int32) (bi bg bh : Int32) (p1 p2 : Int32) (r : Int32)  (hf : fB_number p1 p2 bK bZ bL bM = some r) : MI l yB_number wB_number rB_number (dC, dI) (tyl cI cZ cB) [Value.ref b0, Value.int p1, Value.int p2] (wdB cI cZ cB b0 b1 b2 b3 b4 bK bZ bL bM bi bg bh) (wdB cI cZ cB b0 b1 b2 b3 b4 bK bZ bL bM bi bg bh) r := by
  refine MI_of "StepColumns$Book" rfl (by decide) (Nat.le_of_ble_eq_true rfl) ?_
  intro p e s m below meth c A Q C hQ
  unfold fB_number at hf
  change SJ p l e rB_number s m (List.toArray [Value.ref b0, Value.int p1, Value.int p2]) below meth c A (dC, dI) 3 Q (wdB cI cZ cB b0 b1 b2 b3 b4 bK bZ bL bM bi bg bh) [(0, .ref b0), (1, .int p1), (2, .int p2)] 0 []
  refine sj_iload_n C dB_number_0 2 rfl rfl ?_
  by_cases c_1_0 : p2 = 0
  · have hf := (if_pos c_1_0).symm.trans hf
    refine sj_tabIn (off := 27) C 28 0 c_1_0 dB_number_1 (by decide +kernel) (by decide +kernel) (by decide +kernel) (by decide) ?_
    refine sj_aload_n C dB_number_28 0 rfl rfl ?_
    refine sj_get C nB_in 0 rfl rfl 0 (by decide) wd_56 rfl rfl dB_number_29 ?_
    refine sj_iload_n C dB_number_32 1 rfl rfl ?_
    obtain ⟨h_33, hf⟩ := in_some hf
    refine sj_iald C 1 0 rfl rfl h_33 rfl dB_number_33 ?_
    cases hf
    exact hQ 34 _ dB_number_34
  have hf := (if_neg c_1_0).symm.trans hf
  by_cases c_1_1 : p2 = 1
  · have hf := (if_pos c_1_1).symm.trans hf
    refine sj_tabIn (off := 34) C 35 1 c_1_1 dB_number_1 (by decide +kernel) (by decide +kernel) (by decide +kernel) (by decide) ?_
    refine sj_aload_n C dB_number_35 0 rfl rfl ?_
    refine sj_get C nB_in 0 rfl rfl 1 (by decide) wd_60 rfl rfl dB_number_36 ?_
    refine sj_iload_n C dB_number_39 1 rfl rfl ?_
    obtain ⟨h_40, hf⟩ := in_some hf
    refine sj_iald C 2 0 rfl rfl h_40 rfl dB_number_40 ?_
    cases hf
    exact hQ 41 _ dB_number_41
  have hf := (if_neg c_1_1).symm.trans hf
  by_cases c_1_2 : p2 = 2
  · have hf := (if_pos c_1_2).symm.trans hf
    refine sj_tabIn (off := 41) C 42 2 c_1_2 dB_number_1 (by decide +kernel) (by decide +kernel) (by decide +kernel) (by decide) ?_
    refine sj_aload_n C dB_number_42 0 rfl rfl ?_
    refine sj_get C nB_in 0 rfl rfl 2 (by decide) wd_62 rfl rfl dB_number_43 ?_
    refine sj_iload_n C dB_number_46 1 rfl rfl ?_
    obtain ⟨h_47, hf⟩ := in_some hf
    refine sj_iald C 3 0 rfl rfl h_47 rfl dB_number_47 ?_
    cases hf
    exact hQ 48 _ dB_number_48
  have hf := (if_neg c_1_2).symm.trans hf
  have e_0 : ¬ (p2).toInt = 0 := fun h => c_1_0 (sw_inj h (by decide +kernel))
  have e_1 : ¬ (p2).toInt = 1 := fun h => c_1_1 (sw_inj h (by decide +kernel))
  have e_2 : ¬ (p2).toInt = 2 := fun h => c_1_2 (sw_inj h (by decide +kernel))
  refine sj_tabOut C 49 dB_number_1 (by omega) (by decide) ?_
  refine sj_aload_n C dB_number_49 0 rfl rfl ?_
  refine sj_get C nB_in 0 rfl rfl 3 (by decide) wd_65 rfl rfl dB_number_50 ?_
  refine sj_iload_n C dB_number_53 1 rfl rfl ?_
  obtain ⟨h_54, hf⟩ := in_some hf
  refine sj_iald C 4 0 rfl rfl h_54 rfl dB_number_54 ?_
  cases hf
  exact hQ 55 _ dB_number_55
abbrev rB_write : Room := { frames := 0, cells := 0, slots := 0, locals := 0 }
set_option maxHeartbeats 4000000 in
set_option maxRecDepth 100000 in
theorem cB_write (l : Launch) (dC : Nat → ClassId) (dI : Nat → Nat → Nat) (cI cZ cB : ClassId) (b0 b1 b2 b3 b4 : Nat) (bK bZ bL bM : Nat → Int32) (bi bg bh : Int32) (p1 p2 p3 : Int32) (bZ' : Nat → Int32) (bL' : Nat → Int32) (bM' : Nat → Int32) (hf : fB_write p1 p2 p3 bZ bL bM = some (bZ', bL', bM')) : MV l yB_write wB_write rB_write (dC, dI) (tyl cI cZ cB) [Value.ref b0, Value.int p1, Value.int p2, Value.int p3] (wdB cI cZ cB b0 b1 b2 b3 b4 bK bZ bL bM bi bg bh) (wdB cI cZ cB b0 b1 b2 b3 b4 bK bZ' bL' bM' bi bg bh) := by
  refine MV_of "StepColumns$Book" rfl (by decide) (Nat.le_of_ble_eq_true rfl) ?_
  intro p e s m below meth c A Q C hQ
  have hb_55 : ∀ (bZ bL bM : Nat → Int32), fB_write_b55 bZ bL bM = some (bZ', bL', bM') → SJ p l e rB_write s m (List.toArray [Value.ref b0, Value.int p1, Value.int p2, Value.int p3]) below meth c A (dC, dI) 4 Q (wdB cI cZ cB b0 b1 b2 b3 b4 bK bZ bL bM bi bg bh) [] 55 [] := by
    intro bZ bL bM hf
    unfold fB_write_b55 at hf
    cases hf
    exact hQ 55 _ dB_write_55
  unfold fB_write at hf
  change SJ p l e rB_write s m (List.toArray [Value.ref b0, Value.int p1, Value.int p2, Value.int p3]) below meth c A (dC, dI) 4 Q (wdB cI cZ cB b0 b1 b2 b3 b4 bK bZ bL bM bi bg bh) [(0, .ref b0), (1, .int p1), (2, .int p2), (3, .int p3)] 0 []
  refine sj_iload_n C dB_write_0 2 rfl rfl ?_
  by_cases c_1_1 : p2 = 1
  · have hf := (if_pos c_1_1).symm.trans hf
    refine sj_lookup (off := 27) C 28 dB_write_1 (by decide +kernel) (by rw [c_1_1]; decide +kernel) (by decide) ?_
    refine sj_aload_n C dB_write_28 0 rfl rfl ?_
    refine sj_get C nB_in 0 rfl rfl 1 (by decide) wd_60 rfl rfl dB_write_29 ?_
    refine sj_iload_n C dB_write_32 1 rfl rfl ?_
    refine sj_iload_n C dB_write_33 3 rfl rfl ?_
    obtain ⟨h_34, hf⟩ := in_some hf
    refine sj_iast (w' := (wdB cI cZ cB b0 b1 b2 b3 b4 bK ((upd bZ p1.toNatClampNeg p3)) bL bM bi bg bh)) C 2 0 rfl rfl h_34 rfl dB_write_34 rfl ?_
    refine sj_goto C 55 dB_write_35 (by decide) ?_
    exact sj_lv [] rfl (hb_55 (upd bZ p1.toNatClampNeg p3) bL bM hf)
  have hf := (if_neg c_1_1).symm.trans hf
  by_cases c_1_2 : p2 = 2
  · have hf := (if_pos c_1_2).symm.trans hf
    refine sj_lookup (off := 37) C 38 dB_write_1 (by decide +kernel) (by rw [c_1_2]; decide +kernel) (by decide) ?_
    refine sj_aload_n C dB_write_38 0 rfl rfl ?_
    refine sj_get C nB_in 0 rfl rfl 2 (by decide) wd_62 rfl rfl dB_write_39 ?_
    refine sj_iload_n C dB_write_42 1 rfl rfl ?_
    refine sj_iload_n C dB_write_43 3 rfl rfl ?_
    obtain ⟨h_44, hf⟩ := in_some hf
    refine sj_iast (w' := (wdB cI cZ cB b0 b1 b2 b3 b4 bK bZ ((upd bL p1.toNatClampNeg p3)) bM bi bg bh)) C 3 0 rfl rfl h_44 rfl dB_write_44 rfl ?_
    refine sj_goto C 55 dB_write_45 (by decide) ?_
    exact sj_lv [] rfl (hb_55 bZ (upd bL p1.toNatClampNeg p3) bM hf)
  have hf := (if_neg c_1_2).symm.trans hf
  refine sj_lookup (off := 47) C 48 dB_write_1 (by decide +kernel) (by rw [lv_osw c_1_1 (by decide +kernel), lv_osw c_1_2 (by decide +kernel)]; rfl) (by decide) ?_
  refine sj_aload_n C dB_write_48 0 rfl rfl ?_
  refine sj_get C nB_in 0 rfl rfl 3 (by decide) wd_65 rfl rfl dB_write_49 ?_
  refine sj_iload_n C dB_write_52 1 rfl rfl ?_
  refine sj_iload_n C dB_write_53 3 rfl rfl ?_
  obtain ⟨h_54, hf⟩ := in_some hf
  refine sj_iast (w' := (wdB cI cZ cB b0 b1 b2 b3 b4 bK bZ bL ((upd bM p1.toNatClampNeg p3)) bi bg bh)) C 4 0 rfl rfl h_54 rfl dB_write_54 rfl ?_
  exact sj_lv [] rfl (hb_55 bZ bL (upd bM p1.toNatClampNeg p3) hf)
abbrev rB_shiftNumber : Room := { frames := 0, cells := 0, slots := 0, locals := 0 }
set_option maxHeartbeats 4000000 in
set_option maxRecDepth 100000 in
theorem cB_shiftNumber (l : Launch) (dC : Nat → ClassId) (dI : Nat → Nat → Nat) (cI cZ cB : ClassId) (a0 : Nat) (an : Nat) (aV : Nat → Int32) (p1 p2 : Int32) (aV' : Nat → Int32) (hf : fB_shiftNumber p1 p2 an aV = some aV') : MV l yB_shiftNumber wB_shiftNumber rB_shiftNumber (dC, dI) (tyl cI cZ cB) [Value.ref a0, Value.int p1, Value.int p2] (wdA cI cZ cB a0 an aV) (wdA cI cZ cB a0 an aV') := by
  refine MV_of "StepColumns$Book" rfl (by decide) (Nat.le_of_ble_eq_true rfl) ?_
  intro p e s m below meth c A Q C hQ
  have hb_32 : ∀ (n : Nat) (v2 v3 v4 : Int32) (aV : Nat → Int32), fB_shiftNumber_b32 n v2 v3 v4 an aV = some aV' → SJ p l e rB_shiftNumber s m (List.toArray [Value.ref a0, Value.int p1, Value.int p2]) below meth c A (dC, dI) 5 Q (wdA cI cZ cB a0 an aV) [(0, .ref a0), (2, .int v2), (3, .int v3), (4, .int v4)] 32 [] := by
    intro n
    induction n with
    | zero => intro v2 v3 v4 aV hf; cases hf
    | succ n IH =>
      intro v2 v3 v4 aV hf
      unfold fB_shiftNumber_b32 at hf
      refine sj_iload C dB_shiftNumber_32 3 rfl ?_
      refine sj_iload_n C dB_shiftNumber_34 1 rfl rfl ?_
      refine sj_icmp_le C 54 dB_shiftNumber_35 (by decide) (fun c_35 => ?_) (fun c_35 => ?_)
      · have hf := (if_pos c_35).symm.trans hf
        refine sj_aload_n C dB_shiftNumber_54 0 rfl rfl ?_
        refine sj_iload_n C dB_shiftNumber_55 1 rfl rfl ?_
        refine sj_iload_n C dB_shiftNumber_56 2 rfl rfl ?_
        obtain ⟨h_57, hf⟩ := in_some hf
        refine sj_iast (w' := (wdA cI cZ cB a0 an ((upd aV v2.toNatClampNeg v3)))) C 0 0 rfl rfl h_57 rfl dB_shiftNumber_57 rfl ?_
        cases hf
        exact hQ 58 _ dB_shiftNumber_58
      · have hf := (if_neg c_35).symm.trans hf
        refine sj_aload_n C dB_shiftNumber_38 0 rfl rfl ?_
        refine sj_iload C dB_shiftNumber_39 3 rfl ?_
        refine sj_aload_n C dB_shiftNumber_41 0 rfl rfl ?_
        refine sj_iload C dB_shiftNumber_42 3 rfl ?_
        refine sj_iconst C dB_shiftNumber_44 ki_1 ?_
        refine sj_isub C dB_shiftNumber_45 ?_
        obtain ⟨h_46, hf⟩ := in_some hf
        refine sj_iald C 0 0 rfl rfl h_46 rfl dB_shiftNumber_46 ?_
        obtain ⟨h_47, hf⟩ := in_some hf
        refine sj_iast (w' := (wdA cI cZ cB a0 an ((upd aV v4.toNatClampNeg (aV (v4 - 1).toNatClampNeg))))) C 0 0 rfl rfl h_47 rfl dB_shiftNumber_47 rfl ?_
        refine sj_iinc (v := (v4 + (-1))) (lv' := [(4, .int (v4 + (-1))), (0, .ref a0), (2, .int v2), (3, .int v3)]) C dB_shiftNumber_48 3 rfl (by rw [ki_m1]) (by decide) rfl ?_
        refine sj_goto C 32 dB_shiftNumber_51 (by decide) ?_
        exact sj_lv [1, 2, 3, 0] rfl (IH v2 v3 (v4 + (-1)) (upd aV v4.toNatClampNeg (aV (v4 - 1).toNatClampNeg)) hf)
  have hb_7 : ∀ (n : Nat) (v1 v2 v3 v4 : Int32) (aV : Nat → Int32), fB_shiftNumber_b7 n v1 v2 v3 v4 an aV = some aV' → SJ p l e rB_shiftNumber s m (List.toArray [Value.ref a0, Value.int p1, Value.int p2]) below meth c A (dC, dI) 5 Q (wdA cI cZ cB a0 an aV) [(0, .ref a0), (1, .int v1), (2, .int v2), (3, .int v3), (4, .int v4)] 7 [] := by
    intro n
    induction n with
    | zero => intro v1 v2 v3 v4 aV hf; cases hf
    | succ n IH =>
      intro v1 v2 v3 v4 aV hf
      unfold fB_shiftNumber_b7 at hf
      refine sj_iload C dB_shiftNumber_7 4 rfl ?_
      refine sj_iload_n C dB_shiftNumber_9 2 rfl rfl ?_
      refine sj_icmp_ge C 29 dB_shiftNumber_10 (by decide) (fun c_10 => ?_) (fun c_10 => ?_)
      · have hf := (if_pos c_10).symm.trans hf
        refine sj_iload_n C dB_shiftNumber_29 1 rfl rfl ?_
        refine sj_istore (lv' := [(4, .int v1), (0, .ref a0), (1, .int v1), (2, .int v2), (3, .int v3)]) C dB_shiftNumber_30 (by decide) rfl ?_
        exact sj_lv [1, 3, 4, 0] rfl (hb_32 fu v2 v3 v1 aV hf)
      · have hf := (if_neg c_10).symm.trans hf
        refine sj_aload_n C dB_shiftNumber_13 0 rfl rfl ?_
        refine sj_iload C dB_shiftNumber_14 4 rfl ?_
        refine sj_aload_n C dB_shiftNumber_16 0 rfl rfl ?_
        refine sj_iload C dB_shiftNumber_17 4 rfl ?_
        refine sj_iconst C dB_shiftNumber_19 ki_1 ?_
        refine sj_iadd C dB_shiftNumber_20 ?_
        obtain ⟨h_21, hf⟩ := in_some hf
        refine sj_iald C 0 0 rfl rfl h_21 rfl dB_shiftNumber_21 ?_
        obtain ⟨h_22, hf⟩ := in_some hf
        refine sj_iast (w' := (wdA cI cZ cB a0 an ((upd aV v4.toNatClampNeg (aV (v4 + 1).toNatClampNeg))))) C 0 0 rfl rfl h_22 rfl dB_shiftNumber_22 rfl ?_
        refine sj_iinc (v := (v4 + 1)) (lv' := [(4, .int (v4 + 1)), (0, .ref a0), (1, .int v1), (2, .int v2), (3, .int v3)]) C dB_shiftNumber_23 4 rfl (by rw [ki_1]) (by decide) rfl ?_
        refine sj_goto C 7 dB_shiftNumber_26 (by decide) ?_
        exact sj_lv [1, 2, 3, 4, 0] rfl (IH v1 v2 v3 (v4 + 1) (upd aV v4.toNatClampNeg (aV (v4 + 1).toNatClampNeg)) hf)
  unfold fB_shiftNumber at hf
  change SJ p l e rB_shiftNumber s m (List.toArray [Value.ref a0, Value.int p1, Value.int p2]) below meth c A (dC, dI) 5 Q (wdA cI cZ cB a0 an aV) [(0, .ref a0), (1, .int p1), (2, .int p2)] 0 []
  refine sj_aload_n C dB_shiftNumber_0 0 rfl rfl ?_
  refine sj_iload_n C dB_shiftNumber_1 1 rfl rfl ?_
  obtain ⟨h_2, hf⟩ := in_some hf
  refine sj_iald C 0 0 rfl rfl h_2 rfl dB_shiftNumber_2 ?_
  refine sj_istore_n (lv' := [(3, .int (aV p1.toNatClampNeg)), (0, .ref a0), (1, .int p1), (2, .int p2)]) C dB_shiftNumber_3 rfl (by decide) rfl ?_
  refine sj_iload_n C dB_shiftNumber_4 2 rfl rfl ?_
  refine sj_istore (lv' := [(4, .int p1), (3, .int (aV p1.toNatClampNeg)), (0, .ref a0), (1, .int p1), (2, .int p2)]) C dB_shiftNumber_5 (by decide) rfl ?_
  exact sj_lv [2, 3, 4, 1, 0] rfl (hb_7 fu p1 p2 (aV p1.toNatClampNeg) p1 aV hf)
abbrev rB_shift : Room := { frames := 1, cells := 0, slots := 0, locals := 24 }
set_option maxHeartbeats 4000000 in
set_option maxRecDepth 100000 in
theorem cB_shift (l : Launch) (dC : Nat → ClassId) (dI : Nat → Nat → Nat) (cI cZ cB : ClassId) (b0 b1 b2 b3 b4 : Nat) (bK bZ bL bM : Nat → Int32) (bi bg bh : Int32) (p1 p2 : Int32) (bK' : Nat → Int32) (bZ' : Nat → Int32) (bL' : Nat → Int32) (bM' : Nat → Int32) (hf : fB_shift p1 p2 bK bZ bL bM = some (bK', bZ', bL', bM')) : MV l yB_shift wB_shift rB_shift (dC, dI) (tyl cI cZ cB) [Value.ref b0, Value.int p1, Value.int p2] (wdB cI cZ cB b0 b1 b2 b3 b4 bK bZ bL bM bi bg bh) (wdB cI cZ cB b0 b1 b2 b3 b4 bK' bZ' bL' bM' bi bg bh) := by
  refine MV_of "StepColumns$Book" rfl (by decide) (Nat.le_of_ble_eq_true rfl) ?_
  intro p e s m below meth c A Q C hQ
  unfold fB_shift at hf
  change SJ p l e rB_shift s m (List.toArray [Value.ref b0, Value.int p1, Value.int p2]) below meth c A (dC, dI) 3 Q (wdB cI cZ cB b0 b1 b2 b3 b4 bK bZ bL bM bi bg bh) [(0, .ref b0), (1, .int p1), (2, .int p2)] 0 []
  refine sj_aload_n C dB_shift_0 0 rfl rfl ?_
  refine sj_get C nB_in 0 rfl rfl 0 (by decide) wd_56 rfl rfl dB_shift_1 ?_
  refine sj_iload_n C dB_shift_4 1 rfl rfl ?_
  refine sj_iload_n C dB_shift_5 2 rfl rfl ?_
  obtain ⟨bK_6, hq_6, hf⟩ := bd1_some hf
  refine sj_callSv (w1 := (wdB cI cZ cB b0 b1 b2 b3 b4 bK_6 bZ bL bM bi bg bh)) C "StepColumns$Book" (cB_shiftNumber l dC dI cI cZ cB b1 12 bK p1 p2 bK_6 hq_6) wd_227 wd_228 wd_36 wd_229 hB_shiftNumber rfl rfl ⟨Nat.le_of_ble_eq_true rfl, Nat.le_of_ble_eq_true rfl⟩ [1] [0, 2, 3, 4] ⟨rfl, rfl, rfl, rfl, rfl, rfl, kv_5_1⟩ rfl rfl (Nat.le_of_ble_eq_true rfl) dB_shift_6 ?_
  refine sj_aload_n C dB_shift_9 0 rfl rfl ?_
  refine sj_get C nB_in 0 rfl rfl 1 (by decide) wd_60 rfl rfl dB_shift_10 ?_
  refine sj_iload_n C dB_shift_13 1 rfl rfl ?_
  refine sj_iload_n C dB_shift_14 2 rfl rfl ?_
  obtain ⟨bZ_15, hq_15, hf⟩ := bd1_some hf
  refine sj_callSv (w1 := (wdB cI cZ cB b0 b1 b2 b3 b4 bK_6 bZ_15 bL bM bi bg bh)) C "StepColumns$Book" (cB_shiftNumber l dC dI cI cZ cB b2 12 bZ p1 p2 bZ_15 hq_15) wd_227 wd_228 wd_36 wd_229 hB_shiftNumber rfl rfl ⟨Nat.le_of_ble_eq_true rfl, Nat.le_of_ble_eq_true rfl⟩ [2] [0, 1, 3, 4] ⟨rfl, rfl, rfl, rfl, rfl, rfl, kv_5_2⟩ rfl rfl (Nat.le_of_ble_eq_true rfl) dB_shift_15 ?_
  refine sj_aload_n C dB_shift_18 0 rfl rfl ?_
  refine sj_get C nB_in 0 rfl rfl 2 (by decide) wd_62 rfl rfl dB_shift_19 ?_
  refine sj_iload_n C dB_shift_22 1 rfl rfl ?_
  refine sj_iload_n C dB_shift_23 2 rfl rfl ?_
  obtain ⟨bL_24, hq_24, hf⟩ := bd1_some hf
  refine sj_callSv (w1 := (wdB cI cZ cB b0 b1 b2 b3 b4 bK_6 bZ_15 bL_24 bM bi bg bh)) C "StepColumns$Book" (cB_shiftNumber l dC dI cI cZ cB b3 12 bL p1 p2 bL_24 hq_24) wd_227 wd_228 wd_36 wd_229 hB_shiftNumber rfl rfl ⟨Nat.le_of_ble_eq_true rfl, Nat.le_of_ble_eq_true rfl⟩ [3] [0, 1, 2, 4] ⟨rfl, rfl, rfl, rfl, rfl, rfl, kv_5_3⟩ rfl rfl (Nat.le_of_ble_eq_true rfl) dB_shift_24 ?_
  refine sj_aload_n C dB_shift_27 0 rfl rfl ?_
  refine sj_get C nB_in 0 rfl rfl 3 (by decide) wd_65 rfl rfl dB_shift_28 ?_
  refine sj_iload_n C dB_shift_31 1 rfl rfl ?_
  refine sj_iload_n C dB_shift_32 2 rfl rfl ?_
  obtain ⟨bM_33, hq_33, hf⟩ := bd1_some hf
  refine sj_callSv (w1 := (wdB cI cZ cB b0 b1 b2 b3 b4 bK_6 bZ_15 bL_24 bM_33 bi bg bh)) C "StepColumns$Book" (cB_shiftNumber l dC dI cI cZ cB b4 12 bM p1 p2 bM_33 hq_33) wd_227 wd_228 wd_36 wd_229 hB_shiftNumber rfl rfl ⟨Nat.le_of_ble_eq_true rfl, Nat.le_of_ble_eq_true rfl⟩ [4] [0, 1, 2, 3] ⟨rfl, rfl, rfl, rfl, rfl, rfl, kv_5_4⟩ rfl rfl (Nat.le_of_ble_eq_true rfl) dB_shift_33 ?_
  cases hf
  exact hQ 36 _ dB_shift_36
abbrev rJ_fill : Room := { frames := 0, cells := 0, slots := 0, locals := 0 }
set_option maxHeartbeats 4000000 in
set_option maxRecDepth 100000 in
theorem cJ_fill (l : Launch) (dC : Nat → ClassId) (dI : Nat → Nat → Nat) (cI cZ cB : ClassId) (a0 : Nat) (an : Nat) (aV : Nat → Int32) (p1 : Int32) (aV' : Nat → Int32) (hf : fJ_fill p1 an aV = some aV') : MV l yJ_fill wJ_fill rJ_fill (dC, dI) (tyl cI cZ cB) [Value.ref a0, Value.int p1] (wdA cI cZ cB a0 an aV) (wdA cI cZ cB a0 an aV') := by
  refine MV_of "java/util/Arrays" rfl (by decide) (Nat.le_of_ble_eq_true rfl) ?_
  intro p e s m below meth c A Q C hQ
  have hb_5 : ∀ (n : Nat) (v1 v2 v3 : Int32) (aV : Nat → Int32), fJ_fill_b5 n v1 v2 v3 an aV = some aV' → SJ p l e rJ_fill s m (List.toArray [Value.ref a0, Value.int p1]) below meth c A (dC, dI) 4 Q (wdA cI cZ cB a0 an aV) [(0, .ref a0), (1, .int v1), (2, .int v2), (3, .int v3)] 5 [] := by
    intro n
    induction n with
    | zero => intro v1 v2 v3 aV hf; cases hf
    | succ n IH =>
      intro v1 v2 v3 aV hf
      unfold fJ_fill_b5 at hf
      refine sj_iload_n C dJ_fill_5 2 rfl rfl ?_
      refine sj_iload_n C dJ_fill_6 3 rfl rfl ?_
      refine sj_icmp_ge C 20 dJ_fill_7 (by decide) (fun c_7 => ?_) (fun c_7 => ?_)
      · have hf := (if_pos c_7).symm.trans hf
        cases hf
        exact hQ 20 _ dJ_fill_20
      · have hf := (if_neg c_7).symm.trans hf
        refine sj_aload_n C dJ_fill_10 0 rfl rfl ?_
        refine sj_iload_n C dJ_fill_11 2 rfl rfl ?_
        refine sj_iload_n C dJ_fill_12 1 rfl rfl ?_
        obtain ⟨h_13, hf⟩ := in_some hf
        refine sj_iast (w' := (wdA cI cZ cB a0 an ((upd aV v2.toNatClampNeg v1)))) C 0 0 rfl rfl h_13 rfl dJ_fill_13 rfl ?_
        refine sj_iinc (v := (v2 + 1)) (lv' := [(2, .int (v2 + 1)), (0, .ref a0), (1, .int v1), (3, .int v3)]) C dJ_fill_14 2 rfl (by rw [ki_1]) (by decide) rfl ?_
        refine sj_goto C 5 dJ_fill_17 (by decide) ?_
        exact sj_lv [1, 2, 0, 3] rfl (IH v1 (v2 + 1) v3 (upd aV v2.toNatClampNeg v1) hf)
  unfold fJ_fill at hf
  change SJ p l e rJ_fill s m (List.toArray [Value.ref a0, Value.int p1]) below meth c A (dC, dI) 4 Q (wdA cI cZ cB a0 an aV) [(0, .ref a0), (1, .int p1)] 0 []
  refine sj_iconst C dJ_fill_0 ki_0 ?_
  refine sj_istore_n (lv' := [(2, .int 0), (0, .ref a0), (1, .int p1)]) C dJ_fill_1 rfl (by decide) rfl ?_
  refine sj_aload_n C dJ_fill_2 1 rfl rfl ?_
  refine sj_alen C 0 0 rfl rfl rfl dJ_fill_3 ?_
  refine sj_istore_n (lv' := [(3, .int (Int32.ofNat an)), (2, .int 0), (0, .ref a0), (1, .int p1)]) C dJ_fill_4 rfl (by decide) rfl ?_
  exact sj_lv [2, 3, 1, 0] rfl (hb_5 fu p1 0 (Int32.ofNat an) aV hf)
abbrev rB_thingsOf : Room := { frames := 0, cells := 0, slots := 0, locals := 0 }
set_option maxHeartbeats 4000000 in
set_option maxRecDepth 100000 in
theorem cB_thingsOf (l : Launch) (dC : Nat → ClassId) (dI : Nat → Nat → Nat) (cI cZ cB : ClassId) (b0 b1 b2 b3 b4 : Nat) (bK bZ bL bM : Nat → Int32) (bi bg bh : Int32) (p1 : Int32) (r : Int32)  (hf : fB_thingsOf p1 bK bZ = some r) : MI l yB_thingsOf wB_thingsOf rB_thingsOf (dC, dI) (tyl cI cZ cB) [Value.ref b0, Value.int p1] (wdB cI cZ cB b0 b1 b2 b3 b4 bK bZ bL bM bi bg bh) (wdB cI cZ cB b0 b1 b2 b3 b4 bK bZ bL bM bi bg bh) r := by
  refine MI_of "StepColumns$Book" rfl (by decide) (Nat.le_of_ble_eq_true rfl) ?_
  intro p e s m below meth c A Q C hQ
  have hb_19 : ∀ (t0 : Int32), fB_thingsOf_b19 t0 bK bZ = some r → SJ p l e rB_thingsOf s m (List.toArray [Value.ref b0, Value.int p1]) below meth c A (dC, dI) 2 Q (wdB cI cZ cB b0 b1 b2 b3 b4 bK bZ bL bM bi bg bh) [] 19 [.int t0] := by
    intro t0 hf
    unfold fB_thingsOf_b19 at hf
    cases hf
    exact hQ 19 _ dB_thingsOf_19
  unfold fB_thingsOf at hf
  change SJ p l e rB_thingsOf s m (List.toArray [Value.ref b0, Value.int p1]) below meth c A (dC, dI) 2 Q (wdB cI cZ cB b0 b1 b2 b3 b4 bK bZ bL bM bi bg bh) [(0, .ref b0), (1, .int p1)] 0 []
  refine sj_aload_n C dB_thingsOf_0 0 rfl rfl ?_
  refine sj_get C nB_in 0 rfl rfl 0 (by decide) wd_56 rfl rfl dB_thingsOf_1 ?_
  refine sj_iload_n C dB_thingsOf_4 1 rfl rfl ?_
  obtain ⟨h_5, hf⟩ := in_some hf
  refine sj_iald C 1 0 rfl rfl h_5 rfl dB_thingsOf_5 ?_
  refine sj_if_ne C 18 dB_thingsOf_6 (by decide) (fun c_6 => ?_) (fun c_6 => ?_)
  · have hf := (if_neg c_6).symm.trans hf
    refine sj_iconst C dB_thingsOf_18 ki_1 ?_
    exact sj_lv [] rfl (hb_19 1 hf)
  · have hf := (if_pos c_6).symm.trans hf
    refine sj_aload_n C dB_thingsOf_9 0 rfl rfl ?_
    refine sj_get C nB_in 0 rfl rfl 1 (by decide) wd_60 rfl rfl dB_thingsOf_10 ?_
    refine sj_iload_n C dB_thingsOf_13 1 rfl rfl ?_
    obtain ⟨h_14, hf⟩ := in_some hf
    refine sj_iald C 2 0 rfl rfl h_14 rfl dB_thingsOf_14 ?_
    refine sj_goto C 19 dB_thingsOf_15 (by decide) ?_
    exact sj_lv [] rfl (hb_19 (bZ p1.toNatClampNeg) hf)
abbrev rB_tall : Room := { frames := 0, cells := 0, slots := 0, locals := 0 }
set_option maxHeartbeats 4000000 in
set_option maxRecDepth 100000 in
theorem cB_tall (l : Launch) (dC : Nat → ClassId) (dI : Nat → Nat → Nat) (cI cZ cB : ClassId) (b0 b1 b2 b3 b4 : Nat) (bK bZ bL bM : Nat → Int32) (bi bg bh : Int32) (p1 : Int32) (r : Int32)  (hf : fB_tall p1 bK bZ bg = some r) : MI l yB_tall wB_tall rB_tall (dC, dI) (tyl cI cZ cB) [Value.ref b0, Value.int p1] (wdB cI cZ cB b0 b1 b2 b3 b4 bK bZ bL bM bi bg bh) (wdB cI cZ cB b0 b1 b2 b3 b4 bK bZ bL bM bi bg bh) r := by
  refine MI_of "StepColumns$Book" rfl (by decide) (Nat.le_of_ble_eq_true rfl) ?_
  intro p e s m below meth c A Q C hQ
  have hb_22 : ∀ (t0 : Int32), fB_tall_b22 t0 bK bZ bg = some r → SJ p l e rB_tall s m (List.toArray [Value.ref b0, Value.int p1]) below meth c A (dC, dI) 2 Q (wdB cI cZ cB b0 b1 b2 b3 b4 bK bZ bL bM bi bg bh) [] 22 [.int t0] := by
    intro t0 hf
    unfold fB_tall_b22 at hf
    cases hf
    exact hQ 22 _ dB_tall_22
  unfold fB_tall at hf
  change SJ p l e rB_tall s m (List.toArray [Value.ref b0, Value.int p1]) below meth c A (dC, dI) 2 Q (wdB cI cZ cB b0 b1 b2 b3 b4 bK bZ bL bM bi bg bh) [(0, .ref b0), (1, .int p1)] 0 []
  refine sj_aload_n C dB_tall_0 0 rfl rfl ?_
  refine sj_get C nB_in 0 rfl rfl 0 (by decide) wd_56 rfl rfl dB_tall_1 ?_
  refine sj_iload_n C dB_tall_4 1 rfl rfl ?_
  obtain ⟨h_5, hf⟩ := in_some hf
  refine sj_iald C 1 0 rfl rfl h_5 rfl dB_tall_5 ?_
  refine sj_if_ne C 16 dB_tall_6 (by decide) (fun c_6 => ?_) (fun c_6 => ?_)
  · have hf := (if_neg c_6).symm.trans hf
    refine sj_aload_n C dB_tall_16 0 rfl rfl ?_
    refine sj_get C nB_in 0 rfl rfl 1 (by decide) wd_60 rfl rfl dB_tall_17 ?_
    refine sj_iload_n C dB_tall_20 1 rfl rfl ?_
    obtain ⟨h_21, hf⟩ := in_some hf
    refine sj_iald C 2 0 rfl rfl h_21 rfl dB_tall_21 ?_
    exact sj_lv [] rfl (hb_22 (bZ p1.toNatClampNeg) hf)
  · have hf := (if_pos c_6).symm.trans hf
    refine sj_aload_n C dB_tall_9 0 rfl rfl ?_
    refine sj_get C nB_in 0 rfl rfl 5 (by decide) wd_72 rfl rfl dB_tall_10 ?_
    refine sj_goto C 22 dB_tall_13 (by decide) ?_
    exact sj_lv [] rfl (hb_22 bg hf)
abbrev rB_isOut : Room := { frames := 0, cells := 0, slots := 0, locals := 0 }
set_option maxHeartbeats 4000000 in
set_option maxRecDepth 100000 in
theorem cB_isOut (l : Launch) (dC : Nat → ClassId) (dI : Nat → Nat → Nat) (cI cZ cB : ClassId) (b0 b1 b2 b3 b4 : Nat) (bK bZ bL bM : Nat → Int32) (bi bg bh : Int32) (p1 p2 : Int32) (r : Int32)  (hf : fB_isOut p1 p2 bK bg = some r) : MI l yB_isOut wB_isOut rB_isOut (dC, dI) (tyl cI cZ cB) [Value.ref b0, Value.int p1, Value.int p2] (wdB cI cZ cB b0 b1 b2 b3 b4 bK bZ bL bM bi bg bh) (wdB cI cZ cB b0 b1 b2 b3 b4 bK bZ bL bM bi bg bh) r := by
  refine MZ_of "StepColumns$Book" rfl (by decide) (Nat.le_of_ble_eq_true rfl) ?_
  intro p e s m below meth c A Q C hQ
  have hb_31 : ∀ (t0 : Int32), fB_isOut_b31 t0 bK bg = some r → SJ p l e rB_isOut s m (List.toArray [Value.ref b0, Value.int p1, Value.int p2]) below meth c A (dC, dI) 3 Q (wdB cI cZ cB b0 b1 b2 b3 b4 bK bZ bL bM bi bg bh) [] 31 [.int t0] := by
    intro t0 hf
    unfold fB_isOut_b31 at hf
    obtain ⟨h_31, hf⟩ := in_some hf
    cases hf
    exact hQ 31 _ (Decidable.not_not.mp h_31) dB_isOut_31
  have hb_30 : fB_isOut_b30 bK bg = some r → SJ p l e rB_isOut s m (List.toArray [Value.ref b0, Value.int p1, Value.int p2]) below meth c A (dC, dI) 3 Q (wdB cI cZ cB b0 b1 b2 b3 b4 bK bZ bL bM bi bg bh) [] 30 [] := by
    intro  hf
    unfold fB_isOut_b30 at hf
    refine sj_iconst C dB_isOut_30 ki_0 ?_
    exact sj_lv [] rfl (hb_31 0 hf)
  unfold fB_isOut at hf
  change SJ p l e rB_isOut s m (List.toArray [Value.ref b0, Value.int p1, Value.int p2]) below meth c A (dC, dI) 3 Q (wdB cI cZ cB b0 b1 b2 b3 b4 bK bZ bL bM bi bg bh) [(0, .ref b0), (1, .int p1), (2, .int p2)] 0 []
  refine sj_aload_n C dB_isOut_0 0 rfl rfl ?_
  refine sj_get C nB_in 0 rfl rfl 0 (by decide) wd_56 rfl rfl dB_isOut_1 ?_
  refine sj_iload_n C dB_isOut_4 1 rfl rfl ?_
  obtain ⟨h_5, hf⟩ := in_some hf
  refine sj_iald C 1 0 rfl rfl h_5 rfl dB_isOut_5 ?_
  refine sj_if_ne C 30 dB_isOut_6 (by decide) (fun c_6 => ?_) (fun c_6 => ?_)
  · have hf := (if_neg c_6).symm.trans hf
    exact sj_lv [] rfl (hb_30 hf)
  · have hf := (if_pos c_6).symm.trans hf
    refine sj_aload_n C dB_isOut_9 0 rfl rfl ?_
    refine sj_get C nB_in 0 rfl rfl 5 (by decide) wd_72 rfl rfl dB_isOut_10 ?_
    refine sj_iconst C dB_isOut_13 ki_3 ?_
    refine sj_icmp_lt C 30 dB_isOut_14 (by decide) (fun c_14 => ?_) (fun c_14 => ?_)
    · have hf := (if_pos c_14).symm.trans hf
      exact sj_lv [] rfl (hb_30 hf)
    · have hf := (if_neg c_14).symm.trans hf
      refine sj_iload_n C dB_isOut_17 2 rfl rfl ?_
      refine sj_aload_n C dB_isOut_18 0 rfl rfl ?_
      refine sj_get C nB_in 0 rfl rfl 5 (by decide) wd_72 rfl rfl dB_isOut_19 ?_
      obtain ⟨h_22, hf⟩ := in_some hf
      refine sj_irem C dB_isOut_22 h_22 ?_
      refine sj_if_eq C 30 dB_isOut_23 (by decide) (fun c_23 => ?_) (fun c_23 => ?_)
      · have hf := (if_pos c_23).symm.trans hf
        exact sj_lv [] rfl (hb_30 hf)
      · have hf := (if_neg c_23).symm.trans hf
        refine sj_iconst C dB_isOut_26 ki_1 ?_
        refine sj_goto C 31 dB_isOut_27 (by decide) ?_
        exact sj_lv [] rfl (hb_31 1 hf)
abbrev rB_thingsBefore : Room := { frames := 1, cells := 0, slots := 0, locals := 21 }
set_option maxHeartbeats 4000000 in
set_option maxRecDepth 100000 in
theorem cB_thingsBefore (l : Launch) (dC : Nat → ClassId) (dI : Nat → Nat → Nat) (cI cZ cB : ClassId) (b0 b1 b2 b3 b4 : Nat) (bK bZ bL bM : Nat → Int32) (bi bg bh : Int32) (p1 : Int32) (r : Int32)  (hf : fB_thingsBefore p1 bK bZ = some r) : MI l yB_thingsBefore wB_thingsBefore rB_thingsBefore (dC, dI) (tyl cI cZ cB) [Value.ref b0, Value.int p1] (wdB cI cZ cB b0 b1 b2 b3 b4 bK bZ bL bM bi bg bh) (wdB cI cZ cB b0 b1 b2 b3 b4 bK bZ bL bM bi bg bh) r := by
  refine MI_of "StepColumns$Book" rfl (by decide) (Nat.le_of_ble_eq_true rfl) ?_
  intro p e s m below meth c A Q C hQ
  have hb_4 : ∀ (n : Nat) (v1 v2 v3 : Int32), fB_thingsBefore_b4 n v1 v2 v3 bK bZ = some r → SJ p l e rB_thingsBefore s m (List.toArray [Value.ref b0, Value.int p1]) below meth c A (dC, dI) 4 Q (wdB cI cZ cB b0 b1 b2 b3 b4 bK bZ bL bM bi bg bh) [(0, .ref b0), (1, .int v1), (2, .int v2), (3, .int v3)] 4 [] := by
    intro n
    induction n with
    | zero => intro v1 v2 v3 hf; cases hf
    | succ n IH =>
      intro v1 v2 v3 hf
      unfold fB_thingsBefore_b4 at hf
      refine sj_iload_n C dB_thingsBefore_4 3 rfl rfl ?_
      refine sj_iload_n C dB_thingsBefore_5 1 rfl rfl ?_
      refine sj_icmp_ge C 23 dB_thingsBefore_6 (by decide) (fun c_6 => ?_) (fun c_6 => ?_)
      · have hf := (if_pos c_6).symm.trans hf
        refine sj_iload_n C dB_thingsBefore_23 2 rfl rfl ?_
        cases hf
        exact hQ 24 _ dB_thingsBefore_24
      · have hf := (if_neg c_6).symm.trans hf
        refine sj_iload_n C dB_thingsBefore_9 2 rfl rfl ?_
        refine sj_aload_n C dB_thingsBefore_10 0 rfl rfl ?_
        refine sj_iload_n C dB_thingsBefore_11 3 rfl rfl ?_
        obtain ⟨r_12, hq_12, hf⟩ := bd1_some hf
        refine sj_callVi (w1 := (wdB cI cZ cB b0 b1 b2 b3 b4 bK bZ bL bM bi bg bh)) (q0 := 0) C "StepColumns$Book" (cB_thingsOf l dC dI cI cZ cB b0 b1 b2 b3 b4 bK bZ bL bM bi bg bh v3 r_12 hq_12) wd_350 wd_266 wd_267 wd_36 wd_268 hB_thingsOf rfl rfl ⟨Nat.le_of_ble_eq_true rfl, Nat.le_of_ble_eq_true rfl⟩ [0, 1, 2, 3, 4] [] ⟨rfl, rfl, rfl, rfl, rfl, rfl, kv_5_0_1_2_3_4⟩ rfl rfl rfl rfl rfl (Nat.le_of_ble_eq_true rfl) dB_thingsBefore_12 ?_
        refine sj_iadd C dB_thingsBefore_15 ?_
        refine sj_istore_n (lv' := [(2, .int (v2 + r_12)), (0, .ref b0), (1, .int v1), (3, .int v3)]) C dB_thingsBefore_16 rfl (by decide) rfl ?_
        refine sj_iinc (v := (v3 + 1)) (lv' := [(3, .int (v3 + 1)), (2, .int (v2 + r_12)), (0, .ref b0), (1, .int v1)]) C dB_thingsBefore_17 3 rfl (by rw [ki_1]) (by decide) rfl ?_
        refine sj_goto C 4 dB_thingsBefore_20 (by decide) ?_
        exact sj_lv [2, 3, 1, 0] rfl (IH v1 (v2 + r_12) (v3 + 1) hf)
  unfold fB_thingsBefore at hf
  change SJ p l e rB_thingsBefore s m (List.toArray [Value.ref b0, Value.int p1]) below meth c A (dC, dI) 4 Q (wdB cI cZ cB b0 b1 b2 b3 b4 bK bZ bL bM bi bg bh) [(0, .ref b0), (1, .int p1)] 0 []
  refine sj_iconst C dB_thingsBefore_0 ki_0 ?_
  refine sj_istore_n (lv' := [(2, .int 0), (0, .ref b0), (1, .int p1)]) C dB_thingsBefore_1 rfl (by decide) rfl ?_
  refine sj_iconst C dB_thingsBefore_2 ki_0 ?_
  refine sj_istore_n (lv' := [(3, .int 0), (2, .int 0), (0, .ref b0), (1, .int p1)]) C dB_thingsBefore_3 rfl (by decide) rfl ?_
  exact sj_lv [2, 3, 1, 0] rfl (hb_4 fu p1 0 0 hf)
abbrev rB_beyondGrid : Room := { frames := 0, cells := 0, slots := 0, locals := 0 }
set_option maxHeartbeats 4000000 in
set_option maxRecDepth 100000 in
theorem cB_beyondGrid (l : Launch) (dC : Nat → ClassId) (dI : Nat → Nat → Nat) (cI cZ cB : ClassId) (b0 b1 b2 b3 b4 : Nat) (bK bZ bL bM : Nat → Int32) (bi bg bh : Int32) (p1 : Int32) (r : Int32)  (hf : fB_beyondGrid p1 bg = some r) : MI l yB_beyondGrid wB_beyondGrid rB_beyondGrid (dC, dI) (tyl cI cZ cB) [Value.ref b0, Value.int p1] (wdB cI cZ cB b0 b1 b2 b3 b4 bK bZ bL bM bi bg bh) (wdB cI cZ cB b0 b1 b2 b3 b4 bK bZ bL bM bi bg bh) r := by
  refine MI_of "StepColumns$Book" rfl (by decide) (Nat.le_of_ble_eq_true rfl) ?_
  intro p e s m below meth c A Q C hQ
  have hb_18 : ∀ (t0 : Int32), fB_beyondGrid_b18 t0 bg = some r → SJ p l e rB_beyondGrid s m (List.toArray [Value.ref b0, Value.int p1]) below meth c A (dC, dI) 2 Q (wdB cI cZ cB b0 b1 b2 b3 b4 bK bZ bL bM bi bg bh) [] 18 [.int t0] := by
    intro t0 hf
    unfold fB_beyondGrid_b18 at hf
    cases hf
    exact hQ 18 _ dB_beyondGrid_18
  unfold fB_beyondGrid at hf
  change SJ p l e rB_beyondGrid s m (List.toArray [Value.ref b0, Value.int p1]) below meth c A (dC, dI) 2 Q (wdB cI cZ cB b0 b1 b2 b3 b4 bK bZ bL bM bi bg bh) [(0, .ref b0), (1, .int p1)] 0 []
  refine sj_aload_n C dB_beyondGrid_0 0 rfl rfl ?_
  refine sj_get C nB_in 0 rfl rfl 5 (by decide) wd_72 rfl rfl dB_beyondGrid_1 ?_
  refine sj_iconst C dB_beyondGrid_4 ki_3 ?_
  refine sj_icmp_ge C 12 dB_beyondGrid_5 (by decide) (fun c_5 => ?_) (fun c_5 => ?_)
  · have hf := (if_pos c_5).symm.trans hf
    refine sj_iload_n C dB_beyondGrid_12 1 rfl rfl ?_
    refine sj_aload_n C dB_beyondGrid_13 0 rfl rfl ?_
    refine sj_get C nB_in 0 rfl rfl 5 (by decide) wd_72 rfl rfl dB_beyondGrid_14 ?_
    obtain ⟨h_17, hf⟩ := in_some hf
    refine sj_irem C dB_beyondGrid_17 h_17 ?_
    exact sj_lv [] rfl (hb_18 (p1 - p1 / bg * bg) hf)
  · have hf := (if_neg c_5).symm.trans hf
    refine sj_iconst C dB_beyondGrid_8 ki_0 ?_
    refine sj_goto C 18 dB_beyondGrid_9 (by decide) ?_
    exact sj_lv [] rfl (hb_18 0 hf)
abbrev rB_copy : Room := { frames := 0, cells := 0, slots := 0, locals := 0 }
set_option maxHeartbeats 4000000 in
set_option maxRecDepth 100000 in
theorem cB_copy (l : Launch) (dC : Nat → ClassId) (dI : Nat → Nat → Nat) (cI cZ cB : ClassId) (b0 b1 b2 b3 b4 o0 o1 o2 o3 o4 : Nat) (bK bZ bL bM : Nat → Int32) (bi bg bh : Int32) (oK oZ oL oM : Nat → Int32) (oi og oh : Int32) (bK' : Nat → Int32) (bZ' : Nat → Int32) (bL' : Nat → Int32) (bM' : Nat → Int32) (bi' : Int32) (bg' : Int32) (bh' : Int32) (hf : fB_copy bK bZ bL bM bi bg bh oK oZ oL oM oi og oh = some (bK', bZ', bL', bM', bi', bg', bh')) : MV l yB_copy wB_copy rB_copy (dC, dI) (tyl cI cZ cB) [Value.ref b0, Value.ref o0] (wdBB cI cZ cB b0 b1 b2 b3 b4 o0 o1 o2 o3 o4 bK bZ bL bM bi bg bh oK oZ oL oM oi og oh) (wdBB cI cZ cB b0 b1 b2 b3 b4 o0 o1 o2 o3 o4 bK' bZ' bL' bM' bi' bg' bh' oK oZ oL oM oi og oh) := by
  refine MV_of "StepColumns$Book" rfl (by decide) (Nat.le_of_ble_eq_true rfl) ?_
  intro p e s m below meth c A Q C hQ
  have hb_2 : ∀ (n : Nat) (v2 : Int32) (bK bZ bL bM : Nat → Int32) (bi bg bh : Int32), fB_copy_b2 n v2 bK bZ bL bM bi bg bh oK oZ oL oM oi og oh = some (bK', bZ', bL', bM', bi', bg', bh') → SJ p l e rB_copy s m (List.toArray [Value.ref b0, Value.ref o0]) below meth c A (dC, dI) 3 Q (wdBB cI cZ cB b0 b1 b2 b3 b4 o0 o1 o2 o3 o4 bK bZ bL bM bi bg bh oK oZ oL oM oi og oh) [(0, .ref b0), (1, .ref o0), (2, .int v2)] 2 [] := by
    intro n
    induction n with
    | zero => intro v2 bK bZ bL bM bi bg bh hf; cases hf
    | succ n IH =>
      intro v2 bK bZ bL bM bi bg bh hf
      unfold fB_copy_b2 at hf
      refine sj_iload_n C dB_copy_2 2 rfl rfl ?_
      refine sj_bipush C dB_copy_3 kb_12 ?_
      refine sj_icmp_ge C 62 dB_copy_5 (by decide) (fun c_5 => ?_) (fun c_5 => ?_)
      · have hf := (if_pos c_5).symm.trans hf
        refine sj_aload_n C dB_copy_62 0 rfl rfl ?_
        refine sj_aload_n C dB_copy_63 1 rfl rfl ?_
        refine sj_get C nB_in 5 rfl rfl 4 (by decide) wd_68 rfl rfl dB_copy_64 ?_
        refine sj_put (w' := (wdBB cI cZ cB b0 b1 b2 b3 b4 o0 o1 o2 o3 o4 bK bZ bL bM oi bg bh oK oZ oL oM oi og oh)) C nB_in nB_ty nB_ok nB_nm 0 rfl rfl 4 (by decide) wd_68 rfl rfl rfl rfl (Nat.le_of_ble_eq_true rfl) dB_copy_67 rfl ?_
        refine sj_aload_n C dB_copy_70 0 rfl rfl ?_
        refine sj_aload_n C dB_copy_71 1 rfl rfl ?_
        refine sj_get C nB_in 5 rfl rfl 5 (by decide) wd_72 rfl rfl dB_copy_72 ?_
        refine sj_put (w' := (wdBB cI cZ cB b0 b1 b2 b3 b4 o0 o1 o2 o3 o4 bK bZ bL bM oi og bh oK oZ oL oM oi og oh)) C nB_in nB_ty nB_ok nB_nm 0 rfl rfl 5 (by decide) wd_72 rfl rfl rfl rfl (Nat.le_of_ble_eq_true rfl) dB_copy_75 rfl ?_
        refine sj_aload_n C dB_copy_78 0 rfl rfl ?_
        refine sj_aload_n C dB_copy_79 1 rfl rfl ?_
        refine sj_get C nB_in 5 rfl rfl 6 (by decide) wd_74 rfl rfl dB_copy_80 ?_
        refine sj_put (w' := (wdBB cI cZ cB b0 b1 b2 b3 b4 o0 o1 o2 o3 o4 bK bZ bL bM oi og oh oK oZ oL oM oi og oh)) C nB_in nB_ty nB_ok nB_nm 0 rfl rfl 6 (by decide) wd_74 rfl rfl rfl rfl (Nat.le_of_ble_eq_true rfl) dB_copy_83 rfl ?_
        cases hf
        exact hQ 86 _ dB_copy_86
      · have hf := (if_neg c_5).symm.trans hf
        refine sj_aload_n C dB_copy_8 0 rfl rfl ?_
        refine sj_get C nB_in 0 rfl rfl 0 (by decide) wd_56 rfl rfl dB_copy_9 ?_
        refine sj_iload_n C dB_copy_12 2 rfl rfl ?_
        refine sj_aload_n C dB_copy_13 1 rfl rfl ?_
        refine sj_get C nB_in 5 rfl rfl 0 (by decide) wd_56 rfl rfl dB_copy_14 ?_
        refine sj_iload_n C dB_copy_17 2 rfl rfl ?_
        obtain ⟨h_18, hf⟩ := in_some hf
        refine sj_iald C 6 0 rfl rfl h_18 rfl dB_copy_18 ?_
        obtain ⟨h_19, hf⟩ := in_some hf
        refine sj_iast (w' := (wdBB cI cZ cB b0 b1 b2 b3 b4 o0 o1 o2 o3 o4 ((upd bK v2.toNatClampNeg (oK v2.toNatClampNeg))) bZ bL bM bi bg bh oK oZ oL oM oi og oh)) C 1 0 rfl rfl h_19 rfl dB_copy_19 rfl ?_
        refine sj_aload_n C dB_copy_20 0 rfl rfl ?_
        refine sj_get C nB_in 0 rfl rfl 1 (by decide) wd_60 rfl rfl dB_copy_21 ?_
        refine sj_iload_n C dB_copy_24 2 rfl rfl ?_
        refine sj_aload_n C dB_copy_25 1 rfl rfl ?_
        refine sj_get C nB_in 5 rfl rfl 1 (by decide) wd_60 rfl rfl dB_copy_26 ?_
        refine sj_iload_n C dB_copy_29 2 rfl rfl ?_
        obtain ⟨h_30, hf⟩ := in_some hf
        refine sj_iald C 7 0 rfl rfl h_30 rfl dB_copy_30 ?_
        obtain ⟨h_31, hf⟩ := in_some hf
        refine sj_iast (w' := (wdBB cI cZ cB b0 b1 b2 b3 b4 o0 o1 o2 o3 o4 ((upd bK v2.toNatClampNeg (oK v2.toNatClampNeg))) ((upd bZ v2.toNatClampNeg (oZ v2.toNatClampNeg))) bL bM bi bg bh oK oZ oL oM oi og oh)) C 2 0 rfl rfl h_31 rfl dB_copy_31 rfl ?_
        refine sj_aload_n C dB_copy_32 0 rfl rfl ?_
        refine sj_get C nB_in 0 rfl rfl 2 (by decide) wd_62 rfl rfl dB_copy_33 ?_
        refine sj_iload_n C dB_copy_36 2 rfl rfl ?_
        refine sj_aload_n C dB_copy_37 1 rfl rfl ?_
        refine sj_get C nB_in 5 rfl rfl 2 (by decide) wd_62 rfl rfl dB_copy_38 ?_
        refine sj_iload_n C dB_copy_41 2 rfl rfl ?_
        obtain ⟨h_42, hf⟩ := in_some hf
        refine sj_iald C 8 0 rfl rfl h_42 rfl dB_copy_42 ?_
        obtain ⟨h_43, hf⟩ := in_some hf
        refine sj_iast (w' := (wdBB cI cZ cB b0 b1 b2 b3 b4 o0 o1 o2 o3 o4 ((upd bK v2.toNatClampNeg (oK v2.toNatClampNeg))) ((upd bZ v2.toNatClampNeg (oZ v2.toNatClampNeg))) ((upd bL v2.toNatClampNeg (oL v2.toNatClampNeg))) bM bi bg bh oK oZ oL oM oi og oh)) C 3 0 rfl rfl h_43 rfl dB_copy_43 rfl ?_
        refine sj_aload_n C dB_copy_44 0 rfl rfl ?_
        refine sj_get C nB_in 0 rfl rfl 3 (by decide) wd_65 rfl rfl dB_copy_45 ?_
        refine sj_iload_n C dB_copy_48 2 rfl rfl ?_
        refine sj_aload_n C dB_copy_49 1 rfl rfl ?_
        refine sj_get C nB_in 5 rfl rfl 3 (by decide) wd_65 rfl rfl dB_copy_50 ?_
        refine sj_iload_n C dB_copy_53 2 rfl rfl ?_
        obtain ⟨h_54, hf⟩ := in_some hf
        refine sj_iald C 9 0 rfl rfl h_54 rfl dB_copy_54 ?_
        obtain ⟨h_55, hf⟩ := in_some hf
        refine sj_iast (w' := (wdBB cI cZ cB b0 b1 b2 b3 b4 o0 o1 o2 o3 o4 ((upd bK v2.toNatClampNeg (oK v2.toNatClampNeg))) ((upd bZ v2.toNatClampNeg (oZ v2.toNatClampNeg))) ((upd bL v2.toNatClampNeg (oL v2.toNatClampNeg))) ((upd bM v2.toNatClampNeg (oM v2.toNatClampNeg))) bi bg bh oK oZ oL oM oi og oh)) C 4 0 rfl rfl h_55 rfl dB_copy_55 rfl ?_
        refine sj_iinc (v := (v2 + 1)) (lv' := [(2, .int (v2 + 1)), (0, .ref b0), (1, .ref o0)]) C dB_copy_56 2 rfl (by rw [ki_1]) (by decide) rfl ?_
        refine sj_goto C 2 dB_copy_59 (by decide) ?_
        exact sj_lv [1, 2, 0] rfl (IH (v2 + 1) (upd bK v2.toNatClampNeg (oK v2.toNatClampNeg)) (upd bZ v2.toNatClampNeg (oZ v2.toNatClampNeg)) (upd bL v2.toNatClampNeg (oL v2.toNatClampNeg)) (upd bM v2.toNatClampNeg (oM v2.toNatClampNeg)) bi bg bh hf)
  unfold fB_copy at hf
  change SJ p l e rB_copy s m (List.toArray [Value.ref b0, Value.ref o0]) below meth c A (dC, dI) 3 Q (wdBB cI cZ cB b0 b1 b2 b3 b4 o0 o1 o2 o3 o4 bK bZ bL bM bi bg bh oK oZ oL oM oi og oh) [(0, .ref b0), (1, .ref o0)] 0 []
  refine sj_iconst C dB_copy_0 ki_0 ?_
  refine sj_istore_n (lv' := [(2, .int 0), (0, .ref b0), (1, .ref o0)]) C dB_copy_1 rfl (by decide) rfl ?_
  exact sj_lv [1, 2, 0] rfl (hb_2 fu 0 bK bZ bL bM bi bg bh hf)
abbrev rB_itemsOf : Room := { frames := 0, cells := 0, slots := 0, locals := 0 }
set_option maxHeartbeats 4000000 in
set_option maxRecDepth 100000 in
theorem cB_itemsOf (l : Launch) (dC : Nat → ClassId) (dI : Nat → Nat → Nat) (cI cZ cB : ClassId) (b0 b1 b2 b3 b4 : Nat) (bK bZ bL bM : Nat → Int32) (bi bg bh : Int32) (p1 : Int32) (r : Int32)  (hf : fB_itemsOf p1 bK bi = some r) : MI l yB_itemsOf wB_itemsOf rB_itemsOf (dC, dI) (tyl cI cZ cB) [Value.ref b0, Value.int p1] (wdB cI cZ cB b0 b1 b2 b3 b4 bK bZ bL bM bi bg bh) (wdB cI cZ cB b0 b1 b2 b3 b4 bK bZ bL bM bi bg bh) r := by
  refine MI_of "StepColumns$Book" rfl (by decide) (Nat.le_of_ble_eq_true rfl) ?_
  intro p e s m below meth c A Q C hQ
  have hb_25 : ∀ (K4 : Int32 → Int32 → Int32 → (Nat → Int32) → Int32 → Option (Int32)) (hK4 : ∀ (v1 v2 v3 : Int32) , K4 v1 v2 v3 bK bi = some r → SJ p l e rB_itemsOf s m (List.toArray [Value.ref b0, Value.int p1]) below meth c A (dC, dI) 4 Q (wdB cI cZ cB b0 b1 b2 b3 b4 bK bZ bL bM bi bg bh) [(0, .ref b0), (1, .int v1), (2, .int v2), (3, .int v3)] 4 []) (v1 v2 v3 : Int32), fB_itemsOf_b25 K4 v1 v2 v3 bK bi = some r → SJ p l e rB_itemsOf s m (List.toArray [Value.ref b0, Value.int p1]) below meth c A (dC, dI) 4 Q (wdB cI cZ cB b0 b1 b2 b3 b4 bK bZ bL bM bi bg bh) [(0, .ref b0), (1, .int v1), (2, .int v2), (3, .int v3)] 25 [] := by
    intro K4 hK4 v1 v2 v3 hf
    unfold fB_itemsOf_b25 at hf
    refine sj_iinc (v := (v3 + 1)) (lv' := [(3, .int (v3 + 1)), (0, .ref b0), (1, .int v1), (2, .int v2)]) C dB_itemsOf_25 3 rfl (by rw [ki_1]) (by decide) rfl ?_
    refine sj_goto C 4 dB_itemsOf_28 (by decide) ?_
    exact sj_lv [1, 2, 3, 0] rfl (hK4 v1 v2 (v3 + 1) hf)
  have hb_4 : ∀ (n : Nat) (v1 v2 v3 : Int32), fB_itemsOf_b4 n v1 v2 v3 bK bi = some r → SJ p l e rB_itemsOf s m (List.toArray [Value.ref b0, Value.int p1]) below meth c A (dC, dI) 4 Q (wdB cI cZ cB b0 b1 b2 b3 b4 bK bZ bL bM bi bg bh) [(0, .ref b0), (1, .int v1), (2, .int v2), (3, .int v3)] 4 [] := by
    intro n
    induction n with
    | zero => intro v1 v2 v3 hf; cases hf
    | succ n IH =>
      intro v1 v2 v3 hf
      unfold fB_itemsOf_b4 at hf
      refine sj_iload_n C dB_itemsOf_4 3 rfl rfl ?_
      refine sj_aload_n C dB_itemsOf_5 0 rfl rfl ?_
      refine sj_get C nB_in 0 rfl rfl 4 (by decide) wd_68 rfl rfl dB_itemsOf_6 ?_
      refine sj_icmp_ge C 31 dB_itemsOf_9 (by decide) (fun c_9 => ?_) (fun c_9 => ?_)
      · have hf := (if_pos c_9).symm.trans hf
        refine sj_iload_n C dB_itemsOf_31 2 rfl rfl ?_
        cases hf
        exact hQ 32 _ dB_itemsOf_32
      · have hf := (if_neg c_9).symm.trans hf
        refine sj_aload_n C dB_itemsOf_12 0 rfl rfl ?_
        refine sj_get C nB_in 0 rfl rfl 0 (by decide) wd_56 rfl rfl dB_itemsOf_13 ?_
        refine sj_iload_n C dB_itemsOf_16 3 rfl rfl ?_
        obtain ⟨h_17, hf⟩ := in_some hf
        refine sj_iald C 1 0 rfl rfl h_17 rfl dB_itemsOf_17 ?_
        refine sj_iload_n C dB_itemsOf_18 1 rfl rfl ?_
        refine sj_icmp_ne C 25 dB_itemsOf_19 (by decide) (fun c_19 => ?_) (fun c_19 => ?_)
        · have hf := (if_neg c_19).symm.trans hf
          exact sj_lv [0, 1, 2, 3] rfl (hb_25 (fB_itemsOf_b4 n) IH v1 v2 v3 hf)
        · have hf := (if_pos c_19).symm.trans hf
          refine sj_iinc (v := (v2 + 1)) (lv' := [(2, .int (v2 + 1)), (0, .ref b0), (1, .int v1), (3, .int v3)]) C dB_itemsOf_22 2 rfl (by rw [ki_1]) (by decide) rfl ?_
          exact sj_lv [1, 2, 0, 3] rfl (hb_25 (fB_itemsOf_b4 n) IH v1 (v2 + 1) v3 hf)
  unfold fB_itemsOf at hf
  change SJ p l e rB_itemsOf s m (List.toArray [Value.ref b0, Value.int p1]) below meth c A (dC, dI) 4 Q (wdB cI cZ cB b0 b1 b2 b3 b4 bK bZ bL bM bi bg bh) [(0, .ref b0), (1, .int p1)] 0 []
  refine sj_iconst C dB_itemsOf_0 ki_0 ?_
  refine sj_istore_n (lv' := [(2, .int 0), (0, .ref b0), (1, .int p1)]) C dB_itemsOf_1 rfl (by decide) rfl ?_
  refine sj_iconst C dB_itemsOf_2 ki_0 ?_
  refine sj_istore_n (lv' := [(3, .int 0), (2, .int 0), (0, .ref b0), (1, .int p1)]) C dB_itemsOf_3 rfl (by decide) rfl ?_
  exact sj_lv [2, 3, 1, 0] rfl (hb_4 fu p1 0 0 hf)
