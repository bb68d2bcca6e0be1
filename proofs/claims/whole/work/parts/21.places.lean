
/-- a call whose cells are some of w: what is left behind it -/
def PJ (D : va_G) (A : Nat → Prop) (w wc wc' w1 : va_W) : Prop := ∀ H : Heap, va_P D cl_all w H → va_D A w → va_P D cl_all wc H ∧ va_D A wc ∧ ∀ H1 : Heap, (∀ q : Nat, q < H.size → ¬ va_A wc H.size q → H1[q]? = H[q]?) → va_P D cl_all wc' H1 → va_P D cl_all w1 H1 ∧ va_D A w1
theorem vP_l {D : va_G} {H : Heap} {w1 w2 : va_W} (h : va_P D cl_all (w1 ++ w2) H) : va_P D cl_all w1 H := fun k q hk => h k q (by rw [List.getElem?_append_left (List.getElem?_eq_some_iff.mp hk).1]; exact hk)
theorem vP_r {D : va_G} {H : Heap} {w1 w2 : va_W} (h : va_P D cl_all (w1 ++ w2) H) : va_P D cl_all w2 H := fun k q hk => h (w1.length + k) q (by rw [List.getElem?_append_right (Nat.le_add_right _ _), Nat.add_sub_cancel_left]; exact hk)
theorem vD_l {A : Nat → Prop} {w1 w2 : va_W} (h : va_D A (w1 ++ w2)) : va_D A w1 := ⟨fun i j p q hi hj e => h.1 i j p q (by rw [List.getElem?_append_left (List.getElem?_eq_some_iff.mp hi).1]; exact hi) (by rw [List.getElem?_append_left (List.getElem?_eq_some_iff.mp hj).1]; exact hj) e, fun k q hk => h.2 k q (by rw [List.getElem?_append_left (List.getElem?_eq_some_iff.mp hk).1]; exact hk)⟩
theorem vD_r {A : Nat → Prop} {w1 w2 : va_W} (h : va_D A (w1 ++ w2)) : va_D A w2 := ⟨fun i j p q hi hj e => by
  have := h.1 (w1.length + i) (w1.length + j) p q (by rw [List.getElem?_append_right (Nat.le_add_right _ _), Nat.add_sub_cancel_left]; exact hi) (by rw [List.getElem?_append_right (Nat.le_add_right _ _), Nat.add_sub_cancel_left]; exact hj) e
  omega, fun k q hk => h.2 (w1.length + k) q (by rw [List.getElem?_append_right (Nat.le_add_right _ _), Nat.add_sub_cancel_left]; exact hk)⟩
theorem vD_fst {A : Nat → Prop} {w w' : va_W} (hf : w'.map (·.1) = w.map (·.1)) (h : va_D A w) : va_D A w' := by
  have key : ∀ (k : Nat) (q : Nat × va_E), w'[k]? = some q → ∃ y, w[k]? = some y ∧ y.1 = q.1 := by
    intro k q hq
    have h1 : (w'.map (·.1))[k]? = (w.map (·.1))[k]? := by rw [hf]
    rw [List.getElem?_map, List.getElem?_map, hq] at h1
    cases hw : w[k]? with
    | none => rw [hw] at h1; cases h1
    | some y => rw [hw] at h1; exact ⟨y, rfl, (Option.some.inj h1).symm⟩
  refine ⟨fun i j p q hi hj e => ?_, fun k q hk => ?_⟩
  · obtain ⟨y, hy, ey⟩ := key i p hi
    obtain ⟨z, hz, ez⟩ := key j q hj
    exact h.1 i j y z hy hz (by rw [ey, ez, e])
  · obtain ⟨y, hy, ey⟩ := key k q hk
    exact ey ▸ h.2 k y hy
theorem vP_kept {D : va_G} {H H1 : Heap} {wr wc : va_W} (hP : va_P D cl_all wr H) (hap : ∀ q ∈ wr, ∀ c ∈ wc, q.1 ≠ c.1) (hk : ∀ q : Nat, q < H.size → ¬ va_A wc H.size q → H1[q]? = H[q]?) : va_P D cl_all wr H1 := by
  refine hP.kept (fun k q hq => ?_)
  have hlt := (hP k q hq).lt
  refine hk q.1 hlt ?_
  rintro (⟨j, en, hj⟩ | h)
  · exact hap q (List.mem_of_getElem? hq) (q.1, en) (List.mem_of_getElem? hj) rfl
  · omega
theorem vD_ap {A : Nat → Prop} {w1 w2 : va_W} (h : va_D A (w1 ++ w2)) : ∀ q ∈ w1, ∀ c ∈ w2, q.1 ≠ c.1 := by
  intro q hq c hc e
  obtain ⟨i, hi⟩ := List.getElem?_of_mem hq
  obtain ⟨j, hj⟩ := List.getElem?_of_mem hc
  have hl := (List.getElem?_eq_some_iff.mp hi).1
  have := h.1 i (w1.length + j) q c (by rw [List.getElem?_append_left hl]; exact hi) (by rw [List.getElem?_append_right (Nat.le_add_right _ _), Nat.add_sub_cancel_left]; exact hj) e
  omega
theorem PJ_R {D : va_G} {A : Nat → Prop} {wl wc wc' : va_W} (hf : wc'.map (·.1) = wc.map (·.1)) : PJ D A (wl ++ wc) wc wc' (wl ++ wc') := fun H hP hD => ⟨vP_r hP, vD_r hD, fun H1 hk hP1 => ⟨(vP_kept (vP_l hP) (vD_ap hD) hk).app hP1, vD_fst (by rw [List.map_append, List.map_append, hf]) hD⟩⟩
theorem PJ_L {D : va_G} {A : Nat → Prop} {wr wc wc' : va_W} (hf : wc'.map (·.1) = wc.map (·.1)) : PJ D A (wc ++ wr) wc wc' (wc' ++ wr) := fun H hP hD => ⟨vP_l hP, vD_l hD, fun H1 hk hP1 => ⟨hP1.app (vP_kept (vP_r hP) (fun q hq c hc e => vD_ap hD c hc q hq e.symm) hk), vD_fst (by rw [List.map_append, List.map_append, hf]) hD⟩⟩
theorem PJ_LL {D : va_G} {A : Nat → Prop} {wr wt wc wc' : va_W} (hf : wc'.map (·.1) = wc.map (·.1)) : PJ D A ((wc ++ wr) ++ wt) wc wc' ((wc' ++ wr) ++ wt) := fun H hP hD => by
  have h1 := PJ_L (D := D) (A := A) (wr := wr) hf H (vP_l hP) (vD_l hD)
  refine ⟨h1.1, h1.2.1, fun H1 hk hP1 => ?_⟩
  have h2 := h1.2.2 H1 hk hP1
  refine ⟨h2.1.app (vP_kept (vP_r hP) (fun q hq c hc e => vD_ap hD c (List.mem_append_left _ hc) q hq e.symm) hk), vD_fst (by simp only [List.map_append, hf]) hD⟩
section SLV
variable {p : Program} {l : Launch} {e : Env} {R : Room} {s : State} {m : MethodId} {args : Array Value} {below : List Frame} {meth : Method} {c : Code} {cc : ByteArray} {nL : Nat} {own : String} {A : Nat → Prop} {D : va_G} {tys : List (ClassId × FieldType)} {Q : State → Prop} {w w' : va_W} {lv lv' : List (Nat × Value)} {pc : Nat} {st : List Value} {ck sl : Nat}
theorem sn_callVj (C : SC p s m args c cc nL own A D tys) {y : MethodName} {bytes : ByteArray} {maxL idx n ci b q0 : Nat} {ret : Option FieldType} {rm : Room} {As st0 : List Value} {wc wc' w1 : va_W} {r : Int32} {fs : List Value} {q : vw_C} (Cn : String) (hM : MI l y (.code y bytes maxL ret :: gw) rm D tys (.ref b :: As) wc wc' r) (hp : PJ D A w wc wc' w1) (hml : Cond.methodLink own idx y ∈ gw) (him : Cond.instanceMethod y ∈ gw) (hsel : Cond.selects Cn y y ∈ gw) (hini : Cond.initialized Cn ∈ gw) (hco : Cond.code y bytes maxL ret ∈ gw) (hyd : y.cls = Cn ∧ y.cls ≠ "java/lang/invoke/MethodHandle" ∧ y.cls ≠ "java/lang/invoke/VarHandle" ∧ (parseMethodDescriptor y.desc).map (fun d => d.parameters.length) = some n) (hrc : rm.cells = 0) (hrs : rm.slots = 0) (hR : rm.frames + 1 ≤ R.frames ∧ 8 + (maxL + 11) + rm.locals ≤ R.locals) (he : wc[q0]? = some (b, .inr (ci, fs))) (hc : cl_all[ci]? = some q) (hq : q.1 = Cn) (hn : As.length = n) (hst : st0 = As.reverse ++ .ref b :: st) (hcs : ck ≤ R.cells ∧ sl ≤ R.slots) (hsum : (st.map fun v => v.category).sum ≤ 8) (hd : decode cc pc = .ok (.invokevirtual idx, 3)) (k : SN p l e R s m args below meth c A D nL Q ck sl w1 lv (pc + 3) (.int r :: st)) : SN p l e R s m args below meth c A D nL Q ck sl w lv pc st0 := by
  intro H locs ls hP hD hS hl
  obtain ⟨hx, hb, hmx, hown, hg, hA, hK⟩ := C
  subst hst
  subst hq
  obtain ⟨hPc, hDc, hj⟩ := hp H hP hD
  have hFc : ∀ q, va_A wc H.size q → A q := by
    rintro q (⟨k, en, hk⟩ | h)
    · exact hDc.2 k _ hk
    · exact hA q (Nat.le_trans hS.1 h)
  refine va_calli (va_runV (As := As) (rest := st) (Ts := gw) (n := n) (C := q.1) ⟨hx, hb, hmx, hown, hg⟩ (hM H.size) (cwV n hg (gw_app (a := [.methodLink own idx y, .instanceMethod y, .selects q.1 y y, .initialized q.1]) (fun w h => by simp only [List.mem_cons, List.not_mem_nil, or_false] at h; rcases h with rfl | rfl | rfl | rfl <;> assumption) hco) rfl hrc hrs hyd hR) ⟨fun a U g mk q => by obtain ⟨q0, q1, qP, qK, qD⟩ := q; exact ⟨q0, q1, qP, va_K.moved (u := U) (U := U.calling g mk a) (Vm.Alike.refl U.vm) qK, qD⟩, va_recv hK hPc hc he, fun U hU hW => ⟨rfl, by rw [hU], by rw [hU]; exact hPc, va_K.moved hW.alike hK, hDc.weaken (fun _ _ _ _ => trivial)⟩⟩ rfl hn hl.1 rfl (lv_room hsum) hd hcs) hS (fun q _ h => hFc q h) hFc (fun r' u t H1 locs1 ht hvm hw hB hz1 hk1 hS => ?_)
  subst hw
  obtain ⟨hP1, hK1, hD1⟩ := hB
  rw [ht] at hP1
  obtain ⟨hP, hD⟩ := hj H1 hk1 hP1
  exact k H1 locs1 ls hP hD hS hl
theorem sn_perm {wa wb wt : va_W} (pm : List Nat) (hn : va_nd pm = true) (hp : pm.map (fun i => wa[i]?) = wb.map some) (hf : wa.length = wb.length) (k : SN p l e R s m args below meth c A D nL Q ck sl (wb ++ wt) lv pc st) : SN p l e R s m args below meth c A D nL Q ck sl (wa ++ wt) lv pc st := fun H locs ls hP hD hS hl => by
  refine k H locs ls (((vP_l hP).sub pm (sk_fm _ _ _ hp)).app (vP_r hP)) ((vD_l hD).sub pm hn hp |>.app (vD_r hD) ?_) hS hl
  intro i j x y hi hj e
  have hm : x ∈ wa := by
    have h1 : some x ∈ pm.map (fun i => wa[i]?) := by rw [hp]; exact List.mem_map.mpr ⟨x, List.mem_of_getElem? hi, rfl⟩
    obtain ⟨q, -, hq⟩ := List.mem_map.mp h1
    exact List.mem_of_getElem? hq
  exact vD_ap hD x hm y (List.mem_of_getElem? hj) e
end SLV
set_option maxHeartbeats 4000000 in
set_option maxRecDepth 100000 in
theorem pm_AB {cI cZ cB : ClassId} {x0 x1 b0 b1 b2 b3 b4 s0 s1 s2 l0 l1 l2 l3 l4 i0 i1 i2 i3 i4 j0 j1 j2 j3 j4 : Nat} {xk xl : Int32} {bK bZ bL bM : Nat → Int32} {bi bg bh : Int32} {sB sO : Nat → Int32} {sh sw sr : Int32} {lI lC lT lR : Nat → Int32} {lth lro lsp lle lex lco lou : Int32} {iK iZ iL iM : Nat → Int32} {ii ig ih : Int32} {jK jZ jL jM : Nat → Int32} {ji jg jh : Int32} : ([0, 14, 1, 2, 3, 4, 5, 15, 16, 17, 18, 19, 20, 21, 22, 23, 24, 6, 7, 8, 9, 10, 11, 12, 13] : List Nat).map (fun i => (wdX cI cZ cB x0 x1 b0 b1 b2 b3 b4 s0 s1 s2 l0 l1 l2 l3 l4 xk xl bK bZ bL bM bi bg bh sB sO sh sw sr lI lC lT lR lth lro lsp lle lex lco lou ++ wdR cI cZ cB x1 i0 i1 i2 i3 i4 j0 j1 j2 j3 j4 iK iZ iL iM ii ig ih jK jZ jL jM ji jg jh)[i]?) = (wdXI cI cZ cB x0 x1 s0 l0 b0 b1 b2 b3 b4 i0 i1 i2 i3 i4 j0 j1 j2 j3 j4 xk xl bK bZ bL bM bi bg bh iK iZ iL iM ii ig ih jK jZ jL jM ji jg jh ++ wdSL cI cZ cB b0 s0 s1 s2 l0 l1 l2 l3 l4 sB sO sh sw sr lI lC lT lR lth lro lsp lle lex lco lou).map some := rfl
set_option maxHeartbeats 4000000 in
set_option maxRecDepth 100000 in
theorem pm_BA {cI cZ cB : ClassId} {x0 x1 b0 b1 b2 b3 b4 s0 s1 s2 l0 l1 l2 l3 l4 i0 i1 i2 i3 i4 j0 j1 j2 j3 j4 : Nat} {xk xl : Int32} {bK bZ bL bM : Nat → Int32} {bi bg bh : Int32} {sB sO : Nat → Int32} {sh sw sr : Int32} {lI lC lT lR : Nat → Int32} {lth lro lsp lle lex lco lou : Int32} {iK iZ iL iM : Nat → Int32} {ii ig ih : Int32} {jK jZ jL jM : Nat → Int32} {ji jg jh : Int32} : ([0, 2, 3, 4, 5, 6, 17, 18, 19, 20, 21, 22, 23, 24, 1, 7, 8, 9, 10, 11, 12, 13, 14, 15, 16] : List Nat).map (fun i => (wdXI cI cZ cB x0 x1 s0 l0 b0 b1 b2 b3 b4 i0 i1 i2 i3 i4 j0 j1 j2 j3 j4 xk xl bK bZ bL bM bi bg bh iK iZ iL iM ii ig ih jK jZ jL jM ji jg jh ++ wdSL cI cZ cB b0 s0 s1 s2 l0 l1 l2 l3 l4 sB sO sh sw sr lI lC lT lR lth lro lsp lle lex lco lou)[i]?) = (wdX cI cZ cB x0 x1 b0 b1 b2 b3 b4 s0 s1 s2 l0 l1 l2 l3 l4 xk xl bK bZ bL bM bi bg bh sB sO sh sw sr lI lC lT lR lth lro lsp lle lex lco lou ++ wdR cI cZ cB x1 i0 i1 i2 i3 i4 j0 j1 j2 j3 j4 iK iZ iL iM ii ig ih jK jZ jL jM ji jg jh).map some := rfl
